set_option maxHeartbeats 4000000 in
set_option maxRecDepth 100000 in
theorem c_X5_placeOf (l : Launch) (D : va_G) (ca : vCA) (g : Nat → Nat) (hst : l.stackTraces = false) {fu : Nat} {M : Mem} {x0 : Int32} {x1 : Int32} {o : Nat ⊕ (Int32)}  (h : m_X5_placeOf fu M x0 x1 = some o) : xM l yX5_placeOf cX5_placeOf 2 (some .int) { frames := 6, cells := 1, slots := 6, locals := 90 } D ca g M [.int x0, .int x1] (fun sz => xQp D ca g sz M o) o := by
  refine mk_xMet (by decide) (Nat.le_of_ble_eq_true rfl) ?_
  intro p e s m below meth c F hr hlk htab hG ls hl
  have hx := F.1
  have hb := F.2.1
  replace hl : lv_has ls 2 [(0, .int x0), (1, .int x1)] := hl
  unfold m_X5_placeOf at h
  refine lv_iload_n hx hb dX5_placeOf_0 rfl (lv_at hl 0 rfl) ?_
  refine lv_if_lt (tgt := 20) hx hb dX5_placeOf_1 (by decide) (fun c3 => ?_) (fun c3 => ?_)
  · have h := ite_t h c3
    obtain rfl := som1 h
    exact x_throw F hst htab hlk hG (text := "no such cell") (by decide +kernel) (kw23 F.kd) (kw10 F.kd) (xat_of F.kd xm1 xo1) xg1_ (by decide) hl.1 dX5_placeOf_20 dX5_placeOf_23 dX5_placeOf_24 dX5_placeOf_26 dX5_placeOf_29 (Nat.le_of_ble_eq_true rfl) (Nat.le_of_ble_eq_true rfl) (Nat.le_of_ble_eq_true rfl) (Nat.le_of_ble_eq_true rfl) (Nat.le_of_ble_eq_true rfl) (Nat.le_of_ble_eq_true rfl)
  · have h := ite_f h c3
    refine lv_iload_n hx hb dX5_placeOf_4 rfl (lv_at hl 0 rfl) ?_
    refine lv_bipush (v := 12) hx hb dX5_placeOf_5 (by decide) ?_
    refine lv_icmp_ge (tgt := 20) hx hb dX5_placeOf_7 (by decide) (fun c4 => ?_) (fun c4 => ?_)
    · have h := ite_t h c4
      obtain rfl := som1 h
      exact x_throw F hst htab hlk hG (text := "no such cell") (by decide +kernel) (kw23 F.kd) (kw10 F.kd) (xat_of F.kd xm1 xo1) xg1_ (by decide) hl.1 dX5_placeOf_20 dX5_placeOf_23 dX5_placeOf_24 dX5_placeOf_26 dX5_placeOf_29 (Nat.le_of_ble_eq_true rfl) (Nat.le_of_ble_eq_true rfl) (Nat.le_of_ble_eq_true rfl) (Nat.le_of_ble_eq_true rfl) (Nat.le_of_ble_eq_true rfl) (Nat.le_of_ble_eq_true rfl)
    · have h := ite_f h c4
      refine lv_iload_n hx hb dX5_placeOf_10 rfl (lv_at hl 1 rfl) ?_
      refine lv_if_lt (tgt := 20) hx hb dX5_placeOf_11 (by decide) (fun c5 => ?_) (fun c5 => ?_)
      · have h := ite_t h c5
        obtain rfl := som1 h
        exact x_throw F hst htab hlk hG (text := "no such cell") (by decide +kernel) (kw23 F.kd) (kw10 F.kd) (xat_of F.kd xm1 xo1) xg1_ (by decide) hl.1 dX5_placeOf_20 dX5_placeOf_23 dX5_placeOf_24 dX5_placeOf_26 dX5_placeOf_29 (Nat.le_of_ble_eq_true rfl) (Nat.le_of_ble_eq_true rfl) (Nat.le_of_ble_eq_true rfl) (Nat.le_of_ble_eq_true rfl) (Nat.le_of_ble_eq_true rfl) (Nat.le_of_ble_eq_true rfl)
      · have h := ite_f h c5
        refine lv_iload_n hx hb dX5_placeOf_14 rfl (lv_at hl 1 rfl) ?_
        refine lv_bipush (v := 9) hx hb dX5_placeOf_15 (by decide) ?_
        refine lv_icmp_lt (tgt := 30) hx hb dX5_placeOf_17 (by decide) (fun c6 => ?_) (fun c6 => ?_)
        · have h := ite_t h c6
          refine lv_bipush (v := 12) hx hb dX5_placeOf_30 (by decide) ?_
          refine lv_iload_n hx hb dX5_placeOf_32 rfl (lv_at hl 1 rfl) ?_
          refine lv_imul hx hb dX5_placeOf_33 ?_
          refine lv_iload_n hx hb dX5_placeOf_34 rfl (lv_at hl 0 rfl) ?_
          refine lv_iadd hx hb dX5_placeOf_35 ?_
          obtain rfl := som1 h
          exact xend_p F hr hlk rfl hG dX5_placeOf_36 (Nat.le_of_ble_eq_true rfl) (Nat.le_of_ble_eq_true rfl)
        · have h := ite_f h c6
          obtain rfl := som1 h
          exact x_throw F hst htab hlk hG (text := "no such cell") (by decide +kernel) (kw23 F.kd) (kw10 F.kd) (xat_of F.kd xm1 xo1) xg1_ (by decide) hl.1 dX5_placeOf_20 dX5_placeOf_23 dX5_placeOf_24 dX5_placeOf_26 dX5_placeOf_29 (Nat.le_of_ble_eq_true rfl) (Nat.le_of_ble_eq_true rfl) (Nat.le_of_ble_eq_true rfl) (Nat.le_of_ble_eq_true rfl) (Nat.le_of_ble_eq_true rfl) (Nat.le_of_ble_eq_true rfl)
set_option maxHeartbeats 4000000 in
set_option maxRecDepth 100000 in
theorem c_X5_needCrowd (l : Launch) (D : va_G) (ca : vCA) (g : Nat → Nat) (hst : l.stackTraces = false) {fu : Nat} {M : Mem} {a0 : Nat} {x1 : Int32} {o : Nat ⊕ (Unit)} (ha0 : kd a0 = 5) (h : m_X5_needCrowd fu M a0 x1 = some o) : xM l yX5_needCrowd cX5_needCrowd 2 none { frames := 6, cells := 1, slots := 6, locals := 90 } D ca g M [.ref (g a0), .int x1] (fun sz => xQv D ca g sz M o) o := by
  refine mk_xMet (by decide) (Nat.le_of_ble_eq_true rfl) ?_
  intro p e s m below meth c F hr hlk htab hG ls hl
  have hx := F.1
  have hb := F.2.1
  replace hl : lv_has ls 2 [(0, .ref (g a0)), (1, .int x1)] := hl
  unfold m_X5_needCrowd at h
  refine lv_iload_n hx hb dX5_needCrowd_0 rfl (lv_at hl 1 rfl) ?_
  refine lv_if_lt (tgt := 15) hx hb dX5_needCrowd_1 (by decide) (fun c3 => ?_) (fun c3 => ?_)
  · have h := ite_t h c3
    obtain rfl := som1 h
    exact x_throw F hst htab hlk hG (text := "no such crowd") (by decide +kernel) (kw23 F.kd) (kw10 F.kd) (xat_of F.kd xm1 xo1) xg1_ (by decide) hl.1 dX5_needCrowd_15 dX5_needCrowd_18 dX5_needCrowd_19 dX5_needCrowd_21 dX5_needCrowd_24 (Nat.le_of_ble_eq_true rfl) (Nat.le_of_ble_eq_true rfl) (Nat.le_of_ble_eq_true rfl) (Nat.le_of_ble_eq_true rfl) (Nat.le_of_ble_eq_true rfl) (Nat.le_of_ble_eq_true rfl)
  · have h := ite_f h c3
    refine lv_iload_n hx hb dX5_needCrowd_4 rfl (lv_at hl 1 rfl) ?_
    refine lv_aload_n hx hb dX5_needCrowd_5 rfl (lv_at hl 0 rfl) ?_
    have hk4 := (show kd 0 = 1 from rfl)
    refine xg5 F hG ha0 0 (by decide) (kw508 F.kd) (v := .ref (g 0)) rfl dX5_needCrowd_6 ?_
    refine xg1N F hG hk4 2 (by decide) (kw471 F.kd) (v := .int (M 0 2)) rfl dX5_needCrowd_9 ?_
    refine lv_icmp_lt (tgt := 25) hx hb dX5_needCrowd_12 (by decide) (fun c5 => ?_) (fun c5 => ?_)
    · have h := ite_t h c5
      obtain rfl := som1 h
      exact xend_v F hr hlk hG dX5_needCrowd_25 (Nat.le_of_ble_eq_true rfl) (Nat.le_of_ble_eq_true rfl)
    · have h := ite_f h c5
      obtain rfl := som1 h
      exact x_throw F hst htab hlk hG (text := "no such crowd") (by decide +kernel) (kw23 F.kd) (kw10 F.kd) (xat_of F.kd xm1 xo1) xg1_ (by decide) hl.1 dX5_needCrowd_15 dX5_needCrowd_18 dX5_needCrowd_19 dX5_needCrowd_21 dX5_needCrowd_24 (Nat.le_of_ble_eq_true rfl) (Nat.le_of_ble_eq_true rfl) (Nat.le_of_ble_eq_true rfl) (Nat.le_of_ble_eq_true rfl) (Nat.le_of_ble_eq_true rfl) (Nat.le_of_ble_eq_true rfl)
set_option maxHeartbeats 4000000 in
set_option maxRecDepth 100000 in
theorem c_X5_needPatrol (l : Launch) (D : va_G) (ca : vCA) (g : Nat → Nat) (hst : l.stackTraces = false) {fu : Nat} {M : Mem} {a0 : Nat} {x1 : Int32} {o : Nat ⊕ (Unit)} (ha0 : kd a0 = 5) (h : m_X5_needPatrol fu M a0 x1 = some o) : xM l yX5_needPatrol cX5_needPatrol 2 none { frames := 6, cells := 1, slots := 6, locals := 90 } D ca g M [.ref (g a0), .int x1] (fun sz => xQv D ca g sz M o) o := by
  refine mk_xMet (by decide) (Nat.le_of_ble_eq_true rfl) ?_
  intro p e s m below meth c F hr hlk htab hG ls hl
  have hx := F.1
  have hb := F.2.1
  replace hl : lv_has ls 2 [(0, .ref (g a0)), (1, .int x1)] := hl
  unfold m_X5_needPatrol at h
  refine lv_iload_n hx hb dX5_needPatrol_0 rfl (lv_at hl 1 rfl) ?_
  refine lv_if_lt (tgt := 15) hx hb dX5_needPatrol_1 (by decide) (fun c3 => ?_) (fun c3 => ?_)
  · have h := ite_t h c3
    obtain rfl := som1 h
    exact x_throw F hst htab hlk hG (text := "no such patrol") (by decide +kernel) (kw23 F.kd) (kw10 F.kd) (xat_of F.kd xm1 xo1) xg1_ (by decide) hl.1 dX5_needPatrol_15 dX5_needPatrol_18 dX5_needPatrol_19 dX5_needPatrol_21 dX5_needPatrol_24 (Nat.le_of_ble_eq_true rfl) (Nat.le_of_ble_eq_true rfl) (Nat.le_of_ble_eq_true rfl) (Nat.le_of_ble_eq_true rfl) (Nat.le_of_ble_eq_true rfl) (Nat.le_of_ble_eq_true rfl)
  · have h := ite_f h c3
    refine lv_iload_n hx hb dX5_needPatrol_4 rfl (lv_at hl 1 rfl) ?_
    refine lv_aload_n hx hb dX5_needPatrol_5 rfl (lv_at hl 0 rfl) ?_
    have hk4 := (show kd 0 = 1 from rfl)
    refine xg5 F hG ha0 0 (by decide) (kw508 F.kd) (v := .ref (g 0)) rfl dX5_needPatrol_6 ?_
    refine xg1N F hG hk4 4 (by decide) (kw475 F.kd) (v := .int (M 0 4)) rfl dX5_needPatrol_9 ?_
    refine lv_icmp_lt (tgt := 25) hx hb dX5_needPatrol_12 (by decide) (fun c5 => ?_) (fun c5 => ?_)
    · have h := ite_t h c5
      obtain rfl := som1 h
      exact xend_v F hr hlk hG dX5_needPatrol_25 (Nat.le_of_ble_eq_true rfl) (Nat.le_of_ble_eq_true rfl)
    · have h := ite_f h c5
      obtain rfl := som1 h
      exact x_throw F hst htab hlk hG (text := "no such patrol") (by decide +kernel) (kw23 F.kd) (kw10 F.kd) (xat_of F.kd xm1 xo1) xg1_ (by decide) hl.1 dX5_needPatrol_15 dX5_needPatrol_18 dX5_needPatrol_19 dX5_needPatrol_21 dX5_needPatrol_24 (Nat.le_of_ble_eq_true rfl) (Nat.le_of_ble_eq_true rfl) (Nat.le_of_ble_eq_true rfl) (Nat.le_of_ble_eq_true rfl) (Nat.le_of_ble_eq_true rfl) (Nat.le_of_ble_eq_true rfl)
set_option maxHeartbeats 4000000 in
set_option maxRecDepth 100000 in
theorem c_X5_needWhat (l : Launch) (D : va_G) (ca : vCA) (g : Nat → Nat) (hst : l.stackTraces = false) {fu : Nat} {M : Mem} {x0 : Int32} {x1 : Int32} {o : Nat ⊕ (Unit)}  (h : m_X5_needWhat fu M x0 x1 = some o) : xM l yX5_needWhat cX5_needWhat 2 none { frames := 6, cells := 1, slots := 6, locals := 90 } D ca g M [.int x0, .int x1] (fun sz => xQv D ca g sz M o) o := by
  refine mk_xMet (by decide) (Nat.le_of_ble_eq_true rfl) ?_
  intro p e s m below meth c F hr hlk htab hG ls hl
  have hx := F.1
  have hb := F.2.1
  replace hl : lv_has ls 2 [(0, .int x0), (1, .int x1)] := hl
  unfold m_X5_needWhat at h
  refine lv_iload_n hx hb dX5_needWhat_0 rfl (lv_at hl 0 rfl) ?_
  refine lv_if_lt (tgt := 9) hx hb dX5_needWhat_1 (by decide) (fun c3 => ?_) (fun c3 => ?_)
  · have h := ite_t h c3
    obtain rfl := som1 h
    exact x_throw F hst htab hlk hG (text := "no such number is told") (by decide +kernel) (kw23 F.kd) (kw10 F.kd) (xat_of F.kd xm1 xo1) xg1_ (by decide) hl.1 dX5_needWhat_9 dX5_needWhat_12 dX5_needWhat_13 dX5_needWhat_15 dX5_needWhat_18 (Nat.le_of_ble_eq_true rfl) (Nat.le_of_ble_eq_true rfl) (Nat.le_of_ble_eq_true rfl) (Nat.le_of_ble_eq_true rfl) (Nat.le_of_ble_eq_true rfl) (Nat.le_of_ble_eq_true rfl)
  · have h := ite_f h c3
    refine lv_iload_n hx hb dX5_needWhat_4 rfl (lv_at hl 0 rfl) ?_
    refine lv_iload_n hx hb dX5_needWhat_5 rfl (lv_at hl 1 rfl) ?_
    refine lv_icmp_lt (tgt := 19) hx hb dX5_needWhat_6 (by decide) (fun c4 => ?_) (fun c4 => ?_)
    · have h := ite_t h c4
      obtain rfl := som1 h
      exact xend_v F hr hlk hG dX5_needWhat_19 (Nat.le_of_ble_eq_true rfl) (Nat.le_of_ble_eq_true rfl)
    · have h := ite_f h c4
      obtain rfl := som1 h
      exact x_throw F hst htab hlk hG (text := "no such number is told") (by decide +kernel) (kw23 F.kd) (kw10 F.kd) (xat_of F.kd xm1 xo1) xg1_ (by decide) hl.1 dX5_needWhat_9 dX5_needWhat_12 dX5_needWhat_13 dX5_needWhat_15 dX5_needWhat_18 (Nat.le_of_ble_eq_true rfl) (Nat.le_of_ble_eq_true rfl) (Nat.le_of_ble_eq_true rfl) (Nat.le_of_ble_eq_true rfl) (Nat.le_of_ble_eq_true rfl) (Nat.le_of_ble_eq_true rfl)
set_option maxHeartbeats 4000000 in
set_option maxRecDepth 100000 in
theorem c_X5_needSteps (l : Launch) (D : va_G) (ca : vCA) (g : Nat → Nat) (hst : l.stackTraces = false) {fu : Nat} {M : Mem} {x0 : Int32} {o : Nat ⊕ (Unit)}  (h : m_X5_needSteps fu M x0 = some o) : xM l yX5_needSteps cX5_needSteps 1 none { frames := 6, cells := 1, slots := 6, locals := 90 } D ca g M [.int x0] (fun sz => xQv D ca g sz M o) o := by
  refine mk_xMet (by decide) (Nat.le_of_ble_eq_true rfl) ?_
  intro p e s m below meth c F hr hlk htab hG ls hl
  have hx := F.1
  have hb := F.2.1
  replace hl : lv_has ls 1 [(0, .int x0)] := hl
  unfold m_X5_needSteps at h
  refine lv_iload_n hx hb dX5_needSteps_0 rfl (lv_at hl 0 rfl) ?_
  refine lv_iconst (v := 1) hx hb dX5_needSteps_1 (by decide) ?_
  refine lv_icmp_lt (tgt := 11) hx hb dX5_needSteps_2 (by decide) (fun c2 => ?_) (fun c2 => ?_)
  · have h := ite_t h c2
    obtain rfl := som1 h
    exact x_throw F hst htab hlk hG (text := "steps not 1 to 60") (by decide +kernel) (kw250 F.kd) (kw12 F.kd) (xat_of F.kd xm3 xo3) xg3_ (by decide) hl.1 dX5_needSteps_11 dX5_needSteps_14 dX5_needSteps_15 dX5_needSteps_17 dX5_needSteps_20 (Nat.le_of_ble_eq_true rfl) (Nat.le_of_ble_eq_true rfl) (Nat.le_of_ble_eq_true rfl) (Nat.le_of_ble_eq_true rfl) (Nat.le_of_ble_eq_true rfl) (Nat.le_of_ble_eq_true rfl)
  · have h := ite_f h c2
    refine lv_iload_n hx hb dX5_needSteps_5 rfl (lv_at hl 0 rfl) ?_
    refine lv_bipush (v := 60) hx hb dX5_needSteps_6 (by decide) ?_
    refine lv_icmp_le (tgt := 21) hx hb dX5_needSteps_8 (by decide) (fun c3 => ?_) (fun c3 => ?_)
    · have h := ite_t h c3
      obtain rfl := som1 h
      exact xend_v F hr hlk hG dX5_needSteps_21 (Nat.le_of_ble_eq_true rfl) (Nat.le_of_ble_eq_true rfl)
    · have h := ite_f h c3
      obtain rfl := som1 h
      exact x_throw F hst htab hlk hG (text := "steps not 1 to 60") (by decide +kernel) (kw250 F.kd) (kw12 F.kd) (xat_of F.kd xm3 xo3) xg3_ (by decide) hl.1 dX5_needSteps_11 dX5_needSteps_14 dX5_needSteps_15 dX5_needSteps_17 dX5_needSteps_20 (Nat.le_of_ble_eq_true rfl) (Nat.le_of_ble_eq_true rfl) (Nat.le_of_ble_eq_true rfl) (Nat.le_of_ble_eq_true rfl) (Nat.le_of_ble_eq_true rfl) (Nat.le_of_ble_eq_true rfl)
set_option maxHeartbeats 4000000 in
set_option maxRecDepth 100000 in
theorem c_X5_house (l : Launch) (D : va_G) (ca : vCA) (g : Nat → Nat) (hst : l.stackTraces = false) {fu : Nat} {M : Mem} {a0 : Nat} {x1 : Int32} {x2 : Int32} {o : Nat ⊕ (Mem × Int32)} (ha0 : kd a0 = 5) (h : m_X5_house fu M a0 x1 x2 = some o) : xM l yX5_house cX5_house 6 (some .boolean) { frames := 7, cells := 2, slots := 12, locals := 111 } D ca g M [.ref (g a0), .int x1, .int x2] (fun sz => xQi D ca g sz o) o := by
  refine mk_xMet (by decide) (Nat.le_of_ble_eq_true rfl) ?_
  intro p e s m below meth c F hr hlk htab hG ls hl
  have hx := F.1
  have hb := F.2.1
  replace hl : lv_has ls 6 [(0, .ref (g a0)), (1, .int x1), (2, .int x2)] := hl
  unfold m_X5_house at h
  refine lv_iload_n hx hb dX5_house_0 rfl (lv_at hl 1 rfl) ?_
  refine lv_iload_n hx hb dX5_house_1 rfl (lv_at hl 2 rfl) ?_
  obtain ⟨o5, hc4, hL6, hR7⟩ := xb_e h
  refine kx_p (x_runS F hG (c_X5_placeOf l D ca g hst hc4) (kw20 F.kd) (kw21 F.kd) (kw1 F.kd) (kw22 F.kd) yd_X5_placeOf ⟨Nat.le_of_ble_eq_true rfl, Nat.le_of_ble_eq_true rfl⟩ rfl hl.1 rfl (Nat.le_of_ble_eq_true rfl) dX5_house_2 ⟨Nat.le_of_ble_eq_true rfl, Nat.le_of_ble_eq_true rfl⟩) hG htab hlk hL6 (Nat.le_of_ble_eq_true rfl) (Nat.le_of_ble_eq_true rfl) (fun r9 H locs eo8 hG => ?_)
  have h := hR7 _ eo8
  refine lv_istore_n (lv' := [(3, .int r9), (0, .ref (g a0)), (1, .int x1), (2, .int x2)]) hx hb dX5_house_5 rfl hl (by decide) rfl (fun ls hl => ?_)
  refine lv_aload_n hx hb dX5_house_6 rfl (lv_at hl 1 rfl) ?_
  have hk10 := (show kd 0 = 1 from rfl)
  refine xg5 F hG ha0 0 (by decide) (kw508 F.kd) (v := .ref (g 0)) rfl dX5_house_7 ?_
  have hk11 := kt_quarter hk10
  refine xg1N F hG hk10 0 (by decide) (kw467 F.kd) (v := .ref (g (0 + 1))) rfl dX5_house_10 ?_
  refine lv_iload_n hx hb dX5_house_13 rfl (lv_at hl 0 rfl) ?_
  obtain ⟨r13, hc12, h⟩ := cb1_e h
  refine k_i (r_runVN F hG (c_X3_at l D ca g hk11 hc12) (kd_lt hk11 (by decide)) (gd3 hk11) rfl (kw93 F.kd) (kw95 F.kd) (ks_X3_at F.kd) (kw3 F.kd) (kw97 F.kd) yd_X3_at ⟨Nat.le_of_ble_eq_true rfl, Nat.le_of_ble_eq_true rfl⟩ rfl hl.1 rfl (Nat.le_of_ble_eq_true rfl) dX5_house_14 ⟨Nat.le_of_ble_eq_true rfl, Nat.le_of_ble_eq_true rfl⟩) hG (fun H locs hG => ?_)
  refine lv_istore (lv' := [(4, .int r13), (3, .int r9), (0, .ref (g a0)), (1, .int x1), (2, .int x2)]) hx hb dX5_house_17 hl (by decide) rfl (fun ls hl => ?_)
  refine lv_iload hx hb dX5_house_19 (lv_at hl 0 rfl) ?_
  refine lv_if_gt (tgt := 35) hx hb dX5_house_21 (by decide) (fun c14 => ?_) (fun c14 => ?_)
  · have h := ite_t h c14
    obtain rfl := som1 h
    exact x_throw F hst htab hlk hG (text := "barricades or somebody there") (by decide +kernel) (kw523 F.kd) (kw11 F.kd) (xat_of F.kd xm2 xo2) xg2_ (by decide) hl.1 dX5_house_35 dX5_house_38 dX5_house_39 dX5_house_41 dX5_house_44 (Nat.le_of_ble_eq_true rfl) (Nat.le_of_ble_eq_true rfl) (Nat.le_of_ble_eq_true rfl) (Nat.le_of_ble_eq_true rfl) (Nat.le_of_ble_eq_true rfl) (Nat.le_of_ble_eq_true rfl)
  · have h := ite_f h c14
    refine lv_aload_n hx hb dX5_house_24 rfl (lv_at hl 2 rfl) ?_
    have hk15 := (show kd 0 = 1 from rfl)
    refine xg5 F hG ha0 0 (by decide) (kw508 F.kd) (v := .ref (g 0)) rfl dX5_house_25 ?_
    refine lv_iload_n hx hb dX5_house_28 rfl (lv_at hl 1 rfl) ?_
    obtain ⟨r17, hc16, h⟩ := cb1_e h
    refine k_i (r_runVN F hG (c_X1_isTaken l D ca g hk15 hc16) (kd_lt hk15 (by decide)) (gd1 hk15) rfl (kw522 F.kd) (kw293 F.kd) (ks_X1_isTaken F.kd) (kw2 F.kd) (kw294 F.kd) yd_X1_isTaken ⟨Nat.le_of_ble_eq_true rfl, Nat.le_of_ble_eq_true rfl⟩ rfl hl.1 rfl (Nat.le_of_ble_eq_true rfl) dX5_house_29 ⟨Nat.le_of_ble_eq_true rfl, Nat.le_of_ble_eq_true rfl⟩) hG (fun H locs hG => ?_)
    refine lv_if_eq (tgt := 45) hx hb dX5_house_32 (by decide) (fun c18 => ?_) (fun c18 => ?_)
    · have h := ite_t h c18
      refine lv_iload hx hb dX5_house_45 (lv_at hl 0 rfl) ?_
      refine lv_iconst (v := (-1)) hx hb dX5_house_47 (by decide) ?_
      refine lv_icmp_eq (tgt := 55) hx hb dX5_house_48 (by decide) (fun c19 => ?_) (fun c19 => ?_)
      · have h := ite_t h c19
        refine lv_iconst (v := 0) hx hb dX5_house_55 (by decide) ?_
        refine lv_istore (lv' := [(5, .int 0), (4, .int r13), (3, .int r9), (0, .ref (g a0)), (1, .int x1), (2, .int x2)]) hx hb dX5_house_56 hl (by decide) rfl (fun ls hl => ?_)
        refine lv_aload_n hx hb dX5_house_58 rfl (lv_at hl 3 rfl) ?_
        have hk20 := (show kd 0 = 1 from rfl)
        refine xg5 F hG ha0 0 (by decide) (kw508 F.kd) (v := .ref (g 0)) rfl dX5_house_59 ?_
        have hk21 := kt_quarter hk20
        refine xg1N F hG hk20 0 (by decide) (kw467 F.kd) (v := .ref (g (0 + 1))) rfl dX5_house_62 ?_
        refine lv_iload_n hx hb dX5_house_65 rfl (lv_at hl 2 rfl) ?_
        refine lv_iload hx hb dX5_house_66 (lv_at hl 0 rfl) ?_
        refine lv_if_eq (tgt := 75) hx hb dX5_house_68 (by decide) (fun _ => ?_) (fun c22 => absurd c22 (by decide))
        refine lv_iconst (v := 0) hx hb dX5_house_75 (by decide) ?_
        obtain ⟨M25, hc23, h⟩ := cb1_e h
        refine k_v (r_runVN F hG (c_X3_put l D ca g hk21 hc23) (kd_lt hk21 (by decide)) (gd3 hk21) rfl (kw539 F.kd) (kw297 F.kd) (ks_X3_put F.kd) (kw3 F.kd) (kw298 F.kd) yd_X3_put ⟨Nat.le_of_ble_eq_true rfl, Nat.le_of_ble_eq_true rfl⟩ rfl hl.1 rfl (Nat.le_of_ble_eq_true rfl) dX5_house_76 ⟨Nat.le_of_ble_eq_true rfl, Nat.le_of_ble_eq_true rfl⟩) hG (fun H locs hG => ?_)
        refine lv_iload hx hb dX5_house_79 (lv_at hl 0 rfl) ?_
        obtain rfl := som1 h
        exact xend_i F hr hlk (by decide) hG dX5_house_81 (Nat.le_of_ble_eq_true rfl) (Nat.le_of_ble_eq_true rfl)
      · have h := ite_f h c19
        refine lv_iconst (v := 1) hx hb dX5_house_51 (by decide) ?_
        refine lv_goto (tgt := 56) hx hb dX5_house_52 (by decide) ?_
        refine lv_istore (lv' := [(5, .int 1), (4, .int r13), (3, .int r9), (0, .ref (g a0)), (1, .int x1), (2, .int x2)]) hx hb dX5_house_56 hl (by decide) rfl (fun ls hl => ?_)
        refine lv_aload_n hx hb dX5_house_58 rfl (lv_at hl 3 rfl) ?_
        have hk26 := (show kd 0 = 1 from rfl)
        refine xg5 F hG ha0 0 (by decide) (kw508 F.kd) (v := .ref (g 0)) rfl dX5_house_59 ?_
        have hk27 := kt_quarter hk26
        refine xg1N F hG hk26 0 (by decide) (kw467 F.kd) (v := .ref (g (0 + 1))) rfl dX5_house_62 ?_
        refine lv_iload_n hx hb dX5_house_65 rfl (lv_at hl 2 rfl) ?_
        refine lv_iload hx hb dX5_house_66 (lv_at hl 0 rfl) ?_
        refine lv_if_eq (tgt := 75) hx hb dX5_house_68 (by decide) (fun c28 => absurd c28 (by decide)) (fun _ => ?_)
        refine lv_iconst (v := (-1)) hx hb dX5_house_71 (by decide) ?_
        refine lv_goto (tgt := 76) hx hb dX5_house_72 (by decide) ?_
        obtain ⟨M31, hc29, h⟩ := cb1_e h
        refine k_v (r_runVN F hG (c_X3_put l D ca g hk27 hc29) (kd_lt hk27 (by decide)) (gd3 hk27) rfl (kw539 F.kd) (kw297 F.kd) (ks_X3_put F.kd) (kw3 F.kd) (kw298 F.kd) yd_X3_put ⟨Nat.le_of_ble_eq_true rfl, Nat.le_of_ble_eq_true rfl⟩ rfl hl.1 rfl (Nat.le_of_ble_eq_true rfl) dX5_house_76 ⟨Nat.le_of_ble_eq_true rfl, Nat.le_of_ble_eq_true rfl⟩) hG (fun H locs hG => ?_)
        refine lv_iload hx hb dX5_house_79 (lv_at hl 0 rfl) ?_
        obtain rfl := som1 h
        exact xend_i F hr hlk (by decide) hG dX5_house_81 (Nat.le_of_ble_eq_true rfl) (Nat.le_of_ble_eq_true rfl)
    · have h := ite_f h c18
      obtain rfl := som1 h
      exact x_throw F hst htab hlk hG (text := "barricades or somebody there") (by decide +kernel) (kw523 F.kd) (kw11 F.kd) (xat_of F.kd xm2 xo2) xg2_ (by decide) hl.1 dX5_house_35 dX5_house_38 dX5_house_39 dX5_house_41 dX5_house_44 (Nat.le_of_ble_eq_true rfl) (Nat.le_of_ble_eq_true rfl) (Nat.le_of_ble_eq_true rfl) (Nat.le_of_ble_eq_true rfl) (Nat.le_of_ble_eq_true rfl) (Nat.le_of_ble_eq_true rfl)
set_option maxHeartbeats 4000000 in
set_option maxRecDepth 100000 in
theorem c_X5_block (l : Launch) (D : va_G) (ca : vCA) (g : Nat → Nat) (hst : l.stackTraces = false) {fu : Nat} {M : Mem} {a0 : Nat} {x1 : Int32} {x2 : Int32} {x3 : Int32} {o : Nat ⊕ (Mem × Int32)} (ha0 : kd a0 = 5) (h : m_X5_block fu M a0 x1 x2 x3 = some o) : xM l yX5_block cX5_block 6 (some .int) { frames := 7, cells := 2, slots := 12, locals := 111 } D ca g M [.ref (g a0), .int x1, .int x2, .int x3] (fun sz => xQi D ca g sz o) o := by
  refine mk_xMet (by decide) (Nat.le_of_ble_eq_true rfl) ?_
  intro p e s m below meth c F hr hlk htab hG ls hl
  have hx := F.1
  have hb := F.2.1
  replace hl : lv_has ls 6 [(0, .ref (g a0)), (1, .int x1), (2, .int x2), (3, .int x3)] := hl
  unfold m_X5_block at h
  refine lv_iload_n hx hb dX5_block_0 rfl (lv_at hl 1 rfl) ?_
  refine lv_iload_n hx hb dX5_block_1 rfl (lv_at hl 2 rfl) ?_
  obtain ⟨o6, hc5, hL7, hR8⟩ := xb_e h
  refine kx_p (x_runS F hG (c_X5_placeOf l D ca g hst hc5) (kw20 F.kd) (kw21 F.kd) (kw1 F.kd) (kw22 F.kd) yd_X5_placeOf ⟨Nat.le_of_ble_eq_true rfl, Nat.le_of_ble_eq_true rfl⟩ rfl hl.1 rfl (Nat.le_of_ble_eq_true rfl) dX5_block_2 ⟨Nat.le_of_ble_eq_true rfl, Nat.le_of_ble_eq_true rfl⟩) hG htab hlk hL7 (Nat.le_of_ble_eq_true rfl) (Nat.le_of_ble_eq_true rfl) (fun r10 H locs eo9 hG => ?_)
  have h := hR8 _ eo9
  refine lv_istore (lv' := [(4, .int r10), (0, .ref (g a0)), (1, .int x1), (2, .int x2), (3, .int x3)]) hx hb dX5_block_5 hl (by decide) rfl (fun ls hl => ?_)
  refine lv_iload_n hx hb dX5_block_7 rfl (lv_at hl 4 rfl) ?_
  refine lv_if_lt (tgt := 16) hx hb dX5_block_8 (by decide) (fun c11 => ?_) (fun c11 => ?_)
  · have h := ite_t h c11
    obtain rfl := som1 h
    exact x_throw F hst htab hlk hG (text := "barricades not 0 to 3") (by decide +kernel) (kw250 F.kd) (kw12 F.kd) (xat_of F.kd xm3 xo3) xg3_ (by decide) hl.1 dX5_block_16 dX5_block_19 dX5_block_20 dX5_block_22 dX5_block_25 (Nat.le_of_ble_eq_true rfl) (Nat.le_of_ble_eq_true rfl) (Nat.le_of_ble_eq_true rfl) (Nat.le_of_ble_eq_true rfl) (Nat.le_of_ble_eq_true rfl) (Nat.le_of_ble_eq_true rfl)
  · have h := ite_f h c11
    refine lv_iload_n hx hb dX5_block_11 rfl (lv_at hl 4 rfl) ?_
    refine lv_iconst (v := 3) hx hb dX5_block_12 (by decide) ?_
    refine lv_icmp_le (tgt := 26) hx hb dX5_block_13 (by decide) (fun c12 => ?_) (fun c12 => ?_)
    · have h := ite_t h c12
      refine lv_aload_n hx hb dX5_block_26 rfl (lv_at hl 1 rfl) ?_
      have hk13 := (show kd 0 = 1 from rfl)
      refine xg5 F hG ha0 0 (by decide) (kw508 F.kd) (v := .ref (g 0)) rfl dX5_block_27 ?_
      have hk14 := kt_quarter hk13
      refine xg1N F hG hk13 0 (by decide) (kw467 F.kd) (v := .ref (g (0 + 1))) rfl dX5_block_30 ?_
      refine lv_iload hx hb dX5_block_33 (lv_at hl 0 rfl) ?_
      obtain ⟨r16, hc15, h⟩ := cb1_e h
      refine k_i (r_runVN F hG (c_X3_at l D ca g hk14 hc15) (kd_lt hk14 (by decide)) (gd3 hk14) rfl (kw93 F.kd) (kw95 F.kd) (ks_X3_at F.kd) (kw3 F.kd) (kw97 F.kd) yd_X3_at ⟨Nat.le_of_ble_eq_true rfl, Nat.le_of_ble_eq_true rfl⟩ rfl hl.1 rfl (Nat.le_of_ble_eq_true rfl) dX5_block_35 ⟨Nat.le_of_ble_eq_true rfl, Nat.le_of_ble_eq_true rfl⟩) hG (fun H locs hG => ?_)
      refine lv_istore (lv' := [(5, .int r16), (4, .int r10), (0, .ref (g a0)), (1, .int x1), (2, .int x2), (3, .int x3)]) hx hb dX5_block_38 hl (by decide) rfl (fun ls hl => ?_)
      refine lv_iload hx hb dX5_block_40 (lv_at hl 0 rfl) ?_
      refine lv_iconst (v := (-1)) hx hb dX5_block_42 (by decide) ?_
      refine lv_icmp_eq (tgt := 58) hx hb dX5_block_43 (by decide) (fun c17 => ?_) (fun c17 => ?_)
      · have h := ite_t h c17
        obtain rfl := som1 h
        exact x_throw F hst htab hlk hG (text := "a house or somebody there") (by decide +kernel) (kw523 F.kd) (kw11 F.kd) (xat_of F.kd xm2 xo2) xg2_ (by decide) hl.1 dX5_block_58 dX5_block_61 dX5_block_62 dX5_block_64 dX5_block_67 (Nat.le_of_ble_eq_true rfl) (Nat.le_of_ble_eq_true rfl) (Nat.le_of_ble_eq_true rfl) (Nat.le_of_ble_eq_true rfl) (Nat.le_of_ble_eq_true rfl) (Nat.le_of_ble_eq_true rfl)
      · have h := ite_f h c17
        refine lv_aload_n hx hb dX5_block_46 rfl (lv_at hl 2 rfl) ?_
        have hk18 := (show kd 0 = 1 from rfl)
        refine xg5 F hG ha0 0 (by decide) (kw508 F.kd) (v := .ref (g 0)) rfl dX5_block_47 ?_
        refine lv_iload hx hb dX5_block_50 (lv_at hl 1 rfl) ?_
        obtain ⟨r20, hc19, h⟩ := cb1_e h
        refine k_i (r_runVN F hG (c_X1_isTaken l D ca g hk18 hc19) (kd_lt hk18 (by decide)) (gd1 hk18) rfl (kw522 F.kd) (kw293 F.kd) (ks_X1_isTaken F.kd) (kw2 F.kd) (kw294 F.kd) yd_X1_isTaken ⟨Nat.le_of_ble_eq_true rfl, Nat.le_of_ble_eq_true rfl⟩ rfl hl.1 rfl (Nat.le_of_ble_eq_true rfl) dX5_block_52 ⟨Nat.le_of_ble_eq_true rfl, Nat.le_of_ble_eq_true rfl⟩) hG (fun H locs hG => ?_)
        refine lv_if_eq (tgt := 68) hx hb dX5_block_55 (by decide) (fun c21 => ?_) (fun c21 => ?_)
        · have h := ite_t h c21
          refine lv_aload_n hx hb dX5_block_68 rfl (lv_at hl 2 rfl) ?_
          have hk22 := (show kd 0 = 1 from rfl)
          refine xg5 F hG ha0 0 (by decide) (kw508 F.kd) (v := .ref (g 0)) rfl dX5_block_69 ?_
          have hk23 := kt_quarter hk22
          refine xg1N F hG hk22 0 (by decide) (kw467 F.kd) (v := .ref (g (0 + 1))) rfl dX5_block_72 ?_
          refine lv_iload hx hb dX5_block_75 (lv_at hl 1 rfl) ?_
          refine lv_iload_n hx hb dX5_block_77 rfl (lv_at hl 5 rfl) ?_
          obtain ⟨M26, hc24, h⟩ := cb1_e h
          refine k_v (r_runVN F hG (c_X3_put l D ca g hk23 hc24) (kd_lt hk23 (by decide)) (gd3 hk23) rfl (kw539 F.kd) (kw297 F.kd) (ks_X3_put F.kd) (kw3 F.kd) (kw298 F.kd) yd_X3_put ⟨Nat.le_of_ble_eq_true rfl, Nat.le_of_ble_eq_true rfl⟩ rfl hl.1 rfl (Nat.le_of_ble_eq_true rfl) dX5_block_78 ⟨Nat.le_of_ble_eq_true rfl, Nat.le_of_ble_eq_true rfl⟩) hG (fun H locs hG => ?_)
          refine lv_iload hx hb dX5_block_81 (lv_at hl 0 rfl) ?_
          obtain rfl := som1 h
          exact xend_i F hr hlk rfl hG dX5_block_83 (Nat.le_of_ble_eq_true rfl) (Nat.le_of_ble_eq_true rfl)
        · have h := ite_f h c21
          obtain rfl := som1 h
          exact x_throw F hst htab hlk hG (text := "a house or somebody there") (by decide +kernel) (kw523 F.kd) (kw11 F.kd) (xat_of F.kd xm2 xo2) xg2_ (by decide) hl.1 dX5_block_58 dX5_block_61 dX5_block_62 dX5_block_64 dX5_block_67 (Nat.le_of_ble_eq_true rfl) (Nat.le_of_ble_eq_true rfl) (Nat.le_of_ble_eq_true rfl) (Nat.le_of_ble_eq_true rfl) (Nat.le_of_ble_eq_true rfl) (Nat.le_of_ble_eq_true rfl)
    · have h := ite_f h c12
      obtain rfl := som1 h
      exact x_throw F hst htab hlk hG (text := "barricades not 0 to 3") (by decide +kernel) (kw250 F.kd) (kw12 F.kd) (xat_of F.kd xm3 xo3) xg3_ (by decide) hl.1 dX5_block_16 dX5_block_19 dX5_block_20 dX5_block_22 dX5_block_25 (Nat.le_of_ble_eq_true rfl) (Nat.le_of_ble_eq_true rfl) (Nat.le_of_ble_eq_true rfl) (Nat.le_of_ble_eq_true rfl) (Nat.le_of_ble_eq_true rfl) (Nat.le_of_ble_eq_true rfl)
set_option maxHeartbeats 4000000 in
set_option maxRecDepth 100000 in
theorem c_X5_cell (l : Launch) (D : va_G) (ca : vCA) (g : Nat → Nat) (hst : l.stackTraces = false) {fu : Nat} {M : Mem} {a0 : Nat} {x1 : Int32} {x2 : Int32} {o : Nat ⊕ (Int32)} (ha0 : kd a0 = 5) (h : m_X5_cell fu M a0 x1 x2 = some o) : xM l yX5_cell cX5_cell 3 (some .int) { frames := 7, cells := 1, slots := 6, locals := 111 } D ca g M [.ref (g a0), .int x1, .int x2] (fun sz => xQp D ca g sz M o) o := by
  refine mk_xMet (by decide) (Nat.le_of_ble_eq_true rfl) ?_
  intro p e s m below meth c F hr hlk htab hG ls hl
  have hx := F.1
  have hb := F.2.1
  replace hl : lv_has ls 3 [(0, .ref (g a0)), (1, .int x1), (2, .int x2)] := hl
  unfold m_X5_cell at h
  refine lv_aload_n hx hb dX5_cell_0 rfl (lv_at hl 0 rfl) ?_
  have hk4 := (show kd 0 = 1 from rfl)
  refine xg5 F hG ha0 0 (by decide) (kw508 F.kd) (v := .ref (g 0)) rfl dX5_cell_1 ?_
  have hk5 := kt_quarter hk4
  refine xg1N F hG hk4 0 (by decide) (kw467 F.kd) (v := .ref (g (0 + 1))) rfl dX5_cell_4 ?_
  refine lv_iload_n hx hb dX5_cell_7 rfl (lv_at hl 1 rfl) ?_
  refine lv_iload_n hx hb dX5_cell_8 rfl (lv_at hl 2 rfl) ?_
  obtain ⟨o7, hc6, hL8, hR9⟩ := xb_e h
  refine kx_p (x_runS F hG (c_X5_placeOf l D ca g hst hc6) (kw20 F.kd) (kw21 F.kd) (kw1 F.kd) (kw22 F.kd) yd_X5_placeOf ⟨Nat.le_of_ble_eq_true rfl, Nat.le_of_ble_eq_true rfl⟩ rfl hl.1 rfl (Nat.le_of_ble_eq_true rfl) dX5_cell_9 ⟨Nat.le_of_ble_eq_true rfl, Nat.le_of_ble_eq_true rfl⟩) hG htab hlk hL8 (Nat.le_of_ble_eq_true rfl) (Nat.le_of_ble_eq_true rfl) (fun r11 H locs eo10 hG => ?_)
  have h := hR9 _ eo10
  obtain ⟨r13, hc12, h⟩ := cb1_e h
  refine k_i (r_runVN F hG (c_X3_at l D ca g hk5 hc12) (kd_lt hk5 (by decide)) (gd3 hk5) rfl (kw93 F.kd) (kw95 F.kd) (ks_X3_at F.kd) (kw3 F.kd) (kw97 F.kd) yd_X3_at ⟨Nat.le_of_ble_eq_true rfl, Nat.le_of_ble_eq_true rfl⟩ rfl hl.1 rfl (Nat.le_of_ble_eq_true rfl) dX5_cell_12 ⟨Nat.le_of_ble_eq_true rfl, Nat.le_of_ble_eq_true rfl⟩) hG (fun H locs hG => ?_)
  obtain rfl := som1 h
  exact xend_p F hr hlk rfl hG dX5_cell_15 (Nat.le_of_ble_eq_true rfl) (Nat.le_of_ble_eq_true rfl)
set_option maxHeartbeats 4000000 in
set_option maxRecDepth 100000 in
theorem c_X5_gather (l : Launch) (D : va_G) (ca : vCA) (g : Nat → Nat) (hst : l.stackTraces = false) {fu : Nat} {M : Mem} {a0 : Nat} {x1 : Int32} {x2 : Int32} {x3 : Int32} {o : Nat ⊕ (Mem × Int32)} (ha0 : kd a0 = 5) (h : m_X5_gather fu M a0 x1 x2 x3 = some o) : xM l yX5_gather cX5_gather 5 (some .int) { frames := 7, cells := 2, slots := 12, locals := 111 } D ca g M [.ref (g a0), .int x1, .int x2, .int x3] (fun sz => xQi D ca g sz o) o := by
  refine mk_xMet (by decide) (Nat.le_of_ble_eq_true rfl) ?_
  intro p e s m below meth c F hr hlk htab hG ls hl
  have hx := F.1
  have hb := F.2.1
  replace hl : lv_has ls 5 [(0, .ref (g a0)), (1, .int x1), (2, .int x2), (3, .int x3)] := hl
  unfold m_X5_gather at h
  refine lv_iload_n hx hb dX5_gather_0 rfl (lv_at hl 1 rfl) ?_
  refine lv_iload_n hx hb dX5_gather_1 rfl (lv_at hl 2 rfl) ?_
  obtain ⟨o6, hc5, hL7, hR8⟩ := xb_e h
  refine kx_p (x_runS F hG (c_X5_placeOf l D ca g hst hc5) (kw20 F.kd) (kw21 F.kd) (kw1 F.kd) (kw22 F.kd) yd_X5_placeOf ⟨Nat.le_of_ble_eq_true rfl, Nat.le_of_ble_eq_true rfl⟩ rfl hl.1 rfl (Nat.le_of_ble_eq_true rfl) dX5_gather_2 ⟨Nat.le_of_ble_eq_true rfl, Nat.le_of_ble_eq_true rfl⟩) hG htab hlk hL7 (Nat.le_of_ble_eq_true rfl) (Nat.le_of_ble_eq_true rfl) (fun r10 H locs eo9 hG => ?_)
  have h := hR8 _ eo9
  refine lv_istore (lv' := [(4, .int r10), (0, .ref (g a0)), (1, .int x1), (2, .int x2), (3, .int x3)]) hx hb dX5_gather_5 hl (by decide) rfl (fun ls hl => ?_)
  refine lv_iload_n hx hb dX5_gather_7 rfl (lv_at hl 4 rfl) ?_
  refine lv_iconst (v := 1) hx hb dX5_gather_8 (by decide) ?_
  refine lv_icmp_lt (tgt := 18) hx hb dX5_gather_9 (by decide) (fun c11 => ?_) (fun c11 => ?_)
  · have h := ite_t h c11
    obtain rfl := som1 h
    exact x_throw F hst htab hlk hG (text := "people not 1 to 9") (by decide +kernel) (kw250 F.kd) (kw12 F.kd) (xat_of F.kd xm3 xo3) xg3_ (by decide) hl.1 dX5_gather_18 dX5_gather_21 dX5_gather_22 dX5_gather_24 dX5_gather_27 (Nat.le_of_ble_eq_true rfl) (Nat.le_of_ble_eq_true rfl) (Nat.le_of_ble_eq_true rfl) (Nat.le_of_ble_eq_true rfl) (Nat.le_of_ble_eq_true rfl) (Nat.le_of_ble_eq_true rfl)
  · have h := ite_f h c11
    refine lv_iload_n hx hb dX5_gather_12 rfl (lv_at hl 4 rfl) ?_
    refine lv_bipush (v := 9) hx hb dX5_gather_13 (by decide) ?_
    refine lv_icmp_le (tgt := 28) hx hb dX5_gather_15 (by decide) (fun c12 => ?_) (fun c12 => ?_)
    · have h := ite_t h c12
      refine lv_aload_n hx hb dX5_gather_28 rfl (lv_at hl 1 rfl) ?_
      have hk13 := (show kd 0 = 1 from rfl)
      refine xg5 F hG ha0 0 (by decide) (kw508 F.kd) (v := .ref (g 0)) rfl dX5_gather_29 ?_
      refine xg1N F hG hk13 2 (by decide) (kw471 F.kd) (v := .int (M 0 2)) rfl dX5_gather_32 ?_
      refine lv_bipush (v := 6) hx hb dX5_gather_35 (by decide) ?_
      refine lv_icmp_ge (tgt := 55) hx hb dX5_gather_37 (by decide) (fun c14 => ?_) (fun c14 => ?_)
      · have h := ite_t h c14
        obtain rfl := som1 h
        exact x_throw F hst htab hlk hG (text := "6 crowds already, or the cell is not free") (by decide +kernel) (kw523 F.kd) (kw11 F.kd) (xat_of F.kd xm2 xo2) xg2_ (by decide) hl.1 dX5_gather_55 dX5_gather_58 dX5_gather_59 dX5_gather_61 dX5_gather_64 (Nat.le_of_ble_eq_true rfl) (Nat.le_of_ble_eq_true rfl) (Nat.le_of_ble_eq_true rfl) (Nat.le_of_ble_eq_true rfl) (Nat.le_of_ble_eq_true rfl) (Nat.le_of_ble_eq_true rfl)
      · have h := ite_f h c14
        refine lv_aload_n hx hb dX5_gather_40 rfl (lv_at hl 1 rfl) ?_
        have hk15 := (show kd 0 = 1 from rfl)
        refine xg5 F hG ha0 0 (by decide) (kw508 F.kd) (v := .ref (g 0)) rfl dX5_gather_41 ?_
        have hk16 := kt_quarter hk15
        refine xg1N F hG hk15 0 (by decide) (kw467 F.kd) (v := .ref (g (0 + 1))) rfl dX5_gather_44 ?_
        refine lv_iload hx hb dX5_gather_47 (lv_at hl 0 rfl) ?_
        obtain ⟨r18, hc17, h⟩ := cb1_e h
        refine k_i (r_runVN F hG (c_X3_isFree l D ca g hk16 hc17) (kd_lt hk16 (by decide)) (gd3 hk16) rfl (kw555 F.kd) (kw202 F.kd) (ks_X3_isFree F.kd) (kw3 F.kd) (kw203 F.kd) yd_X3_isFree ⟨Nat.le_of_ble_eq_true rfl, Nat.le_of_ble_eq_true rfl⟩ rfl hl.1 rfl (Nat.le_of_ble_eq_true rfl) dX5_gather_49 ⟨Nat.le_of_ble_eq_true rfl, Nat.le_of_ble_eq_true rfl⟩) hG (fun H locs hG => ?_)
        refine lv_if_ne (tgt := 65) hx hb dX5_gather_52 (by decide) (fun c19 => ?_) (fun c19 => ?_)
        · have h := ite_f h c19
          refine lv_aload_n hx hb dX5_gather_65 rfl (lv_at hl 1 rfl) ?_
          have hk20 := (show kd 0 = 1 from rfl)
          refine xg5 F hG ha0 0 (by decide) (kw508 F.kd) (v := .ref (g 0)) rfl dX5_gather_66 ?_
          refine lv_iload hx hb dX5_gather_69 (lv_at hl 0 rfl) ?_
          refine lv_iload_n hx hb dX5_gather_71 rfl (lv_at hl 4 rfl) ?_
          obtain ⟨M23, r22, hc21, h⟩ := cb2_e h
          refine k_i (r_runVN F hG (c_X1_addCrowd l D ca g hk20 hc21) (kd_lt hk20 (by decide)) (gd1 hk20) rfl (kw557 F.kd) (kw559 F.kd) (ks_X1_addCrowd F.kd) (kw2 F.kd) (kw560 F.kd) yd_X1_addCrowd ⟨Nat.le_of_ble_eq_true rfl, Nat.le_of_ble_eq_true rfl⟩ rfl hl.1 rfl (Nat.le_of_ble_eq_true rfl) dX5_gather_72 ⟨Nat.le_of_ble_eq_true rfl, Nat.le_of_ble_eq_true rfl⟩) hG (fun H locs hG => ?_)
          obtain rfl := som1 h
          exact xend_i F hr hlk rfl hG dX5_gather_75 (Nat.le_of_ble_eq_true rfl) (Nat.le_of_ble_eq_true rfl)
        · have h := ite_t h c19
          obtain rfl := som1 h
          exact x_throw F hst htab hlk hG (text := "6 crowds already, or the cell is not free") (by decide +kernel) (kw523 F.kd) (kw11 F.kd) (xat_of F.kd xm2 xo2) xg2_ (by decide) hl.1 dX5_gather_55 dX5_gather_58 dX5_gather_59 dX5_gather_61 dX5_gather_64 (Nat.le_of_ble_eq_true rfl) (Nat.le_of_ble_eq_true rfl) (Nat.le_of_ble_eq_true rfl) (Nat.le_of_ble_eq_true rfl) (Nat.le_of_ble_eq_true rfl) (Nat.le_of_ble_eq_true rfl)
    · have h := ite_f h c12
      obtain rfl := som1 h
      exact x_throw F hst htab hlk hG (text := "people not 1 to 9") (by decide +kernel) (kw250 F.kd) (kw12 F.kd) (xat_of F.kd xm3 xo3) xg3_ (by decide) hl.1 dX5_gather_18 dX5_gather_21 dX5_gather_22 dX5_gather_24 dX5_gather_27 (Nat.le_of_ble_eq_true rfl) (Nat.le_of_ble_eq_true rfl) (Nat.le_of_ble_eq_true rfl) (Nat.le_of_ble_eq_true rfl) (Nat.le_of_ble_eq_true rfl) (Nat.le_of_ble_eq_true rfl)
set_option maxHeartbeats 4000000 in
set_option maxRecDepth 100000 in
theorem c_X5_order (l : Launch) (D : va_G) (ca : vCA) (g : Nat → Nat) (hst : l.stackTraces = false) {fu : Nat} {M : Mem} {a0 : Nat} {x1 : Int32} {x2 : Int32} {o : Nat ⊕ (Mem × Int32)} (ha0 : kd a0 = 5) (h : m_X5_order fu M a0 x1 x2 = some o) : xM l yX5_order cX5_order 4 (some .int) { frames := 7, cells := 2, slots := 12, locals := 111 } D ca g M [.ref (g a0), .int x1, .int x2] (fun sz => xQi D ca g sz o) o := by
  refine mk_xMet (by decide) (Nat.le_of_ble_eq_true rfl) ?_
  intro p e s m below meth c F hr hlk htab hG ls hl
  have hx := F.1
  have hb := F.2.1
  replace hl : lv_has ls 4 [(0, .ref (g a0)), (1, .int x1), (2, .int x2)] := hl
  unfold m_X5_order at h
  refine lv_aload_n hx hb dX5_order_0 rfl (lv_at hl 0 rfl) ?_
  refine lv_iload_n hx hb dX5_order_1 rfl (lv_at hl 1 rfl) ?_
  obtain ⟨o5, hc4, hL6, hR7⟩ := xb_e h
  refine kx_v (x_runV F hG (c_X5_needCrowd l D ca g hst ha0 hc4) (kd_lt ha0 (by decide)) (gd5 ha0) rfl (kw102 F.kd) (kw104 F.kd) (ks_X5_needCrowd F.kd) (kw1 F.kd) (kw106 F.kd) yd_X5_needCrowd ⟨Nat.le_of_ble_eq_true rfl, Nat.le_of_ble_eq_true rfl⟩ rfl hl.1 rfl (Nat.le_of_ble_eq_true rfl) dX5_order_2 ⟨Nat.le_of_ble_eq_true rfl, Nat.le_of_ble_eq_true rfl⟩) hG htab hlk hL6 (Nat.le_of_ble_eq_true rfl) (Nat.le_of_ble_eq_true rfl) (fun H locs eo8 hG => ?_)
  have h := hR7 _ eo8
  refine lv_iload_n hx hb dX5_order_5 rfl (lv_at hl 2 rfl) ?_
  refine lv_if_lt (tgt := 15) hx hb dX5_order_6 (by decide) (fun c9 => ?_) (fun c9 => ?_)
  · have h := ite_t h c9
    obtain rfl := som1 h
    exact x_throw F hst htab hlk hG (text := "code not 0 to 11") (by decide +kernel) (kw250 F.kd) (kw12 F.kd) (xat_of F.kd xm3 xo3) xg3_ (by decide) hl.1 dX5_order_15 dX5_order_18 dX5_order_19 dX5_order_21 dX5_order_24 (Nat.le_of_ble_eq_true rfl) (Nat.le_of_ble_eq_true rfl) (Nat.le_of_ble_eq_true rfl) (Nat.le_of_ble_eq_true rfl) (Nat.le_of_ble_eq_true rfl) (Nat.le_of_ble_eq_true rfl)
  · have h := ite_f h c9
    refine lv_iload_n hx hb dX5_order_9 rfl (lv_at hl 2 rfl) ?_
    refine lv_bipush (v := 12) hx hb dX5_order_10 (by decide) ?_
    refine lv_icmp_lt (tgt := 25) hx hb dX5_order_12 (by decide) (fun c10 => ?_) (fun c10 => ?_)
    · have h := ite_t h c10
      refine lv_aload_n hx hb dX5_order_25 rfl (lv_at hl 0 rfl) ?_
      have hk11 := (show kd 0 = 1 from rfl)
      refine xg5 F hG ha0 0 (by decide) (kw508 F.kd) (v := .ref (g 0)) rfl dX5_order_26 ?_
      have hk12 := kt_crowds hk11
      refine xg1N F hG hk11 1 (by decide) (kw469 F.kd) (v := .ref (g (0 + 3))) rfl dX5_order_29 ?_
      refine lv_iload_n hx hb dX5_order_32 rfl (lv_at hl 1 rfl) ?_
      obtain ⟨hi13, h⟩ := chk_e h
      have hk14 := kt_elC hk12 hi13
      refine r_aldC F hG hk12 hi13 dX5_order_33 ?_
      refine lv_astore_n (lv' := [(3, .ref (g (elC (0 + 3) x1))), (0, .ref (g a0)), (1, .int x1), (2, .int x2)]) hx hb dX5_order_34 rfl hl (by decide) rfl (fun ls hl => ?_)
      refine lv_aload_n hx hb dX5_order_35 rfl (lv_at hl 0 rfl) ?_
      obtain ⟨r16, hc15, h⟩ := cb1_e h
      refine k_i (r_runVN F hG (c_X0_isScattered l D ca g hk14 hc15) (kd_lt hk14 (by decide)) (gd0 hk14) rfl (kw345 F.kd) (kw135 F.kd) (ks_X0_isScattered F.kd) (kw4 F.kd) (kw136 F.kd) yd_X0_isScattered ⟨Nat.le_of_ble_eq_true rfl, Nat.le_of_ble_eq_true rfl⟩ rfl hl.1 rfl (Nat.le_of_ble_eq_true rfl) dX5_order_36 ⟨Nat.le_of_ble_eq_true rfl, Nat.le_of_ble_eq_true rfl⟩) hG (fun H locs hG => ?_)
      refine lv_if_ne (tgt := 51) hx hb dX5_order_39 (by decide) (fun c17 => ?_) (fun c17 => ?_)
      · have h := ite_f h c17
        obtain rfl := som1 h
        exact x_throw F hst htab hlk hG (text := "scattered, or 24 orders already") (by decide +kernel) (kw523 F.kd) (kw11 F.kd) (xat_of F.kd xm2 xo2) xg2_ (by decide) hl.1 dX5_order_51 dX5_order_54 dX5_order_55 dX5_order_57 dX5_order_60 (Nat.le_of_ble_eq_true rfl) (Nat.le_of_ble_eq_true rfl) (Nat.le_of_ble_eq_true rfl) (Nat.le_of_ble_eq_true rfl) (Nat.le_of_ble_eq_true rfl) (Nat.le_of_ble_eq_true rfl)
      · have h := ite_t h c17
        refine lv_aload_n hx hb dX5_order_42 rfl (lv_at hl 0 rfl) ?_
        refine xg0N F hG hk14 4 (by decide) (kw427 F.kd) (v := .int (M (elC (0 + 3) x1) 4)) rfl dX5_order_43 ?_
        refine lv_bipush (v := 24) hx hb dX5_order_46 (by decide) ?_
        refine lv_icmp_lt (tgt := 61) hx hb dX5_order_48 (by decide) (fun c18 => ?_) (fun c18 => ?_)
        · have h := ite_t h c18
          refine lv_aload_n hx hb dX5_order_61 rfl (lv_at hl 0 rfl) ?_
          refine lv_iload_n hx hb dX5_order_62 rfl (lv_at hl 3 rfl) ?_
          obtain ⟨M21, hc19, h⟩ := cb1_e h
          refine k_v (r_runVN F hG (c_X0_addOrder l D ca g hk14 hc19) (kd_lt hk14 (by decide)) (gd0 hk14) rfl (kw350 F.kd) (kw352 F.kd) (ks_X0_addOrder F.kd) (kw4 F.kd) (kw353 F.kd) yd_X0_addOrder ⟨Nat.le_of_ble_eq_true rfl, Nat.le_of_ble_eq_true rfl⟩ rfl hl.1 rfl (Nat.le_of_ble_eq_true rfl) dX5_order_63 ⟨Nat.le_of_ble_eq_true rfl, Nat.le_of_ble_eq_true rfl⟩) hG (fun H locs hG => ?_)
          refine lv_aload_n hx hb dX5_order_66 rfl (lv_at hl 0 rfl) ?_
          refine xg0N F hG hk14 4 (by decide) (kw427 F.kd) (v := .int (M21 (elC (0 + 3) x1) 4)) rfl dX5_order_67 ?_
          obtain rfl := som1 h
          exact xend_i F hr hlk rfl hG dX5_order_70 (Nat.le_of_ble_eq_true rfl) (Nat.le_of_ble_eq_true rfl)
        · have h := ite_f h c18
          obtain rfl := som1 h
          exact x_throw F hst htab hlk hG (text := "scattered, or 24 orders already") (by decide +kernel) (kw523 F.kd) (kw11 F.kd) (xat_of F.kd xm2 xo2) xg2_ (by decide) hl.1 dX5_order_51 dX5_order_54 dX5_order_55 dX5_order_57 dX5_order_60 (Nat.le_of_ble_eq_true rfl) (Nat.le_of_ble_eq_true rfl) (Nat.le_of_ble_eq_true rfl) (Nat.le_of_ble_eq_true rfl) (Nat.le_of_ble_eq_true rfl) (Nat.le_of_ble_eq_true rfl)
    · have h := ite_f h c10
      obtain rfl := som1 h
      exact x_throw F hst htab hlk hG (text := "code not 0 to 11") (by decide +kernel) (kw250 F.kd) (kw12 F.kd) (xat_of F.kd xm3 xo3) xg3_ (by decide) hl.1 dX5_order_15 dX5_order_18 dX5_order_19 dX5_order_21 dX5_order_24 (Nat.le_of_ble_eq_true rfl) (Nat.le_of_ble_eq_true rfl) (Nat.le_of_ble_eq_true rfl) (Nat.le_of_ble_eq_true rfl) (Nat.le_of_ble_eq_true rfl) (Nat.le_of_ble_eq_true rfl)
set_option maxHeartbeats 4000000 in
set_option maxRecDepth 100000 in
theorem c_X5_torch (l : Launch) (D : va_G) (ca : vCA) (g : Nat → Nat) (hst : l.stackTraces = false) {fu : Nat} {M : Mem} {a0 : Nat} {x1 : Int32} {o : Nat ⊕ (Mem × Int32)} (ha0 : kd a0 = 5) (h : m_X5_torch fu M a0 x1 = some o) : xM l yX5_torch cX5_torch 3 (some .boolean) { frames := 7, cells := 2, slots := 12, locals := 111 } D ca g M [.ref (g a0), .int x1] (fun sz => xQi D ca g sz o) o := by
  refine mk_xMet (by decide) (Nat.le_of_ble_eq_true rfl) ?_
  intro p e s m below meth c F hr hlk htab hG ls hl
  have hx := F.1
  have hb := F.2.1
  replace hl : lv_has ls 3 [(0, .ref (g a0)), (1, .int x1)] := hl
  unfold m_X5_torch at h
  refine lv_aload_n hx hb dX5_torch_0 rfl (lv_at hl 0 rfl) ?_
  refine lv_iload_n hx hb dX5_torch_1 rfl (lv_at hl 1 rfl) ?_
  obtain ⟨o4, hc3, hL5, hR6⟩ := xb_e h
  refine kx_v (x_runV F hG (c_X5_needCrowd l D ca g hst ha0 hc3) (kd_lt ha0 (by decide)) (gd5 ha0) rfl (kw102 F.kd) (kw104 F.kd) (ks_X5_needCrowd F.kd) (kw1 F.kd) (kw106 F.kd) yd_X5_needCrowd ⟨Nat.le_of_ble_eq_true rfl, Nat.le_of_ble_eq_true rfl⟩ rfl hl.1 rfl (Nat.le_of_ble_eq_true rfl) dX5_torch_2 ⟨Nat.le_of_ble_eq_true rfl, Nat.le_of_ble_eq_true rfl⟩) hG htab hlk hL5 (Nat.le_of_ble_eq_true rfl) (Nat.le_of_ble_eq_true rfl) (fun H locs eo7 hG => ?_)
  have h := hR6 _ eo7
  refine lv_aload_n hx hb dX5_torch_5 rfl (lv_at hl 0 rfl) ?_
  have hk8 := (show kd 0 = 1 from rfl)
  refine xg5 F hG ha0 0 (by decide) (kw508 F.kd) (v := .ref (g 0)) rfl dX5_torch_6 ?_
  have hk9 := kt_crowds hk8
  refine xg1N F hG hk8 1 (by decide) (kw469 F.kd) (v := .ref (g (0 + 3))) rfl dX5_torch_9 ?_
  refine lv_iload_n hx hb dX5_torch_12 rfl (lv_at hl 1 rfl) ?_
  obtain ⟨hi10, h⟩ := chk_e h
  have hk11 := kt_elC hk9 hi10
  refine r_aldC F hG hk9 hi10 dX5_torch_13 ?_
  refine lv_astore_n (lv' := [(2, .ref (g (elC (0 + 3) x1))), (0, .ref (g a0)), (1, .int x1)]) hx hb dX5_torch_14 rfl hl (by decide) rfl (fun ls hl => ?_)
  refine lv_aload_n hx hb dX5_torch_15 rfl (lv_at hl 0 rfl) ?_
  obtain ⟨r13, hc12, h⟩ := cb1_e h
  refine k_i (r_runVN F hG (c_X0_isScattered l D ca g hk11 hc12) (kd_lt hk11 (by decide)) (gd0 hk11) rfl (kw345 F.kd) (kw135 F.kd) (ks_X0_isScattered F.kd) (kw4 F.kd) (kw136 F.kd) yd_X0_isScattered ⟨Nat.le_of_ble_eq_true rfl, Nat.le_of_ble_eq_true rfl⟩ rfl hl.1 rfl (Nat.le_of_ble_eq_true rfl) dX5_torch_16 ⟨Nat.le_of_ble_eq_true rfl, Nat.le_of_ble_eq_true rfl⟩) hG (fun H locs hG => ?_)
  refine lv_if_eq (tgt := 32) hx hb dX5_torch_19 (by decide) (fun c14 => ?_) (fun c14 => ?_)
  · have h := ite_t h c14
    refine lv_aload_n hx hb dX5_torch_32 rfl (lv_at hl 0 rfl) ?_
    refine lv_aload_n hx hb dX5_torch_33 rfl (lv_at hl 0 rfl) ?_
    refine xg0N F hG hk11 2 (by decide) (kw424 F.kd) (v := .int (M (elC (0 + 3) x1) 2)) rfl dX5_torch_34 ?_
    refine lv_if_ne (tgt := 44) hx hb dX5_torch_37 (by decide) (fun c15 => ?_) (fun c15 => ?_)
    · have h := ite_f h c15
      refine lv_iconst (v := 0) hx hb dX5_torch_44 (by decide) ?_
      obtain ⟨M16, eM16, h⟩ := mlet_e h
      refine xp0N F hG hk11 eM16 rfl (by decide) (kw424 F.kd) rfl (by decide) (by decide) dX5_torch_45 (fun H locs hG => ?_)
      refine lv_aload_n hx hb dX5_torch_48 rfl (lv_at hl 0 rfl) ?_
      refine xg0N F hG hk11 2 (by decide) (kw424 F.kd) (v := .int (M16 (elC (0 + 3) x1) 2)) rfl dX5_torch_49 ?_
      obtain ⟨hz17, h⟩ := chk_e h
      obtain rfl := som1 h
      exact xend_i F hr hlk (isb_nar hz17).1 hG dX5_torch_52 (Nat.le_of_ble_eq_true rfl) (Nat.le_of_ble_eq_true rfl)
    · have h := ite_t h c15
      refine lv_iconst (v := 1) hx hb dX5_torch_40 (by decide) ?_
      refine lv_goto (tgt := 45) hx hb dX5_torch_41 (by decide) ?_
      obtain ⟨M18, eM18, h⟩ := mlet_e h
      refine xp0N F hG hk11 eM18 rfl (by decide) (kw424 F.kd) rfl (by decide) (by decide) dX5_torch_45 (fun H locs hG => ?_)
      refine lv_aload_n hx hb dX5_torch_48 rfl (lv_at hl 0 rfl) ?_
      refine xg0N F hG hk11 2 (by decide) (kw424 F.kd) (v := .int (M18 (elC (0 + 3) x1) 2)) rfl dX5_torch_49 ?_
      obtain ⟨hz19, h⟩ := chk_e h
      obtain rfl := som1 h
      exact xend_i F hr hlk (isb_nar hz19).1 hG dX5_torch_52 (Nat.le_of_ble_eq_true rfl) (Nat.le_of_ble_eq_true rfl)
  · have h := ite_f h c14
    obtain rfl := som1 h
    exact x_throw F hst htab hlk hG (text := "scattered") (by decide +kernel) (kw523 F.kd) (kw11 F.kd) (xat_of F.kd xm2 xo2) xg2_ (by decide) hl.1 dX5_torch_22 dX5_torch_25 dX5_torch_26 dX5_torch_28 dX5_torch_31 (Nat.le_of_ble_eq_true rfl) (Nat.le_of_ble_eq_true rfl) (Nat.le_of_ble_eq_true rfl) (Nat.le_of_ble_eq_true rfl) (Nat.le_of_ble_eq_true rfl) (Nat.le_of_ble_eq_true rfl)
set_option maxHeartbeats 4000000 in
set_option maxRecDepth 100000 in
theorem c_X5_patrol (l : Launch) (D : va_G) (ca : vCA) (g : Nat → Nat) (hst : l.stackTraces = false) {fu : Nat} {M : Mem} {a0 : Nat} {x1 : Int32} {x2 : Int32} {x3 : Int32} {x4 : Int32} {o : Nat ⊕ (Mem × Int32)} (ha0 : kd a0 = 5) (h : m_X5_patrol fu M a0 x1 x2 x3 x4 = some o) : xM l yX5_patrol cX5_patrol 6 (some .int) { frames := 7, cells := 2, slots := 12, locals := 111 } D ca g M [.ref (g a0), .int x1, .int x2, .int x3, .int x4] (fun sz => xQi D ca g sz o) o := by
  refine mk_xMet (by decide) (Nat.le_of_ble_eq_true rfl) ?_
  intro p e s m below meth c F hr hlk htab hG ls hl
  have hx := F.1
  have hb := F.2.1
  replace hl : lv_has ls 6 [(0, .ref (g a0)), (1, .int x1), (2, .int x2), (3, .int x3), (4, .int x4)] := hl
  unfold m_X5_patrol at h
  refine lv_iload_n hx hb dX5_patrol_0 rfl (lv_at hl 1 rfl) ?_
  refine lv_iload_n hx hb dX5_patrol_1 rfl (lv_at hl 2 rfl) ?_
  obtain ⟨o7, hc6, hL8, hR9⟩ := xb_e h
  refine kx_p (x_runS F hG (c_X5_placeOf l D ca g hst hc6) (kw20 F.kd) (kw21 F.kd) (kw1 F.kd) (kw22 F.kd) yd_X5_placeOf ⟨Nat.le_of_ble_eq_true rfl, Nat.le_of_ble_eq_true rfl⟩ rfl hl.1 rfl (Nat.le_of_ble_eq_true rfl) dX5_patrol_2 ⟨Nat.le_of_ble_eq_true rfl, Nat.le_of_ble_eq_true rfl⟩) hG htab hlk hL8 (Nat.le_of_ble_eq_true rfl) (Nat.le_of_ble_eq_true rfl) (fun r11 H locs eo10 hG => ?_)
  have h := hR9 _ eo10
  refine lv_istore (lv' := [(5, .int r11), (0, .ref (g a0)), (1, .int x1), (2, .int x2), (3, .int x3), (4, .int x4)]) hx hb dX5_patrol_5 hl (by decide) rfl (fun ls hl => ?_)
  refine lv_iload_n hx hb dX5_patrol_7 rfl (lv_at hl 4 rfl) ?_
  refine lv_iconst (v := 1) hx hb dX5_patrol_8 (by decide) ?_
  refine lv_icmp_lt (tgt := 33) hx hb dX5_patrol_9 (by decide) (fun c12 => ?_) (fun c12 => ?_)
  · have h := ite_t h c12
    obtain rfl := som1 h
    exact x_throw F hst htab hlk hG (text := "length not 1 to 12, or round not of so many digits") (by decide +kernel) (kw250 F.kd) (kw12 F.kd) (xat_of F.kd xm3 xo3) xg3_ (by decide) hl.1 dX5_patrol_33 dX5_patrol_36 dX5_patrol_37 dX5_patrol_39 dX5_patrol_42 (Nat.le_of_ble_eq_true rfl) (Nat.le_of_ble_eq_true rfl) (Nat.le_of_ble_eq_true rfl) (Nat.le_of_ble_eq_true rfl) (Nat.le_of_ble_eq_true rfl) (Nat.le_of_ble_eq_true rfl)
  · have h := ite_f h c12
    refine lv_iload_n hx hb dX5_patrol_12 rfl (lv_at hl 4 rfl) ?_
    refine lv_bipush (v := 12) hx hb dX5_patrol_13 (by decide) ?_
    refine lv_icmp_gt (tgt := 33) hx hb dX5_patrol_15 (by decide) (fun c13 => ?_) (fun c13 => ?_)
    · have h := ite_t h c13
      obtain rfl := som1 h
      exact x_throw F hst htab hlk hG (text := "length not 1 to 12, or round not of so many digits") (by decide +kernel) (kw250 F.kd) (kw12 F.kd) (xat_of F.kd xm3 xo3) xg3_ (by decide) hl.1 dX5_patrol_33 dX5_patrol_36 dX5_patrol_37 dX5_patrol_39 dX5_patrol_42 (Nat.le_of_ble_eq_true rfl) (Nat.le_of_ble_eq_true rfl) (Nat.le_of_ble_eq_true rfl) (Nat.le_of_ble_eq_true rfl) (Nat.le_of_ble_eq_true rfl) (Nat.le_of_ble_eq_true rfl)
    · have h := ite_f h c13
      refine lv_iload hx hb dX5_patrol_18 (lv_at hl 5 rfl) ?_
      refine lv_if_lt (tgt := 33) hx hb dX5_patrol_20 (by decide) (fun c14 => ?_) (fun c14 => ?_)
      · have h := ite_t h c14
        obtain rfl := som1 h
        exact x_throw F hst htab hlk hG (text := "length not 1 to 12, or round not of so many digits") (by decide +kernel) (kw250 F.kd) (kw12 F.kd) (xat_of F.kd xm3 xo3) xg3_ (by decide) hl.1 dX5_patrol_33 dX5_patrol_36 dX5_patrol_37 dX5_patrol_39 dX5_patrol_42 (Nat.le_of_ble_eq_true rfl) (Nat.le_of_ble_eq_true rfl) (Nat.le_of_ble_eq_true rfl) (Nat.le_of_ble_eq_true rfl) (Nat.le_of_ble_eq_true rfl) (Nat.le_of_ble_eq_true rfl)
      · have h := ite_f h c14
        refine lv_iload hx hb dX5_patrol_23 (lv_at hl 5 rfl) ?_
        refine lv_iconst (v := 1) hx hb dX5_patrol_25 (by decide) ?_
        refine lv_iconst (v := 2) hx hb dX5_patrol_26 (by decide) ?_
        refine lv_iload_n hx hb dX5_patrol_27 rfl (lv_at hl 4 rfl) ?_
        refine lv_imul hx hb dX5_patrol_28 ?_
        refine lv_ishl hx hb dX5_patrol_29 ?_
        refine lv_icmp_lt (tgt := 43) hx hb dX5_patrol_30 (by decide) (fun c15 => ?_) (fun c15 => ?_)
        · have h := ite_t h c15
          refine lv_aload_n hx hb dX5_patrol_43 rfl (lv_at hl 1 rfl) ?_
          have hk16 := (show kd 0 = 1 from rfl)
          refine xg5 F hG ha0 0 (by decide) (kw508 F.kd) (v := .ref (g 0)) rfl dX5_patrol_44 ?_
          refine xg1N F hG hk16 4 (by decide) (kw475 F.kd) (v := .int (M 0 4)) rfl dX5_patrol_47 ?_
          refine lv_iconst (v := 3) hx hb dX5_patrol_50 (by decide) ?_
          refine lv_icmp_ge (tgt := 69) hx hb dX5_patrol_51 (by decide) (fun c17 => ?_) (fun c17 => ?_)
          · have h := ite_t h c17
            obtain rfl := som1 h
            exact x_throw F hst htab hlk hG (text := "3 patrols already, or the cell is not free") (by decide +kernel) (kw523 F.kd) (kw11 F.kd) (xat_of F.kd xm2 xo2) xg2_ (by decide) hl.1 dX5_patrol_69 dX5_patrol_72 dX5_patrol_73 dX5_patrol_75 dX5_patrol_78 (Nat.le_of_ble_eq_true rfl) (Nat.le_of_ble_eq_true rfl) (Nat.le_of_ble_eq_true rfl) (Nat.le_of_ble_eq_true rfl) (Nat.le_of_ble_eq_true rfl) (Nat.le_of_ble_eq_true rfl)
          · have h := ite_f h c17
            refine lv_aload_n hx hb dX5_patrol_54 rfl (lv_at hl 1 rfl) ?_
            have hk18 := (show kd 0 = 1 from rfl)
            refine xg5 F hG ha0 0 (by decide) (kw508 F.kd) (v := .ref (g 0)) rfl dX5_patrol_55 ?_
            have hk19 := kt_quarter hk18
            refine xg1N F hG hk18 0 (by decide) (kw467 F.kd) (v := .ref (g (0 + 1))) rfl dX5_patrol_58 ?_
            refine lv_iload hx hb dX5_patrol_61 (lv_at hl 0 rfl) ?_
            obtain ⟨r21, hc20, h⟩ := cb1_e h
            refine k_i (r_runVN F hG (c_X3_isFree l D ca g hk19 hc20) (kd_lt hk19 (by decide)) (gd3 hk19) rfl (kw555 F.kd) (kw202 F.kd) (ks_X3_isFree F.kd) (kw3 F.kd) (kw203 F.kd) yd_X3_isFree ⟨Nat.le_of_ble_eq_true rfl, Nat.le_of_ble_eq_true rfl⟩ rfl hl.1 rfl (Nat.le_of_ble_eq_true rfl) dX5_patrol_63 ⟨Nat.le_of_ble_eq_true rfl, Nat.le_of_ble_eq_true rfl⟩) hG (fun H locs hG => ?_)
            refine lv_if_ne (tgt := 79) hx hb dX5_patrol_66 (by decide) (fun c22 => ?_) (fun c22 => ?_)
            · have h := ite_f h c22
              refine lv_aload_n hx hb dX5_patrol_79 rfl (lv_at hl 1 rfl) ?_
              have hk23 := (show kd 0 = 1 from rfl)
              refine xg5 F hG ha0 0 (by decide) (kw508 F.kd) (v := .ref (g 0)) rfl dX5_patrol_80 ?_
              refine lv_iload hx hb dX5_patrol_83 (lv_at hl 0 rfl) ?_
              refine lv_iload_n hx hb dX5_patrol_85 rfl (lv_at hl 4 rfl) ?_
              refine lv_iload hx hb dX5_patrol_86 (lv_at hl 5 rfl) ?_
              obtain ⟨M26, r25, hc24, h⟩ := cb2_e h
              refine k_i (r_runVN F hG (c_X1_addPatrol l D ca g hk23 hc24) (kd_lt hk23 (by decide)) (gd1 hk23) rfl (kw570 F.kd) (kw572 F.kd) (ks_X1_addPatrol F.kd) (kw2 F.kd) (kw573 F.kd) yd_X1_addPatrol ⟨Nat.le_of_ble_eq_true rfl, Nat.le_of_ble_eq_true rfl⟩ rfl hl.1 rfl (Nat.le_of_ble_eq_true rfl) dX5_patrol_88 ⟨Nat.le_of_ble_eq_true rfl, Nat.le_of_ble_eq_true rfl⟩) hG (fun H locs hG => ?_)
              obtain rfl := som1 h
              exact xend_i F hr hlk rfl hG dX5_patrol_91 (Nat.le_of_ble_eq_true rfl) (Nat.le_of_ble_eq_true rfl)
            · have h := ite_t h c22
              obtain rfl := som1 h
              exact x_throw F hst htab hlk hG (text := "3 patrols already, or the cell is not free") (by decide +kernel) (kw523 F.kd) (kw11 F.kd) (xat_of F.kd xm2 xo2) xg2_ (by decide) hl.1 dX5_patrol_69 dX5_patrol_72 dX5_patrol_73 dX5_patrol_75 dX5_patrol_78 (Nat.le_of_ble_eq_true rfl) (Nat.le_of_ble_eq_true rfl) (Nat.le_of_ble_eq_true rfl) (Nat.le_of_ble_eq_true rfl) (Nat.le_of_ble_eq_true rfl) (Nat.le_of_ble_eq_true rfl)
        · have h := ite_f h c15
          obtain rfl := som1 h
          exact x_throw F hst htab hlk hG (text := "length not 1 to 12, or round not of so many digits") (by decide +kernel) (kw250 F.kd) (kw12 F.kd) (xat_of F.kd xm3 xo3) xg3_ (by decide) hl.1 dX5_patrol_33 dX5_patrol_36 dX5_patrol_37 dX5_patrol_39 dX5_patrol_42 (Nat.le_of_ble_eq_true rfl) (Nat.le_of_ble_eq_true rfl) (Nat.le_of_ble_eq_true rfl) (Nat.le_of_ble_eq_true rfl) (Nat.le_of_ble_eq_true rfl) (Nat.le_of_ble_eq_true rfl)
set_option maxHeartbeats 4000000 in
set_option maxRecDepth 100000 in
theorem n_X5_placeOf (l : Launch) (D : va_G) (ca : vCA) (g : Nat → Nat) {fu : Nat} {M : Mem} {x0 : Int32} {x1 : Int32} {r : Int32}  (h : m_X5_placeOf fu M x0 x1 = some (.inr r)) : cM l yX5_placeOf cX5_placeOf 2 (some .int) { frames := 6, cells := 0, slots := 0, locals := 90 } D ca g M [.int x0, .int x1] (fun sz => cQi D ca g sz M r) := by
  refine mk_Met (by decide) (Nat.le_of_ble_eq_true rfl) ?_
  intro p e s m below meth c F hr hlk hnm hG ls hl
  have hx := F.1
  have hb := F.2.1
  replace hl : lv_has ls 2 [(0, .int x0), (1, .int x1)] := hl
  unfold m_X5_placeOf at h
  refine lv_iload_n hx hb dX5_placeOf_0 rfl (lv_at hl 0 rfl) ?_
  refine lv_if_lt (tgt := 20) hx hb dX5_placeOf_1 (by decide) (fun c3 => ?_) (fun c3 => ?_)
  · have h := ite_t h c3
    cases h
  · have h := ite_f h c3
    refine lv_iload_n hx hb dX5_placeOf_4 rfl (lv_at hl 0 rfl) ?_
    refine lv_bipush (v := 12) hx hb dX5_placeOf_5 (by decide) ?_
    refine lv_icmp_ge (tgt := 20) hx hb dX5_placeOf_7 (by decide) (fun c4 => ?_) (fun c4 => ?_)
    · have h := ite_t h c4
      cases h
    · have h := ite_f h c4
      refine lv_iload_n hx hb dX5_placeOf_10 rfl (lv_at hl 1 rfl) ?_
      refine lv_if_lt (tgt := 20) hx hb dX5_placeOf_11 (by decide) (fun c5 => ?_) (fun c5 => ?_)
      · have h := ite_t h c5
        cases h
      · have h := ite_f h c5
        refine lv_iload_n hx hb dX5_placeOf_14 rfl (lv_at hl 1 rfl) ?_
        refine lv_bipush (v := 9) hx hb dX5_placeOf_15 (by decide) ?_
        refine lv_icmp_lt (tgt := 30) hx hb dX5_placeOf_17 (by decide) (fun c6 => ?_) (fun c6 => ?_)
        · have h := ite_t h c6
          refine lv_bipush (v := 12) hx hb dX5_placeOf_30 (by decide) ?_
          refine lv_iload_n hx hb dX5_placeOf_32 rfl (lv_at hl 1 rfl) ?_
          refine lv_imul hx hb dX5_placeOf_33 ?_
          refine lv_iload_n hx hb dX5_placeOf_34 rfl (lv_at hl 0 rfl) ?_
          refine lv_iadd hx hb dX5_placeOf_35 ?_
          obtain rfl := som1s h
          exact end_i F hr hlk hG dX5_placeOf_36
        · have h := ite_f h c6
          cases h
set_option maxHeartbeats 4000000 in
set_option maxRecDepth 100000 in
theorem n_X5_needCrowd (l : Launch) (D : va_G) (ca : vCA) (g : Nat → Nat) {fu : Nat} {M : Mem} {a0 : Nat} {x1 : Int32}  (ha0 : kd a0 = 5) (h : m_X5_needCrowd fu M a0 x1 = some (.inr ())) : cM l yX5_needCrowd cX5_needCrowd 2 none { frames := 6, cells := 0, slots := 0, locals := 90 } D ca g M [.ref (g a0), .int x1] (fun sz => cQv D ca g sz M) := by
  refine mk_Met (by decide) (Nat.le_of_ble_eq_true rfl) ?_
  intro p e s m below meth c F hr hlk hnm hG ls hl
  have hx := F.1
  have hb := F.2.1
  replace hl : lv_has ls 2 [(0, .ref (g a0)), (1, .int x1)] := hl
  unfold m_X5_needCrowd at h
  refine lv_iload_n hx hb dX5_needCrowd_0 rfl (lv_at hl 1 rfl) ?_
  refine lv_if_lt (tgt := 15) hx hb dX5_needCrowd_1 (by decide) (fun c3 => ?_) (fun c3 => ?_)
  · have h := ite_t h c3
    cases h
  · have h := ite_f h c3
    refine lv_iload_n hx hb dX5_needCrowd_4 rfl (lv_at hl 1 rfl) ?_
    refine lv_aload_n hx hb dX5_needCrowd_5 rfl (lv_at hl 0 rfl) ?_
    have hk4 := (show kd 0 = 1 from rfl)
    refine xg5 F hG ha0 0 (by decide) (kw508 F.kd) (v := .ref (g 0)) rfl dX5_needCrowd_6 ?_
    refine xg1N F hG hk4 2 (by decide) (kw471 F.kd) (v := .int (M 0 2)) rfl dX5_needCrowd_9 ?_
    refine lv_icmp_lt (tgt := 25) hx hb dX5_needCrowd_12 (by decide) (fun c5 => ?_) (fun c5 => ?_)
    · have h := ite_t h c5
      exact end_v F hr hlk hG dX5_needCrowd_25
    · have h := ite_f h c5
      cases h
set_option maxHeartbeats 4000000 in
set_option maxRecDepth 100000 in
theorem n_X5_needPatrol (l : Launch) (D : va_G) (ca : vCA) (g : Nat → Nat) {fu : Nat} {M : Mem} {a0 : Nat} {x1 : Int32}  (ha0 : kd a0 = 5) (h : m_X5_needPatrol fu M a0 x1 = some (.inr ())) : cM l yX5_needPatrol cX5_needPatrol 2 none { frames := 6, cells := 0, slots := 0, locals := 90 } D ca g M [.ref (g a0), .int x1] (fun sz => cQv D ca g sz M) := by
  refine mk_Met (by decide) (Nat.le_of_ble_eq_true rfl) ?_
  intro p e s m below meth c F hr hlk hnm hG ls hl
  have hx := F.1
  have hb := F.2.1
  replace hl : lv_has ls 2 [(0, .ref (g a0)), (1, .int x1)] := hl
  unfold m_X5_needPatrol at h
  refine lv_iload_n hx hb dX5_needPatrol_0 rfl (lv_at hl 1 rfl) ?_
  refine lv_if_lt (tgt := 15) hx hb dX5_needPatrol_1 (by decide) (fun c3 => ?_) (fun c3 => ?_)
  · have h := ite_t h c3
    cases h
  · have h := ite_f h c3
    refine lv_iload_n hx hb dX5_needPatrol_4 rfl (lv_at hl 1 rfl) ?_
    refine lv_aload_n hx hb dX5_needPatrol_5 rfl (lv_at hl 0 rfl) ?_
    have hk4 := (show kd 0 = 1 from rfl)
    refine xg5 F hG ha0 0 (by decide) (kw508 F.kd) (v := .ref (g 0)) rfl dX5_needPatrol_6 ?_
    refine xg1N F hG hk4 4 (by decide) (kw475 F.kd) (v := .int (M 0 4)) rfl dX5_needPatrol_9 ?_
    refine lv_icmp_lt (tgt := 25) hx hb dX5_needPatrol_12 (by decide) (fun c5 => ?_) (fun c5 => ?_)
    · have h := ite_t h c5
      exact end_v F hr hlk hG dX5_needPatrol_25
    · have h := ite_f h c5
      cases h
set_option maxHeartbeats 4000000 in
set_option maxRecDepth 100000 in
theorem n_X5_needWhat (l : Launch) (D : va_G) (ca : vCA) (g : Nat → Nat) {fu : Nat} {M : Mem} {x0 : Int32} {x1 : Int32}   (h : m_X5_needWhat fu M x0 x1 = some (.inr ())) : cM l yX5_needWhat cX5_needWhat 2 none { frames := 6, cells := 0, slots := 0, locals := 90 } D ca g M [.int x0, .int x1] (fun sz => cQv D ca g sz M) := by
  refine mk_Met (by decide) (Nat.le_of_ble_eq_true rfl) ?_
  intro p e s m below meth c F hr hlk hnm hG ls hl
  have hx := F.1
  have hb := F.2.1
  replace hl : lv_has ls 2 [(0, .int x0), (1, .int x1)] := hl
  unfold m_X5_needWhat at h
  refine lv_iload_n hx hb dX5_needWhat_0 rfl (lv_at hl 0 rfl) ?_
  refine lv_if_lt (tgt := 9) hx hb dX5_needWhat_1 (by decide) (fun c3 => ?_) (fun c3 => ?_)
  · have h := ite_t h c3
    cases h
  · have h := ite_f h c3
    refine lv_iload_n hx hb dX5_needWhat_4 rfl (lv_at hl 0 rfl) ?_
    refine lv_iload_n hx hb dX5_needWhat_5 rfl (lv_at hl 1 rfl) ?_
    refine lv_icmp_lt (tgt := 19) hx hb dX5_needWhat_6 (by decide) (fun c4 => ?_) (fun c4 => ?_)
    · have h := ite_t h c4
      exact end_v F hr hlk hG dX5_needWhat_19
    · have h := ite_f h c4
      cases h
set_option maxHeartbeats 4000000 in
set_option maxRecDepth 100000 in
theorem n_X5_needSteps (l : Launch) (D : va_G) (ca : vCA) (g : Nat → Nat) {fu : Nat} {M : Mem} {x0 : Int32}   (h : m_X5_needSteps fu M x0 = some (.inr ())) : cM l yX5_needSteps cX5_needSteps 1 none { frames := 6, cells := 0, slots := 0, locals := 90 } D ca g M [.int x0] (fun sz => cQv D ca g sz M) := by
  refine mk_Met (by decide) (Nat.le_of_ble_eq_true rfl) ?_
  intro p e s m below meth c F hr hlk hnm hG ls hl
  have hx := F.1
  have hb := F.2.1
  replace hl : lv_has ls 1 [(0, .int x0)] := hl
  unfold m_X5_needSteps at h
  refine lv_iload_n hx hb dX5_needSteps_0 rfl (lv_at hl 0 rfl) ?_
  refine lv_iconst (v := 1) hx hb dX5_needSteps_1 (by decide) ?_
  refine lv_icmp_lt (tgt := 11) hx hb dX5_needSteps_2 (by decide) (fun c2 => ?_) (fun c2 => ?_)
  · have h := ite_t h c2
    cases h
  · have h := ite_f h c2
    refine lv_iload_n hx hb dX5_needSteps_5 rfl (lv_at hl 0 rfl) ?_
    refine lv_bipush (v := 60) hx hb dX5_needSteps_6 (by decide) ?_
    refine lv_icmp_le (tgt := 21) hx hb dX5_needSteps_8 (by decide) (fun c3 => ?_) (fun c3 => ?_)
    · have h := ite_t h c3
      exact end_v F hr hlk hG dX5_needSteps_21
    · have h := ite_f h c3
      cases h
set_option maxHeartbeats 4000000 in
set_option maxRecDepth 100000 in
theorem n_X5_house (l : Launch) (D : va_G) (ca : vCA) (g : Nat → Nat) {fu : Nat} {M : Mem} {a0 : Nat} {x1 : Int32} {x2 : Int32} {M' : Mem} {r : Int32} (ha0 : kd a0 = 5) (h : m_X5_house fu M a0 x1 x2 = some (.inr (M', r))) : cM l yX5_house cX5_house 6 (some .boolean) { frames := 7, cells := 0, slots := 0, locals := 111 } D ca g M [.ref (g a0), .int x1, .int x2] (fun sz => cQi D ca g sz M' r) := by
  refine mk_Met (by decide) (Nat.le_of_ble_eq_true rfl) ?_
  intro p e s m below meth c F hr hlk hnm hG ls hl
  have hx := F.1
  have hb := F.2.1
  replace hl : lv_has ls 6 [(0, .ref (g a0)), (1, .int x1), (2, .int x2)] := hl
  unfold m_X5_house at h
  refine lv_iload_n hx hb dX5_house_0 rfl (lv_at hl 1 rfl) ?_
  refine lv_iload_n hx hb dX5_house_1 rfl (lv_at hl 2 rfl) ?_
  obtain ⟨r5, hc4, h⟩ := xb_n h
  refine k_i (r_runS F hG (n_X5_placeOf l D ca g hc4) (kw20 F.kd) (kw21 F.kd) (kw1 F.kd) (kw22 F.kd) yd_X5_placeOf ⟨Nat.le_of_ble_eq_true rfl, Nat.le_of_ble_eq_true rfl⟩ rfl hl.1 rfl (Nat.le_of_ble_eq_true rfl) dX5_house_2 ⟨Nat.le_of_ble_eq_true rfl, Nat.le_of_ble_eq_true rfl⟩) hG (fun H locs hG => ?_)
  refine lv_istore_n (lv' := [(3, .int r5), (0, .ref (g a0)), (1, .int x1), (2, .int x2)]) hx hb dX5_house_5 rfl hl (by decide) rfl (fun ls hl => ?_)
  refine lv_aload_n hx hb dX5_house_6 rfl (lv_at hl 1 rfl) ?_
  have hk6 := (show kd 0 = 1 from rfl)
  refine xg5 F hG ha0 0 (by decide) (kw508 F.kd) (v := .ref (g 0)) rfl dX5_house_7 ?_
  have hk7 := kt_quarter hk6
  refine xg1N F hG hk6 0 (by decide) (kw467 F.kd) (v := .ref (g (0 + 1))) rfl dX5_house_10 ?_
  refine lv_iload_n hx hb dX5_house_13 rfl (lv_at hl 0 rfl) ?_
  obtain ⟨r9, hc8, h⟩ := cb1_e h
  refine k_i (r_runVN F hG (c_X3_at l D ca g hk7 hc8) (kd_lt hk7 (by decide)) (gd3 hk7) rfl (kw93 F.kd) (kw95 F.kd) (ks_X3_at F.kd) (kw3 F.kd) (kw97 F.kd) yd_X3_at ⟨Nat.le_of_ble_eq_true rfl, Nat.le_of_ble_eq_true rfl⟩ rfl hl.1 rfl (Nat.le_of_ble_eq_true rfl) dX5_house_14 ⟨Nat.le_of_ble_eq_true rfl, Nat.le_of_ble_eq_true rfl⟩) hG (fun H locs hG => ?_)
  refine lv_istore (lv' := [(4, .int r9), (3, .int r5), (0, .ref (g a0)), (1, .int x1), (2, .int x2)]) hx hb dX5_house_17 hl (by decide) rfl (fun ls hl => ?_)
  refine lv_iload hx hb dX5_house_19 (lv_at hl 0 rfl) ?_
  refine lv_if_gt (tgt := 35) hx hb dX5_house_21 (by decide) (fun c10 => ?_) (fun c10 => ?_)
  · have h := ite_t h c10
    cases h
  · have h := ite_f h c10
    refine lv_aload_n hx hb dX5_house_24 rfl (lv_at hl 2 rfl) ?_
    have hk11 := (show kd 0 = 1 from rfl)
    refine xg5 F hG ha0 0 (by decide) (kw508 F.kd) (v := .ref (g 0)) rfl dX5_house_25 ?_
    refine lv_iload_n hx hb dX5_house_28 rfl (lv_at hl 1 rfl) ?_
    obtain ⟨r13, hc12, h⟩ := cb1_e h
    refine k_i (r_runVN F hG (c_X1_isTaken l D ca g hk11 hc12) (kd_lt hk11 (by decide)) (gd1 hk11) rfl (kw522 F.kd) (kw293 F.kd) (ks_X1_isTaken F.kd) (kw2 F.kd) (kw294 F.kd) yd_X1_isTaken ⟨Nat.le_of_ble_eq_true rfl, Nat.le_of_ble_eq_true rfl⟩ rfl hl.1 rfl (Nat.le_of_ble_eq_true rfl) dX5_house_29 ⟨Nat.le_of_ble_eq_true rfl, Nat.le_of_ble_eq_true rfl⟩) hG (fun H locs hG => ?_)
    refine lv_if_eq (tgt := 45) hx hb dX5_house_32 (by decide) (fun c14 => ?_) (fun c14 => ?_)
    · have h := ite_t h c14
      refine lv_iload hx hb dX5_house_45 (lv_at hl 0 rfl) ?_
      refine lv_iconst (v := (-1)) hx hb dX5_house_47 (by decide) ?_
      refine lv_icmp_eq (tgt := 55) hx hb dX5_house_48 (by decide) (fun c15 => ?_) (fun c15 => ?_)
      · have h := ite_t h c15
        refine lv_iconst (v := 0) hx hb dX5_house_55 (by decide) ?_
        refine lv_istore (lv' := [(5, .int 0), (4, .int r9), (3, .int r5), (0, .ref (g a0)), (1, .int x1), (2, .int x2)]) hx hb dX5_house_56 hl (by decide) rfl (fun ls hl => ?_)
        refine lv_aload_n hx hb dX5_house_58 rfl (lv_at hl 3 rfl) ?_
        have hk16 := (show kd 0 = 1 from rfl)
        refine xg5 F hG ha0 0 (by decide) (kw508 F.kd) (v := .ref (g 0)) rfl dX5_house_59 ?_
        have hk17 := kt_quarter hk16
        refine xg1N F hG hk16 0 (by decide) (kw467 F.kd) (v := .ref (g (0 + 1))) rfl dX5_house_62 ?_
        refine lv_iload_n hx hb dX5_house_65 rfl (lv_at hl 2 rfl) ?_
        refine lv_iload hx hb dX5_house_66 (lv_at hl 0 rfl) ?_
        refine lv_if_eq (tgt := 75) hx hb dX5_house_68 (by decide) (fun _ => ?_) (fun c18 => absurd c18 (by decide))
        refine lv_iconst (v := 0) hx hb dX5_house_75 (by decide) ?_
        obtain ⟨M21, hc19, h⟩ := cb1_e h
        refine k_v (r_runVN F hG (c_X3_put l D ca g hk17 hc19) (kd_lt hk17 (by decide)) (gd3 hk17) rfl (kw539 F.kd) (kw297 F.kd) (ks_X3_put F.kd) (kw3 F.kd) (kw298 F.kd) yd_X3_put ⟨Nat.le_of_ble_eq_true rfl, Nat.le_of_ble_eq_true rfl⟩ rfl hl.1 rfl (Nat.le_of_ble_eq_true rfl) dX5_house_76 ⟨Nat.le_of_ble_eq_true rfl, Nat.le_of_ble_eq_true rfl⟩) hG (fun H locs hG => ?_)
        refine lv_iload hx hb dX5_house_79 (lv_at hl 0 rfl) ?_
        obtain ⟨rfl, rfl⟩ := som2s h
        exact end_z F hr hlk (by decide) hG dX5_house_81
      · have h := ite_f h c15
        refine lv_iconst (v := 1) hx hb dX5_house_51 (by decide) ?_
        refine lv_goto (tgt := 56) hx hb dX5_house_52 (by decide) ?_
        refine lv_istore (lv' := [(5, .int 1), (4, .int r9), (3, .int r5), (0, .ref (g a0)), (1, .int x1), (2, .int x2)]) hx hb dX5_house_56 hl (by decide) rfl (fun ls hl => ?_)
        refine lv_aload_n hx hb dX5_house_58 rfl (lv_at hl 3 rfl) ?_
        have hk22 := (show kd 0 = 1 from rfl)
        refine xg5 F hG ha0 0 (by decide) (kw508 F.kd) (v := .ref (g 0)) rfl dX5_house_59 ?_
        have hk23 := kt_quarter hk22
        refine xg1N F hG hk22 0 (by decide) (kw467 F.kd) (v := .ref (g (0 + 1))) rfl dX5_house_62 ?_
        refine lv_iload_n hx hb dX5_house_65 rfl (lv_at hl 2 rfl) ?_
        refine lv_iload hx hb dX5_house_66 (lv_at hl 0 rfl) ?_
        refine lv_if_eq (tgt := 75) hx hb dX5_house_68 (by decide) (fun c24 => absurd c24 (by decide)) (fun _ => ?_)
        refine lv_iconst (v := (-1)) hx hb dX5_house_71 (by decide) ?_
        refine lv_goto (tgt := 76) hx hb dX5_house_72 (by decide) ?_
        obtain ⟨M27, hc25, h⟩ := cb1_e h
        refine k_v (r_runVN F hG (c_X3_put l D ca g hk23 hc25) (kd_lt hk23 (by decide)) (gd3 hk23) rfl (kw539 F.kd) (kw297 F.kd) (ks_X3_put F.kd) (kw3 F.kd) (kw298 F.kd) yd_X3_put ⟨Nat.le_of_ble_eq_true rfl, Nat.le_of_ble_eq_true rfl⟩ rfl hl.1 rfl (Nat.le_of_ble_eq_true rfl) dX5_house_76 ⟨Nat.le_of_ble_eq_true rfl, Nat.le_of_ble_eq_true rfl⟩) hG (fun H locs hG => ?_)
        refine lv_iload hx hb dX5_house_79 (lv_at hl 0 rfl) ?_
        obtain ⟨rfl, rfl⟩ := som2s h
        exact end_z F hr hlk (by decide) hG dX5_house_81
    · have h := ite_f h c14
      cases h
set_option maxHeartbeats 4000000 in
set_option maxRecDepth 100000 in
theorem n_X5_block (l : Launch) (D : va_G) (ca : vCA) (g : Nat → Nat) {fu : Nat} {M : Mem} {a0 : Nat} {x1 : Int32} {x2 : Int32} {x3 : Int32} {M' : Mem} {r : Int32} (ha0 : kd a0 = 5) (h : m_X5_block fu M a0 x1 x2 x3 = some (.inr (M', r))) : cM l yX5_block cX5_block 6 (some .int) { frames := 7, cells := 0, slots := 0, locals := 111 } D ca g M [.ref (g a0), .int x1, .int x2, .int x3] (fun sz => cQi D ca g sz M' r) := by
  refine mk_Met (by decide) (Nat.le_of_ble_eq_true rfl) ?_
  intro p e s m below meth c F hr hlk hnm hG ls hl
  have hx := F.1
  have hb := F.2.1
  replace hl : lv_has ls 6 [(0, .ref (g a0)), (1, .int x1), (2, .int x2), (3, .int x3)] := hl
  unfold m_X5_block at h
  refine lv_iload_n hx hb dX5_block_0 rfl (lv_at hl 1 rfl) ?_
  refine lv_iload_n hx hb dX5_block_1 rfl (lv_at hl 2 rfl) ?_
  obtain ⟨r6, hc5, h⟩ := xb_n h
  refine k_i (r_runS F hG (n_X5_placeOf l D ca g hc5) (kw20 F.kd) (kw21 F.kd) (kw1 F.kd) (kw22 F.kd) yd_X5_placeOf ⟨Nat.le_of_ble_eq_true rfl, Nat.le_of_ble_eq_true rfl⟩ rfl hl.1 rfl (Nat.le_of_ble_eq_true rfl) dX5_block_2 ⟨Nat.le_of_ble_eq_true rfl, Nat.le_of_ble_eq_true rfl⟩) hG (fun H locs hG => ?_)
  refine lv_istore (lv' := [(4, .int r6), (0, .ref (g a0)), (1, .int x1), (2, .int x2), (3, .int x3)]) hx hb dX5_block_5 hl (by decide) rfl (fun ls hl => ?_)
  refine lv_iload_n hx hb dX5_block_7 rfl (lv_at hl 4 rfl) ?_
  refine lv_if_lt (tgt := 16) hx hb dX5_block_8 (by decide) (fun c7 => ?_) (fun c7 => ?_)
  · have h := ite_t h c7
    cases h
  · have h := ite_f h c7
    refine lv_iload_n hx hb dX5_block_11 rfl (lv_at hl 4 rfl) ?_
    refine lv_iconst (v := 3) hx hb dX5_block_12 (by decide) ?_
    refine lv_icmp_le (tgt := 26) hx hb dX5_block_13 (by decide) (fun c8 => ?_) (fun c8 => ?_)
    · have h := ite_t h c8
      refine lv_aload_n hx hb dX5_block_26 rfl (lv_at hl 1 rfl) ?_
      have hk9 := (show kd 0 = 1 from rfl)
      refine xg5 F hG ha0 0 (by decide) (kw508 F.kd) (v := .ref (g 0)) rfl dX5_block_27 ?_
      have hk10 := kt_quarter hk9
      refine xg1N F hG hk9 0 (by decide) (kw467 F.kd) (v := .ref (g (0 + 1))) rfl dX5_block_30 ?_
      refine lv_iload hx hb dX5_block_33 (lv_at hl 0 rfl) ?_
      obtain ⟨r12, hc11, h⟩ := cb1_e h
      refine k_i (r_runVN F hG (c_X3_at l D ca g hk10 hc11) (kd_lt hk10 (by decide)) (gd3 hk10) rfl (kw93 F.kd) (kw95 F.kd) (ks_X3_at F.kd) (kw3 F.kd) (kw97 F.kd) yd_X3_at ⟨Nat.le_of_ble_eq_true rfl, Nat.le_of_ble_eq_true rfl⟩ rfl hl.1 rfl (Nat.le_of_ble_eq_true rfl) dX5_block_35 ⟨Nat.le_of_ble_eq_true rfl, Nat.le_of_ble_eq_true rfl⟩) hG (fun H locs hG => ?_)
      refine lv_istore (lv' := [(5, .int r12), (4, .int r6), (0, .ref (g a0)), (1, .int x1), (2, .int x2), (3, .int x3)]) hx hb dX5_block_38 hl (by decide) rfl (fun ls hl => ?_)
      refine lv_iload hx hb dX5_block_40 (lv_at hl 0 rfl) ?_
      refine lv_iconst (v := (-1)) hx hb dX5_block_42 (by decide) ?_
      refine lv_icmp_eq (tgt := 58) hx hb dX5_block_43 (by decide) (fun c13 => ?_) (fun c13 => ?_)
      · have h := ite_t h c13
        cases h
      · have h := ite_f h c13
        refine lv_aload_n hx hb dX5_block_46 rfl (lv_at hl 2 rfl) ?_
        have hk14 := (show kd 0 = 1 from rfl)
        refine xg5 F hG ha0 0 (by decide) (kw508 F.kd) (v := .ref (g 0)) rfl dX5_block_47 ?_
        refine lv_iload hx hb dX5_block_50 (lv_at hl 1 rfl) ?_
        obtain ⟨r16, hc15, h⟩ := cb1_e h
        refine k_i (r_runVN F hG (c_X1_isTaken l D ca g hk14 hc15) (kd_lt hk14 (by decide)) (gd1 hk14) rfl (kw522 F.kd) (kw293 F.kd) (ks_X1_isTaken F.kd) (kw2 F.kd) (kw294 F.kd) yd_X1_isTaken ⟨Nat.le_of_ble_eq_true rfl, Nat.le_of_ble_eq_true rfl⟩ rfl hl.1 rfl (Nat.le_of_ble_eq_true rfl) dX5_block_52 ⟨Nat.le_of_ble_eq_true rfl, Nat.le_of_ble_eq_true rfl⟩) hG (fun H locs hG => ?_)
        refine lv_if_eq (tgt := 68) hx hb dX5_block_55 (by decide) (fun c17 => ?_) (fun c17 => ?_)
        · have h := ite_t h c17
          refine lv_aload_n hx hb dX5_block_68 rfl (lv_at hl 2 rfl) ?_
          have hk18 := (show kd 0 = 1 from rfl)
          refine xg5 F hG ha0 0 (by decide) (kw508 F.kd) (v := .ref (g 0)) rfl dX5_block_69 ?_
          have hk19 := kt_quarter hk18
          refine xg1N F hG hk18 0 (by decide) (kw467 F.kd) (v := .ref (g (0 + 1))) rfl dX5_block_72 ?_
          refine lv_iload hx hb dX5_block_75 (lv_at hl 1 rfl) ?_
          refine lv_iload_n hx hb dX5_block_77 rfl (lv_at hl 5 rfl) ?_
          obtain ⟨M22, hc20, h⟩ := cb1_e h
          refine k_v (r_runVN F hG (c_X3_put l D ca g hk19 hc20) (kd_lt hk19 (by decide)) (gd3 hk19) rfl (kw539 F.kd) (kw297 F.kd) (ks_X3_put F.kd) (kw3 F.kd) (kw298 F.kd) yd_X3_put ⟨Nat.le_of_ble_eq_true rfl, Nat.le_of_ble_eq_true rfl⟩ rfl hl.1 rfl (Nat.le_of_ble_eq_true rfl) dX5_block_78 ⟨Nat.le_of_ble_eq_true rfl, Nat.le_of_ble_eq_true rfl⟩) hG (fun H locs hG => ?_)
          refine lv_iload hx hb dX5_block_81 (lv_at hl 0 rfl) ?_
          obtain ⟨rfl, rfl⟩ := som2s h
          exact end_i F hr hlk hG dX5_block_83
        · have h := ite_f h c17
          cases h
    · have h := ite_f h c8
      cases h
set_option maxHeartbeats 4000000 in
set_option maxRecDepth 100000 in
theorem n_X5_cell (l : Launch) (D : va_G) (ca : vCA) (g : Nat → Nat) {fu : Nat} {M : Mem} {a0 : Nat} {x1 : Int32} {x2 : Int32} {r : Int32} (ha0 : kd a0 = 5) (h : m_X5_cell fu M a0 x1 x2 = some (.inr r)) : cM l yX5_cell cX5_cell 3 (some .int) { frames := 7, cells := 0, slots := 0, locals := 111 } D ca g M [.ref (g a0), .int x1, .int x2] (fun sz => cQi D ca g sz M r) := by
  refine mk_Met (by decide) (Nat.le_of_ble_eq_true rfl) ?_
  intro p e s m below meth c F hr hlk hnm hG ls hl
  have hx := F.1
  have hb := F.2.1
  replace hl : lv_has ls 3 [(0, .ref (g a0)), (1, .int x1), (2, .int x2)] := hl
  unfold m_X5_cell at h
  refine lv_aload_n hx hb dX5_cell_0 rfl (lv_at hl 0 rfl) ?_
  have hk4 := (show kd 0 = 1 from rfl)
  refine xg5 F hG ha0 0 (by decide) (kw508 F.kd) (v := .ref (g 0)) rfl dX5_cell_1 ?_
  have hk5 := kt_quarter hk4
  refine xg1N F hG hk4 0 (by decide) (kw467 F.kd) (v := .ref (g (0 + 1))) rfl dX5_cell_4 ?_
  refine lv_iload_n hx hb dX5_cell_7 rfl (lv_at hl 1 rfl) ?_
  refine lv_iload_n hx hb dX5_cell_8 rfl (lv_at hl 2 rfl) ?_
  obtain ⟨r7, hc6, h⟩ := xb_n h
  refine k_i (r_runS F hG (n_X5_placeOf l D ca g hc6) (kw20 F.kd) (kw21 F.kd) (kw1 F.kd) (kw22 F.kd) yd_X5_placeOf ⟨Nat.le_of_ble_eq_true rfl, Nat.le_of_ble_eq_true rfl⟩ rfl hl.1 rfl (Nat.le_of_ble_eq_true rfl) dX5_cell_9 ⟨Nat.le_of_ble_eq_true rfl, Nat.le_of_ble_eq_true rfl⟩) hG (fun H locs hG => ?_)
  obtain ⟨r9, hc8, h⟩ := cb1_e h
  refine k_i (r_runVN F hG (c_X3_at l D ca g hk5 hc8) (kd_lt hk5 (by decide)) (gd3 hk5) rfl (kw93 F.kd) (kw95 F.kd) (ks_X3_at F.kd) (kw3 F.kd) (kw97 F.kd) yd_X3_at ⟨Nat.le_of_ble_eq_true rfl, Nat.le_of_ble_eq_true rfl⟩ rfl hl.1 rfl (Nat.le_of_ble_eq_true rfl) dX5_cell_12 ⟨Nat.le_of_ble_eq_true rfl, Nat.le_of_ble_eq_true rfl⟩) hG (fun H locs hG => ?_)
  obtain rfl := som1s h
  exact end_i F hr hlk hG dX5_cell_15
set_option maxHeartbeats 4000000 in
set_option maxRecDepth 100000 in
theorem n_X5_gather (l : Launch) (D : va_G) (ca : vCA) (g : Nat → Nat) {fu : Nat} {M : Mem} {a0 : Nat} {x1 : Int32} {x2 : Int32} {x3 : Int32} {M' : Mem} {r : Int32} (ha0 : kd a0 = 5) (h : m_X5_gather fu M a0 x1 x2 x3 = some (.inr (M', r))) : cM l yX5_gather cX5_gather 5 (some .int) { frames := 7, cells := 0, slots := 0, locals := 111 } D ca g M [.ref (g a0), .int x1, .int x2, .int x3] (fun sz => cQi D ca g sz M' r) := by
  refine mk_Met (by decide) (Nat.le_of_ble_eq_true rfl) ?_
  intro p e s m below meth c F hr hlk hnm hG ls hl
  have hx := F.1
  have hb := F.2.1
  replace hl : lv_has ls 5 [(0, .ref (g a0)), (1, .int x1), (2, .int x2), (3, .int x3)] := hl
  unfold m_X5_gather at h
  refine lv_iload_n hx hb dX5_gather_0 rfl (lv_at hl 1 rfl) ?_
  refine lv_iload_n hx hb dX5_gather_1 rfl (lv_at hl 2 rfl) ?_
  obtain ⟨r6, hc5, h⟩ := xb_n h
  refine k_i (r_runS F hG (n_X5_placeOf l D ca g hc5) (kw20 F.kd) (kw21 F.kd) (kw1 F.kd) (kw22 F.kd) yd_X5_placeOf ⟨Nat.le_of_ble_eq_true rfl, Nat.le_of_ble_eq_true rfl⟩ rfl hl.1 rfl (Nat.le_of_ble_eq_true rfl) dX5_gather_2 ⟨Nat.le_of_ble_eq_true rfl, Nat.le_of_ble_eq_true rfl⟩) hG (fun H locs hG => ?_)
  refine lv_istore (lv' := [(4, .int r6), (0, .ref (g a0)), (1, .int x1), (2, .int x2), (3, .int x3)]) hx hb dX5_gather_5 hl (by decide) rfl (fun ls hl => ?_)
  refine lv_iload_n hx hb dX5_gather_7 rfl (lv_at hl 4 rfl) ?_
  refine lv_iconst (v := 1) hx hb dX5_gather_8 (by decide) ?_
  refine lv_icmp_lt (tgt := 18) hx hb dX5_gather_9 (by decide) (fun c7 => ?_) (fun c7 => ?_)
  · have h := ite_t h c7
    cases h
  · have h := ite_f h c7
    refine lv_iload_n hx hb dX5_gather_12 rfl (lv_at hl 4 rfl) ?_
    refine lv_bipush (v := 9) hx hb dX5_gather_13 (by decide) ?_
    refine lv_icmp_le (tgt := 28) hx hb dX5_gather_15 (by decide) (fun c8 => ?_) (fun c8 => ?_)
    · have h := ite_t h c8
      refine lv_aload_n hx hb dX5_gather_28 rfl (lv_at hl 1 rfl) ?_
      have hk9 := (show kd 0 = 1 from rfl)
      refine xg5 F hG ha0 0 (by decide) (kw508 F.kd) (v := .ref (g 0)) rfl dX5_gather_29 ?_
      refine xg1N F hG hk9 2 (by decide) (kw471 F.kd) (v := .int (M 0 2)) rfl dX5_gather_32 ?_
      refine lv_bipush (v := 6) hx hb dX5_gather_35 (by decide) ?_
      refine lv_icmp_ge (tgt := 55) hx hb dX5_gather_37 (by decide) (fun c10 => ?_) (fun c10 => ?_)
      · have h := ite_t h c10
        cases h
      · have h := ite_f h c10
        refine lv_aload_n hx hb dX5_gather_40 rfl (lv_at hl 1 rfl) ?_
        have hk11 := (show kd 0 = 1 from rfl)
        refine xg5 F hG ha0 0 (by decide) (kw508 F.kd) (v := .ref (g 0)) rfl dX5_gather_41 ?_
        have hk12 := kt_quarter hk11
        refine xg1N F hG hk11 0 (by decide) (kw467 F.kd) (v := .ref (g (0 + 1))) rfl dX5_gather_44 ?_
        refine lv_iload hx hb dX5_gather_47 (lv_at hl 0 rfl) ?_
        obtain ⟨r14, hc13, h⟩ := cb1_e h
        refine k_i (r_runVN F hG (c_X3_isFree l D ca g hk12 hc13) (kd_lt hk12 (by decide)) (gd3 hk12) rfl (kw555 F.kd) (kw202 F.kd) (ks_X3_isFree F.kd) (kw3 F.kd) (kw203 F.kd) yd_X3_isFree ⟨Nat.le_of_ble_eq_true rfl, Nat.le_of_ble_eq_true rfl⟩ rfl hl.1 rfl (Nat.le_of_ble_eq_true rfl) dX5_gather_49 ⟨Nat.le_of_ble_eq_true rfl, Nat.le_of_ble_eq_true rfl⟩) hG (fun H locs hG => ?_)
        refine lv_if_ne (tgt := 65) hx hb dX5_gather_52 (by decide) (fun c15 => ?_) (fun c15 => ?_)
        · have h := ite_f h c15
          refine lv_aload_n hx hb dX5_gather_65 rfl (lv_at hl 1 rfl) ?_
          have hk16 := (show kd 0 = 1 from rfl)
          refine xg5 F hG ha0 0 (by decide) (kw508 F.kd) (v := .ref (g 0)) rfl dX5_gather_66 ?_
          refine lv_iload hx hb dX5_gather_69 (lv_at hl 0 rfl) ?_
          refine lv_iload_n hx hb dX5_gather_71 rfl (lv_at hl 4 rfl) ?_
          obtain ⟨M19, r18, hc17, h⟩ := cb2_e h
          refine k_i (r_runVN F hG (c_X1_addCrowd l D ca g hk16 hc17) (kd_lt hk16 (by decide)) (gd1 hk16) rfl (kw557 F.kd) (kw559 F.kd) (ks_X1_addCrowd F.kd) (kw2 F.kd) (kw560 F.kd) yd_X1_addCrowd ⟨Nat.le_of_ble_eq_true rfl, Nat.le_of_ble_eq_true rfl⟩ rfl hl.1 rfl (Nat.le_of_ble_eq_true rfl) dX5_gather_72 ⟨Nat.le_of_ble_eq_true rfl, Nat.le_of_ble_eq_true rfl⟩) hG (fun H locs hG => ?_)
          obtain ⟨rfl, rfl⟩ := som2s h
          exact end_i F hr hlk hG dX5_gather_75
        · have h := ite_t h c15
          cases h
    · have h := ite_f h c8
      cases h
set_option maxHeartbeats 4000000 in
set_option maxRecDepth 100000 in
theorem n_X5_order (l : Launch) (D : va_G) (ca : vCA) (g : Nat → Nat) {fu : Nat} {M : Mem} {a0 : Nat} {x1 : Int32} {x2 : Int32} {M' : Mem} {r : Int32} (ha0 : kd a0 = 5) (h : m_X5_order fu M a0 x1 x2 = some (.inr (M', r))) : cM l yX5_order cX5_order 4 (some .int) { frames := 7, cells := 0, slots := 0, locals := 111 } D ca g M [.ref (g a0), .int x1, .int x2] (fun sz => cQi D ca g sz M' r) := by
  refine mk_Met (by decide) (Nat.le_of_ble_eq_true rfl) ?_
  intro p e s m below meth c F hr hlk hnm hG ls hl
  have hx := F.1
  have hb := F.2.1
  replace hl : lv_has ls 4 [(0, .ref (g a0)), (1, .int x1), (2, .int x2)] := hl
  unfold m_X5_order at h
  refine lv_aload_n hx hb dX5_order_0 rfl (lv_at hl 0 rfl) ?_
  refine lv_iload_n hx hb dX5_order_1 rfl (lv_at hl 1 rfl) ?_
  obtain ⟨_, hc4, h⟩ := xb_n h
  refine k_v (r_runV F hG (n_X5_needCrowd l D ca g ha0 hc4) (kd_lt ha0 (by decide)) (gd5 ha0) rfl (kw102 F.kd) (kw104 F.kd) (ks_X5_needCrowd F.kd) (kw1 F.kd) (kw106 F.kd) yd_X5_needCrowd ⟨Nat.le_of_ble_eq_true rfl, Nat.le_of_ble_eq_true rfl⟩ rfl hl.1 rfl (Nat.le_of_ble_eq_true rfl) dX5_order_2 ⟨Nat.le_of_ble_eq_true rfl, Nat.le_of_ble_eq_true rfl⟩) hG (fun H locs hG => ?_)
  refine lv_iload_n hx hb dX5_order_5 rfl (lv_at hl 2 rfl) ?_
  refine lv_if_lt (tgt := 15) hx hb dX5_order_6 (by decide) (fun c5 => ?_) (fun c5 => ?_)
  · have h := ite_t h c5
    cases h
  · have h := ite_f h c5
    refine lv_iload_n hx hb dX5_order_9 rfl (lv_at hl 2 rfl) ?_
    refine lv_bipush (v := 12) hx hb dX5_order_10 (by decide) ?_
    refine lv_icmp_lt (tgt := 25) hx hb dX5_order_12 (by decide) (fun c6 => ?_) (fun c6 => ?_)
    · have h := ite_t h c6
      refine lv_aload_n hx hb dX5_order_25 rfl (lv_at hl 0 rfl) ?_
      have hk7 := (show kd 0 = 1 from rfl)
      refine xg5 F hG ha0 0 (by decide) (kw508 F.kd) (v := .ref (g 0)) rfl dX5_order_26 ?_
      have hk8 := kt_crowds hk7
      refine xg1N F hG hk7 1 (by decide) (kw469 F.kd) (v := .ref (g (0 + 3))) rfl dX5_order_29 ?_
      refine lv_iload_n hx hb dX5_order_32 rfl (lv_at hl 1 rfl) ?_
      obtain ⟨hi9, h⟩ := chk_e h
      have hk10 := kt_elC hk8 hi9
      refine r_aldC F hG hk8 hi9 dX5_order_33 ?_
      refine lv_astore_n (lv' := [(3, .ref (g (elC (0 + 3) x1))), (0, .ref (g a0)), (1, .int x1), (2, .int x2)]) hx hb dX5_order_34 rfl hl (by decide) rfl (fun ls hl => ?_)
      refine lv_aload_n hx hb dX5_order_35 rfl (lv_at hl 0 rfl) ?_
      obtain ⟨r12, hc11, h⟩ := cb1_e h
      refine k_i (r_runVN F hG (c_X0_isScattered l D ca g hk10 hc11) (kd_lt hk10 (by decide)) (gd0 hk10) rfl (kw345 F.kd) (kw135 F.kd) (ks_X0_isScattered F.kd) (kw4 F.kd) (kw136 F.kd) yd_X0_isScattered ⟨Nat.le_of_ble_eq_true rfl, Nat.le_of_ble_eq_true rfl⟩ rfl hl.1 rfl (Nat.le_of_ble_eq_true rfl) dX5_order_36 ⟨Nat.le_of_ble_eq_true rfl, Nat.le_of_ble_eq_true rfl⟩) hG (fun H locs hG => ?_)
      refine lv_if_ne (tgt := 51) hx hb dX5_order_39 (by decide) (fun c13 => ?_) (fun c13 => ?_)
      · have h := ite_f h c13
        cases h
      · have h := ite_t h c13
        refine lv_aload_n hx hb dX5_order_42 rfl (lv_at hl 0 rfl) ?_
        refine xg0N F hG hk10 4 (by decide) (kw427 F.kd) (v := .int (M (elC (0 + 3) x1) 4)) rfl dX5_order_43 ?_
        refine lv_bipush (v := 24) hx hb dX5_order_46 (by decide) ?_
        refine lv_icmp_lt (tgt := 61) hx hb dX5_order_48 (by decide) (fun c14 => ?_) (fun c14 => ?_)
        · have h := ite_t h c14
          refine lv_aload_n hx hb dX5_order_61 rfl (lv_at hl 0 rfl) ?_
          refine lv_iload_n hx hb dX5_order_62 rfl (lv_at hl 3 rfl) ?_
          obtain ⟨M17, hc15, h⟩ := cb1_e h
          refine k_v (r_runVN F hG (c_X0_addOrder l D ca g hk10 hc15) (kd_lt hk10 (by decide)) (gd0 hk10) rfl (kw350 F.kd) (kw352 F.kd) (ks_X0_addOrder F.kd) (kw4 F.kd) (kw353 F.kd) yd_X0_addOrder ⟨Nat.le_of_ble_eq_true rfl, Nat.le_of_ble_eq_true rfl⟩ rfl hl.1 rfl (Nat.le_of_ble_eq_true rfl) dX5_order_63 ⟨Nat.le_of_ble_eq_true rfl, Nat.le_of_ble_eq_true rfl⟩) hG (fun H locs hG => ?_)
          refine lv_aload_n hx hb dX5_order_66 rfl (lv_at hl 0 rfl) ?_
          refine xg0N F hG hk10 4 (by decide) (kw427 F.kd) (v := .int (M17 (elC (0 + 3) x1) 4)) rfl dX5_order_67 ?_
          obtain ⟨rfl, rfl⟩ := som2s h
          exact end_i F hr hlk hG dX5_order_70
        · have h := ite_f h c14
          cases h
    · have h := ite_f h c6
      cases h
set_option maxHeartbeats 4000000 in
set_option maxRecDepth 100000 in
theorem n_X5_torch (l : Launch) (D : va_G) (ca : vCA) (g : Nat → Nat) {fu : Nat} {M : Mem} {a0 : Nat} {x1 : Int32} {M' : Mem} {r : Int32} (ha0 : kd a0 = 5) (h : m_X5_torch fu M a0 x1 = some (.inr (M', r))) : cM l yX5_torch cX5_torch 3 (some .boolean) { frames := 7, cells := 0, slots := 0, locals := 111 } D ca g M [.ref (g a0), .int x1] (fun sz => cQi D ca g sz M' r) := by
  refine mk_Met (by decide) (Nat.le_of_ble_eq_true rfl) ?_
  intro p e s m below meth c F hr hlk hnm hG ls hl
  have hx := F.1
  have hb := F.2.1
  replace hl : lv_has ls 3 [(0, .ref (g a0)), (1, .int x1)] := hl
  unfold m_X5_torch at h
  refine lv_aload_n hx hb dX5_torch_0 rfl (lv_at hl 0 rfl) ?_
  refine lv_iload_n hx hb dX5_torch_1 rfl (lv_at hl 1 rfl) ?_
  obtain ⟨_, hc3, h⟩ := xb_n h
  refine k_v (r_runV F hG (n_X5_needCrowd l D ca g ha0 hc3) (kd_lt ha0 (by decide)) (gd5 ha0) rfl (kw102 F.kd) (kw104 F.kd) (ks_X5_needCrowd F.kd) (kw1 F.kd) (kw106 F.kd) yd_X5_needCrowd ⟨Nat.le_of_ble_eq_true rfl, Nat.le_of_ble_eq_true rfl⟩ rfl hl.1 rfl (Nat.le_of_ble_eq_true rfl) dX5_torch_2 ⟨Nat.le_of_ble_eq_true rfl, Nat.le_of_ble_eq_true rfl⟩) hG (fun H locs hG => ?_)
  refine lv_aload_n hx hb dX5_torch_5 rfl (lv_at hl 0 rfl) ?_
  have hk4 := (show kd 0 = 1 from rfl)
  refine xg5 F hG ha0 0 (by decide) (kw508 F.kd) (v := .ref (g 0)) rfl dX5_torch_6 ?_
  have hk5 := kt_crowds hk4
  refine xg1N F hG hk4 1 (by decide) (kw469 F.kd) (v := .ref (g (0 + 3))) rfl dX5_torch_9 ?_
  refine lv_iload_n hx hb dX5_torch_12 rfl (lv_at hl 1 rfl) ?_
  obtain ⟨hi6, h⟩ := chk_e h
  have hk7 := kt_elC hk5 hi6
  refine r_aldC F hG hk5 hi6 dX5_torch_13 ?_
  refine lv_astore_n (lv' := [(2, .ref (g (elC (0 + 3) x1))), (0, .ref (g a0)), (1, .int x1)]) hx hb dX5_torch_14 rfl hl (by decide) rfl (fun ls hl => ?_)
  refine lv_aload_n hx hb dX5_torch_15 rfl (lv_at hl 0 rfl) ?_
  obtain ⟨r9, hc8, h⟩ := cb1_e h
  refine k_i (r_runVN F hG (c_X0_isScattered l D ca g hk7 hc8) (kd_lt hk7 (by decide)) (gd0 hk7) rfl (kw345 F.kd) (kw135 F.kd) (ks_X0_isScattered F.kd) (kw4 F.kd) (kw136 F.kd) yd_X0_isScattered ⟨Nat.le_of_ble_eq_true rfl, Nat.le_of_ble_eq_true rfl⟩ rfl hl.1 rfl (Nat.le_of_ble_eq_true rfl) dX5_torch_16 ⟨Nat.le_of_ble_eq_true rfl, Nat.le_of_ble_eq_true rfl⟩) hG (fun H locs hG => ?_)
  refine lv_if_eq (tgt := 32) hx hb dX5_torch_19 (by decide) (fun c10 => ?_) (fun c10 => ?_)
  · have h := ite_t h c10
    refine lv_aload_n hx hb dX5_torch_32 rfl (lv_at hl 0 rfl) ?_
    refine lv_aload_n hx hb dX5_torch_33 rfl (lv_at hl 0 rfl) ?_
    refine xg0N F hG hk7 2 (by decide) (kw424 F.kd) (v := .int (M (elC (0 + 3) x1) 2)) rfl dX5_torch_34 ?_
    refine lv_if_ne (tgt := 44) hx hb dX5_torch_37 (by decide) (fun c11 => ?_) (fun c11 => ?_)
    · have h := ite_f h c11
      refine lv_iconst (v := 0) hx hb dX5_torch_44 (by decide) ?_
      obtain ⟨M12, eM12, h⟩ := mlet_e h
      refine xp0N F hG hk7 eM12 rfl (by decide) (kw424 F.kd) rfl (by decide) (by decide) dX5_torch_45 (fun H locs hG => ?_)
      refine lv_aload_n hx hb dX5_torch_48 rfl (lv_at hl 0 rfl) ?_
      refine xg0N F hG hk7 2 (by decide) (kw424 F.kd) (v := .int (M12 (elC (0 + 3) x1) 2)) rfl dX5_torch_49 ?_
      obtain ⟨hz13, h⟩ := chk_e h
      obtain ⟨rfl, rfl⟩ := som2s h
      exact end_z F hr hlk hz13 hG dX5_torch_52
    · have h := ite_t h c11
      refine lv_iconst (v := 1) hx hb dX5_torch_40 (by decide) ?_
      refine lv_goto (tgt := 45) hx hb dX5_torch_41 (by decide) ?_
      obtain ⟨M14, eM14, h⟩ := mlet_e h
      refine xp0N F hG hk7 eM14 rfl (by decide) (kw424 F.kd) rfl (by decide) (by decide) dX5_torch_45 (fun H locs hG => ?_)
      refine lv_aload_n hx hb dX5_torch_48 rfl (lv_at hl 0 rfl) ?_
      refine xg0N F hG hk7 2 (by decide) (kw424 F.kd) (v := .int (M14 (elC (0 + 3) x1) 2)) rfl dX5_torch_49 ?_
      obtain ⟨hz15, h⟩ := chk_e h
      obtain ⟨rfl, rfl⟩ := som2s h
      exact end_z F hr hlk hz15 hG dX5_torch_52
  · have h := ite_f h c10
    cases h
set_option maxHeartbeats 4000000 in
set_option maxRecDepth 100000 in
theorem n_X5_patrol (l : Launch) (D : va_G) (ca : vCA) (g : Nat → Nat) {fu : Nat} {M : Mem} {a0 : Nat} {x1 : Int32} {x2 : Int32} {x3 : Int32} {x4 : Int32} {M' : Mem} {r : Int32} (ha0 : kd a0 = 5) (h : m_X5_patrol fu M a0 x1 x2 x3 x4 = some (.inr (M', r))) : cM l yX5_patrol cX5_patrol 6 (some .int) { frames := 7, cells := 0, slots := 0, locals := 111 } D ca g M [.ref (g a0), .int x1, .int x2, .int x3, .int x4] (fun sz => cQi D ca g sz M' r) := by
  refine mk_Met (by decide) (Nat.le_of_ble_eq_true rfl) ?_
  intro p e s m below meth c F hr hlk hnm hG ls hl
  have hx := F.1
  have hb := F.2.1
  replace hl : lv_has ls 6 [(0, .ref (g a0)), (1, .int x1), (2, .int x2), (3, .int x3), (4, .int x4)] := hl
  unfold m_X5_patrol at h
  refine lv_iload_n hx hb dX5_patrol_0 rfl (lv_at hl 1 rfl) ?_
  refine lv_iload_n hx hb dX5_patrol_1 rfl (lv_at hl 2 rfl) ?_
  obtain ⟨r7, hc6, h⟩ := xb_n h
  refine k_i (r_runS F hG (n_X5_placeOf l D ca g hc6) (kw20 F.kd) (kw21 F.kd) (kw1 F.kd) (kw22 F.kd) yd_X5_placeOf ⟨Nat.le_of_ble_eq_true rfl, Nat.le_of_ble_eq_true rfl⟩ rfl hl.1 rfl (Nat.le_of_ble_eq_true rfl) dX5_patrol_2 ⟨Nat.le_of_ble_eq_true rfl, Nat.le_of_ble_eq_true rfl⟩) hG (fun H locs hG => ?_)
  refine lv_istore (lv' := [(5, .int r7), (0, .ref (g a0)), (1, .int x1), (2, .int x2), (3, .int x3), (4, .int x4)]) hx hb dX5_patrol_5 hl (by decide) rfl (fun ls hl => ?_)
  refine lv_iload_n hx hb dX5_patrol_7 rfl (lv_at hl 4 rfl) ?_
  refine lv_iconst (v := 1) hx hb dX5_patrol_8 (by decide) ?_
  refine lv_icmp_lt (tgt := 33) hx hb dX5_patrol_9 (by decide) (fun c8 => ?_) (fun c8 => ?_)
  · have h := ite_t h c8
    cases h
  · have h := ite_f h c8
    refine lv_iload_n hx hb dX5_patrol_12 rfl (lv_at hl 4 rfl) ?_
    refine lv_bipush (v := 12) hx hb dX5_patrol_13 (by decide) ?_
    refine lv_icmp_gt (tgt := 33) hx hb dX5_patrol_15 (by decide) (fun c9 => ?_) (fun c9 => ?_)
    · have h := ite_t h c9
      cases h
    · have h := ite_f h c9
      refine lv_iload hx hb dX5_patrol_18 (lv_at hl 5 rfl) ?_
      refine lv_if_lt (tgt := 33) hx hb dX5_patrol_20 (by decide) (fun c10 => ?_) (fun c10 => ?_)
      · have h := ite_t h c10
        cases h
      · have h := ite_f h c10
        refine lv_iload hx hb dX5_patrol_23 (lv_at hl 5 rfl) ?_
        refine lv_iconst (v := 1) hx hb dX5_patrol_25 (by decide) ?_
        refine lv_iconst (v := 2) hx hb dX5_patrol_26 (by decide) ?_
        refine lv_iload_n hx hb dX5_patrol_27 rfl (lv_at hl 4 rfl) ?_
        refine lv_imul hx hb dX5_patrol_28 ?_
        refine lv_ishl hx hb dX5_patrol_29 ?_
        refine lv_icmp_lt (tgt := 43) hx hb dX5_patrol_30 (by decide) (fun c11 => ?_) (fun c11 => ?_)
        · have h := ite_t h c11
          refine lv_aload_n hx hb dX5_patrol_43 rfl (lv_at hl 1 rfl) ?_
          have hk12 := (show kd 0 = 1 from rfl)
          refine xg5 F hG ha0 0 (by decide) (kw508 F.kd) (v := .ref (g 0)) rfl dX5_patrol_44 ?_
          refine xg1N F hG hk12 4 (by decide) (kw475 F.kd) (v := .int (M 0 4)) rfl dX5_patrol_47 ?_
          refine lv_iconst (v := 3) hx hb dX5_patrol_50 (by decide) ?_
          refine lv_icmp_ge (tgt := 69) hx hb dX5_patrol_51 (by decide) (fun c13 => ?_) (fun c13 => ?_)
          · have h := ite_t h c13
            cases h
          · have h := ite_f h c13
            refine lv_aload_n hx hb dX5_patrol_54 rfl (lv_at hl 1 rfl) ?_
            have hk14 := (show kd 0 = 1 from rfl)
            refine xg5 F hG ha0 0 (by decide) (kw508 F.kd) (v := .ref (g 0)) rfl dX5_patrol_55 ?_
            have hk15 := kt_quarter hk14
            refine xg1N F hG hk14 0 (by decide) (kw467 F.kd) (v := .ref (g (0 + 1))) rfl dX5_patrol_58 ?_
            refine lv_iload hx hb dX5_patrol_61 (lv_at hl 0 rfl) ?_
            obtain ⟨r17, hc16, h⟩ := cb1_e h
            refine k_i (r_runVN F hG (c_X3_isFree l D ca g hk15 hc16) (kd_lt hk15 (by decide)) (gd3 hk15) rfl (kw555 F.kd) (kw202 F.kd) (ks_X3_isFree F.kd) (kw3 F.kd) (kw203 F.kd) yd_X3_isFree ⟨Nat.le_of_ble_eq_true rfl, Nat.le_of_ble_eq_true rfl⟩ rfl hl.1 rfl (Nat.le_of_ble_eq_true rfl) dX5_patrol_63 ⟨Nat.le_of_ble_eq_true rfl, Nat.le_of_ble_eq_true rfl⟩) hG (fun H locs hG => ?_)
            refine lv_if_ne (tgt := 79) hx hb dX5_patrol_66 (by decide) (fun c18 => ?_) (fun c18 => ?_)
            · have h := ite_f h c18
              refine lv_aload_n hx hb dX5_patrol_79 rfl (lv_at hl 1 rfl) ?_
              have hk19 := (show kd 0 = 1 from rfl)
              refine xg5 F hG ha0 0 (by decide) (kw508 F.kd) (v := .ref (g 0)) rfl dX5_patrol_80 ?_
              refine lv_iload hx hb dX5_patrol_83 (lv_at hl 0 rfl) ?_
              refine lv_iload_n hx hb dX5_patrol_85 rfl (lv_at hl 4 rfl) ?_
              refine lv_iload hx hb dX5_patrol_86 (lv_at hl 5 rfl) ?_
              obtain ⟨M22, r21, hc20, h⟩ := cb2_e h
              refine k_i (r_runVN F hG (c_X1_addPatrol l D ca g hk19 hc20) (kd_lt hk19 (by decide)) (gd1 hk19) rfl (kw570 F.kd) (kw572 F.kd) (ks_X1_addPatrol F.kd) (kw2 F.kd) (kw573 F.kd) yd_X1_addPatrol ⟨Nat.le_of_ble_eq_true rfl, Nat.le_of_ble_eq_true rfl⟩ rfl hl.1 rfl (Nat.le_of_ble_eq_true rfl) dX5_patrol_88 ⟨Nat.le_of_ble_eq_true rfl, Nat.le_of_ble_eq_true rfl⟩) hG (fun H locs hG => ?_)
              obtain ⟨rfl, rfl⟩ := som2s h
              exact end_i F hr hlk hG dX5_patrol_91
            · have h := ite_t h c18
              cases h
        · have h := ite_f h c11
          cases h

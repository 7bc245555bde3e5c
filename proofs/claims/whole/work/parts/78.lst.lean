/-! ===== the law: its loop, its start ===== -/
theorem tso17 {x : Int32} (h0 : ¬ x = 0) (h1 : ¬ x = 1) (h2 : ¬ x = 2) (h3 : ¬ x = 3) (h4 : ¬ x = 4) (h5 : ¬ x = 5) (h6 : ¬ x = 6) (h7 : ¬ x = 7) (h8 : ¬ x = 8) (h9 : ¬ x = 9) (h10 : ¬ x = 10) (h11 : ¬ x = 11) (h12 : ¬ x = 12) (h13 : ¬ x = 13) (h14 : ¬ x = 14) (h15 : ¬ x = 15) (h16 : ¬ x = 16) (h17 : ¬ x = 17) : x.toInt < 0 ∨ 17 < x.toInt := tso 17 (by decide) (fun j hj => by
  match j, hj with
  | 0, _ => exact h0
  | 1, _ => exact h1
  | 2, _ => exact h2
  | 3, _ => exact h3
  | 4, _ => exact h4
  | 5, _ => exact h5
  | 6, _ => exact h6
  | 7, _ => exact h7
  | 8, _ => exact h8
  | 9, _ => exact h9
  | 10, _ => exact h10
  | 11, _ => exact h11
  | 12, _ => exact h12
  | 13, _ => exact h13
  | 14, _ => exact h14
  | 15, _ => exact h15
  | 16, _ => exact h16
  | 17, _ => exact h17
  | j + 18, h => omega)
section LW
variable {p : Program} {l : Launch} {e : Env} {s : State} {m : MethodId} {below : List Frame} {meth : Method} {c : Code}
variable {D : va_G} {ca : vCA} {g : Nat → Nat} {b L : Nat} {xs : Nat → Int32}
theorem lw_gt {L i : Nat} (hL : L ≤ 2560) (hi : i ≤ L) (h : ¬ Int32.ofNat L - 5 < nI i) : i + 5 ≤ L := by
  have h1 : (Int32.ofNat L - 5).toInt = (L : Int) - (5 : Nat) := pk_sub_toInt (a := L) (b := 5) (by omega) (by decide)
  have h2 : (nI i).toInt = (i : Int) := nI_toInt (by omega)
  rcases Nat.lt_or_ge L (i + 5) with q | q
  · exact absurd (Int32.lt_iff_toInt_lt.mpr (by rw [h1, h2]; omega)) h
  · exact q
set_option maxHeartbeats 4000000 in
set_option maxRecDepth 100000 in
theorem lw_loop {fu : Nat} (hfu : 2000000 < fu) (hst : l.stackTraces = false) (F : FX p m c code 9 s D ca g RL) (hr : meth.sig.returnType = ret) (hlocks : meth.locks = false) (hsc : LSc b L xs s g) (hge : ∀ q, gA g s.heap.size q → s.heap.size ≤ q) :
    ∀ (n i : Nat), L < i + 5 * n → i ≤ L → ∀ (M : Mem) (H : Heap) (locs : List Loc) (ls : Array Slot), Inv M → GW D ca g s M H locs → lv_has ls 9 (lvs g b i) → W p l e room_1 s m #[Value.ref b] below meth c H locs (70 + 2 * i) (1826 + 20 * i) (lw_Z below #[Value.ref b] s) (F0 m 23 ls []) := by
  have hx := F.1
  have hb := F.2.1
  have hLL : L ≤ 2560 := hsc.2.2.2
  intro n
  induction n with
  | zero => intro i h1 h2; omega
  | succ n ih =>
    intro i h1 h2 M H locs ls hI hG hl0
    have hl : lv_has ls 9 [(0, .ref b), (1, .ref (g 40)), (2, .ref (g 44)), (3, .ref (g 69)), (4, .int (nI i))] := hl0
    refine lv_iload hx hb dL_law_23 (lv_at hl 4 rfl) ?_
    refine lv_aload_n hx hb dL_law_25 rfl (lv_at hl 0 rfl) ?_
    refine va_slen hx hb hsc.1 hsc.2.1 hsc.2.2.1 hG.2 dL_law_26 ?_
    refine lv_iconst (v := 5) hx hb dL_law_27 (by decide) ?_
    refine lv_isub hx hb dL_law_28 ?_
    refine lv_icmp_gt (tgt := 1263) hx hb dL_law_29 (by decide) (fun _ => ?_) (fun c1 => ?_)
    · refine lv_iconst (v := 1) hx hb dL_law_1263 (by decide) ?_
      refine va_forget (fun q hq => hge _ (hG.2.2.2 q hq)) ?_
      refine W.widen (k := 601024) (n := 7293034) (by omega) (by omega) ?_
      exact lw_ret (d0 := s.drawn) (Drawn.sameBut.refl s.drawn lw_cs) hx hb hr hlocks dL_law_1264
    · have hi := lw_gt hLL h2 c1
      have hc : 70 + 2 * i + 10 ≤ room_1.cells := by
        show 70 + 2 * i + 10 ≤ 601024
        omega
      have hs : 1826 + 20 * i + 100 ≤ room_1.slots := by
        show 1826 + 20 * i + 100 ≤ 7293034
        omega
      have kk : ∀ (M1 : Mem) (H1 : Heap) (locs1 : List Loc) (ls1 : Array Slot), Inv M1 → GW D ca g s M1 H1 locs1 → lv_has ls1 9 (lvs g b i) → W p l e room_1 s m #[Value.ref b] below meth c H1 locs1 (70 + 2 * i + 10) (1826 + 20 * i + 100) (lw_Z below #[Value.ref b] s) (F0 m 1257 ls1 []) := by
        intro M1 H1 locs1 ls1 hI1 hG1 hl1
        replace hl1 : lv_has ls1 9 [(0, .ref b), (1, .ref (g 40)), (2, .ref (g 44)), (3, .ref (g 69)), (4, .int (nI i))] := hl1
        refine lv_iinc (v := nI (i + 5)) (lv' := [(4, .int (nI (i + 5))), (0, .ref b), (1, .ref (g 40)), (2, .ref (g 44)), (3, .ref (g 69))]) hx hb dL_law_1257 hl1 (k := 4) rfl (nI_add i 5) (by decide) rfl (fun ls2 hl2 => ?_)
        refine lv_goto (tgt := 23) hx hb dL_law_1260 (by decide) ?_
        refine W.widen (k := 70 + 2 * (i + 5)) (n := 1826 + 20 * (i + 5)) (by omega) (by omega) ?_
        exact ih (i + 5) (by omega) hi M1 H1 locs1 ls2 hI1 hG1 (lv_sub hl2 [1, 2, 3, 4, 0] rfl)
      refine lv_aload_n hx hb dL_law_32 rfl (lv_at hl 0 rfl) ?_
      refine lv_iload hx hb dL_law_33 (lv_at hl 4 rfl) ?_
      refine va_sld hx hb hsc.1 hsc.2.1 hsc.2.2.1 hG.2 (vp_in_nI (by omega) (by omega)) dL_law_35 ?_
      refine lv_bipush (v := 31) hx hb dL_law_36 (by decide) ?_
      refine lv_iand hx hb dL_law_38 ?_
      refine lv_topi (fun x ex => ?_)
      by_cases c_0 : x = 0
      · refine lv_tableIn (off := 85) (tgt := 124) hx hb dL_law_39 (by rw [c_0]; decide) (by rw [c_0]; decide) (by rw [c_0]; rfl) (by decide) ?_
        exact lc_house hfu hst F hsc hI hG hi hc hs hl0 kk
      by_cases c_1 : x = 1
      · refine lv_tableIn (off := 160) (tgt := 199) hx hb dL_law_39 (by rw [c_1]; decide) (by rw [c_1]; decide) (by rw [c_1]; rfl) (by decide) ?_
        exact lc_block hfu hst F hsc hI hG hi hc hs hl0 kk
      by_cases c_2 : x = 2
      · refine lv_tableIn (off := 240) (tgt := 279) hx hb dL_law_39 (by rw [c_2]; decide) (by rw [c_2]; decide) (by rw [c_2]; rfl) (by decide) ?_
        exact lc_cell hfu hst F hsc hI hG hi hc hs hl0 kk
      by_cases c_3 : x = 3
      · refine lv_tableIn (off := 308) (tgt := 347) hx hb dL_law_39 (by rw [c_3]; decide) (by rw [c_3]; decide) (by rw [c_3]; rfl) (by decide) ?_
        exact lc_gather hfu hst F hsc hI hG hi hc hs hl0 kk
      by_cases c_4 : x = 4
      · refine lv_tableIn (off := 388) (tgt := 427) hx hb dL_law_39 (by rw [c_4]; decide) (by rw [c_4]; decide) (by rw [c_4]; rfl) (by decide) ?_
        exact lc_order hfu hst F hsc hI hG hi hc hs hl0 kk
      by_cases c_5 : x = 5
      · refine lv_tableIn (off := 456) (tgt := 495) hx hb dL_law_39 (by rw [c_5]; decide) (by rw [c_5]; decide) (by rw [c_5]; rfl) (by decide) ?_
        exact lc_torch hfu hst F hsc hI hG hi hc hs hl0 kk
      by_cases c_6 : x = 6
      · refine lv_tableIn (off := 519) (tgt := 558) hx hb dL_law_39 (by rw [c_6]; decide) (by rw [c_6]; decide) (by rw [c_6]; rfl) (by decide) ?_
        exact lc_patrol hfu hst F hsc hI hG hi hc hs hl0 kk
      by_cases c_7 : x = 7
      · refine lv_tableIn (off := 611) (tgt := 650) hx hb dL_law_39 (by rw [c_7]; decide) (by rw [c_7]; decide) (by rw [c_7]; rfl) (by decide) ?_
        exact lc_crowd hfu hst F hsc hI hG hi hc hs hl0 kk
      by_cases c_8 : x = 8
      · refine lv_tableIn (off := 679) (tgt := 718) hx hb dL_law_39 (by rw [c_8]; decide) (by rw [c_8]; decide) (by rw [c_8]; rfl) (by decide) ?_
        exact lc_guard hfu hst F hsc hI hG hi hc hs hl0 kk
      by_cases c_9 : x = 9
      · refine lv_tableIn (off := 747) (tgt := 786) hx hb dL_law_39 (by rw [c_9]; decide) (by rw [c_9]; decide) (by rw [c_9]; rfl) (by decide) ?_
        exact lc_sees hfu hst F hsc hI hG hi hc hs hl0 kk
      by_cases c_10 : x = 10
      · refine lv_tableIn (off := 822) (tgt := 861) hx hb dL_law_39 (by rw [c_10]; decide) (by rw [c_10]; decide) (by rw [c_10]; rfl) (by decide) ?_
        exact lc_count hfu hst F hsc hI hG hi hc hs hl0 kk
      by_cases c_11 : x = 11
      · refine lv_tableIn (off := 878) (tgt := 917) hx hb dL_law_39 (by rw [c_11]; decide) (by rw [c_11]; decide) (by rw [c_11]; rfl) (by decide) ?_
        exact lc_way hfu hst F hsc hI hG hi hc hs hl0 kk
      by_cases c_12 : x = 12
      · refine lv_tableIn (off := 970) (tgt := 1009) hx hb dL_law_39 (by rw [c_12]; decide) (by rw [c_12]; decide) (by rw [c_12]; rfl) (by decide) ?_
        exact lc_shuts hfu hst F hsc hI hG hi hc hs hl0 kk
      by_cases c_13 : x = 13
      · refine lv_tableIn (off := 983) (tgt := 1022) hx hb dL_law_39 (by rw [c_13]; decide) (by rw [c_13]; decide) (by rw [c_13]; rfl) (by decide) ?_
        exact lc_pass hfu hst F hsc hI hG hi hc hs hl0 kk
      by_cases c_14 : x = 14
      · refine lv_tableIn (off := 1039) (tgt := 1078) hx hb dL_law_39 (by rw [c_14]; decide) (by rw [c_14]; decide) (by rw [c_14]; rfl) (by decide) ?_
        exact lc_foresee hfu hst F hsc hI hG hi hc hs hl0 kk
      by_cases c_15 : x = 15
      · refine lv_tableIn (off := 1107) (tgt := 1146) hx hb dL_law_39 (by rw [c_15]; decide) (by rw [c_15]; decide) (by rw [c_15]; rfl) (by decide) ?_
        exact lc_advise hfu hst F hsc hI hG hi hc hs hl0 kk
      by_cases c_16 : x = 16
      · refine lv_tableIn (off := 1163) (tgt := 1202) hx hb dL_law_39 (by rw [c_16]; decide) (by rw [c_16]; decide) (by rw [c_16]; rfl) (by decide) ?_
        exact lc_mean hfu hst F hsc hI hG hi hc hs hl0 kk
      by_cases c_17 : x = 17
      · refine lv_tableIn (off := 1204) (tgt := 1243) hx hb dL_law_39 (by rw [c_17]; decide) (by rw [c_17]; decide) (by rw [c_17]; rfl) (by decide) ?_
        exact lc_digest hfu hst F hsc hI hG hi hc hs hl0 kk
      refine lv_tableOut (tgt := 1257) hx hb dL_law_39 (tso17 c_0 c_1 c_2 c_3 c_4 c_5 c_6 c_7 c_8 c_9 c_10 c_11 c_12 c_13 c_14 c_15 c_16 c_17) (by decide) ?_
      refine W.widen (k := 70 + 2 * i + 10) (n := 1826 + 20 * i + 100) (by omega) (by omega) ?_
      exact kk M H locs ls hI hG hl0
end LW
set_option maxHeartbeats 4000000 in
set_option maxRecDepth 100000 in
/-- THE LAW, from its entry -/
theorem whole_start {p : Program} {e : Env} {s : State} {m : MethodId} {below : List Frame} {meth : Method} {c : Code} (l : Launch) (hflags : l.flags = flags0) {b L : Nat} {xs : Nat → Int32} (hL : L ≤ 2560) (C0 : lw_At p s m meth c b L xs) : W p l e room_1 s m #[Value.ref b] below meth c s.heap [] 0 0 (lw_Z below #[Value.ref b] s) (entryFrame m ([Value.ref b] : List Value).toArray 9) := by
  obtain ⟨hx, hb, hr, hml, hown, hts, hX, hbl, hlocks, hgv⟩ := id C0
  have hst : l.stackTraces = false := by
    unfold Launch.stackTraces
    rw [hflags]
    decide +kernel
  obtain ⟨D, ca, F, FG⟩ := st_FX C0
  have hA : ∀ q : Nat, s.heap.size ≤ q → (fun q : Nat => s.heap.size ≤ q) q := fun _ h => h
  have G : GI D (fun q : Nat => s.heap.size ≤ q) s [] s.heap [] := ⟨fun k q h => by simp at h, ⟨fun i j p q h => by simp at h, fun k q h => by simp at h⟩, va_S.rf⟩
  have hl := lv_entry ([.ref b]) (n := 9) (Nat.le_of_ble_eq_true rfl)
  rw [lg_entry_eq]
  generalize (lg_sl ([.ref b]) ++ List.replicate (9 - (lg_sl ([.ref b])).length) Slot.unset).toArray = ls at hl ⊢
  have hl : lv_has ls 9 [(0, .ref b)] := hl
  refine n_new F G hA (ci := 5) (kuX5 F.kd) tyX5 tyX5_ok (kw19 F.kd) (kw20 F.kd) (kw1 F.kd) rfl [.null, .null, .null] (fun j hj => by rcases (show j = 0 ∨ j = 1 ∨ j = 2 by omega) with rfl | rfl | rfl <;> rfl) (Nat.le_of_ble_eq_true rfl) (Nat.le_of_ble_eq_true rfl) dL_law_0 (fun h0 H G => ?_)
  refine lv_dup hx hb dL_law_3 rfl ?_
  refine n_callI F (X := []) (As := []) (rest := [.ref h0]) G hA (i_X5 l D ca h0) (kw21 F.kd) (kw22 F.kd) (kw1 F.kd) (kw23 F.kd) rfl yd_X5_init ⟨Nat.le_of_ble_eq_true rfl, Nat.le_of_ble_eq_true rfl⟩ rfl hl.1 rfl (Nat.le_of_ble_eq_true rfl) dL_law_4 ⟨Nat.le_of_ble_eq_true rfl, Nat.le_of_ble_eq_true rfl⟩ (fun w9 H locs hp G => ?_)
  obtain ⟨a, b', q, r, t, rfl⟩ := hp
  have G : GI D (fun q : Nat => s.heap.size ≤ q) s (clsW ca h0 q r t a b') H locs := G
  refine lv_astore_n (lv' := [(1, .ref h0), (0, .ref b)]) hx hb dL_law_7 rfl hl (by decide) rfl (fun ls hl => ?_)
  refine n_new F G hA (ci := 7) (kuX7 F.kd) tyX7 tyX7_ok (kw628 F.kd) (kw629 F.kd) (kw7 F.kd) rfl [.int 0, .int 0, .int 0, .null, .null, .null, .null, .null, .null] (fun j hj => by rcases (show j = 0 ∨ j = 1 ∨ j = 2 ∨ j = 3 ∨ j = 4 ∨ j = 5 ∨ j = 6 ∨ j = 7 ∨ j = 8 by omega) with rfl | rfl | rfl | rfl | rfl | rfl | rfl | rfl | rfl <;> rfl) (Nat.le_of_ble_eq_true rfl) (Nat.le_of_ble_eq_true rfl) dL_law_8 (fun h1 H G => ?_)
  refine lv_dup hx hb dL_law_11 rfl ?_
  refine n_callI F (X := clsW ca h0 q r t a b') (As := []) (rest := [.ref h1]) G hA (i_X7 l D ca h1) (kw630 F.kd) (kw631 F.kd) (kw7 F.kd) (kw632 F.kd) rfl yd_X7_init ⟨Nat.le_of_ble_eq_true rfl, Nat.le_of_ble_eq_true rfl⟩ rfl hl.1 rfl (Nat.le_of_ble_eq_true rfl) dL_law_12 ⟨Nat.le_of_ble_eq_true rfl, Nat.le_of_ble_eq_true rfl⟩ (fun w9 H locs hp G => ?_)
  obtain ⟨q1, r1, t1, u1, c1, d1, rfl⟩ := hp
  have G : GI D (fun q : Nat => s.heap.size ≤ q) s (clsW ca h0 q r t a b' ++ modW ca h1 q1 r1 t1 u1 c1 d1) H locs := G
  refine lv_astore_n (lv' := [(2, .ref h1), (1, .ref h0), (0, .ref b)]) hx hb dL_law_15 rfl hl (by decide) rfl (fun ls hl => ?_)
  refine lv_iconst (v := 1) hx hb dL_law_16 (by decide) ?_
  refine va_newa (ty := .long) (a0 := (1, .inr (.inl (fun _ => 0)))) F.1 F.2.1 (atype := .long) (hts _ tw919) rfl F.hK G.1 G.2.1 G.2.2 hA (fun cA => rfl) (by decide) (by decide) (by decide) (Nat.le_of_ble_eq_true rfl) (Nat.le_of_ble_eq_true rfl) dL_law_17 (fun o cA H hK hP hD hS => ?_)
  have hca : cA = ca.2.2.2 := by
    obtain ⟨-, z1⟩ := hK.2 4 _ rfl
    obtain ⟨-, z2⟩ := F.hK.2 3 _ rfl
    exact Option.some.inj (z1.symm.trans z2)
  subst hca
  refine lv_astore_n (lv' := [(3, .ref o), (2, .ref h1), (1, .ref h0), (0, .ref b)]) hx hb dL_law_19 rfl hl (by decide) rfl (fun ls hl => ?_)
  refine lv_iconst (v := 0) hx hb dL_law_20 (by decide) ?_
  refine lv_istore (lv' := [(4, .int 0), (3, .ref o), (2, .ref h1), (1, .ref h0), (0, .ref b)]) hx hb dL_law_21 hl (by decide) rfl (fun ls hl => ?_)
  have hPl : va_P D vwCl (lawW ca h0 q r t a b' h1 q1 r1 t1 u1 c1 d1 o) H := hP
  have hDl : va_D (fun q : Nat => s.heap.size ≤ q) (lawW ca h0 q r t a b' h1 q1 r1 t1 u1 c1 d1 o) := hD
  have hP2 := gg_P hPl
  obtain ⟨hI2, hA2⟩ := gg_I hDl
  have hl : lv_has ls 9 [(4, .int 0), (3, .ref (gg h0 q r t a b' h1 q1 r1 t1 u1 c1 d1 o 69)), (2, .ref (gg h0 q r t a b' h1 q1 r1 t1 u1 c1 d1 o 44)), (1, .ref (gg h0 q r t a b' h1 q1 r1 t1 u1 c1 d1 o 40)), (0, .ref b)] := hl
  generalize gg h0 q r t a b' h1 q1 r1 t1 u1 c1 d1 o = g at hP2 hI2 hA2 hl
  have hge : ∀ z, gA g s.heap.size z → s.heap.size ≤ z := fun z hz => by
    rcases hz with ⟨k, hk, rfl⟩ | hz
    · exact hA2 k hk
    · exact hz
  have hG : GW D ca g s (fun _ _ => 0) H locs := ⟨hP2, hS.1, fun z z1 z2 => hS.2.1 z z1 (fun z3 => z2 (gA_new z3)), fun z hz => gA_new (hS.2.2 z hz)⟩
  refine W.widen (k := 70 + 2 * 0) (n := 1826 + 20 * 0) (Nat.le_of_ble_eq_true rfl) (Nat.le_of_ble_eq_true rfl) ?_
  exact lw_loop (fu := 3000000) (Nat.le_of_ble_eq_true rfl) hst (FG g hI2 hA2) hr hlocks ⟨hX, hbl, fun z => by
    have := hge _ z
    omega, hL⟩ hge (L + 1) 0 (by omega) (by omega) (fun _ _ => 0) H locs ls inv_0 hG (lv_sub hl [4, 3, 2, 1, 0] rfl)

/-! ===== the script; the start; the graph behind the constructor ===== -/
theorem kw0 {args : Array Value} {s : State} (h : KD s) : (Cond.initialized RL).before args s = true := va_Nw.use rfl (h _ (List.mem_append_right _ (List.mem_of_getElem? (i := 0) (by decide +kernel))) rfl)
theorem kw7 {args : Array Value} {s : State} (h : KD s) : (Cond.initialized Bundle.tN).before args s = true := va_Nw.use rfl (h _ (List.mem_append_right _ (List.mem_of_getElem? (i := 7) (by decide +kernel))) rfl)
theorem kw105 {args : Array Value} {s : State} (h : KD s) : (Cond.instantiable RX5 3).before args s = true := va_Nw.use rfl (h _ (List.mem_append_right _ (List.mem_of_getElem? (i := 105) (by decide +kernel))) rfl)
theorem kw388 {args : Array Value} {s : State} (h : KD s) : (Cond.constant RL 8 (790386105)).before args s = true := va_Nw.use rfl (h _ (List.mem_append_right _ (List.mem_of_getElem? (i := 388) (by decide +kernel))) rfl)
theorem tw_i : Cond.arrayClass .int ∈ lw_tbl := List.mem_append_right _ (List.mem_of_getElem? (i := 411) (by decide +kernel))
theorem tw_c : Cond.arrayOver (.object RX0) ∈ lw_tbl := List.mem_append_right _ (List.mem_of_getElem? (i := 413) (by decide +kernel))
theorem tw_p : Cond.arrayOver (.object RX2) ∈ lw_tbl := List.mem_append_right _ (List.mem_of_getElem? (i := 445) (by decide +kernel))
theorem tw_a : Cond.arrayOver (.array .int) ∈ lw_tbl := List.mem_append_right _ (List.mem_of_getElem? (i := 606) (by decide +kernel))
theorem tw_u : Cond.laysStatic Bundle.tN "UNASSIGNED_STACK" Bundle.steD ∈ lw_tbl := List.mem_append_right _ (List.mem_of_getElem? (i := 52) (by decide +kernel))
theorem tw_s : Cond.laysStatic Bundle.tN "SUPPRESSED_SENTINEL" Bundle.listD ∈ lw_tbl := List.mem_append_right _ (List.mem_of_getElem? (i := 54) (by decide +kernel))
theorem c_L_cell (l : Launch) (D : va_G) (ca : vCA) (g : Nat → Nat) {M : Mem} {x1 r : Int32} (h : m_L_cell (scr ca) x1 = some r) : cM l yL_cell cL_cell 2 (some .int) { frames := 0, cells := 0, slots := 0, locals := 0 } D ca g M [.ref ca.2.2.2.1, .int x1] (fun sz => cQi D ca g sz M r) := by
  refine mk_Met (by decide) (Nat.le_of_ble_eq_true rfl) ?_
  intro p e s m below meth c F hr hlk hnm hG ls hl
  have hx := F.1
  have hb := F.2.1
  replace hl : lv_has ls 2 [(0, .ref ca.2.2.2.1), (1, .int x1)] := hl
  obtain ⟨k1, k2, k3, k4⟩ := F.ks
  unfold m_L_cell scr at h
  by_cases h0 : x1 < 0
  · rw [if_pos h0] at h
    cases h
  rw [if_neg h0] at h
  refine lv_iload_n hx hb dL_cell_0 rfl (lv_at hl 1 rfl) ?_
  refine lv_aload_n hx hb dL_cell_1 rfl (lv_at hl 0 rfl) ?_
  refine va_slen hx hb k1 k2 k3 hG.2 dL_cell_2 ?_
  refine lv_icmp_ge (tgt := 12) hx hb dL_cell_3 (by decide) (fun c1 => ?_) (fun c1 => ?_)
  · rw [if_pos c1] at h
    obtain rfl := som1 h
    refine lv_ldc (v := 790386105) hx hb F.2.2.2.1 (kw388 F.kd) dL_cell_12 ?_
    refine lv_iload_n hx hb dL_cell_14 rfl (lv_at hl 1 rfl) ?_
    refine lv_iconst (v := 3) hx hb dL_cell_15 (by decide) ?_
    refine lv_iadd hx hb dL_cell_16 ?_
    refine lv_imul hx hb dL_cell_17 ?_
    exact end_i F hr hlk hG dL_cell_18
  · rw [if_neg c1] at h
    obtain rfl := som1 h
    have hv : vp_in x1 ca.2.2.2.2.1 := by
      rcases pk_ix x1 (n := ca.2.2.2.2.1) (by omega) with q | q | ⟨j, hj, rfl⟩
      · exact absurd q h0
      · exact absurd q c1
      · exact vp_in_nI hj (by omega)
    refine lv_aload_n hx hb dL_cell_6 rfl (lv_at hl 0 rfl) ?_
    refine lv_iload_n hx hb dL_cell_7 rfl (lv_at hl 1 rfl) ?_
    refine va_sld hx hb k1 k2 k3 hG.2 hv dL_cell_8 ?_
    refine lv_goto (tgt := 18) hx hb dL_cell_9 (by decide) ?_
    exact end_i F hr hlk hG dL_cell_18
theorem yd_L_cell : yL_cell.cls ≠ "java/lang/invoke/MethodHandle" ∧ yL_cell.cls ≠ "java/lang/invoke/VarHandle" ∧ (parseMethodDescriptor yL_cell.desc).map (fun d => d.parameters.length) = some 2 := ⟨by decide +kernel, by decide +kernel, by decide +kernel⟩
/-! ===== what holds at the law's start ===== -/
theorem st_int {args : Array Value} {s : State} (h : (Cond.arrayClass .int).before args s = true) : ∃ c : ClassId, ArrOfT s c .int ∧ va_RA s c .int := by
  obtain ⟨c, k, comp, h1, h2, h3⟩ := Cond.arrayClass_spec h
  exact ⟨c, fun n z => ⟨(fun k h => by cases h), k, h2, comp, h3⟩, h1⟩
theorem st_obj {args : Array Value} {s : State} {C : String} (h : (Cond.arrayOver (.object C)).before args s = true) : ∃ c : ClassId, ArrOfT s c (.object C) ∧ va_RA s c (.object C) := by
  obtain ⟨comp, c, k, h1, h2, h3, h4, h5⟩ := Cond.arrayOver_spec h
  exact ⟨c, fun n z => ⟨(fun k h => by cases h), k, h3, comp, h4⟩, k, comp, h3, h4, h1, h5⟩
theorem st_KD {b : Nat} {s : State} (hts : ∀ w ∈ lw_tbl, w.before #[Value.ref b] s = true) : KD s := fun w hw ho => va_Nw.of (okW_on ho) (hts w hw)
theorem st_KI {b : Nat} {s : State} (b0 L : Nat) (xs : Nat → Int32) (hts : ∀ w ∈ lw_tbl, w.before #[Value.ref b] s = true) : ∃ (D : va_G) (ca : vCA), KI D ca s ∧ ca.2.2.2 = (b0, L, xs) := by
  have hkd := st_KD hts
  obtain ⟨c0, s0, h0⟩ := u_known (C := RX0) (T := TX0) (N := 6) (n := 6) hts iuX0 (kw120 hkd)
  obtain ⟨c1, s1, h1⟩ := u_known (C := RX1) (T := TX1) (N := 6) (n := 6) hts iuX1 (kw115 hkd)
  obtain ⟨c2, s2, h2⟩ := u_known (C := RX2) (T := TX2) (N := 4) (n := 4) hts iuX2 (kw157 hkd)
  obtain ⟨c3, s3, h3⟩ := u_known (C := RX3) (T := TX3) (N := 1) (n := 1) hts iuX3 (kw96 hkd)
  obtain ⟨c4, s4, h4⟩ := u_known (C := RX4) (T := TX4) (N := 4) (n := 4) hts iuX4 (kw198 hkd)
  obtain ⟨c5, s5, h5⟩ := u_known (C := RX5) (T := TX5) (N := 3) (n := 3) hts iuX5 (kw105 hkd)
  obtain ⟨i0, a0, r0⟩ := st_int (hts _ tw_i)
  obtain ⟨i1, a1, r1⟩ := st_obj (hts _ tw_c)
  obtain ⟨i2, a2, r2⟩ := st_obj (hts _ tw_p)
  refine ⟨(fun k => [c0, c1, c2, c3, c4, c5].getD k c0, fun k => [s0, s1, s2, s3, s4, s5].getD k s0), (i0, i1, i2, b0, L, xs), ⟨⟨fun k q hq => ?_, fun k q hq => ?_⟩, hkd, hts _ tw_i, va_AO.of (hts _ tw_c), va_AO.of (hts _ tw_p)⟩, rfl⟩
  · match k, hq with
    | 0, hq => cases hq; exact h0
    | 1, hq => cases hq; exact h1
    | 2, hq => cases hq; exact h2
    | 3, hq => cases hq; exact h3
    | 4, hq => cases hq; exact h4
    | 5, hq => cases hq; exact h5
    | k + 6, hq => simp [vwCl] at hq
  · match k, hq with
    | 0, hq => cases hq; exact ⟨a0, r0⟩
    | 1, hq => cases hq; exact ⟨a1, r1⟩
    | 2, hq => cases hq; exact ⟨a2, r2⟩
    | k + 3, hq => simp [tyL] at hq
theorem st_x1 : ∀ q ∈ xtx, Cond.stringRef RX5 q.1 q.2 ∈ lw_tbl := by decide +kernel
theorem st_x2 : ∀ q ∈ xtx, Cond.exactly (.string RX5 q.1) "java/lang/String" ∈ flatC (Jvm.Cond.and given_1 narrow_1) := by decide +kernel
theorem st_x3 : ∀ q ∈ xnc, Cond.not (.castable q.1 q.2) ∈ flatC (Jvm.Cond.and given_1 narrow_1) := by decide +kernel
theorem st_KX {b : Nat} {s : State} {g : Nat → Nat} (hts : ∀ w ∈ lw_tbl, w.before #[Value.ref b] s = true) (hgv : (Jvm.Cond.and given_1 narrow_1).before #[Value.ref b] s = true) (hA : ∀ a : Nat, a < s.heap.size → ¬ gA g s.heap.size a) : KX g s := by
  have hs := flat_of_before _ hgv
  refine ⟨vx_Zqof (hts _ tw_u) (kw7 (st_KD hts)) (hs _ (by decide +kernel)) hA, vx_Zqof (hts _ tw_s) (kw7 (st_KD hts)) (hs _ (by decide +kernel)) hA, fun q hq => ?_, fun q hq => va_Nc.of (hs _ (st_x3 q hq)), hts _ tw_i⟩
  obtain ⟨a, c, cell, k, h1, -⟩ := Cond.exactly_spec (hs _ (st_x2 q hq))
  exact ⟨a, vk_R.of (hts _ (st_x1 q hq)) h1⟩
theorem gA_up {g : Nat → Nat} {sz : Nat} (hg : ∀ k, k < 44 → sz ≤ g k) : ∀ a : Nat, a < sz → ¬ gA g sz a := fun a ha z => by
  rcases z with ⟨k, hk, rfl⟩ | z
  · have := hg k hk
    omega
  · omega
/-- what the methods of the law that make objects are given -/
def KQ (D : va_G) (ca : vCA) (U : State) : Prop := KI D ca U ∧ ∀ g : Nat → Nat, gInj g → (∀ k, k < 44 → U.heap.size ≤ g k) → KW D ca g U
theorem KQ.to {D : va_G} {ca : vCA} {s U : State} (h : KQ D ca s) (hW : s.WarmedH U.vm) (hh : U.heap = s.heap) : KQ D ca U := by
  refine ⟨h.1.warm hW, fun g hi hg => ?_⟩
  have h1 := h.2 g hi (fun k hk => by rw [← hh]; exact hg k hk)
  refine KW.to (M := fun _ _ => 0) (locs := []) h1 hW ?_
  rw [hh]
  exact va_S.rf
/-! the world behind the constructor -/
abbrev clsW (ca : vCA) (h0 q r t : Nat) (a b : Nat → Nat) : va_W := (h0, .inr (5, [.ref (a 0), .ref (b 0), .ref q])) :: (nightW ca a ++ nightW ca b ++ [(q, .inr (4, [.ref r, .ref t, .int 0, .int 0])), (r, .inl (ca.1, 108, .inl (fun _ => 0))), (t, .inl (ca.1, 216, .inl (fun _ => 0)))])
def gg (h0 q r t : Nat) (a b : Nat → Nat) : Nat → Nat := fun k => if k < 20 then a k else if k < 40 then b (k - 20) else [h0, q, r, t].getD (k - 40) 0
def gix (k : Nat) : Nat := if k < 40 then k + 1 else if k = 40 then 0 else k
theorem gix_inj {i j : Nat} (h : gix i = gix j) : i = j := by
  unfold gix at h
  split at h <;> split at h <;> (try split at h) <;> (try split at h) <;> omega
section GG
variable {D : va_G} {ca : vCA} {H : Heap} {h0 q r t : Nat} {a b : Nat → Nat}
theorem gg_a {k : Nat} (h : k < 20) : gg h0 q r t a b k = a k := if_pos h
theorem gg_b {k : Nat} (h : 20 ≤ k) (h2 : k < 40) : gg h0 q r t a b k = b (k - 20) := by
  unfold gg
  rw [if_neg (by omega), if_pos h2]
theorem gw_q {ad : Nat} {cA : ClassId} {n : Nat} {f f' : Nat → Option Nat} (h : ∀ j, j < n → f j = f' j) (hat : va_at D vwCl (ad, .inl (cA, n, .inr (.inr (.inr (.inr f))))) H) : va_at D vwCl (ad, .inl (cA, n, .inr (.inr (.inr (.inr f'))))) H := by
  show H[ad]? = some (vp_cell cA (n, .inr (.inr (.inr (.inr f')))))
  rw [← vp_cell_c h]
  exact hat
set_option maxRecDepth 20000 in
theorem gg_at : ∀ k, k < 44 → ∃ el, (clsW ca h0 q r t a b)[gix k]? = some (gg h0 q r t a b k, el) ∧ (va_at D vwCl (gg h0 q r t a b k, el) H → va_at D vwCl (gg h0 q r t a b k, gdesc ca (gg h0 q r t a b) (fun _ => 0) k) H) := by
  intro k hk
  match k, hk with
  | 0, _ => exact ⟨_, rfl, id⟩
  | 1, _ => exact ⟨_, rfl, id⟩
  | 2, _ => exact ⟨_, rfl, id⟩
  | 3, _ => exact ⟨_, rfl, fun h => gw_q (fun j hj => by rw [gg_a (by omega)]) h⟩
  | 4, _ => exact ⟨_, rfl, fun h => gw_q (fun j hj => by rw [gg_a (by omega)]) h⟩
  | 5, _ => exact ⟨_, rfl, id⟩
  | 6, _ => exact ⟨_, rfl, id⟩
  | 7, _ => exact ⟨_, rfl, id⟩
  | 8, _ => exact ⟨_, rfl, id⟩
  | 9, _ => exact ⟨_, rfl, id⟩
  | 10, _ => exact ⟨_, rfl, id⟩
  | 11, _ => exact ⟨_, rfl, id⟩
  | 12, _ => exact ⟨_, rfl, id⟩
  | 13, _ => exact ⟨_, rfl, id⟩
  | 14, _ => exact ⟨_, rfl, id⟩
  | 15, _ => exact ⟨_, rfl, id⟩
  | 16, _ => exact ⟨_, rfl, id⟩
  | 17, _ => exact ⟨_, rfl, id⟩
  | 18, _ => exact ⟨_, rfl, id⟩
  | 19, _ => exact ⟨_, rfl, id⟩
  | 20, _ => exact ⟨_, rfl, id⟩
  | 21, _ => exact ⟨_, rfl, id⟩
  | 22, _ => exact ⟨_, rfl, id⟩
  | 23, _ => exact ⟨_, rfl, fun h => gw_q (fun j hj => by rw [gg_b (by omega) (by omega), show 23 + 2 + 2 * j - 20 = 3 + 2 + 2 * j by omega]) h⟩
  | 24, _ => exact ⟨_, rfl, fun h => gw_q (fun j hj => by rw [gg_b (by omega) (by omega), show 24 + 13 + j - 20 = 4 + 13 + j by omega]) h⟩
  | 25, _ => exact ⟨_, rfl, id⟩
  | 26, _ => exact ⟨_, rfl, id⟩
  | 27, _ => exact ⟨_, rfl, id⟩
  | 28, _ => exact ⟨_, rfl, id⟩
  | 29, _ => exact ⟨_, rfl, id⟩
  | 30, _ => exact ⟨_, rfl, id⟩
  | 31, _ => exact ⟨_, rfl, id⟩
  | 32, _ => exact ⟨_, rfl, id⟩
  | 33, _ => exact ⟨_, rfl, id⟩
  | 34, _ => exact ⟨_, rfl, id⟩
  | 35, _ => exact ⟨_, rfl, id⟩
  | 36, _ => exact ⟨_, rfl, id⟩
  | 37, _ => exact ⟨_, rfl, id⟩
  | 38, _ => exact ⟨_, rfl, id⟩
  | 39, _ => exact ⟨_, rfl, id⟩
  | 40, _ => exact ⟨_, rfl, id⟩
  | 41, _ => exact ⟨_, rfl, id⟩
  | 42, _ => exact ⟨_, rfl, id⟩
  | 43, _ => exact ⟨_, rfl, id⟩
  | k + 44, h => omega
theorem gg_P (hP : va_P D vwCl (clsW ca h0 q r t a b) H) : va_P D vwCl (gws ca (gg h0 q r t a b) (fun _ _ => 0)) H := by
  intro k x hx
  obtain ⟨hk, rfl⟩ := gws_of hx
  obtain ⟨el, e1, e2⟩ := gg_at (D := D) (H := H) (ca := ca) (h0 := h0) (q := q) (r := r) (t := t) (a := a) (b := b) k hk
  exact e2 (hP _ _ e1)
theorem gg_I {A : Nat → Prop} (hD : va_D A (clsW ca h0 q r t a b)) : gInj (gg h0 q r t a b) ∧ ∀ k, k < 44 → A (gg h0 q r t a b k) := by
  have hat := fun k hk => gg_at (D := (fun _ => 0, fun _ _ => 0)) (H := #[]) (ca := ca) (h0 := h0) (q := q) (r := r) (t := t) (a := a) (b := b) k hk
  refine ⟨fun i j hi hj e => ?_, fun k hk => ?_⟩
  · obtain ⟨x, ex, -⟩ := hat i hi
    obtain ⟨y, ey, -⟩ := hat j hj
    exact gix_inj (hD.1 _ _ _ _ ex ey e)
  · obtain ⟨x, ex, -⟩ := hat k hk
    exact hD.2 _ _ ex
end GG

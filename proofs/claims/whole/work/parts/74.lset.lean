/-! ===== the law: what holds at its start ===== -/
theorem st_int {args : Array Value} {s : State} (h : (Cond.arrayClass .int).before args s = true) : ∃ c : ClassId, ArrOfT s c .int ∧ va_RA s c .int := by
  obtain ⟨c, k, comp, h1, h2, h3⟩ := Cond.arrayClass_spec h
  exact ⟨c, fun n z => ⟨(fun k h => by cases h), k, h2, comp, h3⟩, h1⟩
theorem st_long {args : Array Value} {s : State} (h : (Cond.arrayClass .long).before args s = true) : ∃ c : ClassId, ArrOfT s c .long ∧ va_RA s c .long := by
  obtain ⟨c, k, comp, h1, h2, h3⟩ := Cond.arrayClass_spec h
  exact ⟨c, fun n z => ⟨(fun k h => by cases h), k, h2, comp, h3⟩, h1⟩
theorem st_obj {args : Array Value} {s : State} {C : String} (h : (Cond.arrayOver (.object C)).before args s = true) : ∃ c : ClassId, ArrOfT s c (.object C) ∧ va_RA s c (.object C) := by
  obtain ⟨comp, c, k, h1, h2, h3, h4, h5⟩ := Cond.arrayOver_spec h
  exact ⟨c, fun n z => ⟨(fun k h => by cases h), k, h3, comp, h4⟩, k, comp, h3, h4, h1, h5⟩
theorem st_KD {b : Nat} {s : State} (hts : ∀ w ∈ lw_tbl, w.before #[Value.ref b] s = true) : KD s := fun w hw ho => va_Nw.of (okW_on ho) (hts w hw)
theorem st_KI {b : Nat} {s : State} (hts : ∀ w ∈ lw_tbl, w.before #[Value.ref b] s = true) : ∃ (D : va_G) (ca : vCA), KI D ca s := by
  have hkd := st_KD hts
  obtain ⟨c0, s0, h0⟩ := u_known (C := RX0) (T := TX0) (N := 6) (n := 6) hts iuX0 (kw46 hkd)
  obtain ⟨c1, s1, h1⟩ := u_known (C := RX1) (T := TX1) (N := 6) (n := 6) hts iuX1 (kw28 hkd)
  obtain ⟨c2, s2, h2⟩ := u_known (C := RX2) (T := TX2) (N := 4) (n := 4) hts iuX2 (kw79 hkd)
  obtain ⟨c3, s3, h3⟩ := u_known (C := RX3) (T := TX3) (N := 1) (n := 1) hts iuX3 (kw34 hkd)
  obtain ⟨c4, s4, h4⟩ := u_known (C := RX4) (T := TX4) (N := 4) (n := 4) hts iuX4 (kw125 hkd)
  obtain ⟨c5, s5, h5⟩ := u_known (C := RX5) (T := TX5) (N := 3) (n := 3) hts iuX5 (kw20 hkd)
  obtain ⟨c6, s6, h6⟩ := u_known (C := RX6) (T := TX6) (N := 11) (n := 11) hts iuX6 (kw635 hkd)
  obtain ⟨c7, s7, h7⟩ := u_known (C := RX7) (T := TX7) (N := 9) (n := 9) hts iuX7 (kw629 hkd)
  obtain ⟨i0, a0, r0⟩ := st_int (hts _ tw43)
  obtain ⟨i1, a1, r1⟩ := st_obj (hts _ tw45)
  obtain ⟨i2, a2, r2⟩ := st_obj (hts _ tw78)
  obtain ⟨i3, a3, r3⟩ := st_long (hts _ tw919)
  refine ⟨(fun k => [c0, c1, c2, c3, c4, c5, c6, c7].getD k c0, fun k => [s0, s1, s2, s3, s4, s5, s6, s7].getD k s0), (i0, i1, i2, i3), ⟨fun k q hq => ?_, fun k q hq => ?_⟩, hkd, hts _ tw43, va_AO.of (hts _ tw45), va_AO.of (hts _ tw78)⟩
  · match k, hq with
    | 0, hq => cases hq; exact h0
    | 1, hq => cases hq; exact h1
    | 2, hq => cases hq; exact h2
    | 3, hq => cases hq; exact h3
    | 4, hq => cases hq; exact h4
    | 5, hq => cases hq; exact h5
    | 6, hq => cases hq; exact h6
    | 7, hq => cases hq; exact h7
    | k + 8, hq => simp [vwCl] at hq
  · match k, hq with
    | 0, hq => cases hq; exact ⟨a0, r0⟩
    | 1, hq => cases hq; exact ⟨a1, r1⟩
    | 2, hq => cases hq; exact ⟨a2, r2⟩
    | 3, hq => cases hq; exact ⟨a3, r3⟩
    | k + 4, hq => simp [tyL] at hq
theorem st_KS {b : Nat} {s : State} {g : Nat → Nat} (hts : ∀ w ∈ lw_tbl, w.before #[Value.ref b] s = true) (hgv : (Jvm.Cond.and given_1 narrow_1).before #[Value.ref b] s = true) (hA : ∀ a : Nat, a < s.heap.size → ¬ gA g s.heap.size a) : KS g s := by
  have hs := flat_of_before _ hgv
  obtain ⟨tx, etx, htx⟩ := va_Tof (tm := .static "LaneCrowdsModel" "BY_X" "[I") (ty := .int) (N := 4) (f := byX) (A := gA g s.heap.size) (by decide) (hs _ (by decide +kernel)) (va_eqt (hs _ (by decide +kernel))) (fun j hj => match j, hj with
    | 0, _ => va_eqt (hs _ (by decide +kernel))
    | 1, _ => va_eqt (hs _ (by decide +kernel))
    | 2, _ => va_eqt (hs _ (by decide +kernel))
    | 3, _ => va_eqt (hs _ (by decide +kernel))) hA
  obtain ⟨ty, ety, hty⟩ := va_Tof (tm := .static "LaneCrowdsModel" "BY_Y" "[I") (ty := .int) (N := 4) (f := byY) (A := gA g s.heap.size) (by decide) (hs _ (by decide +kernel)) (va_eqt (hs _ (by decide +kernel))) (fun j hj => match j, hj with
    | 0, _ => va_eqt (hs _ (by decide +kernel))
    | 1, _ => va_eqt (hs _ (by decide +kernel))
    | 2, _ => va_eqt (hs _ (by decide +kernel))
    | 3, _ => va_eqt (hs _ (by decide +kernel))) hA
  exact ⟨tx, ty, va_Zof (hts _ tw833) (kw7 (st_KD hts)) etx hA, va_Zof (hts _ tw835) (kw7 (st_KD hts)) ety hA, htx, hty⟩
theorem st_x1 : ∀ q ∈ xtx, Cond.stringRef RX5 q.1 q.2 ∈ lw_tbl := by decide +kernel
theorem st_x2 : ∀ q ∈ xtx, Cond.exactly (.string RX5 q.1) "java/lang/String" ∈ flatC (Jvm.Cond.and given_1 narrow_1) := by decide +kernel
theorem st_x3 : ∀ q ∈ xnc, Cond.not (.castable q.1 q.2) ∈ flatC (Jvm.Cond.and given_1 narrow_1) := by decide +kernel
theorem st_KX {b : Nat} {s : State} {g : Nat → Nat} (hts : ∀ w ∈ lw_tbl, w.before #[Value.ref b] s = true) (hgv : (Jvm.Cond.and given_1 narrow_1).before #[Value.ref b] s = true) (hA : ∀ a : Nat, a < s.heap.size → ¬ gA g s.heap.size a) : KX g s := by
  have hs := flat_of_before _ hgv
  refine ⟨vx_Zqof (hts _ tw329) (kw9 (st_KD hts)) (hs _ (by decide +kernel)) hA, vx_Zqof (hts _ tw331) (kw9 (st_KD hts)) (hs _ (by decide +kernel)) hA, fun q hq => ?_, fun q hq => va_Nc.of (hs _ (st_x3 q hq)), hts _ tw43⟩
  obtain ⟨a, c, cell, k, h1, -⟩ := Cond.exactly_spec (hs _ (st_x2 q hq))
  exact ⟨a, vk_R.of (hts _ (st_x1 q hq)) h1⟩
theorem st_FX {p : Program} {s : State} {m : MethodId} {meth : Method} {c : Code} {b L : Nat} {xs : Nat → Int32} (C0 : lw_At p s m meth c b L xs) : ∃ (D : va_G) (ca : vCA), FI p m c code 9 s D ca RL ∧ ∀ g : Nat → Nat, gInj g → (∀ k, k < 70 → s.heap.size ≤ g k) → FX p m c code 9 s D ca g RL := by
  obtain ⟨hx, hb, hr, hml, hown, hts, hX, hbl, hlocks, hgv⟩ := id C0
  obtain ⟨D, ca, hK⟩ := st_KI hts
  refine ⟨D, ca, ⟨hx, hb, hml, hown, hK⟩, fun g hi hg => ?_⟩
  have hA : ∀ a : Nat, a < s.heap.size → ¬ gA g s.heap.size a := fun a ha z => by
    rcases z with ⟨k, hk, rfl⟩ | z
    · have := hg k hk
      omega
    · omega
  exact ⟨hx, hb, hml, hown, hK.1, hK.2.1, hi, st_KS hts hgv hA, st_KX hts hgv hA⟩
/-! the world behind the constructors -/
abbrev modW (ca : vCA) (h1 q1 r1 t1 u1 : Nat) (c d : Nat → Nat) : va_W := (h1, .inr (7, [.int 0, .int 0, .int 0, .ref q1, .ref r1, .ref t1, .ref u1, .ref (c 0), .ref (d 0)])) :: ([(q1, .inl (ca.1, 3, .inl (fun _ => 0))), (r1, .inl (ca.1, 36, .inl (fun _ => 0))), (t1, .inl (ca.1, 108, .inl (fun _ => 0))), (u1, .inl (ca.1, 108, .inl (fun _ => 0)))] ++ stateW ca c h1 ++ stateW ca d h1)
abbrev clsW (ca : vCA) (h0 q r t : Nat) (a b : Nat → Nat) : va_W := (h0, .inr (5, [.ref (a 0), .ref (b 0), .ref q])) :: (nightW ca a ++ nightW ca b ++ [(q, .inr (4, [.ref r, .ref t, .int 0, .int 0])), (r, .inl (ca.1, 108, .inl (fun _ => 0))), (t, .inl (ca.1, 216, .inl (fun _ => 0)))])
abbrev lawW (ca : vCA) (h0 q r t : Nat) (a b : Nat → Nat) (h1 q1 r1 t1 u1 : Nat) (c d : Nat → Nat) (o : Nat) : va_W := clsW ca h0 q r t a b ++ modW ca h1 q1 r1 t1 u1 c d ++ [(o, .inl (ca.2.2.2, 1, .inr (.inl (fun _ => 0))))]
def gg (h0 q r t : Nat) (a b : Nat → Nat) (h1 q1 r1 t1 u1 : Nat) (c d : Nat → Nat) (o : Nat) : Nat → Nat := fun k => if k < 20 then a k else if k < 40 then b (k - 20) else if k < 49 then [h0, q, r, t, h1, q1, r1, t1, u1].getD (k - 40) 0 else if k < 59 then c (k - 49) else if k < 69 then d (k - 59) else o
def gix (k : Nat) : Nat := if k < 40 then k + 1 else if k = 40 then 0 else k
theorem gix_inj {i j : Nat} (h : gix i = gix j) : i = j := by
  unfold gix at h
  split at h <;> split at h <;> (try split at h) <;> (try split at h) <;> omega
section GG
variable {D : va_G} {ca : vCA} {H : Heap} {h0 q r t : Nat} {a b : Nat → Nat} {h1 q1 r1 t1 u1 : Nat} {c d : Nat → Nat} {o : Nat}
theorem gg_a {k : Nat} (h : k < 20) : gg h0 q r t a b h1 q1 r1 t1 u1 c d o k = a k := if_pos h
theorem gg_b {k : Nat} (h : 20 ≤ k) (h2 : k < 40) : gg h0 q r t a b h1 q1 r1 t1 u1 c d o k = b (k - 20) := by
  unfold gg
  rw [if_neg (by omega), if_pos h2]
theorem gw_q {ad : Nat} {cA : ClassId} {n : Nat} {f f' : Nat → Option Nat} (h : ∀ j, j < n → f j = f' j) (hat : va_at D vwCl (ad, .inl (cA, n, .inr (.inr (.inr (.inr f))))) H) : va_at D vwCl (ad, .inl (cA, n, .inr (.inr (.inr (.inr f'))))) H := by
  show H[ad]? = some (vp_cell cA (n, .inr (.inr (.inr (.inr f')))))
  rw [← vp_cell_c h]
  exact hat
set_option maxRecDepth 20000 in
theorem gg_at : ∀ k, k < 70 → ∃ el, (lawW ca h0 q r t a b h1 q1 r1 t1 u1 c d o)[gix k]? = some (gg h0 q r t a b h1 q1 r1 t1 u1 c d o k, el) ∧ (va_at D vwCl (gg h0 q r t a b h1 q1 r1 t1 u1 c d o k, el) H → va_at D vwCl (gg h0 q r t a b h1 q1 r1 t1 u1 c d o k, gdesc ca (gg h0 q r t a b h1 q1 r1 t1 u1 c d o) (fun _ => 0) k) H) := by
  intro k hk
  match k, hk with
  | 0, _ => exact ⟨_, rfl, id⟩
  | 1, _ => exact ⟨_, rfl, id⟩
  | 2, _ => exact ⟨_, rfl, id⟩
  | 3, _ => exact ⟨_, rfl, fun h => gw_q (fun j hj => by rw [gg_a (by omega)]) h⟩
  | 4, _ => exact ⟨_, rfl, fun h => gw_q (fun j hj => by rw [gg_a (by omega)]) h⟩
  | 5, _ => exact ⟨_, rfl, id⟩
  | 6, _ => exact ⟨_, rfl, id⟩
  | 7, _ => exact ⟨_, rfl, id⟩
  | 8, _ => exact ⟨_, rfl, id⟩
  | 9, _ => exact ⟨_, rfl, id⟩
  | 10, _ => exact ⟨_, rfl, id⟩
  | 11, _ => exact ⟨_, rfl, id⟩
  | 12, _ => exact ⟨_, rfl, id⟩
  | 13, _ => exact ⟨_, rfl, id⟩
  | 14, _ => exact ⟨_, rfl, id⟩
  | 15, _ => exact ⟨_, rfl, id⟩
  | 16, _ => exact ⟨_, rfl, id⟩
  | 17, _ => exact ⟨_, rfl, id⟩
  | 18, _ => exact ⟨_, rfl, id⟩
  | 19, _ => exact ⟨_, rfl, id⟩
  | 20, _ => exact ⟨_, rfl, id⟩
  | 21, _ => exact ⟨_, rfl, id⟩
  | 22, _ => exact ⟨_, rfl, id⟩
  | 23, _ => exact ⟨_, rfl, fun h => gw_q (fun j hj => by rw [gg_b (by omega) (by omega), show 23 + 2 + 2 * j - 20 = 3 + 2 + 2 * j by omega]) h⟩
  | 24, _ => exact ⟨_, rfl, fun h => gw_q (fun j hj => by rw [gg_b (by omega) (by omega), show 24 + 13 + j - 20 = 4 + 13 + j by omega]) h⟩
  | 25, _ => exact ⟨_, rfl, id⟩
  | 26, _ => exact ⟨_, rfl, id⟩
  | 27, _ => exact ⟨_, rfl, id⟩
  | 28, _ => exact ⟨_, rfl, id⟩
  | 29, _ => exact ⟨_, rfl, id⟩
  | 30, _ => exact ⟨_, rfl, id⟩
  | 31, _ => exact ⟨_, rfl, id⟩
  | 32, _ => exact ⟨_, rfl, id⟩
  | 33, _ => exact ⟨_, rfl, id⟩
  | 34, _ => exact ⟨_, rfl, id⟩
  | 35, _ => exact ⟨_, rfl, id⟩
  | 36, _ => exact ⟨_, rfl, id⟩
  | 37, _ => exact ⟨_, rfl, id⟩
  | 38, _ => exact ⟨_, rfl, id⟩
  | 39, _ => exact ⟨_, rfl, id⟩
  | 40, _ => exact ⟨_, rfl, id⟩
  | 41, _ => exact ⟨_, rfl, id⟩
  | 42, _ => exact ⟨_, rfl, id⟩
  | 43, _ => exact ⟨_, rfl, id⟩
  | 44, _ => exact ⟨_, rfl, id⟩
  | 45, _ => exact ⟨_, rfl, id⟩
  | 46, _ => exact ⟨_, rfl, id⟩
  | 47, _ => exact ⟨_, rfl, id⟩
  | 48, _ => exact ⟨_, rfl, id⟩
  | 49, _ => exact ⟨_, rfl, id⟩
  | 50, _ => exact ⟨_, rfl, id⟩
  | 51, _ => exact ⟨_, rfl, id⟩
  | 52, _ => exact ⟨_, rfl, id⟩
  | 53, _ => exact ⟨_, rfl, id⟩
  | 54, _ => exact ⟨_, rfl, id⟩
  | 55, _ => exact ⟨_, rfl, id⟩
  | 56, _ => exact ⟨_, rfl, id⟩
  | 57, _ => exact ⟨_, rfl, id⟩
  | 58, _ => exact ⟨_, rfl, id⟩
  | 59, _ => exact ⟨_, rfl, id⟩
  | 60, _ => exact ⟨_, rfl, id⟩
  | 61, _ => exact ⟨_, rfl, id⟩
  | 62, _ => exact ⟨_, rfl, id⟩
  | 63, _ => exact ⟨_, rfl, id⟩
  | 64, _ => exact ⟨_, rfl, id⟩
  | 65, _ => exact ⟨_, rfl, id⟩
  | 66, _ => exact ⟨_, rfl, id⟩
  | 67, _ => exact ⟨_, rfl, id⟩
  | 68, _ => exact ⟨_, rfl, id⟩
  | 69, _ => exact ⟨_, rfl, fun h => by
      have e : (fun j : Nat => if j = 0 then ((0 : Int32)).toInt64 else (0 : Int64)) = fun _ => 0 := by
        funext j
        split
        · rfl
        · rfl
      show va_at D vwCl (_, .inl (ca.2.2.2, 1, .inr (.inl (fun j : Nat => if j = 0 then ((0 : Int32)).toInt64 else (0 : Int64))))) H
      rw [e]
      exact h⟩
  | k + 70, h => omega
theorem gg_P (hP : va_P D vwCl (lawW ca h0 q r t a b h1 q1 r1 t1 u1 c d o) H) : va_P D vwCl (gws ca (gg h0 q r t a b h1 q1 r1 t1 u1 c d o) (fun _ _ => 0)) H := by
  intro k x hx
  obtain ⟨hk, rfl⟩ := gws_of hx
  obtain ⟨el, e1, e2⟩ := gg_at (D := D) (H := H) (ca := ca) (h0 := h0) (q := q) (r := r) (t := t) (a := a) (b := b) (h1 := h1) (q1 := q1) (r1 := r1) (t1 := t1) (u1 := u1) (c := c) (d := d) (o := o) k hk
  exact e2 (hP _ _ e1)
theorem gg_I {A : Nat → Prop} (hD : va_D A (lawW ca h0 q r t a b h1 q1 r1 t1 u1 c d o)) : gInj (gg h0 q r t a b h1 q1 r1 t1 u1 c d o) ∧ ∀ k, k < 70 → A (gg h0 q r t a b h1 q1 r1 t1 u1 c d o k) := by
  have hat := fun k hk => gg_at (D := (fun _ => 0, fun _ _ => 0)) (H := #[]) (ca := ca) (h0 := h0) (q := q) (r := r) (t := t) (a := a) (b := b) (h1 := h1) (q1 := q1) (r1 := r1) (t1 := t1) (u1 := u1) (c := c) (d := d) (o := o) k hk
  refine ⟨fun i j hi hj e => ?_, fun k hk => ?_⟩
  · obtain ⟨x, ex, -⟩ := hat i hi
    obtain ⟨y, ey, -⟩ := hat j hj
    exact gix_inj (hD.1 _ _ _ _ ex ey e)
  · obtain ⟨x, ex, -⟩ := hat k hk
    exact hD.2 _ _ ex
end GG
theorem inv_0 : Inv (fun _ _ => 0) := by
  refine ⟨fun _ _ => 0, 0, 0, fun _ _ _ _ => rfl, fun _ _ _ _ => rfl, fun i hi => absurd hi (by omega), by omega, by omega, rfl, rfl, fun _ _ => ⟨1, by omega, rfl⟩, fun _ _ => ⟨0, by omega, rfl⟩, fun _ _ => ⟨0, by omega, rfl⟩, fun _ _ => ⟨0, by omega, rfl⟩, fun _ _ => ⟨0, by omega, rfl⟩, fun _ _ => ⟨0, by omega, rfl⟩, fun _ _ => ⟨0, by omega, rfl⟩, fun i _ => ⟨0, 0, rfl, rfl, by omega, by omega, fun h => absurd h (by omega), fun _ => rfl⟩⟩

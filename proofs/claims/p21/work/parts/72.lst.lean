/-! ===== the law, from its entry ===== -/
theorem kw389 {args : Array Value} {s : State} (h : KD s) : (Cond.methodLink RL 61 yL_quarter).before args s = true := va_Nw.use rfl (h _ (List.mem_append_right _ (List.mem_of_getElem? (i := 389) (by decide +kernel))) rfl)
theorem kw390 {args : Array Value} {s : State} (h : KD s) : (Cond.static yL_quarter).before args s = true := va_Nw.use rfl (h _ (List.mem_append_right _ (List.mem_of_getElem? (i := 390) (by decide +kernel))) rfl)
theorem kw391 {args : Array Value} {s : State} (h : KD s) : (Cond.code yL_quarter cL_quarter 9 (some (.object "LaneCrowds"))).before args s = true := va_Nw.use rfl (h _ (List.mem_append_right _ (List.mem_of_getElem? (i := 391) (by decide +kernel))) rfl)
section LW
variable {p : Program} {l : Launch} {e : Env} {s : State} {m : MethodId} {below : List Frame} {meth : Method} {c : Code}
variable {D : va_G} {ca : vCA} {g : Nat → Nat} {nc np : Nat}
set_option maxHeartbeats 4000000 in
theorem lw_loop (F : FX p m c cL_law 31 s D ca g RL) (hst : l.stackTraces = false) (hover : va_AOA .int s) (hr : meth.sig.returnType = ret) (hlocks : meth.locks = false) (hge : ∀ q, gA g s.heap.size q → s.heap.size ≤ q) :
    ∀ (d t : Nat), t + d = 20 → ∀ (M : Mem) (H : Heap) (locs : List Loc) (ls : Array Slot), PInv nc np t M → GW D ca g s M H locs → lv_has ls 31 [(4, .int (nI t)), (0, .ref ca.2.2.2.1), (1, .ref (g 40)), (2, .int (nI nc)), (3, .int (nI np))] → W p l e room_1 s m #[Value.ref ca.2.2.2.1] below meth c H locs (200 + 20 * t) (4000 + 400 * t) (lw_Z below #[Value.ref ca.2.2.2.1] s) (F0 m 37 ls []) := by
  have hx := F.1
  have hb := F.2.1
  intro d
  induction d with
  | zero =>
    intro t h1 M H locs ls hI hG hl
    have ht : t = 20 := by omega
    subst ht
    refine lv_iload hx hb dL_law_37 (lv_at hl 0 rfl) ?_
    refine lv_bipush (v := 20) hx hb dL_law_39 (by decide) ?_
    refine lv_icmp_ge (tgt := 1316) hx hb dL_law_41 (by decide) (fun _ => ?_) (fun c1 => absurd (by decide) c1)
    refine lv_iconst (v := 1) hx hb dL_law_1316 (by decide) ?_
    refine va_forget (fun q hq => hge _ (hG.2.2.2 q hq)) ?_
    refine W.widen (k := 600104) (n := 7301313) (by omega) (by omega) ?_
    exact lw_ret hx hb hr hlocks dL_law_1317
  | succ d ih =>
    intro t h1 M H locs ls hI hG hl
    obtain ⟨hc, hp⟩ := hI.le
    obtain ⟨M2, hT, hI2⟩ := pure_T hI (by omega) (scr ca)
    refine lv_iload hx hb dL_law_37 (lv_at hl 0 rfl) ?_
    refine lv_bipush (v := 20) hx hb dL_law_39 (by decide) ?_
    refine lv_icmp_ge (tgt := 1316) hx hb dL_law_41 (by decide) (fun c1 => absurd c1 (show ¬ (20 : Int32) ≤ nI t from nI_ge (b := 20) (by omega) (by omega))) (fun _ => ?_)
    refine law_turn (ue := 200 + 20 * t) (uf := 4000 + 400 * t) F hst hover hc hp (by omega) (by omega) (by omega) hT (fun H locs ls hG hl => ?_) H locs ls hG (lv_sub hl [1, 2, 3, 4, 0] rfl)
    refine W.widen (k := 200 + 20 * (t + 1)) (n := 4000 + 400 * (t + 1)) (by omega) (by omega) ?_
    exact ih (t + 1) (by omega) M2 H locs ls hI2 hG hl
end LW
theorem st_KQ {b L : Nat} {xs : Nat → Int32} {s : State} (hL : L ≤ 260) (hts : ∀ w ∈ lw_tbl, w.before #[Value.ref b] s = true) (hgv : (Jvm.Cond.and given_1 narrow_1).before #[Value.ref b] s = true) (hX : va_X b L xs s s.heap) (hbl : b < s.heap.size) : ∃ (D : va_G) (ca : vCA), KQ D ca s ∧ ca.2.2.2.1 = b := by
  obtain ⟨D, ca, hK, eca⟩ := st_KI b L xs hts
  refine ⟨D, ca, ⟨hK, fun g hi hg => ?_⟩, by rw [eca]⟩
  have hA := gA_up hg
  exact ⟨hK.1, hK.2.1, hi, ⟨by rw [eca]; exact hX, by rw [eca]; exact hbl, by rw [eca]; exact hA b hbl, by rw [eca]; exact hL⟩, st_KX hts hgv hA⟩
set_option maxHeartbeats 4000000 in
set_option maxRecDepth 100000 in
/-- THE LAW, from its entry -/
theorem whole_start {p : Program} {e : Env} {s : State} {m : MethodId} {below : List Frame} {meth : Method} {c : Code} (l : Launch) (hflags : l.flags = flags0) {b L : Nat} {xs : Nat → Int32} (hL : L ≤ 260) (C0 : lw_At p s m meth c b L xs) : W p l e room_1 s m #[Value.ref b] below meth c s.heap [] 0 0 (lw_Z below #[Value.ref b] s) (entryFrame m ([Value.ref b] : List Value).toArray 31) := by
  obtain ⟨hx, hb, hr, hml, hown, hts, hX, hbl, hlocks, hgv⟩ := id C0
  have hst : l.stackTraces = false := by
    unfold Launch.stackTraces
    rw [hflags]
    decide +kernel
  obtain ⟨D, ca, hKQ, eb⟩ := st_KQ hL hts hgv hX hbl
  have hover : va_AOA .int s := va_AOA.of (hts _ tw_a)
  have hkd : KD s := hKQ.1.2.1
  subst eb
  have hl := lv_entry ([.ref ca.2.2.2.1]) (n := 31) (Nat.le_of_ble_eq_true rfl)
  rw [lg_entry_eq]
  generalize (lg_sl ([.ref ca.2.2.2.1]) ++ List.replicate (31 - (lg_sl ([.ref ca.2.2.2.1])).length) Slot.unset).toArray = ls at hl ⊢
  have hl : lv_has ls 31 [(0, .ref ca.2.2.2.1)] := hl
  obtain ⟨M', hQ, hI0⟩ := pure_Q (scr ca)
  refine lv_aload_n hx hb dL_law_0 rfl (lv_at hl 0 rfl) ?_
  have hrun : va_Run p l e room_1 s m #[Value.ref ca.2.2.2.1] below meth c s.heap [] 0 0 rmQ.cells rmQ.slots (F0 m 1 ls [.ref ca.2.2.2.1]) [] (qQ D ca s.heap.size M' ([Value.ref ca.2.2.2.1] : List Value).toArray) (fun q => s.heap.size ≤ q) :=
    va_runS (Ts := []) ⟨hx, hb, hml, hown, fun w h => by cases h⟩ (q_Met l D ca hst hQ s.heap.size) ⟨⟨rfl, rfl, Nat.le_of_ble_eq_true rfl, Nat.le_of_ble_eq_true rfl, pay1 (args := #[Value.ref ca.2.2.2.1]) rfl (kw391 hkd), List.mem_cons_self, kw391 hkd, kw0 hkd, ⟨by decide +kernel, by decide +kernel⟩, (fun sig h => by
      have h2 : (parseMethodDescriptor yL_quarter.desc).map (fun d => d.parameters.length) = some 1 := by decide +kernel
      rw [h] at h2
      exact (Option.some.inj h2).symm), kw389 hkd⟩, kw390 hkd⟩ ⟨qPc_blind D ca _, fun U hU hW => ⟨rfl, by rw [hU], hKQ.to hW hU⟩⟩ rfl rfl hl.1 rfl (lv_room (Nat.le_of_ble_eq_true rfl)) dL_law_1 ⟨Nat.le_of_ble_eq_true rfl, Nat.le_of_ble_eq_true rfl⟩
  refine va_callr (A0 := fun q => s.heap.size ≤ q) hrun va_S.rf (fun q _ h => h) (fun q h => h) (fun g ra t H locs ht hvm hp hB hsz hk hS => ?_)
  obtain ⟨hi, hg⟩ := hp
  obtain ⟨rfl, hP⟩ := hB
  have hG : GW D ca g s M' H locs := ⟨by rw [← ht]; exact hP, gI_S hS⟩
  have F : FX p m c cL_law 31 s D ca g RL := ⟨hx, hb, hml, hown, hKQ.2 g hi hg⟩
  have hge : ∀ z, gA g s.heap.size z → s.heap.size ≤ z := fun z hz => by
    rcases hz with ⟨k, hk, rfl⟩ | hz
    · exact hg k hk
    · exact hz
  obtain ⟨nc, np, M1, h0, hI1⟩ := pure_S0 hI0 (scr ca) 0 0 (fun _ _ => 0)
  refine lv_astore_n (lv' := [(1, .ref (g 40)), (0, .ref ca.2.2.2.1)]) hx hb dL_law_4 rfl hl (by decide) rfl (fun ls hl => ?_)
  refine W.widen (k := 120) (n := 2000) (Nat.le_of_ble_eq_true rfl) (Nat.le_of_ble_eq_true rfl) ?_
  refine w_S0 (ue := 120) (uf := 2000) (cA := 0) (cB := 0) (aW := 0) (aP := 0) (aC := 0) F hst (Nat.zero_le _) (Nat.zero_le _) (by omega) (by omega) h0 (fun M1' u2 u3 H locs ls eo hG hl => ?_) H locs ls ⟨hG, EX.none⟩ (lv_sub hl [1, 0] rfl)
  cases eo
  refine lv_iconst (v := 0) hx hb dL_law_34 (by decide) ?_
  refine lv_istore (lv' := [(4, .int 0), (0, .ref ca.2.2.2.1), (1, .ref (g 40)), (2, .int (nI nc)), (3, .int (nI np))]) hx hb dL_law_35 hl (by decide) rfl (fun ls hl => ?_)
  refine W.widen (k := 200 + 20 * 0) (n := 4000 + 400 * 0) (by omega) (by omega) ?_
  exact lw_loop F hst hover hr hlocks hge 20 0 (by omega) M1 H locs ls hI1 hG.1 hl

/-! ===== quarter, as a method that makes an object; the law's turn and its loop ===== -/
theorem kw392 {args : Array Value} {s : State} (h : KD s) : (Cond.classLink RL 9 RX5).before args s = true := va_Nw.use rfl (h _ (List.mem_append_right _ (List.mem_of_getElem? (i := 392) (by decide +kernel))) rfl)
theorem kw393 {args : Array Value} {s : State} (h : KD s) : (Cond.methodLink RL 11 yX5_init).before args s = true := va_Nw.use rfl (h _ (List.mem_append_right _ (List.mem_of_getElem? (i := 393) (by decide +kernel))) rfl)
theorem kw394 {args : Array Value} {s : State} (h : KD s) : (Cond.instanceMethod yX5_init).before args s = true := va_Nw.use rfl (h _ (List.mem_append_right _ (List.mem_of_getElem? (i := 394) (by decide +kernel))) rfl)
theorem kw395 {args : Array Value} {s : State} (h : KD s) : (Cond.code yX5_init cX5_init 1 none).before args s = true := va_Nw.use rfl (h _ (List.mem_append_right _ (List.mem_of_getElem? (i := 395) (by decide +kernel))) rfl)
theorem kw605 {args : Array Value} {s : State} (h : KD s) : (Cond.classLink RL 75 ("[" ++ (FieldType.array .int).toString)).before args s = true := va_Nw.use rfl (h _ (List.mem_append_right _ (List.mem_of_getElem? (i := 605) (by decide +kernel))) rfl)
abbrev rmQ : Room := { frames := 9, cells := 120, slots := 2000, locals := 161 }
def qPc (D : va_G) (ca : vCA) (sz : Nat) : Array Value → State → Prop := va_Pc [.ref ca.2.2.2.1] (fun U => U.heap.size = sz ∧ KQ D ca U)
def qQ (D : va_G) (ca : vCA) (sz : Nat) (M' : Mem) : Array Value → State → Outcome → State → Prop := va_Qr (fun (u : Nat → Nat) => gInj u ∧ ∀ k, k < 44 → sz ≤ u k) (fun (u : Nat → Nat) (a : Nat) (t : State) => a = u 40 ∧ va_P D vwCl (gws ca u M') t.heap) (fun q => sz ≤ q)
theorem qPc_blind (D : va_G) (ca : vCA) (sz : Nat) : FrameBlind (qPc D ca sz) := by
  intro a U f mk q
  obtain ⟨q0, q1, qK⟩ := q
  exact ⟨q0, q1, KQ.to (s := U) (U := U.calling f mk a) qK (State.WarmedH.refl U) rfl⟩
theorem gI_S {g : Nat → Nat} {s : State} {H : Heap} {locs : List Loc} (h : va_S (fun q => s.heap.size ≤ q) s.heap H locs) : va_S (gA g s.heap.size) s.heap H locs :=
  ⟨h.1, fun z z1 z2 => h.2.1 z z1 (fun z3 => z2 (gA_new z3)), fun z hz => gA_new (h.2.2 z hz)⟩
set_option maxHeartbeats 4000000 in
set_option maxRecDepth 100000 in
theorem q_Met (l : Launch) (D : va_G) (ca : vCA) (hst : l.stackTraces = false) {fu : Nat} {M' : Mem} (h : m_Q0 fu (scr ca) 0 0 (fun _ _ => 0) (fun _ _ => 0) = some M') : ∀ sz : Nat, Met l yL_quarter [Cond.code yL_quarter cL_quarter 9 (some (.object "LaneCrowds"))] rmQ (qPc D ca sz) (qQ D ca sz M') rmQ.cells rmQ.slots (fun q => sz ≤ q) := by
  intro sz
  refine Met.ofW (cc := cL_quarter) (maxL := 9) (ret := some (.object "LaneCrowds")) (by decide) rfl ?_
  intro p e s m args below meth c s₁ B hml hv
  obtain ⟨rfl, hsz, hKQ⟩ := hv
  subst hsz
  rw [lg_entry_eq]
  have hown := findClass_of_methodNamed B.named
  have hr := B.returns
  have hlk := B.notSynchronized
  have F : FI p m c cL_quarter 9 s D ca RL := ⟨B.exec, B.bytes, hml, hown, hKQ.1⟩
  have hx := F.1
  have hb := F.2.1
  have hA : ∀ q : Nat, s.heap.size ≤ q → (fun q : Nat => s.heap.size ≤ q) q := fun _ h => h
  have G : GI D (fun q : Nat => s.heap.size ≤ q) s [] s.heap [] := ⟨fun k q h => by simp at h, ⟨fun i j p q h => by simp at h, fun k q h => by simp at h⟩, va_S.rf⟩
  have hl := lv_entry ([.ref ca.2.2.2.1]) (n := 9) (Nat.le_of_ble_eq_true rfl)
  generalize (lg_sl ([.ref ca.2.2.2.1]) ++ List.replicate (9 - (lg_sl ([.ref ca.2.2.2.1])).length) Slot.unset).toArray = ls at hl ⊢
  have hl : lv_has ls 9 [(0, .ref ca.2.2.2.1)] := hl
  refine n_new F G hA (ci := 5) (kuX5 F.kd) tyX5 tyX5_ok (kw392 F.kd) (kw105 F.kd) (kw1 F.kd) rfl [.null, .null, .null] (fun j hj => by rcases (show j = 0 ∨ j = 1 ∨ j = 2 by omega) with rfl | rfl | rfl <;> rfl) (Nat.le_of_ble_eq_true rfl) (Nat.le_of_ble_eq_true rfl) dL_quarter_0 (fun h0 H G => ?_)
  refine lv_dup hx hb dL_quarter_3 rfl ?_
  refine n_callI F (X := []) (As := []) (rest := [.ref h0]) G hA (i_X5 l D ca h0) (kw393 F.kd) (kw394 F.kd) (kw1 F.kd) (kw395 F.kd) rfl yd_X5_init ⟨Nat.le_of_ble_eq_true rfl, Nat.le_of_ble_eq_true rfl⟩ rfl hl.1 rfl (Nat.le_of_ble_eq_true rfl) dL_quarter_4 ⟨Nat.le_of_ble_eq_true rfl, Nat.le_of_ble_eq_true rfl⟩ (fun w9 H locs hp G => ?_)
  obtain ⟨a, b', q, r, t, rfl⟩ := hp
  have G : GI D (fun q : Nat => s.heap.size ≤ q) s (clsW ca h0 q r t a b') H locs := G
  refine lv_astore_n (lv' := [(1, .ref h0), (0, .ref ca.2.2.2.1)]) hx hb dL_quarter_7 rfl hl (by decide) rfl (fun ls hl => ?_)
  have hP2 := gg_P G.1
  obtain ⟨hI2, hA2⟩ := gg_I G.2.1
  have hl : lv_has ls 9 [(1, .ref (gg h0 q r t a b' 40)), (0, .ref ca.2.2.2.1)] := hl
  have hS := G.2.2
  generalize gg h0 q r t a b' = g at hP2 hI2 hA2 hl
  have FX1 : FX p m c cL_quarter 9 s D ca g RL := ⟨hx, hb, hml, hown, hKQ.2 g hI2 hA2⟩
  have hG : GL D ca g s 0 0 0 0 0 0 0 0 (fun _ _ => 0) (fun _ _ => 0) H locs := ⟨⟨hP2, gI_S hS⟩, EX.none⟩
  refine W.widen (k := 44) (n := 963) (Nat.le_of_ble_eq_true rfl) (Nat.le_of_ble_eq_true rfl) ?_
  refine w_Q0 (ue := 44) (uf := 963) FX1 hst (Nat.zero_le _) (Nat.zero_le _) (by omega) (by omega) h (fun M1 H locs ls eo hG hl => ?_) H locs ls hG (lv_sub hl [1, 0] rfl)
  subst eo
  refine lv_aload_n hx hb dL_quarter_545 rfl (lv_at hl 0 rfl) ?_
  refine W.widen (k := 120) (n := 2000) (by omega) (by omega) ?_
  have hge : ∀ z, gA g s.heap.size z → s.heap.size ≤ z := fun z hz => by
    rcases hz with ⟨k, hk, rfl⟩ | hz
    · exact hA2 k hk
    · exact hz
  exact W.aret hx hb hr (Or.inl ⟨_, rfl⟩) (Or.inr ⟨_, rfl⟩) (fun t ht hW => ⟨⟨g, g 40, rfl, ⟨hI2, hA2⟩, rfl, by rw [ht]; exact hG.1.1⟩, by
    refine ⟨by rw [ht]; exact hG.1.2.1, fun z z1 z2 => ?_⟩
    rw [ht]
    exact hG.1.2.2.1 z z1 (fun z3 => z2 (hge z z3))⟩) (fun z hz => hge _ (hG.1.2.2.2 z hz)) dL_quarter_546 hlk
/-! the law's turn -/
section LT
variable {p : Program} {l : Launch} {e : Env} {s : State} {m : MethodId} {args : Array Value} {below : List Frame} {meth : Method} {c : Code} {Q : State → Prop} {D : va_G} {ca : vCA} {g : Nat → Nat} {fu nc np : Nat}
theorem mul8 {n a b : Nat} (hn : n ≤ a) (h : a * b ≤ 1000) : n * b ≤ a * b := Nat.mul_le_mul_right b hn
set_option maxHeartbeats 8000000 in
set_option maxRecDepth 100000 in
theorem law_turn (F : FX p m c cL_law 31 s D ca g RL) (hst : l.stackTraces = false) (hover : va_AOA .int s) (hnc : nc ≤ 6) (hnp : np ≤ 3) {t ue uf : Nat} (ht : t < 20) (hE : ue + 20 ≤ 600104) (hF : uf + 400 ≤ 7301313) {M M2 : Mem} (hT : turnOk fu (scr ca) nc np t M M2)
    (K : ∀ (H : Heap) (locs : List Loc) (ls : Array Slot), GW D ca g s M2 H locs → lv_has ls 31 [(4, .int (nI (t + 1))), (0, .ref ca.2.2.2.1), (1, .ref (g 40)), (2, .int (nI nc)), (3, .int (nI np))] → W p l e room_1 s m args below meth c H locs (ue + 20) (uf + 400) Q (F0 m 37 ls [])) :
    ∀ (H : Heap) (locs : List Loc) (ls : Array Slot), GW D ca g s M H locs → lv_has ls 31 [(0, .ref ca.2.2.2.1), (1, .ref (g 40)), (2, .int (nI nc)), (3, .int (nI np)), (4, .int (nI t))] → W p l e room_1 s m args below meth c H locs ue uf Q (F0 m 44 ls []) := by
  have hx := F.1
  have hb := F.2.1
  intro H locs ls hG hl
  obtain ⟨M1, x7, X1, X2, X3, h1, h2, h3, h4, h5⟩ := hT
  have b1 : nc * 8 ≤ 48 := by omega
  have b2 : np * 3 ≤ 9 := by omega
  refine w_S1 (ue := ue) (uf := uf) (cA := 0) (cB := 0) (aW := 0) (aP := 0) (aC := 0) F hst hnc hnp (by omega) (by omega) h1 (fun M1' u7 H locs ls eo hG hl => ?_) H locs ls ⟨hG, EX.none⟩ hl
  cases eo
  refine lv_iload_n hx hb dL_law_142 rfl (lv_at hl 2 rfl) ?_
  refine lv_bipush (v := 8) hx hb dL_law_143 (by decide) ?_
  refine x_mna F (N := nc) (K := 8) (kw605 F.kd) hover (nI_pos (by omega)) (by decide) (nI_clamp (by omega)) (by decide) (by omega) (by omega) (show ue + 2 + (1 + nc) ≤ 600104 by omega) (show uf + 12 + (nc + nc * 8) ≤ 7301313 by omega) dL_law_145 (fun cA H1 hcA hz oq h0 hrow => ?_)
  have hG1 : GL D ca g s 1 cA cA nc np H.size 0 0 M1 (fun _ _ => 0) H1 locs := ⟨(hG.grow (by omega) oq).1, fun _ => ⟨⟨GL.glt hG.1, hG.1.2.1⟩, h0, hrow⟩, fun h => by omega, fun h => by omega⟩
  refine lv_astore (lv' := [(8, .ref H.size), (0, .ref ca.2.2.2.1), (1, .ref (g 40)), (2, .int (nI nc)), (3, .int (nI np)), (4, .int (nI t)), (7, .int x7)]) hx hb dL_law_149 hl (by decide) rfl (fun ls hl => ?_)
  generalize H.size = aW at hG1 hl
  refine W.widen (k := ue + 9) (n := uf + 66) (by omega) (by omega) ?_
  refine w_S2 (ue := ue + 9) (uf := uf + 66) F hst hcA hcA hnc hnp (by omega) (by omega) h2 (fun X1' H locs ls eo hG hl => ?_) H1 locs ls hG1 (lv_sub hl [1, 2, 3, 4, 5, 6, 0] rfl)
  subst eo
  refine lv_iload_n hx hb dL_law_198 rfl (lv_at hl 3 rfl) ?_
  refine lv_iconst (v := 3) hx hb dL_law_199 (by decide) ?_
  refine x_mna F (N := np) (K := 3) (kw605 F.kd) hover (nI_pos (by omega)) (by decide) (nI_clamp (by omega)) (by decide) (by omega) (by omega) (show ue + 9 + (1 + np) ≤ 600104 by omega) (show uf + 66 + (np + np * 3) ≤ 7301313 by omega) dL_law_200 (fun cB H2 hcB hz2 oq2 h02 hrow2 => ?_)
  have hg1 := (hG.grow (by omega) oq2)
  have hlt : aW + nc < H.size := by
    obtain ⟨-, a3, a4⟩ := hG.2.1 (Nat.le_refl 1)
    by_cases e : nc = 0
    · have := hp_lt a3
      omega
    · have := hp_lt (a4 (nc - 1) (by omega))
      omega
  have hG2 : GL D ca g s 2 cA cB nc np aW H.size 0 M1 (zr 6 9 X1) H2 locs := by
    refine ⟨hg1.1, fun _ => ?_, fun _ => ⟨hlt, h02, fun j hj => ?_⟩, fun h => by omega⟩
    · obtain ⟨a1, a3, a4⟩ := hg1.2.1 (Nat.le_refl 1)
      exact ⟨a1, a3, fun j hj => by rw [zr_out (by omega)]; exact a4 j hj⟩
    · rw [zr_in (by omega)]
      exact hrow2 j hj
  refine lv_astore (lv' := [(9, .ref H.size), (0, .ref ca.2.2.2.1), (1, .ref (g 40)), (2, .int (nI nc)), (3, .int (nI np)), (4, .int (nI t)), (7, .int x7), (8, .ref aW)]) hx hb dL_law_204 hl (by decide) rfl (fun ls hl => ?_)
  generalize H.size = aP at hG2 hl
  refine W.widen (k := ue + 13) (n := uf + 78) (by omega) (by omega) ?_
  refine w_S3 (ue := ue + 13) (uf := uf + 78) F hst hcA hcB hnc hnp (by omega) (by omega) h3 (fun X2' H locs ls eo hG hl => ?_) H2 locs ls hG2 (lv_sub hl [1, 2, 3, 4, 5, 6, 7, 0] rfl)
  subst eo
  refine lv_bipush (v := 108) hx hb dL_law_252 (by decide) ?_
  refine x_new F (N := 108) (by decide) (by decide) (by decide) (show ue + 13 + 1 ≤ 600104 by omega) (show uf + 78 + 108 ≤ 7301313 by omega) dL_law_254 (fun H3 hz3 oq3 h03 => ?_)
  have hg2 := (hG.grow (by omega) oq3)
  have hlt2 : aP + np < H.size := by
    obtain ⟨-, a3, a4⟩ := hG.2.2.1 (Nat.le_refl 2)
    by_cases e : np = 0
    · have := hp_lt a3
      omega
    · have := hp_lt (a4 (np - 1) (by omega))
      omega
  have hG3 : GL D ca g s 3 cA cB nc np aW aP H.size M1 (zr 9 10 X2) H3 locs := by
    refine ⟨hg2.1, fun _ => ?_, fun _ => ?_, fun _ => ⟨hlt2, ?_⟩⟩
    · obtain ⟨a1, a3, a4⟩ := hg2.2.1 (by omega)
      exact ⟨a1, a3, fun j hj => by rw [zr_out (by omega)]; exact a4 j hj⟩
    · obtain ⟨a1, a3, a4⟩ := hg2.2.2.1 (by omega)
      exact ⟨a1, a3, fun j hj => by rw [zr_out (by omega)]; exact a4 j hj⟩
    · rw [zr_in (by omega)]
      exact h03
  refine lv_astore (lv' := [(10, .ref H.size), (0, .ref ca.2.2.2.1), (1, .ref (g 40)), (2, .int (nI nc)), (3, .int (nI np)), (4, .int (nI t)), (7, .int x7), (8, .ref aW), (9, .ref aP)]) hx hb dL_law_256 hl (by decide) rfl (fun ls hl => ?_)
  generalize H.size = aC at hG3 hl
  refine W.widen (k := ue + 14) (n := uf + 186) (by omega) (by omega) ?_
  refine w_S4 (ue := ue + 14) (uf := uf + 186) F hst hcA hcB hnc hnp (by omega) (by omega) h4 (fun X3' H locs ls eo hG hl => ?_) H3 locs ls hG3 (lv_sub hl [1, 2, 3, 4, 5, 6, 7, 8, 0] rfl)
  subst eo
  refine w_S5 (ue := ue + 14) (uf := uf + 186) F hst hcA hcB hnc hnp (by omega) (by omega) h5 (fun M2' H locs ls eo hG hl => ?_) H locs ls hG hl
  subst eo
  refine lv_iinc (v := nI (t + 1)) (lv' := [(4, .int (nI (t + 1))), (0, .ref ca.2.2.2.1), (1, .ref (g 40)), (2, .int (nI nc)), (3, .int (nI np))]) hx hb dL_law_1310 hl (k := 4) rfl (nI_1 t) (by decide) rfl (fun ls hl => ?_)
  refine lv_goto (tgt := 37) hx hb dL_law_1313 (by decide) ?_
  refine W.widen (k := ue + 20) (n := uf + 400) (by omega) (by omega) ?_
  exact K H locs ls hG.1 hl
end LT

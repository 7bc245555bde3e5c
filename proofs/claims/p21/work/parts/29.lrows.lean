/-! ===== the law's arrays beside the graph; its calls ===== -/
def rfs (a n : Nat) : Nat → Option Nat := fun i => if i < n then some (a + 1 + i) else none
def oW (cA : ClassId) (n a : Nat) : Cell := vp_cell cA (n, .inr (.inr (.inr (.inr (rfs a n)))))
/-- st: how many of them there are; the first's rows hold X 0 .., the second's X 6 .., the third X 9 -/
def EX (ca : vCA) (g : Nat → Nat) (sz st : Nat) (cA cB : ClassId) (nc np aW aP aC : Nat) (X : Mem) (H : Heap) : Prop :=
  (1 ≤ st → ((∀ k, k < 44 → g k < aW) ∧ sz ≤ aW) ∧ H[aW]? = some (oW cA nc aW) ∧ ∀ j, j < nc → H[aW + 1 + j]? = some (vp_cell ca.1 (8, .inl (X j)))) ∧
  (2 ≤ st → aW + nc < aP ∧ H[aP]? = some (oW cB np aP) ∧ ∀ j, j < np → H[aP + 1 + j]? = some (vp_cell ca.1 (3, .inl (X (6 + j))))) ∧
  (3 ≤ st → aP + np < aC ∧ H[aC]? = some (vp_cell ca.1 (108, .inl (X 9))))
def GL (D : va_G) (ca : vCA) (g : Nat → Nat) (s : State) (st : Nat) (cA cB : ClassId) (nc np aW aP aC : Nat) (M X : Mem) (H : Heap) (locs : List Loc) : Prop := GW D ca g s M H locs ∧ EX ca g s.heap.size st cA cB nc np aW aP aC X H
theorem hp_lt {H : Heap} {q : Nat} {x : Cell} (h : H[q]? = some x) : q < H.size := (Array.getElem?_eq_some_iff.mp h).1
theorem hp_ng {g : Nat → Nat} {sz aW q : Nat} (h : ∀ k, k < 44 → g k < aW) (h1 : aW ≤ q) (h2 : q < sz) : ¬ gA g sz q := fun z => by
  rcases z with ⟨k, hk, rfl⟩ | z
  · have := h k hk
    omega
  · omega
section EXs
variable {ca : vCA} {g : Nat → Nat} {sz st : Nat} {cA cB : ClassId} {nc np aW aP aC : Nat} {X : Mem} {H H1 : Heap}
theorem EX.kept (h : EX ca g sz st cA cB nc np aW aP aC X H) (hq : ∀ q, q < H.size → ¬ gA g H.size q → H1[q]? = H[q]?) : EX ca g sz st cA cB nc np aW aP aC X H1 := by
  have h0 : 1 ≤ st → ∀ q, aW ≤ q → ∀ {x : Cell}, H[q]? = some x → H1[q]? = some x := fun h1 q ha x hx => by
    rw [hq q (hp_lt hx) (hp_ng (h.1 h1).1.1 ha (hp_lt hx))]
    exact hx
  refine ⟨fun h1 => ?_, fun h2 => ?_, fun h3 => ?_⟩
  · obtain ⟨a, b, c⟩ := h.1 h1
    exact ⟨a, h0 h1 _ (Nat.le_refl _) b, fun j hj => h0 h1 _ (by omega) (c j hj)⟩
  · obtain ⟨a, b, c⟩ := h.2.1 h2
    exact ⟨a, h0 (by omega) _ (by omega) b, fun j hj => h0 (by omega) _ (by omega) (c j hj)⟩
  · obtain ⟨a, b⟩ := h.2.2 h3
    obtain ⟨a2, -, -⟩ := h.2.1 (by omega)
    exact ⟨a, h0 (by omega) _ (by omega) b⟩
theorem EX.none {cA cB : ClassId} {nc np aW aP aC : Nat} : EX ca g sz 0 cA cB nc np aW aP aC X H := ⟨fun h => by omega, fun h => by omega, fun h => by omega⟩
end EXs
section LX
variable {p : Program} {l : Launch} {e : Env} {R : Room} {s : State} {m : MethodId} {args : Array Value} {below : List Frame} {meth : Method} {c : Code} {H : Heap} {locs : List Loc} {cells slots : Nat} {Q : State → Prop}
variable {cc : ByteArray} {nL pc : Nat} {ls : Array Slot} {rest st0 : List Value} {D : va_G} {ca : vCA} {g : Nat → Nat} {M M1 X : Mem} {own : String} {k : Nat}
variable {st : Nat} {cA cB : ClassId} {nc np aW aP aC : Nat}
variable {mc ms a b : Nat} {av : Array Value}
/-! calls -/
theorem z_i {r : Int32} (hr : va_Run p l e R s m args below meth c H locs cells slots mc ms (F0 m pc ls st0) rest (cQi D ca g H.size M1 r av) (gA g H.size)) (hm : mc = 0) (hs : ms = 0) (hG : GL D ca g s st cA cB nc np aW aP aC M X H locs)
    (kk : ∀ (H1 : Heap) (locs1 : List Loc), GL D ca g s st cA cB nc np aW aP aC M1 X H1 locs1 → W p l e R s m args below meth c H1 locs1 cells slots Q (F0 m (pc + 3) ls (.int r :: rest))) : W p l e R s m args below meth c H locs cells slots Q (F0 m pc ls st0) := by
  subst hm
  subst hs
  exact va_calli hr hG.1.2 (fun q _ h => gA_mono hG.1.2.1 h) (fun q h => gA_mono hG.1.2.1 h) (fun r' u t H1 locs1 ht hvm hp hB _ hk hS => by
    obtain ⟨rfl, rfl⟩ := hp
    exact kk H1 locs1 ⟨⟨by rw [← ht]; exact hB, hS⟩, hG.2.kept hk⟩)
theorem z_l {r : Int64} (hr : va_Run p l e R s m args below meth c H locs cells slots mc ms (F0 m pc ls st0) rest (cQl D ca g H.size M1 r av) (gA g H.size)) (hm : mc = 0) (hs : ms = 0) (hG : GL D ca g s st cA cB nc np aW aP aC M X H locs)
    (kk : ∀ (H1 : Heap) (locs1 : List Loc), GL D ca g s st cA cB nc np aW aP aC M1 X H1 locs1 → W p l e R s m args below meth c H1 locs1 cells slots Q (F0 m (pc + 3) ls (.long r :: rest))) : W p l e R s m args below meth c H locs cells slots Q (F0 m pc ls st0) := by
  subst hm
  subst hs
  exact va_calll hr hG.1.2 (fun q _ h => gA_mono hG.1.2.1 h) (fun q h => gA_mono hG.1.2.1 h) (fun r' u t H1 locs1 ht hvm hp hB _ hk hS => by
    obtain ⟨rfl, rfl⟩ := hp
    exact kk H1 locs1 ⟨⟨by rw [← ht]; exact hB, hS⟩, hG.2.kept hk⟩)
/-- one that costs -/
theorem y_i {r : Int32} (hr : va_Run p l e R s m args below meth c H locs cells slots mc ms (F0 m pc ls st0) rest (cQi D ca g H.size M1 r av) (gA g H.size)) (hm : mc = a) (hs : ms = b) (hG : GL D ca g s st cA cB nc np aW aP aC M X H locs)
    (kk : ∀ (ne nf : Nat) (H1 : Heap) (locs1 : List Loc), ne = cells + a → nf = slots + b → GL D ca g s st cA cB nc np aW aP aC M1 X H1 locs1 → W p l e R s m args below meth c H1 locs1 ne nf Q (F0 m (pc + 3) ls (.int r :: rest))) : W p l e R s m args below meth c H locs cells slots Q (F0 m pc ls st0) := by
  subst hm
  subst hs
  exact va_calli hr hG.1.2 (fun q _ h => gA_mono hG.1.2.1 h) (fun q h => gA_mono hG.1.2.1 h) (fun r' u t H1 locs1 ht hvm hp hB _ hk hS => by
    obtain ⟨rfl, rfl⟩ := hp
    exact kk _ _ H1 locs1 rfl rfl ⟨⟨by rw [← ht]; exact hB, hS⟩, hG.2.kept hk⟩)
/-- a static method with handlers is called -/
theorem l_runSH {y : MethodName} {bytes : ByteArray} {maxL n index : Nat} {ret : Option FieldType} {rm : Room} {Qc : Nat → Array Value → State → Outcome → State → Prop} {As : List Value} {hh : List (Nat × Nat × Nat × Nat)} (F : FX p m c cc nL s D ca g own) (hG : GW D ca g s M H locs) (hM : cMH l y bytes maxL ret hh rm D ca g M As Qc)
    (hlink : (Cond.methodLink own index y).before args s = true) (hstat : (Cond.static y).before args s = true) (hini : (Cond.initialized y.cls).before args s = true) (hcode : (Cond.codeWith y bytes maxL ret hh).before args s = true)
    (hyd : y.cls ≠ "java/lang/invoke/MethodHandle" ∧ y.cls ≠ "java/lang/invoke/VarHandle" ∧ (parseMethodDescriptor y.desc).map (fun d => d.parameters.length) = some n) (hR : rm.frames + 1 ≤ R.frames ∧ 8 + (maxL + 11) + rm.locals ≤ R.locals) (hn : As.length = n) (hls : ls.size = nL) (hst : st0 = As.reverse ++ rest) (hroom : (rest.map fun v => v.category).sum ≤ 8) (hdg : decode cc pc = .ok (.invokestatic index, 3)) (hf : cells + rm.cells ≤ R.cells ∧ slots + rm.slots ≤ R.slots) :
    va_Run p l e R s m args below meth c H locs cells slots rm.cells rm.slots (F0 m pc ls st0) rest (Qc H.size As.toArray) (gA g H.size) :=
  vx_runSW (Ts := []) ⟨F.1, F.2.1, F.2.2.1, F.2.2.2.1, fun w h => by cases h⟩ (hM H.size) ⟨⟨rfl, rfl, hR.1, hR.2, pay1 rfl hcode, List.mem_cons_self⟩, hcode, hini, ⟨hyd.1, hyd.2.1⟩, (fun sig h => by
    have h2 := hyd.2.2
    rw [h] at h2
    exact (Option.some.inj h2).symm), hlink, hstat⟩ ⟨cPc_blind D ca g M _ _, cPc_to F hG⟩ rfl hn hls hst (lv_room hroom) hdg hf
/-! the arrays -/
theorem GL.wr (hG : GL D ca g s st cA cB nc np aW aP aC M X H locs) {H1 : Heap} {locs1 : List Loc} {q : Nat} (hq : ∀ k, k < 44 → g k < q) (hz : s.heap.size ≤ q) (oq : ∀ x, x ≠ q → H1[x]? = H[x]?) (hS : ∀ (A : Nat → Prop) (H0 : Heap), va_S A H0 H locs → A q → va_S A H0 H1 locs1) : GW D ca g s M H1 locs1 :=
  ⟨hG.1.1.kept (fun j x hj => by
    obtain ⟨hj1, rfl⟩ := gws_of hj
    exact oq _ (Nat.ne_of_lt (hq j hj1))), hS _ _ hG.1.2 (Or.inr hz)⟩
theorem x_ald (F : FX p m c cc nL s D ca g own) {q n : Nat} {f : Nat → Int32} (hc : H[q]? = some (vp_cell ca.1 (n, .inl f))) {i : Int32} (hi : inb i n = true) (hdg : decode cc pc = .ok (.iaload, 1))
    (kk : W p l e R s m args below meth c H locs cells slots Q (F0 m (pc + 1) ls (.int (f i.toNatClampNeg) :: rest))) : W p l e R s m args below meth c H locs cells slots Q (F0 m pc ls (.int i :: .ref q :: rest)) :=
  va_iald (D := D) (ws := [(q, .inl (ca.1, n, .inl f))]) F.1 F.2.1 F.hK (fun j x hj => by
    have h0 : j < 1 := (List.getElem?_eq_some_iff.mp hj).1
    rw [show j = 0 by omega] at hj
    cases hj
    exact hc) 0 0 rfl rfl (inb_vp hi) hdg kk
theorem x_ast (F : FX p m c cc nL s D ca g own) {q n : Nat} {f : Nat → Int32} (hc : H[q]? = some (vp_cell ca.1 (n, .inl f))) {i x : Int32} (hi : inb i n = true) (hdg : decode cc pc = .ok (.iastore, 1))
    (kk : ∀ (H1 : Heap) (locs1 : List Loc), H1[q]? = some (vp_cell ca.1 (n, .inl (upd f i.toNatClampNeg x))) → (∀ x, x ≠ q → H1[x]? = H[x]?) → (∀ (A : Nat → Prop) (H0 : Heap), va_S A H0 H locs → A q → va_S A H0 H1 locs1) → W p l e R s m args below meth c H1 locs1 cells slots Q (F0 m (pc + 1) ls rest)) : W p l e R s m args below meth c H locs cells slots Q (F0 m pc ls (.int x :: .int i :: .ref q :: rest)) := by
  refine W.iast F.1 F.2.1 hc ((F.hK.2 0 _ rfl).1 n (fun j => .int (f j))) (fun z => by cases z) (by show ¬ (i < 0 ∨ (arrV _ _ _).slots.size ≤ _); rw [arrV_size]; exact inb_vp hi) rfl rfl hdg fun H1 e z oq => kk H1 _ ?_ oq (fun A H0 hS hA => hS.put z oq hA)
  rw [e, vp_cell_i, vp_cell_i, arrV_store]
  congr 2
  funext y
  by_cases hy : y = i.toNatClampNeg
  · subst hy
    simp [updV, upd]
  · simp [updV, upd, hy]
theorem x_aald (F : FX p m c cc nL s D ca g own) {cX : ClassId} {q n : Nat} (hA : ArrOfT s cX (.array .int)) (hc : H[q]? = some (oW cX n q)) {i : Int32} (hi : inb i n = true) (hdg : decode cc pc = .ok (.aaload, 1))
    (kk : W p l e R s m args below meth c H locs cells slots Q (F0 m (pc + 1) ls (.ref (q + 1 + i.toNatClampNeg) :: rest))) : W p l e R s m args below meth c H locs cells slots Q (F0 m pc ls (.int i :: .ref q :: rest)) := by
  have hlt : i.toNatClampNeg < n := inb_lt hi
  refine W.aald (v := .ref (q + 1 + i.toNatClampNeg)) (ty := .array .int) F.1 F.2.1 hc (hA n (fun j => va_rf (rfs q n j))) rfl (fun z => by cases z) (by show ¬ (i < 0 ∨ (arrV _ _ _).slots.size ≤ _); rw [arrV_size]; exact inb_vp hi) ?_ rfl rfl hdg kk
  show (arrV _ _ _).slots[_]? = _
  rw [arrV_read _ _ hlt]
  show some (va_rf (if i.toNatClampNeg < n then some (q + 1 + i.toNatClampNeg) else none)) = _
  rw [if_pos hlt]
  rfl
theorem lx_aW (F : FX p m c cc nL s D ca g own) (hA : ArrOfT s cA (.array .int)) (hs : 1 ≤ st) (hG : GL D ca g s st cA cB nc np aW aP aC M X H locs) {i : Int32} (hi : inb i nc = true) (hdg : decode cc pc = .ok (.aaload, 1))
    (kk : W p l e R s m args below meth c H locs cells slots Q (F0 m (pc + 1) ls (.ref (aW + 1 + i.toNatClampNeg) :: rest))) : W p l e R s m args below meth c H locs cells slots Q (F0 m pc ls (.int i :: .ref aW :: rest)) := x_aald F hA (hG.2.1 hs).2.1 hi hdg kk
theorem lx_aP (F : FX p m c cc nL s D ca g own) (hA : ArrOfT s cB (.array .int)) (hs : 2 ≤ st) (hG : GL D ca g s st cA cB nc np aW aP aC M X H locs) {i : Int32} (hi : inb i np = true) (hdg : decode cc pc = .ok (.aaload, 1))
    (kk : W p l e R s m args below meth c H locs cells slots Q (F0 m (pc + 1) ls (.ref (aP + 1 + i.toNatClampNeg) :: rest))) : W p l e R s m args below meth c H locs cells slots Q (F0 m pc ls (.int i :: .ref aP :: rest)) := x_aald F hA (hG.2.2.1 hs).2.1 hi hdg kk
theorem lx_iW (F : FX p m c cc nL s D ca g own) (hs : 1 ≤ st) (hG : GL D ca g s st cA cB nc np aW aP aC M X H locs) {i j : Int32} (hi : inb i nc = true) (hj : inb j 8 = true) (hdg : decode cc pc = .ok (.iaload, 1))
    (kk : W p l e R s m args below meth c H locs cells slots Q (F0 m (pc + 1) ls (.int (X i.toNatClampNeg j.toNatClampNeg) :: rest))) : W p l e R s m args below meth c H locs cells slots Q (F0 m pc ls (.int j :: .ref (aW + 1 + i.toNatClampNeg) :: rest)) := x_ald F ((hG.2.1 hs).2.2 _ (inb_lt hi)) hj hdg kk
theorem lx_iP (F : FX p m c cc nL s D ca g own) (hs : 2 ≤ st) (hG : GL D ca g s st cA cB nc np aW aP aC M X H locs) {i j : Int32} (hi : inb i np = true) (hj : inb j 3 = true) (hdg : decode cc pc = .ok (.iaload, 1))
    (kk : W p l e R s m args below meth c H locs cells slots Q (F0 m (pc + 1) ls (.int (X (6 + i.toNatClampNeg) j.toNatClampNeg) :: rest))) : W p l e R s m args below meth c H locs cells slots Q (F0 m pc ls (.int j :: .ref (aP + 1 + i.toNatClampNeg) :: rest)) := x_ald F ((hG.2.2.1 hs).2.2 _ (inb_lt hi)) hj hdg kk
theorem lx_iC (F : FX p m c cc nL s D ca g own) (hs : 3 ≤ st) (hG : GL D ca g s st cA cB nc np aW aP aC M X H locs) {j : Int32} (hj : inb j 108 = true) (hdg : decode cc pc = .ok (.iaload, 1))
    (kk : W p l e R s m args below meth c H locs cells slots Q (F0 m (pc + 1) ls (.int (X 9 j.toNatClampNeg) :: rest))) : W p l e R s m args below meth c H locs cells slots Q (F0 m pc ls (.int j :: .ref aC :: rest)) := x_ald F (hG.2.2.2 hs).2 hj hdg kk
theorem lx_sW (F : FX p m c cc nL s D ca g own) (hG : GL D ca g s 1 cA cB nc np aW aP aC M X H locs) {X1 : Mem} {i j x : Int32} (hi : inb i nc = true) (hj : inb j 8 = true) (eX : X1 = mst X i.toNatClampNeg j.toNatClampNeg x) (hdg : decode cc pc = .ok (.iastore, 1))
    (kk : ∀ (H1 : Heap) (locs1 : List Loc), GL D ca g s 1 cA cB nc np aW aP aC M X1 H1 locs1 → W p l e R s m args below meth c H1 locs1 cells slots Q (F0 m (pc + 1) ls rest)) : W p l e R s m args below meth c H locs cells slots Q (F0 m pc ls (.int x :: .int j :: .ref (aW + 1 + i.toNatClampNeg) :: rest)) := by
  subst eX
  have hlt := inb_lt hi
  obtain ⟨⟨a1, a2⟩, a3, a4⟩ := hG.2.1 (Nat.le_refl 1)
  refine x_ast F (a4 _ hlt) hj hdg (fun H1 locs1 h1 oq hS => kk H1 locs1 ⟨hG.wr (fun k hk => by have := a1 k hk; omega) (by omega) oq hS, fun _ => ⟨⟨a1, a2⟩, by rw [oq _ (by omega)]; exact a3, fun y hy => ?_⟩, fun h => by omega, fun h => by omega⟩)
  by_cases e : y = i.toNatClampNeg
  · subst e
    rw [mst_row]
    exact h1
  · rw [mst_ne e, oq _ (by omega)]
    exact a4 y hy
theorem lx_sP (F : FX p m c cc nL s D ca g own) (hnc : nc ≤ 6) (hG : GL D ca g s 2 cA cB nc np aW aP aC M X H locs) {X1 : Mem} {i j x : Int32} (hi : inb i np = true) (hj : inb j 3 = true) (eX : X1 = mst X (6 + i.toNatClampNeg) j.toNatClampNeg x) (hdg : decode cc pc = .ok (.iastore, 1))
    (kk : ∀ (H1 : Heap) (locs1 : List Loc), GL D ca g s 2 cA cB nc np aW aP aC M X1 H1 locs1 → W p l e R s m args below meth c H1 locs1 cells slots Q (F0 m (pc + 1) ls rest)) : W p l e R s m args below meth c H locs cells slots Q (F0 m pc ls (.int x :: .int j :: .ref (aP + 1 + i.toNatClampNeg) :: rest)) := by
  subst eX
  have hlt := inb_lt hi
  obtain ⟨⟨a1, a2⟩, a3, a4⟩ := hG.2.1 (by omega)
  obtain ⟨b1, b2, b3⟩ := hG.2.2.1 (Nat.le_refl 2)
  refine x_ast F (b3 _ hlt) hj hdg (fun H1 locs1 h1 oq hS => kk H1 locs1 ⟨hG.wr (fun k hk => by have := a1 k hk; omega) (by omega) oq hS, fun _ => ⟨⟨a1, a2⟩, by rw [oq _ (by omega)]; exact a3, fun y hy => ?_⟩, fun _ => ⟨b1, by rw [oq _ (by omega)]; exact b2, fun y hy => ?_⟩, fun h => by omega⟩)
  · rw [mst_ne (by omega), oq _ (by omega)]
    exact a4 y hy
  · by_cases e : y = i.toNatClampNeg
    · subst e
      rw [mst_row]
      exact h1
    · rw [mst_ne (by omega), oq _ (by omega)]
      exact b3 y hy
theorem lx_sC (F : FX p m c cc nL s D ca g own) (hnc : nc ≤ 6) (hnp : np ≤ 3) (hG : GL D ca g s 3 cA cB nc np aW aP aC M X H locs) {X1 : Mem} {j x : Int32} (hj : inb j 108 = true) (eX : X1 = mst X 9 j.toNatClampNeg x) (hdg : decode cc pc = .ok (.iastore, 1))
    (kk : ∀ (H1 : Heap) (locs1 : List Loc), GL D ca g s 3 cA cB nc np aW aP aC M X1 H1 locs1 → W p l e R s m args below meth c H1 locs1 cells slots Q (F0 m (pc + 1) ls rest)) : W p l e R s m args below meth c H locs cells slots Q (F0 m pc ls (.int x :: .int j :: .ref aC :: rest)) := by
  subst eX
  obtain ⟨⟨a1, a2⟩, a3, a4⟩ := hG.2.1 (by omega)
  obtain ⟨b1, b2, b3⟩ := hG.2.2.1 (by omega)
  obtain ⟨c1, c2⟩ := hG.2.2.2 (Nat.le_refl 3)
  refine x_ast F c2 hj hdg (fun H1 locs1 h1 oq hS => kk H1 locs1 ⟨hG.wr (fun k hk => by have := a1 k hk; omega) (by omega) oq hS, fun _ => ⟨⟨a1, a2⟩, by rw [oq _ (by omega)]; exact a3, fun y hy => ?_⟩, fun _ => ⟨b1, by rw [oq _ (by omega)]; exact b2, fun y hy => ?_⟩, fun _ => ⟨c1, ?_⟩⟩)
  · rw [mst_ne (by omega), oq _ (by omega)]
    exact a4 y hy
  · rw [mst_ne (by omega), oq _ (by omega)]
    exact b3 y hy
  · rw [mst_row]
    exact h1
/-! the makings -/
theorem GL.grow (hG : GL D ca g s st cA cB nc np aW aP aC M X H locs) {H1 : Heap} (hz : H.size ≤ H1.size) (oq : ∀ x, x < H.size → H1[x]? = H[x]?) : GL D ca g s st cA cB nc np aW aP aC M X H1 locs :=
  ⟨⟨hG.1.1.kept (fun j x hj => oq x.1 ((hG.1.1 j x hj).lt)), Nat.le_trans hG.1.2.1 hz, fun x h1 h2 => (oq x (Nat.lt_of_lt_of_le h1 hG.1.2.1)).trans (hG.1.2.2.1 x h1 h2), hG.1.2.2.2⟩, hG.2.kept (fun q hq _ => oq q hq)⟩
theorem GL.glt (hG : GW D ca g s M H locs) : ∀ k, k < 44 → g k < H.size := fun k hk => (hG.1 k _ (gws_at ca g M hk)).lt
/-- new int[n][k] -/
theorem x_mna (F : FX p m c cc nL s D ca g own) {index : Nat} (hclink : (Cond.classLink own index ("[" ++ (FieldType.array .int).toString)).before args s = true) (hover : va_AOA .int s)
    {n k : Int32} {N K : Nat} (hn : ¬ n < 0) (hk : ¬ k < 0) (hN : n.toNatClampNeg = N) (hM : k.toNatClampNeg = K) (hb1 : N * 4 ≤ 536870912) (hb2 : K * 4 ≤ 536870912) (hcells : cells + (1 + N) ≤ R.cells) (hslots : slots + (N + N * K) ≤ R.slots) (hdg : decode cc pc = .ok (.multianewarray index 2, 4))
    (kk : ∀ (cX : ClassId) (H1 : Heap), ArrOfT s cX (.array .int) → H.size + 1 + N = H1.size → (∀ x, x < H.size → H1[x]? = H[x]?) → H1[H.size]? = some (oW cX N H.size) → (∀ j, j < N → H1[H.size + 1 + j]? = some (vp_cell ca.1 (K, .inl (fun _ => 0)))) →
      W p l e R s m args below meth c H1 locs (cells + 1 + N) (slots + N + N * K) Q (F0 m (pc + 4) ls (.ref H.size :: rest))) : W p l e R s m args below meth c H locs cells slots Q (F0 m pc ls (.int k :: .int n :: rest)) := by
  subst hN
  subst hM
  intro T hT Xs
  obtain ⟨vm₁, cX, comp, -, fA, fC, hO, -, X', step⟩ := Xs.multianewarray2F F.1 F.2.2.2.1 hclink (va_AOA.use hover) (word_at (State.WarmedH.refl s) (Or.inr ⟨_, rfl⟩) F.kx.2.2.2.2) (g := F0 m pc ls (.int k :: .int n :: rest)) rfl (by rw [F.2.1]; exact hdg) rfl hn hk hb1 hb2 (by omega) rfl rfl hcells hslots
  have ec : ca.1 = comp := by
    obtain ⟨-, h2⟩ := F.hK.2 0 _ rfl
    exact Option.some.inj (h2.symm.trans fC)
  subst ec
  generalize hF : Jvm.Free.Multi.fill (T.setVm vm₁) cX ca.1 n.toNatClampNeg k.toNatClampNeg (defaultValue .int) n.toNatClampNeg = Z at X' step
  have hTh : (T.setVm vm₁).heap = H := hT
  obtain ⟨f1, f2, -, -⟩ := Jvm.Free.Multi.fill_facts (T.setVm vm₁) cX ca.1 n.toNatClampNeg k.toNatClampNeg (defaultValue .int) n.toNatClampNeg
  rw [hF, hTh] at f1 f2
  have hold : ∀ x : Nat, x < H.size → Z.heap[x]? = H[x]? := fun x hx => by
    have := Jvm.Free.Multi.fill_old (T.setVm vm₁) cX ca.1 n.toNatClampNeg k.toNatClampNeg (defaultValue .int) (a := x) (by rw [hTh]; exact hx) n.toNatClampNeg
    rw [hF, hTh] at this
    exact this
  have hrow : ∀ j : Nat, j < n.toNatClampNeg → Z.heap[H.size + 1 + j]? = some (vp_cell ca.1 (k.toNatClampNeg, .inl (fun _ => 0))) := fun j hj => by
    have := Jvm.Free.Multi.fill_inner (T.setVm vm₁) cX ca.1 n.toNatClampNeg k.toNatClampNeg (defaultValue .int) n.toNatClampNeg j hj
    rw [hF, hTh] at this
    rw [this, vp_cell_i, ← arrV_new]
    rfl
  have hout : Jvm.Free.Multi.outerC cX n.toNatClampNeg H.size n.toNatClampNeg = oW cX n.toNatClampNeg H.size := by
    unfold oW rfs
    rw [vp_cell_q]
    exact vr_outer cX n.toNatClampNeg H.size n.toNatClampNeg
  rw [hout] at f2
  have hAr : ArrOfT s cX (.array .int) := fun N9 z9 => by
    obtain ⟨-, k9, hk9, cm9, hkk9⟩ := (hO 0 0 0).1
    exact ⟨(fun q hq => by cases hq), k9, hk9, cm9, hkk9⟩
  obtain ⟨t, a1, b1⟩ := kk cX Z.heap hAr f1.symm hold f2 hrow Z rfl X'
  refine ⟨t, step t ?_, b1⟩
  have e : T.heap.size = H.size := by rw [hT]
  rw [e]
  exact a1
/-- new int[n] -/
theorem x_new (F : FX p m c cc nL s D ca g own) {n : Int32} {N : Nat} (hn : ¬ n < 0) (hN : n.toNatClampNeg = N) (hb4 : N * componentBytes .int ≤ 536870912) (hcells : cells + 1 ≤ R.cells) (hslots : slots + N ≤ R.slots) (hdg : decode cc pc = .ok (.newarray .int, 2))
    (kk : ∀ (H1 : Heap), H.size + 1 = H1.size → (∀ x, x < H.size → H1[x]? = H[x]?) → H1[H.size]? = some (vp_cell ca.1 (N, .inl (fun _ => 0))) → W p l e R s m args below meth c H1 locs (cells + 1) (slots + N) Q (F0 m (pc + 2) ls (.ref H.size :: rest))) : W p l e R s m args below meth c H locs cells slots Q (F0 m pc ls (.int n :: rest)) := by
  refine va_newaK F.1 F.2.1 (atype := .int) (word_at (State.WarmedH.refl s) (Or.inr ⟨_, rfl⟩) F.kx.2.2.2.2) rfl hdg rfl hn hN hb4 hcells hslots rfl fun H1 cX e1 z1 o1 hAr hNm => ?_
  have hca : cX = ca.1 := by
    obtain ⟨-, h2⟩ := F.hK.2 0 _ rfl
    exact Option.some.inj (hNm.symm.trans h2)
  subst hca
  exact kk H1 z1.symm o1 e1
end LX
/-! the law's script -/
def scr (ca : vCA) (k : Int32) : Int32 := if Int32.ofNat ca.2.2.2.2.1 ≤ k then 790386105 * (k + 3) else ca.2.2.2.2.2 k.toNatClampNeg
def m_L_cell (sc : Int32 → Int32) (k : Int32) : Option Int32 := if k < 0 then none else some (sc k)

/-! ===== methods that may throw: 1 IndexOutOfBounds, 2 IllegalState, 3 IllegalArgument; a throw leaves the memory as it was ===== -/
def xcl (k : Nat) : String := if k = 1 then xI else if k = 2 then xS else xA
abbrev xnm : List String := ["java/lang/RuntimeException", "java/lang/Exception"]
def xQi (D : va_G) (ca : vCA) (g : Nat → Nat) (sz : Nat) (o : Nat ⊕ (Mem × Int32)) : Array Value → State → Outcome → State → Prop := va_Qi (fun (r : Int32) (N : Mem) => o = .inr (N, r)) (wB D ca g) (gA g sz)
def xQp (D : va_G) (ca : vCA) (g : Nat → Nat) (sz : Nat) (M : Mem) (o : Nat ⊕ Int32) : Array Value → State → Outcome → State → Prop := va_Qi (fun (r : Int32) (N : Mem) => o = .inr r ∧ N = M) (wB D ca g) (gA g sz)
def xQv (D : va_G) (ca : vCA) (g : Nat → Nat) (sz : Nat) (M : Mem) (o : Nat ⊕ Unit) : Array Value → State → Outcome → State → Prop := va_Qv (fun (N : Mem) => o = .inr () ∧ N = M) (wB D ca g) (gA g sz)
def xX {α : Type} (D : va_G) (ca : vCA) (g : Nat → Nat) (sz : Nat) (M : Mem) (o : Nat ⊕ α) : String → State → State → Prop := vx_X (fun (k : Nat) => o = .inl k) (fun (E : String) (k : Nat) (t : State) => E = xcl k ∧ wB D ca g M t) (gA g sz)
def xM {α : Type} (l : Launch) (y : MethodName) (bytes : ByteArray) (maxL : Nat) (ret : Option FieldType) (rm : Room) (D : va_G) (ca : vCA) (g : Nat → Nat) (M : Mem) (av : List Value) (Qc : Nat → Array Value → State → Outcome → State → Prop) (o : Nat ⊕ α) : Prop :=
  ∀ sz : Nat, vx_Met l y [Cond.code y bytes maxL ret] rm (cPc D ca g M sz av) (Qc sz) (xX D ca g sz M o) rm.cells rm.slots (gA g sz)
theorem mk_xMet {α : Type} {l : Launch} {y : MethodName} {bytes : ByteArray} {maxL : Nat} {ret : Option FieldType} {rm : Room} {D : va_G} {ca : vCA} {g : Nat → Nat} {M : Mem} {av : List Value} {Qc : Nat → Array Value → State → Outcome → State → Prop} {o : Nat ⊕ α} (hy : plainName y.cls = true) (hn : (lg_sl av).length ≤ maxL)
    (body : ∀ (p : Program) (e : Env) (s : State) (m : MethodId) (below : List Frame) (meth : Method) (c : Code), FX p m c bytes maxL s D ca g y.cls → meth.sig.returnType = ret → meth.locks = false → (∀ x ∈ c.exceptionTable.toList, False) → GW D ca g s M s.heap [] → ∀ ls : Array Slot, lv_has ls maxL (lv_args 0 av) → W p l e rm s m av.toArray below meth c s.heap [] 0 0 (vx_MQ below (Qc s.heap.size) (xX D ca g s.heap.size M o) av.toArray s rm.cells rm.slots (gA g s.heap.size)) (F0 m 0 ls [])) : xM l y bytes maxL ret rm D ca g M av Qc o := by
  intro sz
  refine vx_ofW (cc := bytes) (maxL := maxL) (ret := ret) hy rfl ?_
  intro p e s m args below meth c s₁ B hml ht hv
  obtain ⟨rfl, hsz, hP, hKW⟩ := hv
  subst hsz
  rw [lg_entry_eq]
  exact body p e s m below meth c ⟨B.exec, B.bytes, hml, findClass_of_methodNamed B.named, hKW⟩ B.returns B.notSynchronized ht ⟨hP, va_S.rf⟩ _ (lv_entry av hn)
theorem xat_of {args : Array Value} {s : State} {L : List Cond} (h : KD s) (hm : ∀ w ∈ L, w ∈ lw_tbl) (ho : L.all okW = true) : ∀ w ∈ L, w.before args s = true := fun w hw => va_Nw.use (okW_on (List.all_eq_true.mp ho w hw)) (h w (hm w hw) (List.all_eq_true.mp ho w hw))
theorem xm1 : ∀ w ∈ vx_atS RX5 193 xI xnm, w ∈ lw_tbl := by decide +kernel
theorem xm2 : ∀ w ∈ vx_atS RX5 48 xS xnm, w ∈ lw_tbl := by decide +kernel
theorem xm3 : ∀ w ∈ vx_atS RX5 59 xA xnm, w ∈ lw_tbl := by decide +kernel
theorem xo1 : (vx_atS RX5 193 xI xnm).all okW = true := by decide +kernel
theorem xo2 : (vx_atS RX5 48 xS xnm).all okW = true := by decide +kernel
theorem xo3 : (vx_atS RX5 59 xA xnm).all okW = true := by decide +kernel
theorem xg1_ : ∀ w ∈ Cond.classLink RX5 189 xI :: Cond.initialized xI :: vx_atS RX5 193 xI xnm, vx_ot w = true := by decide +kernel
theorem xg2_ : ∀ w ∈ Cond.classLink RX5 44 xS :: Cond.initialized xS :: vx_atS RX5 48 xS xnm, vx_ot w = true := by decide +kernel
theorem xg3_ : ∀ w ∈ Cond.classLink RX5 55 xA :: Cond.initialized xA :: vx_atS RX5 59 xA xnm, vx_ot w = true := by decide +kernel
section XC
variable {p : Program} {l : Launch} {e : Env} {R : Room} {s : State} {m : MethodId} {args : Array Value} {below : List Frame} {meth : Method} {c : Code} {H : Heap} {locs : List Loc} {cells slots : Nat} {Q : State → Prop}
variable {cc : ByteArray} {nL pc : Nat} {ls : Array Slot} {rest st0 : List Value} {D : va_G} {ca : vCA} {g : Nat → Nat} {M M1 : Mem} {own : String} {k : Nat}
variable {y : MethodName} {bytes : ByteArray} {maxL n index : Nat} {ret : Option FieldType} {rm : Room} {Qc : Nat → Array Value → State → Outcome → State → Prop} {Qd : Array Value → State → Outcome → State → Prop} {As : List Value} {mc ms mc0 ms0 : Nat} {av : Array Value}
theorem x_throw {α : Type} (F : FX p m c cc nL s D ca g RX5) (hst : l.stackTraces = false) (htab : ∀ x ∈ c.exceptionTable.toList, False) (hlk : meth.locks = false) (hG : GW D ca g s M H locs) {ik is ic : Nat} {text : String} (hcls : Bundle.fit (xcl k) = true) (hk : (Cond.classLink RX5 ik (xcl k)).before args s = true) (hini : (Cond.initialized (xcl k)).before args s = true) (hat : ∀ w ∈ vx_atS RX5 ic (xcl k) xnm, w.before args s = true) (hgood : ∀ w ∈ Cond.classLink RX5 ik (xcl k) :: Cond.initialized (xcl k) :: vx_atS RX5 ic (xcl k) xnm, vx_ot w = true) (htx : (is, text) ∈ xtx) (hsize : ls.size = nL)
    (d0 : decode cc pc = .ok (.new ik, 3)) (d3 : decode cc (pc + 3) = .ok (.dup, 1)) (d4 : decode cc (pc + 4) = .ok (.ldc is, 2)) (d6 : decode cc (pc + 6) = .ok (.invokespecial ic, 3)) (d9 : decode cc (pc + 9) = .ok (.athrow, 1))
    (hRf : 5 < R.frames) (hRl : (rest.map fun v => v.category).sum + 82 ≤ R.locals) (hRc : cells + 1 ≤ R.cells) (hRs : slots + 6 ≤ R.slots) (hc : cells + 1 ≤ mc) (hs : slots + 6 ≤ ms) : W p l e R s m args below meth c H locs cells slots (vx_MQ below Qd (xX (α := α) D ca g s.heap.size M (.inl k)) args s mc ms (gA g s.heap.size)) (F0 m pc ls rest) := by
  obtain ⟨sa, hstr⟩ := F.kx.2.2.1 _ htx
  exact vx_throwS (own := RX5) (cls := xcl k) (names := xnm) (A := gA g s.heap.size) F.1 F.2.1 hst F.2.2.2.1 hcls (by decide +kernel) hk hini hstr hat hgood F.kx.1 F.kx.2.1 hG.2 (hsize.trans F.2.2.1.symm) d0 d3 d4 d6 d9 (fun x hx => (htab x hx).elim) hRf hRl hRc hRs hlk
    (fun t hal hsz hq => ⟨k, rfl, ⟨rfl, hG.1.kept (fun j q hj => hq q.1 (hG.1 j q hj).lt)⟩, ⟨Nat.le_trans hG.2.1 hsz, fun q h1 h2 => (hq q (Nat.lt_of_lt_of_le h1 hG.2.1)).trans (hG.2.2.1 q h1 h2)⟩⟩) hG.2.2.2 hc hs
theorem x_runV {α : Type} {o : Nat ⊕ α} (F : FX p m c cc nL s D ca g own) (hG : GW D ca g s M H locs) (hM : xM l y bytes maxL ret rm D ca g M (.ref (g k) :: As) Qc o) {ci : Nat} {q : vw_C} {fs : List Value} (hk : k < 69) (hd : gdesc ca g (M k) k = .inr (ci, fs)) (hc : vwCl[ci]? = some q)
    (hlink : (Cond.methodLink own index y).before args s = true) (hinst : (Cond.instanceMethod y).before args s = true) (hsel : (Cond.selects q.1 y y).before args s = true) (hini : (Cond.initialized y.cls).before args s = true) (hcode : (Cond.code y bytes maxL ret).before args s = true)
    (hyd : y.cls ≠ "java/lang/invoke/MethodHandle" ∧ y.cls ≠ "java/lang/invoke/VarHandle" ∧ (parseMethodDescriptor y.desc).map (fun d => d.parameters.length) = some n) (hR : rm.frames + 1 ≤ R.frames ∧ 8 + (maxL + 11) + rm.locals ≤ R.locals) (hn : As.length = n) (hls : ls.size = nL) (hst : st0 = As.reverse ++ .ref (g k) :: rest) (hroom : (rest.map fun v => v.category).sum ≤ 8) (hdg : decode cc pc = .ok (.invokevirtual index, 3)) (hf : cells + rm.cells ≤ R.cells ∧ slots + rm.slots ≤ R.slots) :
    vx_Run p l e R s m args below meth c H locs cells slots rm.cells rm.slots (F0 m pc ls st0) rest (Qc H.size (Value.ref (g k) :: As).toArray) (xX D ca g H.size M o) (gA g H.size) :=
  vx_runV (C := q.1) (Ts := []) ⟨F.1, F.2.1, F.2.2.1, F.2.2.2.1, fun w h => by cases h⟩ (hM H.size) ⟨⟨rfl, rfl, hR.1, hR.2, pay1 rfl hcode, List.mem_cons_self, hcode, hini, ⟨hyd.1, hyd.2.1⟩, (fun sig h => by
    have h2 := hyd.2.2
    rw [h] at h2
    exact (Option.some.inj h2).symm), hlink⟩, hinst, hsel⟩ ⟨cPc_blind D ca g M _ _, r_recv F hG hk hd hc, cPc_to F hG⟩ rfl hn hls hst (lv_room hroom) hdg hf
theorem x_runS {α : Type} {o : Nat ⊕ α} (F : FX p m c cc nL s D ca g own) (hG : GW D ca g s M H locs) (hM : xM l y bytes maxL ret rm D ca g M As Qc o)
    (hlink : (Cond.methodLink own index y).before args s = true) (hstat : (Cond.static y).before args s = true) (hini : (Cond.initialized y.cls).before args s = true) (hcode : (Cond.code y bytes maxL ret).before args s = true)
    (hyd : y.cls ≠ "java/lang/invoke/MethodHandle" ∧ y.cls ≠ "java/lang/invoke/VarHandle" ∧ (parseMethodDescriptor y.desc).map (fun d => d.parameters.length) = some n) (hR : rm.frames + 1 ≤ R.frames ∧ 8 + (maxL + 11) + rm.locals ≤ R.locals) (hn : As.length = n) (hls : ls.size = nL) (hst : st0 = As.reverse ++ rest) (hroom : (rest.map fun v => v.category).sum ≤ 8) (hdg : decode cc pc = .ok (.invokestatic index, 3)) (hf : cells + rm.cells ≤ R.cells ∧ slots + rm.slots ≤ R.slots) :
    vx_Run p l e R s m args below meth c H locs cells slots rm.cells rm.slots (F0 m pc ls st0) rest (Qc H.size As.toArray) (xX D ca g H.size M o) (gA g H.size) :=
  vx_runS (Ts := []) ⟨F.1, F.2.1, F.2.2.1, F.2.2.2.1, fun w h => by cases h⟩ (hM H.size) ⟨⟨rfl, rfl, hR.1, hR.2, pay1 rfl hcode, List.mem_cons_self, hcode, hini, ⟨hyd.1, hyd.2.1⟩, (fun sig h => by
    have h2 := hyd.2.2
    rw [h] at h2
    exact (Option.some.inj h2).symm), hlink⟩, hstat⟩ ⟨cPc_blind D ca g M _ _, cPc_to F hG⟩ rfl hn hls hst (lv_room hroom) hdg hf
/-- a call of one that may throw: what it throws goes on to the caller -/
theorem kx_p {α : Type} {oc : Nat ⊕ Int32} {o : Nat ⊕ α} (hr : vx_Run p l e R s m args below meth c H locs cells slots mc ms (F0 m pc ls st0) rest (xQp D ca g H.size M oc av) (xX D ca g H.size M oc) (gA g H.size)) (hG : GW D ca g s M H locs) (htab : ∀ x ∈ c.exceptionTable.toList, False) (hlk : meth.locks = false) (hox : ∀ k, oc = .inl k → o = .inl k) (hc : cells + mc ≤ mc0) (hs : slots + ms ≤ ms0)
    (kk : ∀ (r : Int32) (H1 : Heap) (locs1 : List Loc), oc = .inr r → GW D ca g s M H1 locs1 → W p l e R s m args below meth c H1 locs1 (cells + mc) (slots + ms) (vx_MQ below Qd (xX D ca g s.heap.size M o) args s mc0 ms0 (gA g s.heap.size)) (F0 m (pc + 3) ls (.int r :: rest))) : W p l e R s m args below meth c H locs cells slots (vx_MQ below Qd (xX D ca g s.heap.size M o) args s mc0 ms0 (gA g s.heap.size)) (F0 m pc ls st0) :=
  vx_calli hr hG.2 (fun q _ h => gA_mono hG.2.1 h) (fun q h => gA_mono hG.2.1 h) (fun q _ h => gA_mono hG.2.1 h)
    (fun E ce q9 u t H1 locs1 ht hvm hp hB _ _ hS hce hcv hcl => vx_out (fun x hx => (htab x hx).elim) hlk hce hcv hcl (fun t' ht' _ => ⟨u, hox u hp, ⟨hB.1, by
      show va_P D vwCl (gws ca g M) t'.heap
      rw [ht', ← ht]
      exact hB.2⟩, hS.F ht'⟩) hS.2.2 hc hs)
    (fun r u t H1 locs1 ht hvm hp hB _ _ hS => by
      obtain ⟨e1, rfl⟩ := hp
      exact kk r H1 locs1 e1 ⟨by rw [← ht]; exact hB, hS⟩)
theorem kx_v {α : Type} {oc : Nat ⊕ Unit} {o : Nat ⊕ α} (hr : vx_Run p l e R s m args below meth c H locs cells slots mc ms (F0 m pc ls st0) rest (xQv D ca g H.size M oc av) (xX D ca g H.size M oc) (gA g H.size)) (hG : GW D ca g s M H locs) (htab : ∀ x ∈ c.exceptionTable.toList, False) (hlk : meth.locks = false) (hox : ∀ k, oc = .inl k → o = .inl k) (hc : cells + mc ≤ mc0) (hs : slots + ms ≤ ms0)
    (kk : ∀ (H1 : Heap) (locs1 : List Loc), oc = .inr () → GW D ca g s M H1 locs1 → W p l e R s m args below meth c H1 locs1 (cells + mc) (slots + ms) (vx_MQ below Qd (xX D ca g s.heap.size M o) args s mc0 ms0 (gA g s.heap.size)) (F0 m (pc + 3) ls rest)) : W p l e R s m args below meth c H locs cells slots (vx_MQ below Qd (xX D ca g s.heap.size M o) args s mc0 ms0 (gA g s.heap.size)) (F0 m pc ls st0) :=
  vx_callv hr hG.2 (fun q _ h => gA_mono hG.2.1 h) (fun q h => gA_mono hG.2.1 h) (fun q _ h => gA_mono hG.2.1 h)
    (fun E ce q9 u t H1 locs1 ht hvm hp hB _ _ hS hce hcv hcl => vx_out (fun x hx => (htab x hx).elim) hlk hce hcv hcl (fun t' ht' _ => ⟨u, hox u hp, ⟨hB.1, by
      show va_P D vwCl (gws ca g M) t'.heap
      rw [ht', ← ht]
      exact hB.2⟩, hS.F ht'⟩) hS.2.2 hc hs)
    (fun u t H1 locs1 ht hvm hp hB _ _ hS => by
      obtain ⟨e1, rfl⟩ := hp
      exact kk H1 locs1 e1 ⟨by rw [← ht]; exact hB, hS⟩)
/-! the ends -/
theorem xend_i {r : Int32} {XC : String → State → State → Prop} (F : FX p m c cc nL s D ca g own) {ty : FieldType} (hr : meth.sig.returnType = some ty) (hlocks : meth.locks = false) (hn : narrow ty (.int r) = .int r) (hG : GW D ca g s M H locs) (hdg : decode cc pc = .ok (.ireturn, 1)) (hc : cells ≤ mc) (hs : slots ≤ ms) : W p l e R s m args below meth c H locs cells slots (vx_MQ below (xQi D ca g s.heap.size (.inr (M, r))) XC args s mc ms (gA g s.heap.size)) (F0 m pc ls [.int r]) :=
  vx_ret (W.widen hc hs (W.zret (v := r) F.1 F.2.1 hr hn (fun t ht hW => ⟨⟨r, M, rfl, rfl, by show va_P D vwCl (gws ca g M) t.heap; rw [ht]; exact hG.1⟩, hG.2.F ht⟩) hG.2.2.2 hdg hlocks))
theorem xend_p {r : Int32} {XC : String → State → State → Prop} (F : FX p m c cc nL s D ca g own) {ty : FieldType} (hr : meth.sig.returnType = some ty) (hlocks : meth.locks = false) (hn : narrow ty (.int r) = .int r) (hG : GW D ca g s M H locs) (hdg : decode cc pc = .ok (.ireturn, 1)) (hc : cells ≤ mc) (hs : slots ≤ ms) : W p l e R s m args below meth c H locs cells slots (vx_MQ below (xQp D ca g s.heap.size M (.inr r)) XC args s mc ms (gA g s.heap.size)) (F0 m pc ls [.int r]) :=
  vx_ret (W.widen hc hs (W.zret (v := r) F.1 F.2.1 hr hn (fun t ht hW => ⟨⟨r, M, rfl, ⟨rfl, rfl⟩, by show va_P D vwCl (gws ca g M) t.heap; rw [ht]; exact hG.1⟩, hG.2.F ht⟩) hG.2.2.2 hdg hlocks))
theorem xend_v {XC : String → State → State → Prop} (F : FX p m c cc nL s D ca g own) (hr : meth.sig.returnType = none) (hlocks : meth.locks = false) (hG : GW D ca g s M H locs) (hdg : decode cc pc = .ok (.return_, 1)) (hc : cells ≤ mc) (hs : slots ≤ ms) : W p l e R s m args below meth c H locs cells slots (vx_MQ below (xQv D ca g s.heap.size M (.inr ())) XC args s mc ms (gA g s.heap.size)) (F0 m pc ls []) :=
  vx_ret (W.widen hc hs (W.vret F.1 F.2.1 hr (fun t ht hW => ⟨⟨M, rfl, ⟨rfl, rfl⟩, by show va_P D vwCl (gws ca g M) t.heap; rw [ht]; exact hG.1⟩, hG.2.F ht⟩) hG.2.2.2 hdg))
end XC

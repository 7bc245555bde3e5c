/-! ===== methods that may throw: 1 IndexOutOfBounds, 2 IllegalState, 3 IllegalArgument; a throw leaves the memory as it was ===== -/
def xcl (k : Nat) : String := if k = 1 then xI else if k = 2 then xS else xA
abbrev xnm : List String := ["java/lang/RuntimeException", "java/lang/Exception"]
def xQi (D : va_G) (ca : vCA) (g : Nat → Nat) (sz : Nat) (o : Nat ⊕ (Mem × Int32)) : Array Value → State → Outcome → State → Prop := va_Qi (fun (r : Int32) (N : Mem) => o = .inr (N, r)) (wB D ca g) (gA g sz)
def xQp (D : va_G) (ca : vCA) (g : Nat → Nat) (sz : Nat) (M : Mem) (o : Nat ⊕ Int32) : Array Value → State → Outcome → State → Prop := va_Qi (fun (r : Int32) (N : Mem) => o = .inr r ∧ N = M) (wB D ca g) (gA g sz)
def xQv (D : va_G) (ca : vCA) (g : Nat → Nat) (sz : Nat) (M : Mem) (o : Nat ⊕ Unit) : Array Value → State → Outcome → State → Prop := va_Qv (fun (N : Mem) => o = .inr () ∧ N = M) (wB D ca g) (gA g sz)
def xX {α : Type} (D : va_G) (ca : vCA) (g : Nat → Nat) (sz : Nat) (M : Mem) (o : Nat ⊕ α) : String → State → State → Prop := vx_X (fun (k : Nat) => o = .inl k) (fun (E : String) (k : Nat) (t : State) => E = xcl k ∧ wB D ca g M t) (gA g sz)
def xM {α : Type} (l : Launch) (y : MethodName) (bytes : ByteArray) (maxL : Nat) (ret : Option FieldType) (rm : Room) (D : va_G) (ca : vCA) (g : Nat → Nat) (M : Mem) (av : List Value) (Qc : Nat → Array Value → State → Outcome → State → Prop) (o : Nat ⊕ α) : Prop :=
  ∀ sz : Nat, vx_Met l y [Cond.code y bytes maxL ret] rm (cPc D ca g M sz av) (Qc sz) (xX D ca g sz M o) rm.cells rm.slots (gA g sz)
theorem mk_xMet {α : Type} {l : Launch} {y : MethodName} {bytes : ByteArray} {maxL : Nat} {ret : Option FieldType} {rm : Room} {D : va_G} {ca : vCA} {g : Nat → Nat} {M : Mem} {av : List Value} {Qc : Nat → Array Value → State → Outcome → State → Prop} {o : Nat ⊕ α} (hy : plainName y.cls = true) (hn : (lg_sl av).length ≤ maxL)
    (body : ∀ (p : Program) (e : Env) (s : State) (m : MethodId) (below : List Frame) (meth : Method) (c : Code), FX p m c bytes maxL s D ca g y.cls → meth.sig.returnType = ret → meth.locks = false → (∀ x ∈ c.exceptionTable.toList, False) → GW D ca g s M s.heap [] → ∀ ls : Array Slot, lv_has ls maxL (lv_args 0 av) → W p l e rm s m av.toArray below meth c s.heap [] 0 0 (vx_MQ below (Qc s.heap.size) (xX D ca g s.heap.size M o) av.toArray s rm.cells rm.slots (gA g s.heap.size)) (F0 m 0 ls [])) : xM l y bytes maxL ret rm D ca g M av Qc o := by
  intro sz
  refine vx_ofW (cc := bytes) (maxL := maxL) (ret := ret) hy rfl ?_
  intro p e s m args below meth c s₁ B hml ht hv
  obtain ⟨rfl, hsz, hP, hKW⟩ := hv
  subst hsz
  rw [lg_entry_eq]
  exact body p e s m below meth c ⟨B.exec, B.bytes, hml, findClass_of_methodNamed B.named, hKW⟩ B.returns B.notSynchronized ht ⟨hP, va_S.rf⟩ _ (lv_entry av hn)
theorem xat_of {args : Array Value} {s : State} {L : List Cond} (h : KD s) (hm : ∀ w ∈ L, w ∈ lw_tbl) (ho : L.all okW = true) : ∀ w ∈ L, w.before args s = true := fun w hw => va_Nw.use (okW_on (List.all_eq_true.mp ho w hw)) (h w (hm w hw) (List.all_eq_true.mp ho w hw))
theorem xm1 : ∀ w ∈ vx_atS RX5 193 xI xnm, w ∈ lw_tbl := by decide +kernel
theorem xm2 : ∀ w ∈ vx_atS RX5 48 xS xnm, w ∈ lw_tbl := by decide +kernel
theorem xm3 : ∀ w ∈ vx_atS RX5 59 xA xnm, w ∈ lw_tbl := by decide +kernel
theorem xo1 : (vx_atS RX5 193 xI xnm).all okW = true := by decide +kernel
theorem xo2 : (vx_atS RX5 48 xS xnm).all okW = true := by decide +kernel
theorem xo3 : (vx_atS RX5 59 xA xnm).all okW = true := by decide +kernel
theorem xg1_ : ∀ w ∈ Cond.classLink RX5 189 xI :: Cond.initialized xI :: vx_atS RX5 193 xI xnm, vx_ot w = true := by decide +kernel
theorem xg2_ : ∀ w ∈ Cond.classLink RX5 44 xS :: Cond.initialized xS :: vx_atS RX5 48 xS xnm, vx_ot w = true := by decide +kernel
theorem xg3_ : ∀ w ∈ Cond.classLink RX5 55 xA :: Cond.initialized xA :: vx_atS RX5 59 xA xnm, vx_ot w = true := by decide +kernel
section XC
variable {p : Program} {l : Launch} {e : Env} {R : Room} {s : State} {m : MethodId} {args : Array Value} {below : List Frame} {meth : Method} {c : Code} {H : Heap} {locs : List Loc} {cells slots : Nat} {Q : State → Prop}
variable {cc : ByteArray} {nL pc : Nat} {ls : Array Slot} {rest st0 : List Value} {D : va_G} {ca : vCA} {g : Nat → Nat} {M M1 : Mem} {own : String} {k : Nat}
variable {y : MethodName} {bytes : ByteArray} {maxL n index : Nat} {ret : Option FieldType} {rm : Room} {Qc : Nat → Array Value → State → Outcome → State → Prop} {Qd : Array Value → State → Outcome → State → Prop} {As : List Value} {mc ms mc0 ms0 : Nat} {av : Array Value}
theorem x_throw {α : Type} (F : FX p m c cc nL s D ca g RX5) (hst : l.stackTraces = false) (htab : ∀ x ∈ c.exceptionTable.toList, False) (hlk : meth.locks = false) (hG : GW D ca g s M H locs) {ik is ic : Nat} {text : String} (hcls : Bundle.fit (xcl k) = true) (hk : (Cond.classLink RX5 ik (xcl k)).before args s = true) (hini : (Cond.initialized (xcl k)).before args s = true) (hat : ∀ w ∈ vx_atS RX5 ic (xcl k) xnm, w.before args s = true) (hgood : ∀ w ∈ Cond.classLink RX5 ik (xcl k) :: Cond.initialized (xcl k) :: vx_atS RX5 ic (xcl k) xnm, vx_ot w = true) (htx : (is, text) ∈ xtx) (hsize : ls.size = nL)
    (d0 : decode cc pc = .ok (.new ik, 3)) (d3 : decode cc (pc + 3) = .ok (.dup, 1)) (d4 : decode cc (pc + 4) = .ok (.ldc is, 2)) (d6 : decode cc (pc + 6) = .ok (.invokespecial ic, 3)) (d9 : decode cc (pc + 9) = .ok (.athrow, 1))
    (hRf : 5 < R.frames) (hRl : (rest.map fun v => v.category).sum + 82 ≤ R.locals) (hRc : cells + 1 ≤ R.cells) (hRs : slots + 6 ≤ R.slots) (hc : cells + 1 ≤ mc) (hs : slots + 6 ≤ ms) : W p l e R s m args below meth c H locs cells slots (vx_MQ below Qd (xX (α := α) D ca g s.heap.size M (.inl k)) args s mc ms (gA g s.heap.size)) (F0 m pc ls rest) := by
  obtain ⟨sa, hstr⟩ := F.kx.2.2.1 _ htx
  exact vx_throwS (own := RX5) (cls := xcl k) (names := xnm) (A := gA g s.heap.size) F.1 F.2.1 hst F.2.2.2.1 hcls (by decide +kernel) hk hini hstr hat hgood F.kx.1 F.kx.2.1 hG.2 (hsize.trans F.2.2.1.symm) d0 d3 d4 d6 d9 (fun x hx => (htab x hx).elim) hRf hRl hRc hRs hlk
    (fun t hal hsz hq => ⟨k, rfl, ⟨rfl, hG.1.kept (fun j q hj => hq q.1 (hG.1 j q hj).lt)⟩, ⟨Nat.le_trans hG.2.1 hsz, fun q h1 h2 => (hq q (Nat.lt_of_lt_of_le h1 hG.2.1)).trans (hG.2.2.1 q h1 h2)⟩⟩) hG.2.2.2 hc hs
theorem x_runV {α : Type} {o : Nat ⊕ α} (F : FX p m c cc nL s D ca g own) (hG : GW D ca g s M H locs) (hM : xM l y bytes maxL ret rm D ca g M (.ref (g k) :: As) Qc o) {ci : Nat} {q : vw_C} {fs : List Value} (hk : k < 44) (hd : gdesc ca g (M k) k = .inr (ci, fs)) (hc : vwCl[ci]? = some q)
    (hlink : (Cond.methodLink own index y).before args s = true) (hinst : (Cond.instanceMethod y).before args s = true) (hsel : (Cond.selects q.1 y y).before args s = true) (hini : (Cond.initialized y.cls).before args s = true) (hcode : (Cond.code y bytes maxL ret).before args s = true)
    (hyd : y.cls ≠ "java/lang/invoke/MethodHandle" ∧ y.cls ≠ "java/lang/invoke/VarHandle" ∧ (parseMethodDescriptor y.desc).map (fun d => d.parameters.length) = some n) (hR : rm.frames + 1 ≤ R.frames ∧ 8 + (maxL + 11) + rm.locals ≤ R.locals) (hn : As.length = n) (hls : ls.size = nL) (hst : st0 = As.reverse ++ .ref (g k) :: rest) (hroom : (rest.map fun v => v.category).sum ≤ 8) (hdg : decode cc pc = .ok (.invokevirtual index, 3)) (hf : cells + rm.cells ≤ R.cells ∧ slots + rm.slots ≤ R.slots) :
    vx_Run p l e R s m args below meth c H locs cells slots rm.cells rm.slots (F0 m pc ls st0) rest (Qc H.size (Value.ref (g k) :: As).toArray) (xX D ca g H.size M o) (gA g H.size) :=
  vx_runV (C := q.1) (Ts := []) ⟨F.1, F.2.1, F.2.2.1, F.2.2.2.1, fun w h => by cases h⟩ (hM H.size) ⟨⟨rfl, rfl, hR.1, hR.2, pay1 rfl hcode, List.mem_cons_self, hcode, hini, ⟨hyd.1, hyd.2.1⟩, (fun sig h => by
    have h2 := hyd.2.2
    rw [h] at h2
    exact (Option.some.inj h2).symm), hlink⟩, hinst, hsel⟩ ⟨cPc_blind D ca g M _ _, r_recv F hG hk hd hc, cPc_to F hG⟩ rfl hn hls hst (lv_room hroom) hdg hf
theorem x_runS {α : Type} {o : Nat ⊕ α} (F : FX p m c cc nL s D ca g own) (hG : GW D ca g s M H locs) (hM : xM l y bytes maxL ret rm D ca g M As Qc o)
    (hlink : (Cond.methodLink own index y).before args s = true) (hstat : (Cond.static y).before args s = true) (hini : (Cond.initialized y.cls).before args s = true) (hcode : (Cond.code y bytes maxL ret).before args s = true)
    (hyd : y.cls ≠ "java/lang/invoke/MethodHandle" ∧ y.cls ≠ "java/lang/invoke/VarHandle" ∧ (parseMethodDescriptor y.desc).map (fun d => d.parameters.length) = some n) (hR : rm.frames + 1 ≤ R.frames ∧ 8 + (maxL + 11) + rm.locals ≤ R.locals) (hn : As.length = n) (hls : ls.size = nL) (hst : st0 = As.reverse ++ rest) (hroom : (rest.map fun v => v.category).sum ≤ 8) (hdg : decode cc pc = .ok (.invokestatic index, 3)) (hf : cells + rm.cells ≤ R.cells ∧ slots + rm.slots ≤ R.slots) :
    vx_Run p l e R s m args below meth c H locs cells slots rm.cells rm.slots (F0 m pc ls st0) rest (Qc H.size As.toArray) (xX D ca g H.size M o) (gA g H.size) :=
  vx_runS (Ts := []) ⟨F.1, F.2.1, F.2.2.1, F.2.2.2.1, fun w h => by cases h⟩ (hM H.size) ⟨⟨rfl, rfl, hR.1, hR.2, pay1 rfl hcode, List.mem_cons_self, hcode, hini, ⟨hyd.1, hyd.2.1⟩, (fun sig h => by
    have h2 := hyd.2.2
    rw [h] at h2
    exact (Option.some.inj h2).symm), hlink⟩, hstat⟩ ⟨cPc_blind D ca g M _ _, cPc_to F hG⟩ rfl hn hls hst (lv_room hroom) hdg hf
/-- a call of one that may throw: what it throws goes on to the caller -/
theorem kx_p {α : Type} {oc : Nat ⊕ Int32} {o : Nat ⊕ α} (hr : vx_Run p l e R s m args below meth c H locs cells slots mc ms (F0 m pc ls st0) rest (xQp D ca g H.size M oc av) (xX D ca g H.size M oc) (gA g H.size)) (hG : GW D ca g s M H locs) (htab : ∀ x ∈ c.exceptionTable.toList, False) (hlk : meth.locks = false) (hox : ∀ k, oc = .inl k → o = .inl k) (hc : cells + mc ≤ mc0) (hs : slots + ms ≤ ms0)
    (kk : ∀ (r : Int32) (H1 : Heap) (locs1 : List Loc), oc = .inr r → GW D ca g s M H1 locs1 → W p l e R s m args below meth c H1 locs1 (cells + mc) (slots + ms) (vx_MQ below Qd (xX D ca g s.heap.size M o) args s mc0 ms0 (gA g s.heap.size)) (F0 m (pc + 3) ls (.int r :: rest))) : W p l e R s m args below meth c H locs cells slots (vx_MQ below Qd (xX D ca g s.heap.size M o) args s mc0 ms0 (gA g s.heap.size)) (F0 m pc ls st0) :=
  vx_calli hr hG.2 (fun q _ h => gA_mono hG.2.1 h) (fun q h => gA_mono hG.2.1 h) (fun q _ h => gA_mono hG.2.1 h)
    (fun E ce q9 u t H1 locs1 ht hvm hp hB _ _ hS hce hcv hcl => vx_out (fun x hx => (htab x hx).elim) hlk hce hcv hcl (fun t' ht' _ => ⟨u, hox u hp, ⟨hB.1, by
      show va_P D vwCl (gws ca g M) t'.heap
      rw [ht', ← ht]
      exact hB.2⟩, hS.F ht'⟩) hS.2.2 hc hs)
    (fun r u t H1 locs1 ht hvm hp hB _ _ hS => by
      obtain ⟨e1, rfl⟩ := hp
      exact kk r H1 locs1 e1 ⟨by rw [← ht]; exact hB, hS⟩)
theorem kx_v {α : Type} {oc : Nat ⊕ Unit} {o : Nat ⊕ α} (hr : vx_Run p l e R s m args below meth c H locs cells slots mc ms (F0 m pc ls st0) rest (xQv D ca g H.size M oc av) (xX D ca g H.size M oc) (gA g H.size)) (hG : GW D ca g s M H locs) (htab : ∀ x ∈ c.exceptionTable.toList, False) (hlk : meth.locks = false) (hox : ∀ k, oc = .inl k → o = .inl k) (hc : cells + mc ≤ mc0) (hs : slots + ms ≤ ms0)
    (kk : ∀ (H1 : Heap) (locs1 : List Loc), oc = .inr () → GW D ca g s M H1 locs1 → W p l e R s m args below meth c H1 locs1 (cells + mc) (slots + ms) (vx_MQ below Qd (xX D ca g s.heap.size M o) args s mc0 ms0 (gA g s.heap.size)) (F0 m (pc + 3) ls rest)) : W p l e R s m args below meth c H locs cells slots (vx_MQ below Qd (xX D ca g s.heap.size M o) args s mc0 ms0 (gA g s.heap.size)) (F0 m pc ls st0) :=
  vx_callv hr hG.2 (fun q _ h => gA_mono hG.2.1 h) (fun q h => gA_mono hG.2.1 h) (fun q _ h => gA_mono hG.2.1 h)
    (fun E ce q9 u t H1 locs1 ht hvm hp hB _ _ hS hce hcv hcl => vx_out (fun x hx => (htab x hx).elim) hlk hce hcv hcl (fun t' ht' _ => ⟨u, hox u hp, ⟨hB.1, by
      show va_P D vwCl (gws ca g M) t'.heap
      rw [ht', ← ht]
      exact hB.2⟩, hS.F ht'⟩) hS.2.2 hc hs)
    (fun u t H1 locs1 ht hvm hp hB _ _ hS => by
      obtain ⟨e1, rfl⟩ := hp
      exact kk H1 locs1 e1 ⟨by rw [← ht]; exact hB, hS⟩)
/-! the ends -/
theorem xend_i {r : Int32} {XC : String → State → State → Prop} (F : FX p m c cc nL s D ca g own) {ty : FieldType} (hr : meth.sig.returnType = some ty) (hlocks : meth.locks = false) (hn : narrow ty (.int r) = .int r) (hG : GW D ca g s M H locs) (hdg : decode cc pc = .ok (.ireturn, 1)) (hc : cells ≤ mc) (hs : slots ≤ ms) : W p l e R s m args below meth c H locs cells slots (vx_MQ below (xQi D ca g s.heap.size (.inr (M, r))) XC args s mc ms (gA g s.heap.size)) (F0 m pc ls [.int r]) :=
  vx_ret (W.widen hc hs (W.zret (v := r) F.1 F.2.1 hr hn (fun t ht hW => ⟨⟨r, M, rfl, rfl, by show va_P D vwCl (gws ca g M) t.heap; rw [ht]; exact hG.1⟩, hG.2.F ht⟩) hG.2.2.2 hdg hlocks))
theorem xend_p {r : Int32} {XC : String → State → State → Prop} (F : FX p m c cc nL s D ca g own) {ty : FieldType} (hr : meth.sig.returnType = some ty) (hlocks : meth.locks = false) (hn : narrow ty (.int r) = .int r) (hG : GW D ca g s M H locs) (hdg : decode cc pc = .ok (.ireturn, 1)) (hc : cells ≤ mc) (hs : slots ≤ ms) : W p l e R s m args below meth c H locs cells slots (vx_MQ below (xQp D ca g s.heap.size M (.inr r)) XC args s mc ms (gA g s.heap.size)) (F0 m pc ls [.int r]) :=
  vx_ret (W.widen hc hs (W.zret (v := r) F.1 F.2.1 hr hn (fun t ht hW => ⟨⟨r, M, rfl, ⟨rfl, rfl⟩, by show va_P D vwCl (gws ca g M) t.heap; rw [ht]; exact hG.1⟩, hG.2.F ht⟩) hG.2.2.2 hdg hlocks))
theorem xend_v {XC : String → State → State → Prop} (F : FX p m c cc nL s D ca g own) (hr : meth.sig.returnType = none) (hlocks : meth.locks = false) (hG : GW D ca g s M H locs) (hdg : decode cc pc = .ok (.return_, 1)) (hc : cells ≤ mc) (hs : slots ≤ ms) : W p l e R s m args below meth c H locs cells slots (vx_MQ below (xQv D ca g s.heap.size M (.inr ())) XC args s mc ms (gA g s.heap.size)) (F0 m pc ls []) :=
  vx_ret (W.widen hc hs (W.vret F.1 F.2.1 hr (fun t ht hW => ⟨⟨M, rfl, ⟨rfl, rfl⟩, by show va_P D vwCl (gws ca g M) t.heap; rw [ht]; exact hG.1⟩, hG.2.F ht⟩) hG.2.2.2 hdg))
end XC
/-! ===== one array more, made in this method: its contents f, beside the graph ===== -/
def exA (ca : vCA) (n : Nat) (q : Nat) (f : Nat → Int32) (H : Heap) : Prop := H[q]? = some (vp_cell ca.1 (n, .inl f))
def exN (g : Nat → Nat) (s : State) (q : Nat) : Prop := s.heap.size ≤ q ∧ ∀ k, k < 44 → q ≠ g k
section ER
variable {p : Program} {l : Launch} {e : Env} {R : Room} {s : State} {m : MethodId} {args : Array Value} {below : List Frame} {meth : Method} {c : Code} {H : Heap} {locs : List Loc} {cells slots : Nat} {Q : State → Prop}
variable {cc : ByteArray} {nL pc : Nat} {ls : Array Slot} {rest st0 : List Value} {D : va_G} {ca : vCA} {g : Nat → Nat} {M M1 : Mem} {own : String} {k q N : Nat} {f : Nat → Int32}
theorem ex_P (hP : va_P D vwCl (gws ca g M) H) (hE : exA ca N q f H) : va_P D vwCl (gws ca g M ++ [(q, .inl (ca.1, N, .inl f))]) H := hP.app (fun j x hj => by
  have hz : j < 1 := (List.getElem?_eq_some_iff.mp hj).1
  rw [show j = 0 by omega] at hj
  cases hj
  exact hE)
theorem ex_D (hi : gInj g) (hq : exN g s q) : va_D (gA g s.heap.size) (gws ca g M ++ [(q, .inl (ca.1, N, .inl f))]) := (gD hi ca M _).app ⟨fun i j x y h1 h2 _ => by
  have e1 : i < 1 := (List.getElem?_eq_some_iff.mp h1).1
  have e2 : j < 1 := (List.getElem?_eq_some_iff.mp h2).1
  omega, fun j x hj => by
  have hz : j < 1 := (List.getElem?_eq_some_iff.mp hj).1
  rw [show j = 0 by omega] at hj
  cases hj
  exact gA_new hq.1⟩ (fun i j x y h1 h2 => by
  have hz : j < 1 := (List.getElem?_eq_some_iff.mp h2).1
  rw [show j = 0 by omega] at h2
  cases h2
  obtain ⟨hi1, rfl⟩ := gws_of h1
  exact fun z => hq.2 i hi1 z.symm)
theorem ex_at : (gws ca g M ++ [(q, (Sum.inl (ca.1, N, Sum.inl f) : va_E))])[44]? = some (q, Sum.inl (ca.1, N, Sum.inl f)) := by
  rw [List.getElem?_append_right (by rw [gws_len]; omega), gws_len]
  rfl
theorem r_newE (F : FX p m c cc nL s D ca g own) (hG : GW D ca g s M H locs) {n : Int32} (hn : ¬ n < 0) (hN : n.toNatClampNeg = N) (hb4 : N * componentBytes .int ≤ 536870912) (hcells : cells + 1 ≤ R.cells) (hslots : slots + N ≤ R.slots) (hdg : decode cc pc = .ok (.newarray .int, 2))
    (kk : ∀ (q : Nat) (H1 : Heap), exN g s q → exA ca N q (fun _ => 0) H1 → GW D ca g s M H1 locs → W p l e R s m args below meth c H1 locs (cells + 1) (slots + N) Q (F0 m (pc + 2) ls (.ref q :: rest))) : W p l e R s m args below meth c H locs cells slots Q (F0 m pc ls (.int n :: rest)) := by
  refine va_newaK F.1 F.2.1 (atype := .int) (word_at (State.WarmedH.refl s) (Or.inr ⟨_, rfl⟩) F.kx.2.2.2.2) rfl hdg rfl hn hN hb4 hcells hslots rfl fun H1 cA e1 z1 o1 hAr hNm => ?_
  have hca : cA = ca.1 := by
    obtain ⟨-, h2⟩ := F.hK.2 0 _ rfl
    exact Option.some.inj (hNm.symm.trans h2)
  subst hca
  refine kk H.size H1 ⟨hG.2.1, fun j hj hz => ?_⟩ e1 ⟨hG.1.kept (fun j x hj => o1 x.1 ((hG.1 j x hj).lt)), ⟨Nat.le_trans hG.2.1 (by omega), fun x h1 h2 => (o1 x (Nat.lt_of_lt_of_le h1 hG.2.1)).trans (hG.2.2.1 x h1 h2), hG.2.2.2⟩⟩
  have := (hG.1 j _ (gws_at ca g M hj)).lt
  rw [← hz] at this
  exact absurd this (Nat.lt_irrefl _)
theorem r_astE (F : FX p m c cc nL s D ca g own) (hG : GW D ca g s M H locs) (hq : exN g s q) (hE : exA ca N q f H) {i x : Int32} (hi : inb i N = true) (hdg : decode cc pc = .ok (.iastore, 1))
    (kk : ∀ (H1 : Heap) (locs1 : List Loc), exA ca N q (upd f i.toNatClampNeg x) H1 → GW D ca g s M H1 locs1 → W p l e R s m args below meth c H1 locs1 cells slots Q (F0 m (pc + 1) ls rest)) : W p l e R s m args below meth c H locs cells slots Q (F0 m pc ls (.int x :: .int i :: .ref q :: rest)) := by
  refine va_iast (D := D) (tys := tyL ca) F.1 F.2.1 F.hK (ex_P hG.1 hE) (ex_D F.inj hq) hG.2 44 0 ex_at rfl (inb_vp hi) hdg (fun H1 locs1 hP _ hS => kk H1 locs1 ?_ ⟨?_, hS⟩)
  · have h := hP 44 (q, .inl (ca.1, N, .inl (upd f i.toNatClampNeg x))) (by rw [List.getElem?_set_self (by rw [List.length_append, gws_len]; exact Nat.lt_succ_self 44)])
    exact h
  · intro j x hj
    obtain ⟨hj1, -⟩ := gws_of hj
    exact hP j x (by rw [List.getElem?_set_ne (by omega), List.getElem?_append_left (by rw [gws_len]; exact hj1)]; exact hj)
theorem r_aldE (F : FX p m c cc nL s D ca g own) (hG : GW D ca g s M H locs) (hE : exA ca N q f H) {i : Int32} (hi : inb i N = true) (hdg : decode cc pc = .ok (.iaload, 1))
    (kk : W p l e R s m args below meth c H locs cells slots Q (F0 m (pc + 1) ls (.int (f i.toNatClampNeg) :: rest))) : W p l e R s m args below meth c H locs cells slots Q (F0 m pc ls (.int i :: .ref q :: rest)) :=
  va_iald (D := D) (tys := tyL ca) F.1 F.2.1 F.hK (ex_P hG.1 hE) 44 0 ex_at rfl (inb_vp hi) hdg kk
theorem exA_kept {H1 : Heap} (hE : exA ca N q f H) (hq : exN g s q) (hk : ∀ z : Nat, z < H.size → ¬ gA g H.size z → H1[z]? = H[z]?) : exA ca N q f H1 := by
  have hl : q < H.size := (Array.getElem?_eq_some_iff.mp hE).1
  unfold exA
  rw [hk q hl (fun z => z.elim (fun ⟨k, h1, h2⟩ => hq.2 k h1 h2) (fun h => by omega))]
  exact hE
theorem k_iE {mc ms : Nat} {av : Array Value} {r : Int32} (hr : va_Run p l e R s m args below meth c H locs cells slots mc ms (F0 m pc ls st0) rest (cQi D ca g H.size M1 r av) (gA g H.size)) (hG : GW D ca g s M H locs) (hq : exN g s q) (hE : exA ca N q f H)
    (kk : ∀ (H1 : Heap) (locs1 : List Loc), exA ca N q f H1 → GW D ca g s M1 H1 locs1 → W p l e R s m args below meth c H1 locs1 (cells + mc) (slots + ms) Q (F0 m (pc + 3) ls (.int r :: rest))) : W p l e R s m args below meth c H locs cells slots Q (F0 m pc ls st0) :=
  va_calli hr hG.2 (fun q _ h => gA_mono hG.2.1 h) (fun q h => gA_mono hG.2.1 h) (fun r' u t H1 locs1 ht hvm hp hB _ hk hS => by
    obtain ⟨rfl, rfl⟩ := hp
    exact kk H1 locs1 (exA_kept hE hq hk) ⟨by rw [← ht]; exact hB, hS⟩)
/-- doubles -/
theorem end_d {r : UInt64} (F : FX p m c cc nL s D ca g own) (hr : meth.sig.returnType = some .double) (hlocks : meth.locks = false) (hG : GW D ca g s M H locs) (hdg : decode cc pc = .ok (.dreturn, 1)) : W p l e R s m args below meth c H locs cells slots (MQ below (cQd D ca g s.heap.size M r) args s cells slots (gA g s.heap.size)) (F0 m pc ls [.double r]) :=
  W.dret (v := r) F.1 F.2.1 hr (fun t ht hW => ⟨⟨r, M, rfl, ⟨rfl, rfl⟩, by show va_P D vwCl (gws ca g M) t.heap; rw [ht]; exact hG.1⟩, hG.2.F ht⟩) hG.2.2.2 hdg hlocks
theorem dok_n {x y : UInt64} (h : dok x y = true) : vf_n64 (FP.ddiv x y) := by
  unfold vf_n64
  exact of_decide_eq_true h
/-- a contract of a method with handlers -/
def cMH (l : Launch) (y : MethodName) (bytes : ByteArray) (maxL : Nat) (ret : Option FieldType) (hh : List (Nat × Nat × Nat × Nat)) (rm : Room) (D : va_G) (ca : vCA) (g : Nat → Nat) (M : Mem) (av : List Value) (Qc : Nat → Array Value → State → Outcome → State → Prop) : Prop :=
  ∀ sz : Nat, Met l y [Cond.codeWith y bytes maxL ret hh] rm (cPc D ca g M sz av) (Qc sz) rm.cells rm.slots (gA g sz)
theorem mk_MetH {l : Launch} {y : MethodName} {bytes : ByteArray} {maxL : Nat} {ret : Option FieldType} {hh : List (Nat × Nat × Nat × Nat)} {rm : Room} {D : va_G} {ca : vCA} {g : Nat → Nat} {M : Mem} {av : List Value} {Qc : Nat → Array Value → State → Outcome → State → Prop} (hy : plainName y.cls = true) (hn : (lg_sl av).length ≤ maxL)
    (body : ∀ (p : Program) (e : Env) (s : State) (m : MethodId) (below : List Frame) (meth : Method) (c : Code), FX p m c bytes maxL s D ca g y.cls → meth.sig.returnType = ret → meth.locks = false → c.exceptionTable.toList = tableOf hh → GW D ca g s M s.heap [] → ∀ ls : Array Slot, lv_has ls maxL (lv_args 0 av) → W p l e rm s m av.toArray below meth c s.heap [] 0 0 (MQ below (Qc s.heap.size) av.toArray s rm.cells rm.slots (gA g s.heap.size)) (F0 m 0 ls [])) : cMH l y bytes maxL ret hh rm D ca g M av Qc := by
  intro sz
  refine va_MetW (cc := bytes) (maxL := maxL) (ret := ret) (hh := hh) hy rfl ?_
  intro p e s m args below meth c s₁ B hml hv
  have ht := vx_table (x := y) B (atoms_spec (ws := [Cond.codeWith y bytes maxL ret hh]) B.pre _ List.mem_cons_self)
  obtain ⟨rfl, hsz, hP, hKW⟩ := hv
  subst hsz
  rw [lg_entry_eq]
  exact body p e s m below meth c ⟨B.exec, B.bytes, hml, findClass_of_methodNamed B.named, hKW⟩ B.returns B.notSynchronized ht ⟨hP, va_S.rf⟩ _ (lv_entry av hn)
theorem kl_i {mc ms : Nat} {av : Array Value} {oc : Nat ⊕ (Mem × Int32)} (hr : vx_Run p l e R s m args below meth c H locs cells slots mc ms (F0 m pc ls st0) rest (xQi D ca g H.size oc av) (xX D ca g H.size M oc) (gA g H.size)) (hG : GW D ca g s M H locs)
    (kx : ∀ (k : Nat) (H1 : Heap) (locs1 : List Loc) (q : Addr) (ce : Cell), oc = .inl k → GW D ca g s M H1 locs1 → H1[q]? = some ce → ce.vm = .none → s.vm.findClass (xcl k) = some ce.cls → vx_W p l e R s m args below meth c H1 locs1 (cells + mc) (slots + ms) Q (F0 m pc ls rest) q)
    (kk : ∀ (M1 : Mem) (r : Int32) (H1 : Heap) (locs1 : List Loc), oc = .inr (M1, r) → GW D ca g s M1 H1 locs1 → W p l e R s m args below meth c H1 locs1 (cells + mc) (slots + ms) Q (F0 m (pc + 3) ls (.int r :: rest))) : W p l e R s m args below meth c H locs cells slots Q (F0 m pc ls st0) :=
  vx_calli hr hG.2 (fun q _ h => gA_mono hG.2.1 h) (fun q h => gA_mono hG.2.1 h) (fun q _ h => gA_mono hG.2.1 h)
    (fun E ce q9 u t H1 locs1 ht hvm hp hB _ _ hS hce hcv hcl => by
      obtain ⟨rfl, hB⟩ := hB
      exact kx u H1 locs1 q9 ce hp ⟨by rw [← ht]; exact hB, hS⟩ hce hcv hcl)
    (fun r u t H1 locs1 ht hvm hp hB _ _ hS => kk u r H1 locs1 hp ⟨by rw [← ht]; exact hB, hS⟩)
theorem kl_p {mc ms : Nat} {av : Array Value} {oc : Nat ⊕ Int32} (hr : vx_Run p l e R s m args below meth c H locs cells slots mc ms (F0 m pc ls st0) rest (xQp D ca g H.size M oc av) (xX D ca g H.size M oc) (gA g H.size)) (hG : GW D ca g s M H locs)
    (kx : ∀ (k : Nat) (H1 : Heap) (locs1 : List Loc) (q : Addr) (ce : Cell), oc = .inl k → GW D ca g s M H1 locs1 → H1[q]? = some ce → ce.vm = .none → s.vm.findClass (xcl k) = some ce.cls → vx_W p l e R s m args below meth c H1 locs1 (cells + mc) (slots + ms) Q (F0 m pc ls rest) q)
    (kk : ∀ (r : Int32) (H1 : Heap) (locs1 : List Loc), oc = .inr r → GW D ca g s M H1 locs1 → W p l e R s m args below meth c H1 locs1 (cells + mc) (slots + ms) Q (F0 m (pc + 3) ls (.int r :: rest))) : W p l e R s m args below meth c H locs cells slots Q (F0 m pc ls st0) :=
  vx_calli hr hG.2 (fun q _ h => gA_mono hG.2.1 h) (fun q h => gA_mono hG.2.1 h) (fun q _ h => gA_mono hG.2.1 h)
    (fun E ce q9 u t H1 locs1 ht hvm hp hB _ _ hS hce hcv hcl => by
      obtain ⟨rfl, hB⟩ := hB
      exact kx u H1 locs1 q9 ce hp ⟨by rw [← ht]; exact hB, hS⟩ hce hcv hcl)
    (fun r u t H1 locs1 ht hvm hp hB _ _ hS => by
      obtain ⟨e1, rfl⟩ := hp
      exact kk r H1 locs1 e1 ⟨by rw [← ht]; exact hB, hS⟩)
end ER

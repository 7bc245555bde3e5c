section RW
variable {p : Program} {l : Launch} {e : Env} {R : Room} {s : State} {m : MethodId} {args : Array Value} {below : List Frame} {meth : Method} {c : Code} {H : Heap} {locs : List Loc} {cells slots : Nat} {Q : State → Prop}
variable {cc : ByteArray} {nL pc : Nat} {ls : Array Slot} {rest : List Value} {D : va_G} {ca : vCA} {g : Nat → Nat} {M M1 : Mem} {own : String} {k : Nat}
/-- what stands fast within a method -/
def FX (p : Program) (m : MethodId) (c : Code) (cc : ByteArray) (nL : Nat) (s : State) (D : va_G) (ca : vCA) (g : Nat → Nat) (own : String) : Prop := p.tables.exec = Jvm.exec ∧ c.code = cc ∧ c.maxLocals = nL ∧ s.vm.findClass own = some m.cls ∧ KW D ca g s
theorem FX.kd (F : FX p m c cc nL s D ca g own) : KD s := F.2.2.2.2.2.1
theorem FX.inj (F : FX p m c cc nL s D ca g own) : gInj g := F.2.2.2.2.2.2.1
theorem FX.ks (F : FX p m c cc nL s D ca g own) : KS ca g s := F.2.2.2.2.2.2.2.1
theorem FX.kx (F : FX p m c cc nL s D ca g own) : KX g s := F.2.2.2.2.2.2.2.2
theorem FX.hK (F : FX p m c cc nL s D ca g own) : va_K D vwCl (tyL ca) s := F.2.2.2.2.1
theorem GW.put (hi : gInj g) (hG : GW D ca g s M H locs) {H1 : Heap} {locs1 : List Loc} (hk : k < 44) {el : va_E} (hP : va_P D vwCl ((gws ca g M).set k (g k, el)) H1) (he : gdesc ca g (M1 k) k = el) (ho : ∀ a, a ≠ k → M1 a = M a) (hS : va_S (gA g s.heap.size) s.heap H1 locs1) : GW D ca g s M1 H1 locs1 := ⟨by rw [gws_set hk he ho] at hP; exact hP, hS⟩
/-- a field is read -/
theorem r_get (F : FX p m c cc nL s D ca g own) (hG : GW D ca g s M H locs) {C : String} {T : u_T} {N ci index : Nat} {fs : List Value} (hk : k < 44) (hd : gdesc ca g (M k) k = .inr (ci, fs)) (hc : vwCl[ci]? = some (C, T, N)) (hu : ∀ w ∈ u_ws C T N, w.before args s = true) (j : Nat) (hj : j < N) (hlink : (Cond.fieldLink own index (T j).1 (T j).2.1 (T j).2.2.1).before args s = true) {v : Value} (hv : fs[j]? = some v) (hdg : decode cc pc = .ok (.getfield index, 3))
    (kk : W p l e R s m args below meth c H locs cells slots Q (F0 m (pc + 3) ls (v :: rest))) : W p l e R s m args below meth c H locs cells slots Q (F0 m pc ls (.ref (g k) :: rest)) :=
  va_get (D := D) (ci := ci) F.1 F.2.1 hu (fun _ h => h) F.2.2.2.1 F.hK hG.1 k (by rw [gws_at ca g M hk, hd]) hc j hj hlink (fun _ h9 => h9) hv hdg kk
theorem r_getN (F : FX p m c cc nL s D ca g own) (hG : GW D ca g s M H locs) {C host : String} {T : u_T} {N ci index : Nat} {fs : List Value} (hk : k < 44) (hd : gdesc ca g (M k) k = .inr (ci, fs)) (hc : vwCl[ci]? = some (C, T, N)) (hu : ∀ w ∈ u_ws C T N, w.before args s = true) (j : Nat) (hj : j < N) (hlink : (Cond.fieldLinkNest own index (T j).1 (T j).2.1 (T j).2.2.1 host).before args s = true) {v : Value} (hv : fs[j]? = some v) (hdg : decode cc pc = .ok (.getfield index, 3))
    (kk : W p l e R s m args below meth c H locs cells slots Q (F0 m (pc + 3) ls (v :: rest))) : W p l e R s m args below meth c H locs cells slots Q (F0 m pc ls (.ref (g k) :: rest)) :=
  va_getN (D := D) (ci := ci) F.1 F.2.1 hu (fun _ h => h) F.2.2.2.1 F.hK hG.1 k (by rw [gws_at ca g M hk, hd]) hc j hj hlink (fun _ h9 => h9) hv hdg kk
/-- a field of ints is written -/
theorem r_put (F : FX p m c cc nL s D ca g own) (hG : GW D ca g s M H locs) {C : String} {T : u_T} {N ci index : Nat} {fs fs1 : List Value} {ty0 : Nat → FieldType} {x : Int32} {j : Nat} {ty : FieldType} (hk : k < 44) (eM : M1 = mst M k j x) (hd : gdesc ca g (M k) k = .inr (ci, fs)) (hd1 : gdesc ca g (upd (M k) j x) k = .inr (ci, fs.set j (.int x))) (hc : vwCl[ci]? = some (C, T, N)) (hu : ∀ w ∈ u_ws C T N, w.before args s = true) (hty : ∀ k, k < N → parseFieldDescriptor (T k).2.2.1 = some (ty0 k)) (hnm : ∀ a, a < N → ∀ b, b < N → a ≠ b → (T a).2.1 ≠ (T b).2.1) (hj : j < N) (hlink : (Cond.fieldLink own index (T j).1 (T j).2.1 (T j).2.2.1).before args s = true) (hfin : (T j).2.2.2 = false) (hpd : parseFieldDescriptor (T j).2.2.1 = some ty) (hn : narrow ty (.int x) = .int x) (hfit : fits ty (.int x) = true) (hl : j < fs.length) (hdg : decode cc pc = .ok (.putfield index, 3))
    (kk : ∀ (H1 : Heap) (locs1 : List Loc), GW D ca g s M1 H1 locs1 → W p l e R s m args below meth c H1 locs1 cells slots Q (F0 m (pc + 3) ls rest)) : W p l e R s m args below meth c H locs cells slots Q (F0 m pc ls (.int x :: .ref (g k) :: rest)) :=
  va_put (D := D) (ci := ci) F.1 F.2.1 hu (fun _ h => h) ty0 hty hnm F.2.2.2.1 F.hK hG.1 (gD F.inj ca M _) hG.2 k (by rw [gws_at ca g M hk, hd]) hc j hj hlink (fun _ h9 => h9) hfin hpd hn hfit hl hdg (fun H1 locs1 hP _ hS => kk H1 locs1 (GW.put F.inj hG hk hP (by rw [eM, mst_row]; exact hd1) (fun a ha => by rw [eM]; exact mst_ne ha) hS))
theorem r_putN (F : FX p m c cc nL s D ca g own) (hG : GW D ca g s M H locs) {C host : String} {T : u_T} {N ci index : Nat} {fs fs1 : List Value} {ty0 : Nat → FieldType} {x : Int32} {j : Nat} {ty : FieldType} (hk : k < 44) (eM : M1 = mst M k j x) (hd : gdesc ca g (M k) k = .inr (ci, fs)) (hd1 : gdesc ca g (upd (M k) j x) k = .inr (ci, fs.set j (.int x))) (hc : vwCl[ci]? = some (C, T, N)) (hu : ∀ w ∈ u_ws C T N, w.before args s = true) (hty : ∀ k, k < N → parseFieldDescriptor (T k).2.2.1 = some (ty0 k)) (hnm : ∀ a, a < N → ∀ b, b < N → a ≠ b → (T a).2.1 ≠ (T b).2.1) (hj : j < N) (hlink : (Cond.fieldLinkNest own index (T j).1 (T j).2.1 (T j).2.2.1 host).before args s = true) (hfin : (T j).2.2.2 = false) (hpd : parseFieldDescriptor (T j).2.2.1 = some ty) (hn : narrow ty (.int x) = .int x) (hfit : fits ty (.int x) = true) (hl : j < fs.length) (hdg : decode cc pc = .ok (.putfield index, 3))
    (kk : ∀ (H1 : Heap) (locs1 : List Loc), GW D ca g s M1 H1 locs1 → W p l e R s m args below meth c H1 locs1 cells slots Q (F0 m (pc + 3) ls rest)) : W p l e R s m args below meth c H locs cells slots Q (F0 m pc ls (.int x :: .ref (g k) :: rest)) :=
  va_putN (D := D) (ci := ci) F.1 F.2.1 hu (fun _ h => h) ty0 hty hnm F.2.2.2.1 F.hK hG.1 (gD F.inj ca M _) hG.2 k (by rw [gws_at ca g M hk, hd]) hc j hj hlink (fun _ h9 => h9) hfin hpd hn hfit hl hdg (fun H1 locs1 hP _ hS => kk H1 locs1 (GW.put F.inj hG hk hP (by rw [eM, mst_row]; exact hd1) (fun a ha => by rw [eM]; exact mst_ne ha) hS))
/-- arrays of ints -/
theorem r_ald (F : FX p m c cc nL s D ca g own) (hG : GW D ca g s M H locs) (hk : kd k = 8) {i : Int32} (hi : inb i (alen k) = true) (hdg : decode cc pc = .ok (.iaload, 1))
    (kk : W p l e R s m args below meth c H locs cells slots Q (F0 m (pc + 1) ls (.int (M k i.toNatClampNeg) :: rest))) : W p l e R s m args below meth c H locs cells slots Q (F0 m pc ls (.int i :: .ref (g k) :: rest)) :=
  va_iald (D := D) F.1 F.2.1 F.hK hG.1 k 0 (by rw [gws_at ca g M (kd_lt hk (by decide)), gd8 hk]) rfl (inb_vp hi) hdg kk
theorem r_ast (F : FX p m c cc nL s D ca g own) (hG : GW D ca g s M H locs) (hk : kd k = 8) {i x : Int32} (hi : inb i (alen k) = true) (eM : M1 = mst M k i.toNatClampNeg x) (hdg : decode cc pc = .ok (.iastore, 1))
    (kk : ∀ (H1 : Heap) (locs1 : List Loc), GW D ca g s M1 H1 locs1 → W p l e R s m args below meth c H1 locs1 cells slots Q (F0 m (pc + 1) ls rest)) : W p l e R s m args below meth c H locs cells slots Q (F0 m pc ls (.int x :: .int i :: .ref (g k) :: rest)) :=
  va_iast (D := D) F.1 F.2.1 F.hK hG.1 (gD F.inj ca M _) hG.2 k 0 (by rw [gws_at ca g M (kd_lt hk (by decide)), gd8 hk]) rfl (inb_vp hi) hdg (fun H1 locs1 hP _ hS => kk H1 locs1 (GW.put F.inj hG (kd_lt hk (by decide)) hP (by rw [eM, mst_row, gd8 hk]) (fun a ha => by rw [eM]; exact mst_ne ha) hS))
theorem r_alen (F : FX p m c cc nL s D ca g own) (hG : GW D ca g s M H locs) (hk : kd k = 8) {v : Int32} (hv : Int32.ofNat (alen k) = v) (hdg : decode cc pc = .ok (.arraylength, 1))
    (kk : W p l e R s m args below meth c H locs cells slots Q (F0 m (pc + 1) ls (.int v :: rest))) : W p l e R s m args below meth c H locs cells slots Q (F0 m pc ls (.ref (g k) :: rest)) :=
  va_alen (D := D) F.1 F.2.1 F.hK hG.1 k 0 (by rw [gws_at ca g M (kd_lt hk (by decide)), gd8 hk]) rfl hv hdg kk
theorem r_aldC (F : FX p m c cc nL s D ca g own) (hG : GW D ca g s M H locs) (hk : kd k = 9) {i : Int32} (hi : inb i 6 = true) (hdg : decode cc pc = .ok (.aaload, 1))
    (kk : W p l e R s m args below meth c H locs cells slots Q (F0 m (pc + 1) ls (.ref (g (elC k i)) :: rest))) : W p l e R s m args below meth c H locs cells slots Q (F0 m pc ls (.int i :: .ref (g k) :: rest)) :=
  va_aldq (D := D) (f := fun j => some (g (k + 2 + 2 * j))) F.1 F.2.1 F.hK hG.1 k 1 (by rw [gws_at ca g M (kd_lt hk (by decide)), gd9 hk]) rfl (inb_vp hi) hdg kk
theorem r_aldP (F : FX p m c cc nL s D ca g own) (hG : GW D ca g s M H locs) (hk : kd k = 10) {i : Int32} (hi : inb i 3 = true) (hdg : decode cc pc = .ok (.aaload, 1))
    (kk : W p l e R s m args below meth c H locs cells slots Q (F0 m (pc + 1) ls (.ref (g (elP k i)) :: rest))) : W p l e R s m args below meth c H locs cells slots Q (F0 m pc ls (.int i :: .ref (g k) :: rest)) :=
  va_aldq (D := D) (f := fun j => some (g (k + 13 + j))) F.1 F.2.1 F.hK hG.1 k 2 (by rw [gws_at ca g M (kd_lt hk (by decide)), gd10 hk]) rfl (inb_vp hi) hdg kk
/-- System.arraycopy between arrays of ints -/
def cpok (sp dp n : Int32) (n0 n1 : Nat) : Bool := decide (¬ sp < 0) && decide (¬ dp < 0) && decide (¬ n < 0) && decide (sp.toNatClampNeg + n.toNatClampNeg ≤ n0) && decide (dp.toNatClampNeg + n.toNatClampNeg ≤ n1)
theorem r_copy (F : FX p m c cc nL s D ca g own) (hG : GW D ca g s M H locs) {k0 k1 index : Nat} (h0 : kd k0 = 8) (h1 : kd k1 = 8) {sp dp n : Int32} (hok : cpok sp dp n (alen k0) (alen k1) = true) (eM : M1 = mcp M k0 k1 sp.toNatClampNeg dp.toNatClampNeg n.toNatClampNeg) (hls : ls.size = nL) (hlink : (Cond.methodLink own index arraycopyName).before args s = true) (hnat : (Cond.native arraycopyName).before args s = true) (hstat : (Cond.static arraycopyName).before args s = true) (hini : (Cond.initialized "java/lang/System").before args s = true) (hframes : 1 ≤ R.frames) (hlocals : (rest.map fun v => v.category).sum + (nativeFrameWords "java/lang/System" "arraycopy" 5 + 11) ≤ R.locals) (hdg : decode cc pc = .ok (.invokestatic index, 3))
    (kk : ∀ (H1 : Heap) (locs1 : List Loc), GW D ca g s M1 H1 locs1 → W p l e R s m args below meth c H1 locs1 cells slots Q (F0 m (pc + 3) ls rest)) : W p l e R s m args below meth c H locs cells slots Q (F0 m pc ls (.int n :: .int dp :: .ref (g k1) :: .int sp :: .ref (g k0) :: rest)) := by
  simp only [cpok, Bool.and_eq_true, decide_eq_true_eq] at hok
  obtain ⟨⟨⟨⟨q1, q2⟩, q3⟩, q4⟩, q5⟩ := hok
  exact va_copyi (D := D) F.1 F.2.1 (F.2.2.1.trans hls.symm) F.2.2.2.1 hlink hnat hstat hini F.hK hG.1 (gD F.inj ca M _) hG.2 k0 k1 0 0 (by rw [gws_at ca g M (kd_lt h0 (by decide)), gd8 h0]) (by rw [gws_at ca g M (kd_lt h1 (by decide)), gd8 h1]) rfl rfl rfl q1 q2 q3 q4 q5 (fun _ _ => rfl) hframes hlocals hdg (fun H1 locs1 hP _ hS => kk H1 locs1 (GW.put F.inj hG (kd_lt h1 (by decide)) hP (by rw [eM, mcp_row, gd8 h1]) (fun a ha => by rw [eM]; exact mcp_ne ha) hS))
/-! the ends -/
theorem end_i {r : Int32} (F : FX p m c cc nL s D ca g own) (hr : meth.sig.returnType = some .int) (hlocks : meth.locks = false) (hG : GW D ca g s M H locs) (hdg : decode cc pc = .ok (.ireturn, 1)) : W p l e R s m args below meth c H locs cells slots (MQ below (cQi D ca g s.heap.size M r) args s cells slots (gA g s.heap.size)) (F0 m pc ls [.int r]) :=
  W.iret (v := r) F.1 F.2.1 hr (fun t ht hW => ⟨⟨r, M, rfl, ⟨rfl, rfl⟩, by show va_P D vwCl (gws ca g M) t.heap; rw [ht]; exact hG.1⟩, hG.2.F ht⟩) hG.2.2.2 hdg hlocks
theorem isb_nar {x : Int32} (h : isb x = true) : narrow .boolean (.int x) = .int x ∧ fits .boolean (.int x) = true := by
  simp only [isb, Bool.or_eq_true, decide_eq_true_eq] at h
  rcases h with rfl | rfl <;> exact ⟨by decide, by decide⟩
theorem end_z {r : Int32} (F : FX p m c cc nL s D ca g own) (hr : meth.sig.returnType = some .boolean) (hlocks : meth.locks = false) (hz : isb r = true) (hG : GW D ca g s M H locs) (hdg : decode cc pc = .ok (.ireturn, 1)) : W p l e R s m args below meth c H locs cells slots (MQ below (cQi D ca g s.heap.size M r) args s cells slots (gA g s.heap.size)) (F0 m pc ls [.int r]) :=
  W.zret (v := r) F.1 F.2.1 hr (isb_nar hz).1 (fun t ht hW => ⟨⟨r, M, rfl, ⟨rfl, rfl⟩, by show va_P D vwCl (gws ca g M) t.heap; rw [ht]; exact hG.1⟩, hG.2.F ht⟩) hG.2.2.2 hdg hlocks
theorem end_l {r : Int64} (F : FX p m c cc nL s D ca g own) (hr : meth.sig.returnType = some .long) (hlocks : meth.locks = false) (hG : GW D ca g s M H locs) (hdg : decode cc pc = .ok (.lreturn, 1)) : W p l e R s m args below meth c H locs cells slots (MQ below (cQl D ca g s.heap.size M r) args s cells slots (gA g s.heap.size)) (F0 m pc ls [.long r]) :=
  W.lret (v := r) F.1 F.2.1 hr (fun t ht hW => ⟨⟨r, M, rfl, ⟨rfl, rfl⟩, by show va_P D vwCl (gws ca g M) t.heap; rw [ht]; exact hG.1⟩, hG.2.F ht⟩) hG.2.2.2 hdg hlocks
theorem end_v (F : FX p m c cc nL s D ca g own) (hr : meth.sig.returnType = none) (hlocks : meth.locks = false) (hG : GW D ca g s M H locs) (hdg : decode cc pc = .ok (.return_, 1)) : W p l e R s m args below meth c H locs cells slots (MQ below (cQv D ca g s.heap.size M) args s cells slots (gA g s.heap.size)) (F0 m pc ls []) :=
  W.vret F.1 F.2.1 hr (fun t ht hW => ⟨⟨M, rfl, rfl, by show va_P D vwCl (gws ca g M) t.heap; rw [ht]; exact hG.1⟩, hG.2.F ht⟩) hG.2.2.2 hdg
end RW
/-! ===== contracts over the whole graph, and their calls ===== -/
def cM (l : Launch) (y : MethodName) (bytes : ByteArray) (maxL : Nat) (ret : Option FieldType) (rm : Room) (D : va_G) (ca : vCA) (g : Nat → Nat) (M : Mem) (av : List Value) (Qc : Nat → Array Value → State → Outcome → State → Prop) : Prop :=
  ∀ sz : Nat, Met l y [Cond.code y bytes maxL ret] rm (cPc D ca g M sz av) (Qc sz) rm.cells rm.slots (gA g sz)
theorem mk_Met {l : Launch} {y : MethodName} {bytes : ByteArray} {maxL : Nat} {ret : Option FieldType} {rm : Room} {D : va_G} {ca : vCA} {g : Nat → Nat} {M : Mem} {av : List Value} {Qc : Nat → Array Value → State → Outcome → State → Prop} (hy : plainName y.cls = true) (hn : (lg_sl av).length ≤ maxL)
    (body : ∀ (p : Program) (e : Env) (s : State) (m : MethodId) (below : List Frame) (meth : Method) (c : Code), FX p m c bytes maxL s D ca g y.cls → meth.sig.returnType = ret → meth.locks = false → meth.name = y.name → GW D ca g s M s.heap [] → ∀ ls : Array Slot, lv_has ls maxL (lv_args 0 av) → W p l e rm s m av.toArray below meth c s.heap [] 0 0 (MQ below (Qc s.heap.size) av.toArray s rm.cells rm.slots (gA g s.heap.size)) (F0 m 0 ls [])) : cM l y bytes maxL ret rm D ca g M av Qc := by
  intro sz
  refine Met.ofW (cc := bytes) (maxL := maxL) (ret := ret) hy rfl ?_
  intro p e s m args below meth c s₁ B hml hv
  obtain ⟨rfl, hsz, hP, hKW⟩ := hv
  subst hsz
  rw [lg_entry_eq]
  exact body p e s m below meth c ⟨B.exec, B.bytes, hml, findClass_of_methodNamed B.named, hKW⟩ B.returns B.notSynchronized (name_of_methodNamed B.named B.method).1 ⟨hP, va_S.rf⟩ _ (lv_entry av hn)
theorem pay1 {w : Cond} {args : Array Value} {s : State} (hw : (w.onTables && w.keeps) = true) (h : w.before args s = true) : ∀ w' ∈ [w], ∀ (a' : Array Value) (U : State), s.WarmedH U.vm → w'.before a' U = true := by
  intro w' hw' a' U hW
  rw [List.mem_singleton] at hw'
  subst hw'
  exact word_at hW (Or.inl hw) h
section RC
variable {p : Program} {l : Launch} {e : Env} {R : Room} {s : State} {m : MethodId} {args : Array Value} {below : List Frame} {meth : Method} {c : Code} {H : Heap} {locs : List Loc} {cells slots : Nat} {Q : State → Prop}
variable {cc : ByteArray} {nL pc : Nat} {ls : Array Slot} {rest st0 : List Value} {D : va_G} {ca : vCA} {g : Nat → Nat} {M M1 : Mem} {own : String} {k : Nat}
variable {y : MethodName} {bytes : ByteArray} {maxL n index : Nat} {ret : Option FieldType} {rm : Room} {Qc : Nat → Array Value → State → Outcome → State → Prop} {As : List Value}
theorem cPc_to (F : FX p m c cc nL s D ca g own) (hG : GW D ca g s M H locs) {av : List Value} : ∀ U : State, U.heap = H → s.WarmedH U.vm → cPc D ca g M H.size av av.toArray U := fun U hU hW => ⟨rfl, by rw [hU], by rw [hU]; exact hG.1, KW.to (M := M) (locs := locs) F.2.2.2.2 hW (by rw [hU]; exact hG.2)⟩
theorem r_recv (F : FX p m c cc nL s D ca g own) (hG : GW D ca g s M H locs) {ci : Nat} {q : vw_C} {fs : List Value} (hk : k < 44) (hd : gdesc ca g (M k) k = .inr (ci, fs)) (hc : vwCl[ci]? = some q) : ∃ cell : Cell, H[g k]? = some cell ∧ cell.vm.isStatics = false ∧ s.vm.findClass q.1 = some cell.cls := va_recv F.hK hG.1 hc (q0 := k) (by rw [gws_at ca g M hk, hd])
theorem r_runV (F : FX p m c cc nL s D ca g own) (hG : GW D ca g s M H locs) (hM : cM l y bytes maxL ret rm D ca g M (.ref (g k) :: As) Qc) {ci : Nat} {q : vw_C} {fs : List Value} (hk : k < 44) (hd : gdesc ca g (M k) k = .inr (ci, fs)) (hc : vwCl[ci]? = some q)
    (hlink : (Cond.methodLink own index y).before args s = true) (hinst : (Cond.instanceMethod y).before args s = true) (hsel : (Cond.selects q.1 y y).before args s = true) (hini : (Cond.initialized y.cls).before args s = true) (hcode : (Cond.code y bytes maxL ret).before args s = true)
    (hyd : y.cls ≠ "java/lang/invoke/MethodHandle" ∧ y.cls ≠ "java/lang/invoke/VarHandle" ∧ (parseMethodDescriptor y.desc).map (fun d => d.parameters.length) = some n) (hR : rm.frames + 1 ≤ R.frames ∧ 8 + (maxL + 11) + rm.locals ≤ R.locals) (hn : As.length = n) (hls : ls.size = nL) (hst : st0 = As.reverse ++ .ref (g k) :: rest) (hroom : (rest.map fun v => v.category).sum ≤ 8) (hdg : decode cc pc = .ok (.invokevirtual index, 3)) (hf : cells + rm.cells ≤ R.cells ∧ slots + rm.slots ≤ R.slots) :
    va_Run p l e R s m args below meth c H locs cells slots rm.cells rm.slots (F0 m pc ls st0) rest (Qc H.size (Value.ref (g k) :: As).toArray) (gA g H.size) :=
  va_runV (C := q.1) (Ts := []) ⟨F.1, F.2.1, F.2.2.1, F.2.2.2.1, fun w h => by cases h⟩ (hM H.size) ⟨⟨rfl, rfl, hR.1, hR.2, pay1 rfl hcode, List.mem_cons_self, hcode, hini, ⟨hyd.1, hyd.2.1⟩, fun sig h => by
    have h2 := hyd.2.2
    rw [h] at h2
    exact (Option.some.inj h2).symm, hlink⟩, hinst, hsel⟩ ⟨cPc_blind D ca g M _ _, r_recv F hG hk hd hc, cPc_to F hG⟩ rfl hn hls hst (lv_room hroom) hdg hf
theorem r_runVN (F : FX p m c cc nL s D ca g own) (hG : GW D ca g s M H locs) (hM : cM l y bytes maxL ret rm D ca g M (.ref (g k) :: As) Qc) {ci : Nat} {q : vw_C} {fs : List Value} {host : String} (hk : k < 44) (hd : gdesc ca g (M k) k = .inr (ci, fs)) (hc : vwCl[ci]? = some q)
    (hlink : (Cond.methodLinkNest own index y host).before args s = true) (hinst : (Cond.instanceMethod y).before args s = true) (hsel : (Cond.selects q.1 y y).before args s = true) (hini : (Cond.initialized y.cls).before args s = true) (hcode : (Cond.code y bytes maxL ret).before args s = true)
    (hyd : y.cls ≠ "java/lang/invoke/MethodHandle" ∧ y.cls ≠ "java/lang/invoke/VarHandle" ∧ (parseMethodDescriptor y.desc).map (fun d => d.parameters.length) = some n) (hR : rm.frames + 1 ≤ R.frames ∧ 8 + (maxL + 11) + rm.locals ≤ R.locals) (hn : As.length = n) (hls : ls.size = nL) (hst : st0 = As.reverse ++ .ref (g k) :: rest) (hroom : (rest.map fun v => v.category).sum ≤ 8) (hdg : decode cc pc = .ok (.invokevirtual index, 3)) (hf : cells + rm.cells ≤ R.cells ∧ slots + rm.slots ≤ R.slots) :
    va_Run p l e R s m args below meth c H locs cells slots rm.cells rm.slots (F0 m pc ls st0) rest (Qc H.size (Value.ref (g k) :: As).toArray) (gA g H.size) :=
  va_runVN (C := q.1) (Ts := []) (host := host) ⟨F.1, F.2.1, F.2.2.1, F.2.2.2.1, fun w h => by cases h⟩ (hM H.size) ⟨⟨⟨rfl, rfl, hR.1, hR.2, pay1 rfl hcode, List.mem_cons_self⟩, hcode, hini, ⟨hyd.1, hyd.2.1⟩, (fun sig h => by
    have h2 := hyd.2.2
    rw [h] at h2
    exact (Option.some.inj h2).symm), hlink⟩, hinst, hsel⟩ ⟨cPc_blind D ca g M _ _, r_recv F hG hk hd hc, cPc_to F hG⟩ rfl hn hls hst (lv_room hroom) hdg hf
theorem r_runS (F : FX p m c cc nL s D ca g own) (hG : GW D ca g s M H locs) (hM : cM l y bytes maxL ret rm D ca g M As Qc)
    (hlink : (Cond.methodLink own index y).before args s = true) (hstat : (Cond.static y).before args s = true) (hini : (Cond.initialized y.cls).before args s = true) (hcode : (Cond.code y bytes maxL ret).before args s = true)
    (hyd : y.cls ≠ "java/lang/invoke/MethodHandle" ∧ y.cls ≠ "java/lang/invoke/VarHandle" ∧ (parseMethodDescriptor y.desc).map (fun d => d.parameters.length) = some n) (hR : rm.frames + 1 ≤ R.frames ∧ 8 + (maxL + 11) + rm.locals ≤ R.locals) (hn : As.length = n) (hls : ls.size = nL) (hst : st0 = As.reverse ++ rest) (hroom : (rest.map fun v => v.category).sum ≤ 8) (hdg : decode cc pc = .ok (.invokestatic index, 3)) (hf : cells + rm.cells ≤ R.cells ∧ slots + rm.slots ≤ R.slots) :
    va_Run p l e R s m args below meth c H locs cells slots rm.cells rm.slots (F0 m pc ls st0) rest (Qc H.size As.toArray) (gA g H.size) :=
  va_runS (Ts := []) ⟨F.1, F.2.1, F.2.2.1, F.2.2.2.1, fun w h => by cases h⟩ (hM H.size) ⟨⟨rfl, rfl, hR.1, hR.2, pay1 rfl hcode, List.mem_cons_self, hcode, hini, ⟨hyd.1, hyd.2.1⟩, (fun sig h => by
    have h2 := hyd.2.2
    rw [h] at h2
    exact (Option.some.inj h2).symm), hlink⟩, hstat⟩ ⟨cPc_blind D ca g M _ _, cPc_to F hG⟩ rfl hn hls hst (lv_room hroom) hdg hf
theorem r_runSN (F : FX p m c cc nL s D ca g own) (hG : GW D ca g s M H locs) (hM : cM l y bytes maxL ret rm D ca g M As Qc) {host : String}
    (hlink : (Cond.methodLinkNest own index y host).before args s = true) (hstat : (Cond.static y).before args s = true) (hini : (Cond.initialized y.cls).before args s = true) (hcode : (Cond.code y bytes maxL ret).before args s = true)
    (hyd : y.cls ≠ "java/lang/invoke/MethodHandle" ∧ y.cls ≠ "java/lang/invoke/VarHandle" ∧ (parseMethodDescriptor y.desc).map (fun d => d.parameters.length) = some n) (hR : rm.frames + 1 ≤ R.frames ∧ 8 + (maxL + 11) + rm.locals ≤ R.locals) (hn : As.length = n) (hls : ls.size = nL) (hst : st0 = As.reverse ++ rest) (hroom : (rest.map fun v => v.category).sum ≤ 8) (hdg : decode cc pc = .ok (.invokestatic index, 3)) (hf : cells + rm.cells ≤ R.cells ∧ slots + rm.slots ≤ R.slots) :
    va_Run p l e R s m args below meth c H locs cells slots rm.cells rm.slots (F0 m pc ls st0) rest (Qc H.size As.toArray) (gA g H.size) :=
  va_runSN (Ts := []) (host := host) ⟨F.1, F.2.1, F.2.2.1, F.2.2.2.1, fun w h => by cases h⟩ (hM H.size) ⟨⟨⟨rfl, rfl, hR.1, hR.2, pay1 rfl hcode, List.mem_cons_self⟩, hcode, hini, ⟨hyd.1, hyd.2.1⟩, (fun sig h => by
    have h2 := hyd.2.2
    rw [h] at h2
    exact (Option.some.inj h2).symm), hlink⟩, hstat, trivial⟩ ⟨cPc_blind D ca g M _ _, cPc_to F hG⟩ rfl hn hls hst (lv_room hroom) hdg hf
variable {mc ms : Nat} {av : Array Value}
theorem k_i {r : Int32} (hr : va_Run p l e R s m args below meth c H locs cells slots mc ms (F0 m pc ls st0) rest (cQi D ca g H.size M1 r av) (gA g H.size)) (hG : GW D ca g s M H locs)
    (kk : ∀ (H1 : Heap) (locs1 : List Loc), GW D ca g s M1 H1 locs1 → W p l e R s m args below meth c H1 locs1 (cells + mc) (slots + ms) Q (F0 m (pc + 3) ls (.int r :: rest))) : W p l e R s m args below meth c H locs cells slots Q (F0 m pc ls st0) :=
  va_calli hr hG.2 (fun q _ h => gA_mono hG.2.1 h) (fun q h => gA_mono hG.2.1 h) (fun r' u t H1 locs1 ht hvm hp hB _ _ hS => by
    obtain ⟨rfl, rfl⟩ := hp
    exact kk H1 locs1 ⟨by rw [← ht]; exact hB, hS⟩)
theorem k_l {r : Int64} (hr : va_Run p l e R s m args below meth c H locs cells slots mc ms (F0 m pc ls st0) rest (cQl D ca g H.size M1 r av) (gA g H.size)) (hG : GW D ca g s M H locs)
    (kk : ∀ (H1 : Heap) (locs1 : List Loc), GW D ca g s M1 H1 locs1 → W p l e R s m args below meth c H1 locs1 (cells + mc) (slots + ms) Q (F0 m (pc + 3) ls (.long r :: rest))) : W p l e R s m args below meth c H locs cells slots Q (F0 m pc ls st0) :=
  va_calll hr hG.2 (fun q _ h => gA_mono hG.2.1 h) (fun q h => gA_mono hG.2.1 h) (fun r' u t H1 locs1 ht hvm hp hB _ _ hS => by
    obtain ⟨rfl, rfl⟩ := hp
    exact kk H1 locs1 ⟨by rw [← ht]; exact hB, hS⟩)
theorem k_v (hr : va_Run p l e R s m args below meth c H locs cells slots mc ms (F0 m pc ls st0) rest (cQv D ca g H.size M1 av) (gA g H.size)) (hG : GW D ca g s M H locs)
    (kk : ∀ (H1 : Heap) (locs1 : List Loc), GW D ca g s M1 H1 locs1 → W p l e R s m args below meth c H1 locs1 (cells + mc) (slots + ms) Q (F0 m (pc + 3) ls rest)) : W p l e R s m args below meth c H locs cells slots Q (F0 m pc ls st0) :=
  va_callv hr hG.2 (fun q _ h => gA_mono hG.2.1 h) (fun q h => gA_mono hG.2.1 h) (fun u t H1 locs1 ht hvm hp hB _ _ hS => by
    obtain rfl := hp
    exact kk H1 locs1 ⟨by rw [← ht]; exact hB, hS⟩)
end RC
/-! ===== what a method does, as a function: an answer, or none where it would throw or not end ===== -/
def mlet {α β : Type} (M : α) (f : α → Option β) : Option β := f M
theorem mlet_e {α β : Type} {M : α} {f : α → Option β} {z : Option β} (h : mlet M f = z) : ∃ M1, M1 = M ∧ f M1 = z := ⟨M, rfl, h⟩
def chk {β : Type} (b : Bool) (o : Option β) : Option β := if b = true then o else none
theorem chk_e {β : Type} {b : Bool} {o : Option β} {z : β} (h : chk b o = some z) : b = true ∧ o = some z := by
  unfold chk at h
  split at h
  · exact ⟨by assumption, h⟩
  · cases h
def cb2 {β γ : Type} (o : Option (Mem × γ)) (f : Mem → γ → Option β) : Option β := match o with
  | none => none
  | some (M, r) => f M r
theorem cb2_e {β γ : Type} {o : Option (Mem × γ)} {f : Mem → γ → Option β} {z : β} (h : cb2 o f = some z) : ∃ M1 r1, o = some (M1, r1) ∧ f M1 r1 = some z := by
  cases o with
  | none => cases h
  | some q => exact ⟨q.1, q.2, rfl, h⟩
def cb1 {α β : Type} (o : Option α) (f : α → Option β) : Option β := match o with
  | none => none
  | some M => f M
theorem cb1_e {α β : Type} {o : Option α} {f : α → Option β} {z : β} (h : cb1 o f = some z) : ∃ M1, o = some M1 ∧ f M1 = some z := by
  cases o with
  | none => cases h
  | some q => exact ⟨q, rfl, h⟩
theorem ite_t {α : Type} {c : Prop} [Decidable c] {a b z : α} (h : (if c then a else b) = z) (hc : c) : a = z := by rw [if_pos hc] at h; exact h
theorem ite_f {α : Type} {c : Prop} [Decidable c] {a b z : α} (h : (if c then a else b) = z) (hc : ¬ c) : b = z := by rw [if_neg hc] at h; exact h
theorem som2 {α β : Type} {a a' : α} {b b' : β} (h : some (a, b) = some (a', b')) : a = a' ∧ b = b' := by
  cases h
  exact ⟨rfl, rfl⟩
theorem som1 {α : Type} {a a' : α} (h : some a = some a') : a = a' := Option.some.inj h

/-! ===== constructors: rows over a list of cells that grows ===== -/
def KI (D : va_G) (ca : vCA) (U : State) : Prop := va_K D vwCl (tyL ca) U ∧ KD U ∧ (Cond.arrayClass .int).before #[] U = true ∧ va_AO RX0 U ∧ va_AO RX2 U
theorem KI.warm {D : va_G} {ca : vCA} {s U : State} (hW : s.WarmedH U.vm) (h : KI D ca s) : KI D ca U := ⟨va_K.moved hW.alike h.1, h.2.1.warm hW, word_at hW (Or.inr ⟨_, rfl⟩) h.2.2.1, h.2.2.2.1.moved hW.alike, h.2.2.2.2.moved hW.alike⟩
def FI (p : Program) (m : MethodId) (c : Code) (cc : ByteArray) (nL : Nat) (s : State) (D : va_G) (ca : vCA) (own : String) : Prop := p.tables.exec = Jvm.exec ∧ c.code = cc ∧ c.maxLocals = nL ∧ s.vm.findClass own = some m.cls ∧ KI D ca s
def GI (D : va_G) (A : Nat → Prop) (s : State) (X : va_W) (H : Heap) (locs : List Loc) : Prop := va_P D vwCl X H ∧ va_D A X ∧ va_S A s.heap H locs
def iPc (D : va_G) (ca : vCA) (w : va_W) (sz : Nat) (av : List Value) : Array Value → State → Prop := va_Pc av (fun U => U.heap.size = sz ∧ va_P D vwCl w U.heap ∧ KI D ca U)
theorem iPc_blind (D : va_G) (ca : vCA) (w : va_W) (sz : Nat) (av : List Value) : FrameBlind (iPc D ca w sz av) := by
  intro a U f mk q
  obtain ⟨q0, q1, qP, qK⟩ := q
  exact ⟨q0, q1, qP, va_K.moved (u := U) (U := U.calling f mk a) (Vm.Alike.refl U.vm) qK.1, KD.same (s := U) (U := U.calling f mk a) rfl qK.2.1, (KI.warm (s := U) (U := U.calling f mk a) (State.WarmedH.refl U) qK).2.2⟩
def iQ (D : va_G) (x : Nat × va_E) (post : va_W → Prop) (sz : Nat) : Array Value → State → Outcome → State → Prop := va_Qv post (fun w' t => va_P D vwCl w' t.heap ∧ va_D (va_A [x] sz) w') (va_A [x] sz)
def cI (l : Launch) (y : MethodName) (bytes : ByteArray) (maxL : Nat) (rm : Room) (D : va_G) (ca : vCA) (x : Nat × va_E) (av : List Value) (post : va_W → Prop) : Prop :=
  ∀ sz : Nat, Met l y [Cond.code y bytes maxL none] rm (iPc D ca [x] sz av) (iQ D x post sz) rm.cells rm.slots (va_A [x] sz)
theorem one_D {x : Nat × va_E} {sz : Nat} : va_D (va_A [x] sz) [x] := by
  refine ⟨fun i j p q h1 h2 _ => ?_, fun k q h => ?_⟩
  · have e1 : i < 1 := (List.getElem?_eq_some_iff.mp h1).1
    have e2 : j < 1 := (List.getElem?_eq_some_iff.mp h2).1
    omega
  · exact Or.inl ⟨k, q.2, h⟩
theorem mk_I {l : Launch} {y : MethodName} {bytes : ByteArray} {maxL : Nat} {rm : Room} {D : va_G} {ca : vCA} {x : Nat × va_E} {av : List Value} {post : va_W → Prop} (hy : plainName y.cls = true) (hn : (lg_sl av).length ≤ maxL)
    (body : ∀ (p : Program) (e : Env) (s : State) (m : MethodId) (below : List Frame) (meth : Method) (c : Code) (A : Nat → Prop), FI p m c bytes maxL s D ca y.cls → meth.sig.returnType = none → meth.locks = false → meth.name = y.name → (∀ q : Nat, s.heap.size ≤ q → A q) → A = va_A [x] s.heap.size → GI D A s [x] s.heap [] → ∀ ls : Array Slot, lv_has ls maxL (lv_args 0 av) → W p l e rm s m av.toArray below meth c s.heap [] 0 0 (MQ below (iQ D x post s.heap.size) av.toArray s rm.cells rm.slots A) (F0 m 0 ls [])) : cI l y bytes maxL rm D ca x av post := by
  intro sz
  refine Met.ofW (cc := bytes) (maxL := maxL) (ret := none) hy rfl ?_
  intro p e s m args below meth c s₁ B hml hv
  obtain ⟨rfl, hsz, hP, hK⟩ := hv
  subst hsz
  rw [lg_entry_eq]
  exact body p e s m below meth c _ ⟨B.exec, B.bytes, hml, findClass_of_methodNamed B.named, hK⟩ B.returns B.notSynchronized (name_of_methodNamed B.named B.method).1 (fun q h => Or.inr h) rfl ⟨hP, one_D, va_S.rf⟩ _ (lv_entry av hn)
section NR
variable {p : Program} {l : Launch} {e : Env} {R : Room} {s : State} {m : MethodId} {args : Array Value} {below : List Frame} {meth : Method} {c : Code} {H : Heap} {locs : List Loc} {cells slots : Nat} {Q : State → Prop}
variable {cc : ByteArray} {nL pc : Nat} {ls : Array Slot} {rest st0 : List Value} {D : va_G} {ca : vCA} {A : Nat → Prop} {X : va_W} {own : String}
theorem FI.kd (F : FI p m c cc nL s D ca own) : KD s := F.2.2.2.2.2.1
theorem FI.hK (F : FI p m c cc nL s D ca own) : va_K D vwCl (tyL ca) s := F.2.2.2.2.1
theorem n_end {x : Nat × va_E} {post : va_W → Prop} (F : FI p m c cc nL s D ca own) (hr : meth.sig.returnType = none) (hlocks : meth.locks = false) (eA : A = va_A [x] s.heap.size) (G : GI D A s X H locs) (hp : post X) (hdg : decode cc pc = .ok (.return_, 1)) : W p l e R s m args below meth c H locs cells slots (MQ below (iQ D x post s.heap.size) args s cells slots A) (F0 m pc ls []) := by
  subst eA
  exact W.vret F.1 F.2.1 hr (fun t ht hW => ⟨⟨X, rfl, hp, by rw [ht]; exact G.1, G.2.1⟩, G.2.2.F ht⟩) G.2.2.2.2 hdg hlocks
/-- Object's constructor -/
theorem n_obj (F : FI p m c cc nL s D ca own) {idx a : Nat} (h1 : (Cond.methodLink own idx objectInit).before args s = true) (h2 : (Cond.instanceMethod objectInit).before args s = true) (h3 : (Cond.code objectInit { data := #[177] } 1 none).before args s = true) (hls : ls.size = nL) (hdg : decode cc pc = .ok (.invokespecial idx, 3)) (hf : 1 ≤ R.frames) (hl : 2 * (F0 m pc ls (.ref a :: rest)).monitorRoom + (rest.map fun v => v.category).sum + 12 ≤ R.locals)
    (kk : W p l e R s m args below meth c H locs cells slots Q (F0 m (pc + 3) ls rest)) : W p l e R s m args below meth c H locs cells slots Q (F0 m pc ls (.ref a :: rest)) :=
  W.objInit F.1 F.2.1 F.2.2.2.1 h1 h2 h3 rfl (by rw [F.2.2.1]; exact hls) rfl hdg hf hl (W.eq (g2 := F0 m (pc + 3) ls rest) rfl kk)
theorem n_new (F : FI p m c cc nL s D ca own) (G : GI D A s X H locs) (hA : ∀ q : Nat, s.heap.size ≤ q → A q) {C : String} {T : u_T} {N ci index : Nat} (hu : ∀ w ∈ u_ws C T N, w.before args s = true) (ty : Nat → FieldType) (hty : ∀ k, k < N → parseFieldDescriptor (T k).2.2.1 = some (ty k)) (hcl : (Cond.classLink own index C).before args s = true) (hinst : (Cond.instantiable C N).before args s = true) (hini : (Cond.initialized C).before args s = true) (hc : vwCl[ci]? = some (C, T, N)) (fs : List Value) (hfs : ∀ j, j < N → defaultValue (ty j) = vp_V fs j) (hcells : cells + 1 ≤ R.cells) (hslots : slots + N ≤ R.slots) (hdg : decode cc pc = .ok (.new index, 3))
    (kk : ∀ (q : Nat) (H1 : Heap), GI D A s (X ++ [(q, .inr (ci, fs))]) H1 locs → W p l e R s m args below meth c H1 locs (cells + 1) (slots + N) Q (F0 m (pc + 3) ls (.ref q :: rest))) : W p l e R s m args below meth c H locs cells slots Q (F0 m pc ls rest) :=
  va_new F.1 F.2.1 hu (fun _ h => h) ty hty F.2.2.2.1 hcl hinst hini F.hK G.1 G.2.1 G.2.2 hA hc hfs hcells hslots hdg (fun q H1 hP hD hS => kk q H1 ⟨hP, hD, hS⟩)
theorem n_arr (F : FI p m c cc nL s D ca own) (G : GI D A s X H locs) (hA : ∀ q : Nat, s.heap.size ≤ q → A q) {n : Int32} {N : Nat} (hn : ¬ n < 0) (hN : n.toNatClampNeg = N) (hb4 : N * componentBytes .int ≤ 536870912) (hcells : cells + 1 ≤ R.cells) (hslots : slots + N ≤ R.slots) (hdg : decode cc pc = .ok (.newarray .int, 2))
    (kk : ∀ (q : Nat) (H1 : Heap), GI D A s (X ++ [(q, .inl (ca.1, N, .inl (fun _ => 0)))]) H1 locs → W p l e R s m args below meth c H1 locs (cells + 1) (slots + N) Q (F0 m (pc + 2) ls (.ref q :: rest))) : W p l e R s m args below meth c H locs cells slots Q (F0 m pc ls (.int n :: rest)) := by
  refine va_newa (ty := .int) (a0 := (N, .inl (fun _ => 0))) F.1 F.2.1 (atype := .int) (word_at (State.WarmedH.refl s) (Or.inr ⟨_, rfl⟩) F.2.2.2.2.2.2.1) rfl F.hK G.1 G.2.1 G.2.2 hA (fun cA => rfl) hn hN hb4 hcells hslots hdg (fun q cA H1 hK hP hD hS => ?_)
  have hca : cA = ca.1 := by
    obtain ⟨-, h1⟩ := hK.2 3 _ rfl
    obtain ⟨-, h2⟩ := F.hK.2 0 _ rfl
    exact Option.some.inj (h1.symm.trans h2)
  subst hca
  exact kk q H1 ⟨hP, hD, hS⟩
theorem n_arrQ (F : FI p m c cc nL s D ca own) (G : GI D A s X H locs) (hA : ∀ q : Nat, s.heap.size ≤ q → A q) {C : String} {c0 : ClassId} {t0 index : Nat} (ht : (tyL ca)[t0]? = some (c0, .object C)) (hover : va_AO C s) (hclink : (Cond.classLink own index C).before args s = true) {n : Int32} {N : Nat} (hn : ¬ n < 0) (hN : n.toNatClampNeg = N) (hb4 : N * 4 ≤ 536870912) (hcells : cells + 1 ≤ R.cells) (hslots : slots + N ≤ R.slots) (hdg : decode cc pc = .ok (.anewarray index, 3))
    (kk : ∀ (q : Nat) (H1 : Heap), GI D A s (X ++ [(q, .inl (c0, N, .inr (.inr (.inr (.inr (fun _ => none))))))]) H1 locs → W p l e R s m args below meth c H1 locs (cells + 1) (slots + N) Q (F0 m (pc + 3) ls (.ref q :: rest))) : W p l e R s m args below meth c H locs cells slots Q (F0 m pc ls (.int n :: rest)) := by
  refine va_newq F.1 F.2.1 F.2.2.2.1 hclink hover F.hK G.1 G.2.1 G.2.2 hA hn hN hb4 hcells hslots hdg (fun q cA H1 hK hP hD hS => ?_)
  have hca : cA = c0 := by
    obtain ⟨-, k1, b1, x1, x2, x3, h1⟩ := hK.2 3 _ rfl
    obtain ⟨-, k2, b2, y1, y2, y3, h2⟩ := F.hK.2 t0 _ ht
    exact Option.some.inj (h1.symm.trans h2)
  subst hca
  exact kk q H1 ⟨hP, hD, hS⟩
theorem n_putF (F : FI p m c cc nL s D ca own) (G : GI D A s X H locs) {C : String} {T : u_T} {N ci index : Nat} {fs : List Value} {a : Nat} (hu : ∀ w ∈ u_ws C T N, w.before args s = true) (ty0 : Nat → FieldType) (hty : ∀ k, k < N → parseFieldDescriptor (T k).2.2.1 = some (ty0 k)) (hnm : ∀ a, a < N → ∀ b, b < N → a ≠ b → (T a).2.1 ≠ (T b).2.1) (q0 : Nat) (he : X[q0]? = some (a, .inr (ci, fs))) (hc : vwCl[ci]? = some (C, T, N)) (k : Nat) (hk : k < N) (hlink : (Cond.fieldLink own index (T k).1 (T k).2.1 (T k).2.2.1).before args s = true) (hfin : (T k).2.2.2 = true) (hin2 : meth.name = "<init>") (hdecl : (T k).1 = own) {ty : FieldType} {v : Value} (hd : parseFieldDescriptor (T k).2.2.1 = some ty) (hn : narrow ty v = v) (hfit : fits ty v = true) (hl : k < fs.length) (hdg : decode cc pc = .ok (.putfield index, 3))
    (kk : ∀ (H1 : Heap) (locs1 : List Loc), GI D A s (X.set q0 (a, .inr (ci, fs.set k v))) H1 locs1 → W p l e R s m args below meth c H1 locs1 cells slots Q (F0 m (pc + 3) ls rest)) : W p l e R s m args below meth c H locs cells slots Q (F0 m pc ls (v :: .ref a :: rest)) :=
  va_putF (D := D) (ci := ci) F.1 F.2.1 hu (fun _ h => h) ty0 hty hnm F.2.2.2.1 F.hK G.1 G.2.1 G.2.2 q0 he hc k hk hlink (fun _ h9 => h9) hfin hin2 hdecl hd hn hfit hl hdg (fun H1 locs1 hP hD hS => kk H1 locs1 ⟨hP, hD, hS⟩)
theorem n_get (F : FI p m c cc nL s D ca own) (G : GI D A s X H locs) {C : String} {T : u_T} {N ci index : Nat} {fs : List Value} {a : Nat} (hu : ∀ w ∈ u_ws C T N, w.before args s = true) (q0 : Nat) (he : X[q0]? = some (a, .inr (ci, fs))) (hc : vwCl[ci]? = some (C, T, N)) (k : Nat) (hk : k < N) (hlink : (Cond.fieldLink own index (T k).1 (T k).2.1 (T k).2.2.1).before args s = true) {v : Value} (hv : fs[k]? = some v) (hdg : decode cc pc = .ok (.getfield index, 3))
    (kk : W p l e R s m args below meth c H locs cells slots Q (F0 m (pc + 3) ls (v :: rest))) : W p l e R s m args below meth c H locs cells slots Q (F0 m pc ls (.ref a :: rest)) :=
  va_get (D := D) (ci := ci) F.1 F.2.1 hu (fun _ h => h) F.2.2.2.1 F.hK G.1 q0 he hc k hk hlink (fun _ h9 => h9) hv hdg kk
theorem n_ast (F : FI p m c cc nL s D ca own) (G : GI D A s X H locs) (q0 t0 qk ci : Nat) {cA : ClassId} {r : vw_C} {n v a : Nat} {vs : List Value} {f : Nat → Option Nat} (ha : X[q0]? = some (a, .inl (cA, n, .inr (.inr (.inr (.inr f)))))) (ht : (tyL ca)[t0]? = some (cA, .object r.1)) (hv : X[qk]? = some (v, .inr (ci, vs))) (hc : vwCl[ci]? = some r) {i : Int32} (hin : vp_in i n) (hdg : decode cc pc = .ok (.aastore, 1))
    (kk : ∀ (H1 : Heap) (locs1 : List Loc), GI D A s (X.set q0 (a, .inl (cA, n, .inr (.inr (.inr (.inr (va_up f i.toNatClampNeg (some v)))))))) H1 locs1 → W p l e R s m args below meth c H1 locs1 cells slots Q (F0 m (pc + 1) ls rest)) : W p l e R s m args below meth c H locs cells slots Q (F0 m pc ls (.ref v :: .int i :: .ref a :: rest)) :=
  va_astq (D := D) F.1 F.2.1 F.hK G.1 G.2.1 G.2.2 q0 t0 qk ci ha ht hv hc hin hdg (fun H1 locs1 hP hD hS => kk H1 locs1 ⟨hP, hD, hS⟩)
theorem n_joined {q : Nat × va_E} {w' : va_W} {H1 : Heap} {locs1 : List Loc} (G : GI D A s (X ++ [q]) H locs) (hF : ∀ z, va_A [q] H.size z → A z) (hk : ∀ z : Nat, z < H.size → ¬ va_A [q] H.size z → H1[z]? = H[z]?) (hP1 : va_P D vwCl w' H1) (hD1 : va_D (va_A [q] H.size) w') (hS : va_S A s.heap H1 locs1) : GI D A s (X ++ w') H1 locs1 := by
  have hX : ∀ (k : Nat) (x : Nat × va_E), X[k]? = some x → (X ++ [q])[k]? = some x := fun k x hx => by
    rw [List.getElem?_append_left (List.getElem?_eq_some_iff.mp hx).1]; exact hx
  have hq : (X ++ [q])[X.length]? = some q := by
    rw [List.getElem?_append_right (Nat.le_refl _), Nat.sub_self]; rfl
  have hne : ∀ (k : Nat) (x : Nat × va_E), X[k]? = some x → x.1 < H.size ∧ x.1 ≠ q.1 := fun k x hx => by
    refine ⟨(G.1 k x (hX k x hx)).lt, fun z => ?_⟩
    have h1 := G.2.1.1 k X.length x q (hX k x hx) hq z
    have h2 := (List.getElem?_eq_some_iff.mp hx).1
    omega
  have hout : ∀ (k : Nat) (x : Nat × va_E), X[k]? = some x → ¬ va_A [q] H.size x.1 := fun k x hx z => by
    obtain ⟨a1, a2⟩ := hne k x hx
    rcases z with ⟨j, el, hj⟩ | z
    · have hz : j < 1 := (List.getElem?_eq_some_iff.mp hj).1
      rw [show j = 0 by omega] at hj
      have : q = (x.1, el) := Option.some.inj hj
      exact a2 (by rw [this])
    · omega
  refine ⟨va_P.app ?_ hP1, va_D.app ⟨fun i j a b h1 h2 h3 => G.2.1.1 i j a b (hX i a h1) (hX j b h2) h3, fun k a h => G.2.1.2 k a (hX k a h)⟩ ⟨hD1.1, fun k a h => hF _ (hD1.2 k a h)⟩ (fun i j a b h1 h2 z => ?_), hS⟩
  · have h0 : va_P D vwCl X H := fun k x hx => G.1 k x (hX k x hx)
    exact h0.kept (fun k x hx => hk _ (hne k x hx).1 (hout k x hx))
  · exact hout i a h1 (by rw [z]; exact hD1.2 j b h2)
theorem n_free {q : Nat × va_E} (G : GI D A s (X ++ [q]) H locs) (hA : ∀ z : Nat, s.heap.size ≤ z → A z) : ∀ z, va_A [q] H.size z → A z := by
  intro z hz
  rcases hz with ⟨j, el, hj⟩ | hz
  · have h1 : j < 1 := (List.getElem?_eq_some_iff.mp hj).1
    rw [show j = 0 by omega] at hj
    have h2 : q = (z, el) := Option.some.inj hj
    have h3 := G.2.1.2 X.length q (by rw [List.getElem?_append_right (Nat.le_refl _), Nat.sub_self]; rfl)
    rw [h2] at h3
    exact h3
  · exact hA z (Nat.le_trans G.2.2.1 hz)
theorem n_callN (F : FI p m c cc nL s D ca own) {q : Nat} {el : va_E} (G : GI D A s (X ++ [(q, el)]) H locs) (hA : ∀ z : Nat, s.heap.size ≤ z → A z) {y : MethodName} {bytes : ByteArray} {maxL n index : Nat} {rm : Room} {As : List Value} {post : va_W → Prop} {host : String} (hM : cI l y bytes maxL rm D ca (q, el) (.ref q :: As) post)
    (hlink : (Cond.methodLinkNest own index y host).before args s = true) (hinst : (Cond.instanceMethod y).before args s = true) (hini : (Cond.initialized y.cls).before args s = true) (hcode : (Cond.code y bytes maxL none).before args s = true) (hyn : y.name = "<init>")
    (hyd : y.cls ≠ "java/lang/invoke/MethodHandle" ∧ y.cls ≠ "java/lang/invoke/VarHandle" ∧ (parseMethodDescriptor y.desc).map (fun d => d.parameters.length) = some n) (hR : rm.frames + 1 ≤ R.frames ∧ 8 + (maxL + 11) + rm.locals ≤ R.locals) (hn : As.length = n) (hls : ls.size = nL) (hst : st0 = As.reverse ++ .ref q :: rest) (hroom : (rest.map fun v => v.category).sum ≤ 8) (hdg : decode cc pc = .ok (.invokespecial index, 3)) (hf : cells + rm.cells ≤ R.cells ∧ slots + rm.slots ≤ R.slots)
    (kk : ∀ (w' : va_W) (H1 : Heap) (locs1 : List Loc), post w' → GI D A s (X ++ w') H1 locs1 → W p l e R s m args below meth c H1 locs1 (cells + rm.cells) (slots + rm.slots) Q (F0 m (pc + 3) ls rest)) : W p l e R s m args below meth c H locs cells slots Q (F0 m pc ls st0) := by
  have hF := n_free G hA
  have hPc : va_P D vwCl [(q, el)] H := fun k x hx => by
    have h1 : k < 1 := (List.getElem?_eq_some_iff.mp hx).1
    rw [show k = 0 by omega] at hx
    have h2 : (q, el) = x := Option.some.inj hx
    have h3 := G.1 X.length (q, el) (by rw [List.getElem?_append_right (Nat.le_refl _), Nat.sub_self]; rfl)
    rw [← h2]
    exact h3
  refine va_callv (va_runIN (Ts := []) (host := host) (As := As) (rest := rest) ⟨F.1, F.2.1, F.2.2.1, F.2.2.2.1, fun w h => by cases h⟩ (hM H.size) ⟨⟨⟨rfl, rfl, hR.1, hR.2, pay1 rfl hcode, List.mem_cons_self⟩, hcode, hini, ⟨hyd.1, hyd.2.1⟩, (fun sig h => by
    have h2 := hyd.2.2
    rw [h] at h2
    exact (Option.some.inj h2).symm), hlink⟩, hyn, hinst⟩ ⟨iPc_blind D ca _ _ _, fun U hU hW => ⟨rfl, by rw [hU], by rw [hU]; exact hPc, KI.warm hW F.2.2.2.2⟩⟩ rfl hn hls hst (lv_room hroom) hdg hf) G.2.2 (fun z _ h => hF z h) hF (fun u t H1 locs1 ht hvm hp hB hz1 hk1 hS => ?_)
  obtain ⟨hP1, hD1⟩ := hB
  rw [ht] at hP1
  exact kk u H1 locs1 hp (n_joined G hF hk1 hP1 hD1 hS)
theorem n_callI (F : FI p m c cc nL s D ca own) {q : Nat} {el : va_E} (G : GI D A s (X ++ [(q, el)]) H locs) (hA : ∀ z : Nat, s.heap.size ≤ z → A z) {y : MethodName} {bytes : ByteArray} {maxL n index : Nat} {rm : Room} {As : List Value} {post : va_W → Prop} (hM : cI l y bytes maxL rm D ca (q, el) (.ref q :: As) post)
    (hlink : (Cond.methodLink own index y).before args s = true) (hinst : (Cond.instanceMethod y).before args s = true) (hini : (Cond.initialized y.cls).before args s = true) (hcode : (Cond.code y bytes maxL none).before args s = true) (hyn : y.name = "<init>")
    (hyd : y.cls ≠ "java/lang/invoke/MethodHandle" ∧ y.cls ≠ "java/lang/invoke/VarHandle" ∧ (parseMethodDescriptor y.desc).map (fun d => d.parameters.length) = some n) (hR : rm.frames + 1 ≤ R.frames ∧ 8 + (maxL + 11) + rm.locals ≤ R.locals) (hn : As.length = n) (hls : ls.size = nL) (hst : st0 = As.reverse ++ .ref q :: rest) (hroom : (rest.map fun v => v.category).sum ≤ 8) (hdg : decode cc pc = .ok (.invokespecial index, 3)) (hf : cells + rm.cells ≤ R.cells ∧ slots + rm.slots ≤ R.slots)
    (kk : ∀ (w' : va_W) (H1 : Heap) (locs1 : List Loc), post w' → GI D A s (X ++ w') H1 locs1 → W p l e R s m args below meth c H1 locs1 (cells + rm.cells) (slots + rm.slots) Q (F0 m (pc + 3) ls rest)) : W p l e R s m args below meth c H locs cells slots Q (F0 m pc ls st0) := by
  have hF := n_free G hA
  have hPc : va_P D vwCl [(q, el)] H := fun k x hx => by
    have h1 : k < 1 := (List.getElem?_eq_some_iff.mp hx).1
    rw [show k = 0 by omega] at hx
    have h2 : (q, el) = x := Option.some.inj hx
    have h3 := G.1 X.length (q, el) (by rw [List.getElem?_append_right (Nat.le_refl _), Nat.sub_self]; rfl)
    rw [← h2]
    exact h3
  refine va_callv (va_runI (Ts := []) (As := As) (rest := rest) ⟨F.1, F.2.1, F.2.2.1, F.2.2.2.1, fun w h => by cases h⟩ (hM H.size) ⟨⟨rfl, rfl, hR.1, hR.2, pay1 rfl hcode, List.mem_cons_self, hcode, hini, ⟨hyd.1, hyd.2.1⟩, (fun sig h => by
    have h2 := hyd.2.2
    rw [h] at h2
    exact (Option.some.inj h2).symm), hlink⟩, hyn, hinst⟩ ⟨iPc_blind D ca _ _ _, fun U hU hW => ⟨rfl, by rw [hU], by rw [hU]; exact hPc, KI.warm hW F.2.2.2.2⟩⟩ rfl hn hls hst (lv_room hroom) hdg hf) G.2.2 (fun z _ h => hF z h) hF (fun u t H1 locs1 ht hvm hp hB hz1 hk1 hS => ?_)
  obtain ⟨hP1, hD1⟩ := hB
  rw [ht] at hP1
  exact kk u H1 locs1 hp (n_joined G hF hk1 hP1 hD1 hS)
end NR

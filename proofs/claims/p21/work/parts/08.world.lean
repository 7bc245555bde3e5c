/-! ===== the memory: a cell's number, a place in it: an int; the graph of the cells stands still ===== -/
abbrev Mem : Type := Nat → Nat → Int32
def mst (M : Mem) (k j : Nat) (x : Int32) : Mem := fun a b => if a = k ∧ b = j then x else M a b
def mcp (M : Mem) (k0 k1 sp dp n : Nat) : Mem := fun a b => if a = k1 then va_cpy (M k0) (M k1) sp dp n b else M a b
theorem mst_row (M : Mem) (k j : Nat) (x : Int32) : mst M k j x k = upd (M k) j x := by
  funext b
  simp [mst, upd]
theorem mst_ne {M : Mem} {k j a : Nat} {x : Int32} (h : a ≠ k) : mst M k j x a = M a := by
  funext b
  simp [mst, h]
theorem mcp_row (M : Mem) (k0 k1 sp dp n : Nat) : mcp M k0 k1 sp dp n k1 = va_cpy (M k0) (M k1) sp dp n := by
  funext b
  simp [mcp]
theorem mcp_ne {M : Mem} {k0 k1 sp dp n a : Nat} (h : a ≠ k1) : mcp M k0 k1 sp dp n a = M a := by
  funext b
  simp [mcp, h]
/-- the kinds of the cells: 0 Crowd, 1 Night, 2 Patrol, 3 Quarter, 4 Ways, 5 LaneCrowds, 6 State, 7 Model, 8 int[], 9 Crowd[], 10 Patrol[] -/
def kdl : List Nat := [1, 3, 8, 9, 10, 0, 8, 0, 8, 0, 8, 0, 8, 0, 8, 0, 8, 2, 2, 2, 1, 3, 8, 9, 10, 0, 8, 0, 8, 0, 8, 0, 8, 0, 8, 0, 8, 2, 2, 2, 5, 4, 8, 8]
def alenl : List Nat := [0, 0, 108, 6, 3, 0, 24, 0, 24, 0, 24, 0, 24, 0, 24, 0, 24, 0, 0, 0, 0, 0, 108, 6, 3, 0, 24, 0, 24, 0, 24, 0, 24, 0, 24, 0, 24, 0, 0, 0, 0, 0, 108, 216]
def kd (k : Nat) : Nat := kdl.getD k 99
def alen (k : Nat) : Nat := alenl.getD k 0
theorem kd_lt {k c : Nat} (h : kd k = c) (hc : c < 99) : k < 44 := by
  rcases Nat.lt_or_ge k 44 with q | q
  · exact q
  · have : kd k = 99 := by
      have hn : kdl[k]? = none := List.getElem?_eq_none (show kdl.length ≤ k from q)
      simp [kd, List.getD, hn]
    omega
theorem alen_lt (k : Nat) : alen k < 2 ^ 31 := by
  rcases Nat.lt_or_ge k 44 with q | q
  · exact (by decide +kernel : ∀ k < 44, alen k < 2 ^ 31) k q
  · have : alen k = 0 := by
      have hn : alenl[k]? = none := List.getElem?_eq_none (show alenl.length ≤ k from q)
      simp [alen, List.getD, hn]
    omega
def inb (i : Int32) (n : Nat) : Bool := decide (¬ i < 0) && decide (i.toNatClampNeg < n)
theorem inb_vp {i : Int32} {n : Nat} (h : inb i n = true) : vp_in i n := by
  simp only [inb, Bool.and_eq_true, decide_eq_true_eq] at h
  intro q
  rcases q with q | q
  · exact h.1 q
  · omega
theorem inb_lt {i : Int32} {n : Nat} (h : inb i n = true) : i.toNatClampNeg < n := by
  simp only [inb, Bool.and_eq_true, decide_eq_true_eq] at h
  exact h.2
theorem inb_of {i : Int32} {n : Nat} (h0 : ¬ i < 0) (h : i.toNatClampNeg < n) : inb i n = true := by
  simp only [inb, Bool.and_eq_true, decide_eq_true_eq]
  exact ⟨h0, h⟩
def isb (x : Int32) : Bool := decide (x = 0) || decide (x = 1)
def elC (a : Nat) (i : Int32) : Nat := a + 2 + 2 * i.toNatClampNeg
def elP (a : Nat) (i : Int32) : Nat := a + 13 + i.toNatClampNeg
abbrev fl0 (g : Nat → Nat) (r : Nat → Int32) (k : Nat) : List Value := [.int (r 0), .int (r 1), .int (r 2), .ref (g (k + 1)), .int (r 4), .int (r 5)]
abbrev fl1 (g : Nat → Nat) (r : Nat → Int32) (k : Nat) : List Value := [.ref (g (k + 1)), .ref (g (k + 3)), .int (r 2), .ref (g (k + 4)), .int (r 4), .int (r 5)]
abbrev fl2 (g : Nat → Nat) (r : Nat → Int32) (k : Nat) : List Value := [.int (r 0), .int (r 1), .int (r 2), .int (r 3)]
abbrev fl3 (g : Nat → Nat) (r : Nat → Int32) (k : Nat) : List Value := [.ref (g (k + 1))]
abbrev fl4 (g : Nat → Nat) (r : Nat → Int32) (k : Nat) : List Value := [.ref (g (k + 1)), .ref (g (k + 2)), .int (r 2), .int (r 3)]
abbrev fl5 (g : Nat → Nat) (r : Nat → Int32) (k : Nat) : List Value := [.ref (g 0), .ref (g 20), .ref (g 41)]
/-- the classes of the arrays: int[], Crowd[], Patrol[]; the script: where it is, its length, what it holds -/
abbrev vCA : Type := ClassId × ClassId × ClassId × Nat × Nat × (Nat → Int32)
def gdesc (ca : vCA) (g : Nat → Nat) (r : Nat → Int32) (k : Nat) : va_E := match kd k with
  | 0 => .inr (0, fl0 g r k)
  | 1 => .inr (1, fl1 g r k)
  | 2 => .inr (2, fl2 g r k)
  | 3 => .inr (3, fl3 g r k)
  | 4 => .inr (4, fl4 g r k)
  | 5 => .inr (5, fl5 g r k)
  | 8 => .inl (ca.1, alen k, .inl r)
  | 9 => .inl (ca.2.1, 6, .inr (.inr (.inr (.inr (fun j => some (g (k + 2 + 2 * j)))))))
  | 10 => .inl (ca.2.2.1, 3, .inr (.inr (.inr (.inr (fun j => some (g (k + 13 + j)))))))
  | _ => .inr (0, [])
def gws (ca : vCA) (g : Nat → Nat) (M : Mem) : va_W := (List.range 44).map (fun k => (g k, gdesc ca g (M k) k))
theorem gws_len (ca : vCA) (g : Nat → Nat) (M : Mem) : (gws ca g M).length = 44 := by simp [gws]
theorem gws_at (ca : vCA) (g : Nat → Nat) (M : Mem) {k : Nat} (hk : k < 44) : (gws ca g M)[k]? = some (g k, gdesc ca g (M k) k) := by
  simp [gws, hk]
theorem gws_of {ca : vCA} {g : Nat → Nat} {M : Mem} {k : Nat} {q : Nat × va_E} (h : (gws ca g M)[k]? = some q) : k < 44 ∧ q = (g k, gdesc ca g (M k) k) := by
  have hl : k < (gws ca g M).length := (List.getElem?_eq_some_iff.mp h).1
  rw [gws_len] at hl
  rw [gws_at ca g M hl] at h
  exact ⟨hl, (Option.some.inj h).symm⟩
theorem gws_set {ca : vCA} {g : Nat → Nat} {M M1 : Mem} {k : Nat} {e : va_E} (hk : k < 44) (he : gdesc ca g (M1 k) k = e) (ho : ∀ a, a ≠ k → M1 a = M a) : (gws ca g M).set k (g k, e) = gws ca g M1 := by
  apply List.ext_getElem?
  intro j
  by_cases hj : j < 44
  · rw [gws_at ca g M1 hj]
    by_cases h : j = k
    · subst h
      rw [List.getElem?_set_self (by rw [gws_len]; exact hj), he]
    · rw [List.getElem?_set_ne (Ne.symm h), gws_at ca g M hj, ho j h]
  · rw [List.getElem?_eq_none (by rw [List.length_set, gws_len]; omega), List.getElem?_eq_none (by rw [gws_len]; omega)]
theorem gd0 {ca : vCA} {g : Nat → Nat} {r : Nat → Int32} {k : Nat} (h : kd k = 0) : gdesc ca g r k = .inr (0, fl0 g r k) := by simp only [gdesc, h]
theorem gd1 {ca : vCA} {g : Nat → Nat} {r : Nat → Int32} {k : Nat} (h : kd k = 1) : gdesc ca g r k = .inr (1, fl1 g r k) := by simp only [gdesc, h]
theorem gd2 {ca : vCA} {g : Nat → Nat} {r : Nat → Int32} {k : Nat} (h : kd k = 2) : gdesc ca g r k = .inr (2, fl2 g r k) := by simp only [gdesc, h]
theorem gd3 {ca : vCA} {g : Nat → Nat} {r : Nat → Int32} {k : Nat} (h : kd k = 3) : gdesc ca g r k = .inr (3, fl3 g r k) := by simp only [gdesc, h]
theorem gd4 {ca : vCA} {g : Nat → Nat} {r : Nat → Int32} {k : Nat} (h : kd k = 4) : gdesc ca g r k = .inr (4, fl4 g r k) := by simp only [gdesc, h]
theorem gd5 {ca : vCA} {g : Nat → Nat} {r : Nat → Int32} {k : Nat} (h : kd k = 5) : gdesc ca g r k = .inr (5, fl5 g r k) := by simp only [gdesc, h]
theorem gd8 {ca : vCA} {g : Nat → Nat} {r : Nat → Int32} {k : Nat} (h : kd k = 8) : gdesc ca g r k = .inl (ca.1, alen k, .inl r) := by simp only [gdesc, h]
theorem gd9 {ca : vCA} {g : Nat → Nat} {r : Nat → Int32} {k : Nat} (h : kd k = 9) : gdesc ca g r k = .inl (ca.2.1, 6, .inr (.inr (.inr (.inr (fun j => some (g (k + 2 + 2 * j))))))) := by simp only [gdesc, h]
theorem gd10 {ca : vCA} {g : Nat → Nat} {r : Nat → Int32} {k : Nat} (h : kd k = 10) : gdesc ca g r k = .inl (ca.2.2.1, 3, .inr (.inr (.inr (.inr (fun j => some (g (k + 13 + j))))))) := by simp only [gdesc, h]
/-! the topology -/
theorem kt_orders {k : Nat} (h : kd k = 0) : kd (k + 1) = 8 := (by decide +kernel : ∀ k < 44, kd k = 0 → kd (k + 1) = 8) k (kd_lt h (by decide)) h
theorem ka_orders {k : Nat} (h : kd k = 0) : alen (k + 1) = 24 := (by decide +kernel : ∀ k < 44, kd k = 0 → alen (k + 1) = 24) k (kd_lt h (by decide)) h
theorem kt_quarter {k : Nat} (h : kd k = 1) : kd (k + 1) = 3 := (by decide +kernel : ∀ k < 44, kd k = 1 → kd (k + 1) = 3) k (kd_lt h (by decide)) h
theorem kt_crowds {k : Nat} (h : kd k = 1) : kd (k + 3) = 9 := (by decide +kernel : ∀ k < 44, kd k = 1 → kd (k + 3) = 9) k (kd_lt h (by decide)) h
theorem kt_patrols {k : Nat} (h : kd k = 1) : kd (k + 4) = 10 := (by decide +kernel : ∀ k < 44, kd k = 1 → kd (k + 4) = 10) k (kd_lt h (by decide)) h
theorem kt_qcells {k : Nat} (h : kd k = 3) : kd (k + 1) = 8 := (by decide +kernel : ∀ k < 44, kd k = 3 → kd (k + 1) = 8) k (kd_lt h (by decide)) h
theorem kt_far {k : Nat} (h : kd k = 4) : kd (k + 1) = 8 := (by decide +kernel : ∀ k < 44, kd k = 4 → kd (k + 1) = 8) k (kd_lt h (by decide)) h
theorem kt_line {k : Nat} (h : kd k = 4) : kd (k + 2) = 8 := (by decide +kernel : ∀ k < 44, kd k = 4 → kd (k + 2) = 8) k (kd_lt h (by decide)) h
theorem kt_elC {k : Nat} {i : Int32} (h : kd k = 9) (hi : inb i 6 = true) : kd (elC k i) = 0 := (by decide +kernel : ∀ k < 44, ∀ j < 6, kd k = 9 → kd (k + 2 + 2 * j) = 0) k (kd_lt h (by decide)) _ (inb_lt hi) h
theorem kt_elP {k : Nat} {i : Int32} (h : kd k = 10) (hi : inb i 3 = true) : kd (elP k i) = 2 := (by decide +kernel : ∀ k < 44, ∀ j < 3, kd k = 10 → kd (k + 13 + j) = 2) k (kd_lt h (by decide)) _ (inb_lt hi) h
/-! ===== the facts of the tables, and the graph on a heap ===== -/
def okW (w : Cond) : Bool := (w.onTables && w.keeps) || (match w with
  | .fieldLinkNest _ _ _ _ _ _ => true
  | .methodLinkNest _ _ _ _ => true
  | .castable _ _ => true
  | .declares _ => true
  | _ => false)
theorem castable_warm {a b : String} {s U : State} (hW : s.WarmedH U.vm) (h : va_Nw (.castable a b) s) : va_Nw (.castable a b) U := by
  have e1 := hW.alike.findClass
  have e2 := hW.alike.assignable
  unfold va_Nw Cond.before Cond.holds at h ⊢
  simp only [Cond.value] at h ⊢
  simp only [e1, e2]
  exact h
def KD (U : State) : Prop := ∀ w ∈ lw_tbl, okW w = true → va_Nw w U
theorem okW_on {w : Cond} (h : okW w = true) : w.onTables = true := by
  cases w <;> first | rfl | (simp [okW, Cond.onTables] at h ⊢; done) | (simp only [okW, Bool.or_false, Bool.and_eq_true] at h; exact h.1)
theorem KD.warm {s U : State} (hW : s.WarmedH U.vm) (h : KD s) : KD U := by
  intro w hw ho
  have hs := h w hw ho
  by_cases hg : (w.onTables && w.keeps) = true
  · exact word_at hW (Or.inl hg) hs
  · cases w <;> first | exact va_Nw.warmF hW hs | exact va_Nw.warmM hW hs | exact castable_warm hW hs | exact va_Nw.warmD hW hs | (exfalso; apply hg; simp only [okW, Bool.or_false] at ho; exact ho)
theorem KD.same {s U : State} (h : s.vm = U.vm) (hK : KD s) : KD U := fun w hw ho => va_Nw.same (okW_on ho) h (hK w hw ho)
def gA (g : Nat → Nat) (sz : Nat) : Nat → Prop := fun q => (∃ k, k < 44 ∧ q = g k) ∨ sz ≤ q
def gInj (g : Nat → Nat) : Prop := ∀ i j, i < 44 → j < 44 → g i = g j → i = j
/-- the script stands fast -/
def KS (ca : vCA) (g : Nat → Nat) (U : State) : Prop := va_X ca.2.2.2.1 ca.2.2.2.2.1 ca.2.2.2.2.2 U U.heap ∧ ca.2.2.2.1 < U.heap.size ∧ ¬ gA g U.heap.size ca.2.2.2.1 ∧ ca.2.2.2.2.1 ≤ 260
/-- what the throws need of the world: the texts, two statics of Throwable, the exceptions' kinds -/
def xtx : List (Nat × String) := [(46, "barricades or somebody there"), (57, "barricades not 0 to 3"), (60, "a house or somebody there"), (62, "people not 1 to 9"), (71, "6 crowds already, or the cell is not free"), (80, "code not 0 to 11"), (95, "scattered, or 24 orders already"), (100, "scattered"), (106, "length not 1 to 12, or round not of so many digits"), (111, "3 patrols already, or the cell is not free"), (191, "no such cell"), (194, "no such crowd"), (196, "no such patrol"), (198, "no such number is told"), (200, "steps not 1 to 60")]
abbrev xI : String := "java/lang/IndexOutOfBoundsException"
abbrev xS : String := "java/lang/IllegalStateException"
abbrev xA : String := "java/lang/IllegalArgumentException"
def xnc : List (String × String) := []
def KX (g : Nat → Nat) (U : State) : Prop := vx_Zq Bundle.tN "UNASSIGNED_STACK" Bundle.steD (gA g U.heap.size) U U.heap ∧ vx_Zq Bundle.tN "SUPPRESSED_SENTINEL" Bundle.listD (gA g U.heap.size) U U.heap ∧ (∀ q ∈ xtx, ∃ sa : Nat, vk_R RX5 q.1 q.2 sa U) ∧ (∀ q ∈ xnc, va_Nc q.1 q.2 U) ∧ (Cond.arrayClass .int).before #[] U = true
abbrev tyL (ca : vCA) : List (ClassId × FieldType) := [(ca.1, .int), (ca.2.1, .object RX0), (ca.2.2.1, .object RX2)]
def KW (D : va_G) (ca : vCA) (g : Nat → Nat) (U : State) : Prop := va_K D vwCl (tyL ca) U ∧ KD U ∧ gInj g ∧ KS ca g U ∧ KX g U
theorem gA_mono {g : Nat → Nat} {a b q : Nat} (h : a ≤ b) (hq : gA g b q) : gA g a q := by
  rcases hq with hq | hq
  · exact Or.inl hq
  · exact Or.inr (by omega)
theorem gA_new {g : Nat → Nat} {sz q : Nat} (h : sz ≤ q) : gA g sz q := Or.inr h
theorem gA_at {g : Nat → Nat} {sz k : Nat} (h : k < 44) : gA g sz (g k) := Or.inl ⟨k, h, rfl⟩
theorem gD {g : Nat → Nat} (hi : gInj g) (ca : vCA) (M : Mem) (sz : Nat) : va_D (gA g sz) (gws ca g M) := by
  refine ⟨fun i j p q h1 h2 h3 => ?_, fun k q h => ?_⟩
  · obtain ⟨a1, rfl⟩ := gws_of h1
    obtain ⟨a2, rfl⟩ := gws_of h2
    exact hi i j a1 a2 h3
  · obtain ⟨a1, rfl⟩ := gws_of h
    exact gA_at a1
theorem KS.to {ca : vCA} {g : Nat → Nat} {s U : State} {locs : List Loc} (h : KS ca g s) (hvm : s.vm.Alike U.vm) (hS : va_S (gA g s.heap.size) s.heap U.heap locs) : KS ca g U :=
  ⟨va_X.moved hvm (va_X.kept h.1 (hS.2.1 _ h.2.1 h.2.2.1)), Nat.lt_of_lt_of_le h.2.1 hS.1, fun z => h.2.2.1 (gA_mono hS.1 z), h.2.2.2⟩
theorem KX.to {g : Nat → Nat} {s U : State} {locs : List Loc} (h : KX g s) (hW : s.WarmedH U.vm) (hS : va_S (gA g s.heap.size) s.heap U.heap locs) : KX g U := by
  obtain ⟨h1, h2, h3, h4, h5⟩ := h
  have hq : ∀ a : Nat, a < s.heap.size → ¬ gA g s.heap.size a → U.heap[a]? = s.heap[a]? := hS.2.1
  have hn : ∀ q, gA g U.heap.size q → gA g s.heap.size q := fun q h => gA_mono hS.1 h
  exact ⟨((h1.kept hq).narrow hn).moved hW.alike, ((h2.kept hq).narrow hn).moved hW.alike, fun q hq => by
    obtain ⟨sa, h⟩ := h3 q hq
    exact ⟨sa, h.warm hW⟩, fun q hq => (h4 q hq).moved hW.alike, word_at hW (Or.inr ⟨_, rfl⟩) h5⟩
/-- the graph on a heap, within a method that began at s -/
def GW (D : va_G) (ca : vCA) (g : Nat → Nat) (s : State) (M : Mem) (H : Heap) (locs : List Loc) : Prop := va_P D vwCl (gws ca g M) H ∧ va_S (gA g s.heap.size) s.heap H locs
theorem KW.to {D : va_G} {ca : vCA} {g : Nat → Nat} {s U : State} {M : Mem} {locs : List Loc} (h : KW D ca g s) (hW : s.WarmedH U.vm) (hS : va_S (gA g s.heap.size) s.heap U.heap locs) : KW D ca g U := ⟨va_K.moved hW.alike h.1, h.2.1.warm hW, h.2.2.1, h.2.2.2.1.to hW.alike hS, h.2.2.2.2.to hW hS⟩
/-- a contract's start -/
def cPc (D : va_G) (ca : vCA) (g : Nat → Nat) (M : Mem) (sz : Nat) (av : List Value) : Array Value → State → Prop := va_Pc av (fun U => U.heap.size = sz ∧ va_P D vwCl (gws ca g M) U.heap ∧ KW D ca g U)
theorem cPc_blind (D : va_G) (ca : vCA) (g : Nat → Nat) (M : Mem) (sz : Nat) (av : List Value) : FrameBlind (cPc D ca g M sz av) := by
  intro a U f mk q
  obtain ⟨q0, q1, qP, qK, qD, qI, qS, qX⟩ := q
  exact ⟨q0, q1, qP, va_K.moved (u := U) (U := U.calling f mk a) (Vm.Alike.refl U.vm) qK, KD.same (s := U) (U := U.calling f mk a) rfl qD, qI, KS.to (s := U) (U := U.calling f mk a) (locs := []) qS (Vm.Alike.refl U.vm) va_S.rf, KX.to (s := U) (U := U.calling f mk a) (locs := []) qX (State.WarmedH.refl U) va_S.rf⟩
def wB (D : va_G) (ca : vCA) (g : Nat → Nat) (N : Mem) (t : State) : Prop := va_P D vwCl (gws ca g N) t.heap
def cQi (D : va_G) (ca : vCA) (g : Nat → Nat) (sz : Nat) (M' : Mem) (r : Int32) : Array Value → State → Outcome → State → Prop := va_Qi (fun (r' : Int32) (N : Mem) => r' = r ∧ N = M') (wB D ca g) (gA g sz)
def cQl (D : va_G) (ca : vCA) (g : Nat → Nat) (sz : Nat) (M' : Mem) (r : Int64) : Array Value → State → Outcome → State → Prop := va_Ql (fun (r' : Int64) (N : Mem) => r' = r ∧ N = M') (wB D ca g) (gA g sz)
def cQd (D : va_G) (ca : vCA) (g : Nat → Nat) (sz : Nat) (M' : Mem) (r : UInt64) : Array Value → State → Outcome → State → Prop := va_Qd (fun (r' : UInt64) (N : Mem) => r' = r ∧ N = M') (wB D ca g) (gA g sz)
def cQv (D : va_G) (ca : vCA) (g : Nat → Nat) (sz : Nat) (M' : Mem) : Array Value → State → Outcome → State → Prop := va_Qv (fun (N : Mem) => N = M') (wB D ca g) (gA g sz)

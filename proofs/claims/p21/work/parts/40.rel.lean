/-! ===== the functions against each other: numbers, loops, the relation ===== -/
theorem chk_t {β : Type} {b : Bool} {o : Option β} (h : b = true) : chk b o = o := by
  unfold chk
  rw [if_pos h]
theorem cb1_s {α β : Type} (a : α) (f : α → Option β) : cb1 (some a) f = f a := rfl
theorem cb2_s {β γ : Type} (M : Mem) (r : γ) (f : Mem → γ → Option β) : cb2 (some (M, r)) f = f M r := rfl
theorem mlet_s {α β : Type} (a : α) (f : α → Option β) : mlet a f = f a := rfl
theorem inb_nI {i n : Nat} (h : i < n) (hn : n < 2 ^ 31) : inb (nI i) n = true := inb_of (nI_pos (by omega)) (by rw [nI_clamp (by omega)]; exact h)
def anyB (f : Nat → Bool) : Nat → Nat → Bool
  | _, 0 => false
  | i, d + 1 => f i || anyB f (i + 1) d
def sumI (f : Nat → Int32) : Nat → Nat → Int32 → Int32
  | _, 0, a => a
  | i, d + 1, a => sumI f (i + 1) d (a + f i)
theorem anyB_congr {f g : Nat → Bool} : ∀ (d i : Nat), (∀ t, i ≤ t → t < i + d → f t = g t) → anyB f i d = anyB g i d
  | 0, _, _ => rfl
  | d + 1, i, h => by
    show (f i || anyB f (i + 1) d) = (g i || anyB g (i + 1) d)
    rw [h i (Nat.le_refl _) (by omega), anyB_congr d (i + 1) (fun t h1 h2 => h t (by omega) (by omega))]
theorem sumI_congr {f g : Nat → Int32} : ∀ (d i : Nat) (a : Int32), (∀ t, i ≤ t → t < i + d → f t = g t) → sumI f i d a = sumI g i d a
  | 0, _, _, _ => rfl
  | d + 1, i, a, h => by
    show sumI f (i + 1) d (a + f i) = sumI g (i + 1) d (a + g i)
    rw [h i (Nat.le_refl _) (by omega), sumI_congr d (i + 1) _ (fun t h1 h2 => h t (by omega) (by omega))]
/-- what a cell holds: 0 a house, 1 free, 2 to 4 barricades -/
def cv (q : Nat) : Int32 := nI q - 1
theorem cv_h {q : Nat} (h : q < 5) : cv q = -1 ↔ q = 0 := (by decide +kernel : ∀ q < 5, (cv q = -1 ↔ q = 0)) q h
theorem cv_0 {q : Nat} (h : q < 5) : cv q = 0 ↔ q = 1 := (by decide +kernel : ∀ q < 5, (cv q = 0 ↔ q = 1)) q h
theorem cv_le {q : Nat} (h : q < 5) : cv q ≤ 0 ↔ q ≤ 1 := (by decide +kernel : ∀ q < 5, (cv q ≤ 0 ↔ q ≤ 1)) q h
theorem cv_3 {q : Nat} (h : q < 5) : cv q = 3 ↔ q = 4 := (by decide +kernel : ∀ q < 5, (cv q = 3 ↔ q = 4)) q h
def cwd (n i : Nat) : Nat := n + 3 + 2 + 2 * i
def ptl (n i : Nat) : Nat := n + 4 + 13 + i
theorem elC_nI (n : Nat) {i : Nat} (h : i < 2 ^ 31) : elC (n + 3) (nI i) = cwd n i := by
  unfold elC cwd
  rw [nI_clamp h]
theorem elP_nI (n : Nat) {i : Nat} (h : i < 2 ^ 31) : elP (n + 4) (nI i) = ptl n i := by
  unfold elP ptl
  rw [nI_clamp h]
/-- the state of a night as numbers: fields 0 cells, 1 place, 2 people, 3 torch, 4 orders, 5 missed, 6 the orders' codes, 7 post, 8 next, 9 step, 10 crowds, 11 patrols, 12 length, 13 round -/
def szf (f : Nat) : Nat := [108, 6, 6, 6, 6, 6, 144, 3, 3, 1, 1, 1, 3, 3].getD f 0
def LC (n f i : Nat) : Nat × Nat := match f with
  | 0 => (n + 1 + 1, i)
  | 1 => (cwd n i, 0)
  | 2 => (cwd n i, 1)
  | 3 => (cwd n i, 2)
  | 4 => (cwd n i, 4)
  | 5 => (cwd n i, 5)
  | 6 => (cwd n (i / 24) + 1, i % 24)
  | 7 => (ptl n i, 0)
  | 8 => (ptl n i, 3)
  | 9 => (n, 5)
  | 10 => (n, 2)
  | 11 => (n, 4)
  | 12 => (ptl n i, 1)
  | _ => (ptl n i, 2)
def LInj (F : Nat) (L : Nat → Nat → Nat × Nat) : Prop := ∀ f, f < F → ∀ i, i < szf f → ∀ f', f' < F → ∀ i', i' < szf f' → L f i = L f' i' → f = f' ∧ i = i'
/-- the memory M holds the state S at the night n -/
def CR (n : Nat) (M S : Mem) : Prop := ∀ f, f < 14 → ∀ i, i < szf f → M (LC n f i).1 (LC n f i).2 = S f i
/-- the memory N holds S at the reference's state k; the rounds' digits, too -/
def RD (p : Nat) (S : Mem) : Prop := ∀ i, i < p → ∃ w ln : Nat, w < 2 ^ 24 ∧ ln ≤ 12 ∧ S 13 i = nI w ∧ S 12 i = nI ln
/-- the state's numbers are as they should be -/
def WF (c p : Nat) (S : Mem) : Prop := c ≤ 6 ∧ p ≤ 3 ∧ S 10 0 = nI c ∧ S 11 0 = nI p ∧ (∀ j, j < 108 → ∃ q, q < 5 ∧ S 0 j = cv q) ∧ (∀ i, i < 6 → ∃ q, q < 108 ∧ S 1 i = nI q) ∧ (∀ i, i < 6 → ∃ q, q < 10 ∧ S 2 i = nI q) ∧ (∀ i, i < 6 → ∃ q, q < 2 ∧ S 3 i = nI q) ∧ (∀ i, i < 6 → ∃ q, q < 25 ∧ S 4 i = nI q) ∧ (∀ j, j < 144 → ∃ q, q < 12 ∧ S 6 j = nI q) ∧ (∀ i, i < 3 → ∃ q, q < 108 ∧ S 7 i = nI q) ∧ (∀ i, i < 3 → ∃ q ln, S 8 i = nI q ∧ S 12 i = nI ln ∧ q ≤ ln ∧ ln ≤ 12 ∧ (i < p → q < ln) ∧ (p ≤ i → q = 0))
theorem mst_s (M : Mem) (k j : Nat) (x : Int32) : mst M k j x k j = x := by simp [mst]
theorem mst_o {M : Mem} {k j a b : Nat} {x : Int32} (h : ¬ (a = k ∧ b = j)) : mst M k j x a b = M a b := if_neg h
theorem CR.wr {n : Nat} {M S : Mem} (hI : LInj 14 (LC n)) (R : CR n M S) {f i : Nat} (hf : f < 14) (hi : i < szf f) (x : Int32) : CR n (mst M (LC n f i).1 (LC n f i).2 x) (mst S f i x) := by
  intro f' hf' i' hi'
  by_cases h : f' = f ∧ i' = i
  · obtain ⟨rfl, rfl⟩ := h
    rw [mst_s, mst_s]
  · rw [mst_o h, mst_o (fun q => h (hI f' hf' i' hi' f hf i hi (Prod.ext q.1 q.2))), R f' hf' i' hi']
def lij (F : Nat) (L : Nat → Nat → Nat × Nat) : Bool := (List.range F).all fun f => (List.range (szf f)).all fun i => (List.range F).all fun f' => (List.range (szf f')).all fun i' => !((L f i).1 == (L f' i').1 && (L f i).2 == (L f' i').2) || (f == f' && i == i')
theorem lij_s {F : Nat} {L : Nat → Nat → Nat × Nat} (h : lij F L = true) : LInj F L := by
  intro f hf i hi f' hf' i' hi' e
  have h1 := List.all_eq_true.mp (List.all_eq_true.mp (List.all_eq_true.mp (List.all_eq_true.mp h f (List.mem_range.mpr hf)) i (List.mem_range.mpr hi)) f' (List.mem_range.mpr hf')) i' (List.mem_range.mpr hi')
  rw [e] at h1
  simp only [beq_self_eq_true, Bool.and_self, Bool.not_true, Bool.false_or, Bool.and_eq_true, beq_iff_eq] at h1
  exact h1
theorem LI_0 : LInj 14 (LC 0) := lij_s (by decide +kernel)
theorem LI_20 : LInj 14 (LC 20) := lij_s (by decide +kernel)
/-- arrays' lengths at a night, and at a state -/
def SN (n : Nat) : Prop := alen (n + 1 + 1) = 108 ∧ ∀ i, i < 6 → alen (cwd n i + 1) = 24
theorem SN_0 : SN 0 := by unfold SN; decide +kernel
theorem SN_20 : SN 20 := by unfold SN; decide +kernel
section RelS
variable {n k c p fu : Nat} {M N S : Mem}
theorem CR.ce (R : CR n M S) {j : Nat} (h : j < 108) : M (n + 1 + 1) j = S 0 j := R 0 (by decide) j h
theorem CR.pl (R : CR n M S) {i : Nat} (h : i < 6) : M (cwd n i) 0 = S 1 i := R 1 (by decide) i h
theorem CR.pe (R : CR n M S) {i : Nat} (h : i < 6) : M (cwd n i) 1 = S 2 i := R 2 (by decide) i h
theorem CR.to (R : CR n M S) {i : Nat} (h : i < 6) : M (cwd n i) 2 = S 3 i := R 3 (by decide) i h
theorem CR.oc (R : CR n M S) {i : Nat} (h : i < 6) : M (cwd n i) 4 = S 4 i := R 4 (by decide) i h
theorem CR.mi (R : CR n M S) {i : Nat} (h : i < 6) : M (cwd n i) 5 = S 5 i := R 5 (by decide) i h
theorem CR.or (R : CR n M S) {i j : Nat} (h : i < 6) (hj : j < 24) : M (cwd n i + 1) j = S 6 (24 * i + j) := by
  have h1 := R 6 (by decide) (24 * i + j) (show 24 * i + j < 144 by omega)
  have e1 : (24 * i + j) / 24 = i := by omega
  have e2 : (24 * i + j) % 24 = j := by omega
  simp only [LC, e1, e2] at h1
  exact h1
theorem CR.po (R : CR n M S) {i : Nat} (h : i < 3) : M (ptl n i) 0 = S 7 i := R 7 (by decide) i h
theorem CR.ne (R : CR n M S) {i : Nat} (h : i < 3) : M (ptl n i) 3 = S 8 i := R 8 (by decide) i h
theorem CR.st (R : CR n M S) : M n 5 = S 9 0 := R 9 (by decide) 0 (by decide)
theorem CR.nc (R : CR n M S) : M n 2 = S 10 0 := R 10 (by decide) 0 (by decide)
theorem CR.np (R : CR n M S) : M n 4 = S 11 0 := R 11 (by decide) 0 (by decide)
theorem CR.ln (R : CR n M S) {i : Nat} (h : i < 3) : M (ptl n i) 1 = S 12 i := R 12 (by decide) i h
theorem CR.rd (R : CR n M S) {i : Nat} (h : i < 3) : M (ptl n i) 2 = S 13 i := R 13 (by decide) i h
theorem WF.c6 (W : WF c p S) : c ≤ 6 := W.1
theorem WF.p3 (W : WF c p S) : p ≤ 3 := W.2.1
theorem WF.nc (W : WF c p S) : S 10 0 = nI c := W.2.2.1
theorem WF.np (W : WF c p S) : S 11 0 = nI p := W.2.2.2.1
theorem WF.ce (W : WF c p S) {j : Nat} (h : j < 108) : ∃ q, q < 5 ∧ S 0 j = cv q := W.2.2.2.2.1 j h
theorem WF.pl (W : WF c p S) {i : Nat} (h : i < 6) : ∃ q, q < 108 ∧ S 1 i = nI q := W.2.2.2.2.2.1 i h
theorem WF.pe (W : WF c p S) {i : Nat} (h : i < 6) : ∃ q, q < 10 ∧ S 2 i = nI q := W.2.2.2.2.2.2.1 i h
theorem WF.to (W : WF c p S) {i : Nat} (h : i < 6) : ∃ q, q < 2 ∧ S 3 i = nI q := W.2.2.2.2.2.2.2.1 i h
theorem WF.oc (W : WF c p S) {i : Nat} (h : i < 6) : ∃ q, q < 25 ∧ S 4 i = nI q := W.2.2.2.2.2.2.2.2.1 i h
theorem WF.or (W : WF c p S) {j : Nat} (h : j < 144) : ∃ q, q < 12 ∧ S 6 j = nI q := W.2.2.2.2.2.2.2.2.2.1 j h
theorem WF.po (W : WF c p S) {i : Nat} (h : i < 3) : ∃ q, q < 108 ∧ S 7 i = nI q := W.2.2.2.2.2.2.2.2.2.2.1 i h
theorem WF.ne (W : WF c p S) {i : Nat} (h : i < 3) : ∃ q ln, S 8 i = nI q ∧ S 12 i = nI ln ∧ q ≤ ln ∧ ln ≤ 12 ∧ (i < p → q < ln) ∧ (p ≤ i → q = 0) := W.2.2.2.2.2.2.2.2.2.2.2 i h
/-! somebody in a cell -/
def busyC (S : Mem) (x : Int32) (t : Nat) : Bool := decide (¬ S 2 t ≤ 0) && decide (S 1 t = x)
def busyP (S : Mem) (x : Int32) (t : Nat) : Bool := decide (S 7 t = x)
def ioB (b : Bool) : Unit ⊕ Unit := cond b (Sum.inr ()) (Sum.inl ())
def bI (b : Bool) : Int32 := cond b 1 0
def busy (S : Mem) (c p : Nat) (x : Int32) : Bool := anyB (busyC S x) 0 c || anyB (busyP S x) 0 p
theorem f1 {f d : Nat} (h : d < f) : ∃ g, f = g + 1 := ⟨f - 1, by omega⟩
theorem isTaken_L2 (R : CR n M S) (W : WF c p S) (x : Int32) : ∀ (d i f : Nat), i + d = c → d < f → m_X1_isTaken_L2 fu M n x f (nI i) = some (ioB (anyB (busyC S x) i d)) := by
  have h6 := W.c6
  intro d
  induction d with
  | zero =>
    intro i f hi hf
    obtain ⟨f, rfl⟩ := f1 hf
    rw [m_X1_isTaken_L2, R.nc, W.nc, if_pos (nI_le (by omega) (by omega))]
    rfl
  | succ d ih =>
    intro i f hi hf
    obtain ⟨f, rfl⟩ := f1 hf
    rw [m_X1_isTaken_L2, R.nc, W.nc, if_neg (nI_ge (by omega) (by omega)), chk_t (inb_nI (by omega) (by decide)), elC_nI n (by omega), R.pe (by omega), R.pl (by omega)]
    show _ = some (ioB (busyC S x i || anyB (busyC S x) (i + 1) d))
    unfold busyC
    by_cases hz : S 2 i ≤ 0
    · rw [if_pos hz, mlet_s, nI_1, ih (i + 1) f (by omega) (by omega), decide_eq_false (fun q => q hz), Bool.false_and, Bool.false_or]
      rfl
    · rw [if_neg hz, chk_t (inb_nI (by omega) (by decide)), decide_eq_true hz, Bool.true_and]
      by_cases hx : S 1 i = x
      · rw [if_pos hx, decide_eq_true hx, Bool.true_or]
        rfl
      · rw [if_neg hx, mlet_s, nI_1, ih (i + 1) f (by omega) (by omega), decide_eq_false hx, Bool.false_or]
        rfl
theorem isTaken_L45 (R : CR n M S) (W : WF c p S) (x : Int32) : ∀ (d i f : Nat), i + d = p → d < f → m_X1_isTaken_L45 fu M n x f (nI i) = some (ioB (anyB (busyP S x) i d)) := by
  have h6 := W.p3
  intro d
  induction d with
  | zero =>
    intro i f hi hf
    obtain ⟨f, rfl⟩ := f1 hf
    rw [m_X1_isTaken_L45, R.np, W.np, if_pos (nI_le (by omega) (by omega))]
    rfl
  | succ d ih =>
    intro i f hi hf
    obtain ⟨f, rfl⟩ := f1 hf
    rw [m_X1_isTaken_L45, R.np, W.np, if_neg (nI_ge (by omega) (by omega)), chk_t (inb_nI (by omega) (by decide)), elP_nI n (by omega), R.po (by omega)]
    show _ = some (ioB (busyP S x i || anyB (busyP S x) (i + 1) d))
    unfold busyP
    by_cases hx : S 7 i = x
    · rw [if_pos hx, decide_eq_true hx, Bool.true_or]
      rfl
    · rw [if_neg hx, mlet_s, nI_1, ih (i + 1) f (by omega) (by omega), decide_eq_false hx, Bool.false_or]
      rfl
theorem isTaken_s (R : CR n M S) (W : WF c p S) (x : Int32) (hf : 10 < fu) : m_X1_isTaken fu M n x = some (bI (busy S c p x)) := by
  have h6 := W.c6
  have h3 := W.p3
  have e1 := isTaken_L2 (fu := fu) R W x c 0 fu (by omega) (by omega)
  have e2 := isTaken_L45 (fu := fu) R W x p 0 fu (by omega) (by omega)
  rw [nI_0] at e1 e2
  rw [m_X1_isTaken, e1, e2]
  unfold busy
  cases anyB (busyC S x) 0 c
  · cases anyB (busyP S x) 0 p <;> rfl
  · rfl
end RelS

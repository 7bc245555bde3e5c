/-! ===== who sees whom ===== -/
theorem anyB_iff {f : Nat → Bool} : ∀ (d i : Nat), anyB f i d = true ↔ ∃ t, i ≤ t ∧ t < i + d ∧ f t = true
  | 0, i => by
    constructor
    · intro h; cases h
    · rintro ⟨t, h1, h2, -⟩; omega
  | d + 1, i => by
    show (f i || anyB f (i + 1) d) = true ↔ _
    rw [Bool.or_eq_true, anyB_iff d (i + 1)]
    constructor
    · rintro (h | ⟨t, h1, h2, h3⟩)
      · exact ⟨i, Nat.le_refl _, by omega, h⟩
      · exact ⟨t, by omega, by omega, h3⟩
    · rintro ⟨t, h1, h2, h3⟩
      by_cases e : t = i
      · subst e; exact Or.inl h3
      · exact Or.inr ⟨t, by omega, by omega, h3⟩
theorem anyB_rev {f g : Nat → Bool} {m : Nat} (h : ∀ i, 1 ≤ i → i < m → f i = g (m - i)) : anyB f 1 (m - 1) = anyB g 1 (m - 1) := by
  rw [Bool.eq_iff_iff, anyB_iff, anyB_iff]
  constructor
  · rintro ⟨t, h1, h2, h3⟩
    exact ⟨m - t, by omega, by omega, by rw [← h t h1 (by omega)]; exact h3⟩
  · rintro ⟨t, h1, h2, h3⟩
    refine ⟨m - t, by omega, by omega, ?_⟩
    rw [h (m - t) (by omega) (by omega), show m - (m - t) = t by omega]
    exact h3
def dX (t q : Nat) : Nat := (q % 12 - t % 12) + (t % 12 - q % 12)
def dY (t q : Nat) : Nat := (q / 12 - t / 12) + (t / 12 - q / 12)
def nz (S : Mem) (q : Nat) : Bool := decide (¬ S 0 q = 0)
def stp (t q : Nat) : Nat := if dY t q = 0 then 1 else 12
def btw (S : Mem) (t q : Nat) : Bool := anyB (fun i => nz S (min q t + i * stp t q)) 1 (dX t q + dY t q - 1)
def seeN (S : Mem) (t q j : Nat) : Bool := if S 2 j = 0 then false else if 0 < dX t q ∧ 0 < dY t q then false else if (if S 3 j = 0 then 1 else 4) < dX t q + dY t q then false else !btw S t q
def seeS (S : Mem) (i j : Nat) : Bool := seeN S (S 7 i).toNatClampNeg (S 1 j).toNatClampNeg j
theorem abs_dec : ∀ a < 12, ∀ b < 12, mabs (nI a - nI b) = nI ((a - b) + (b - a)) ∧ (nI a - nI b = 0 ↔ a = b) := by decide +kernel
theorem r12 {q : Nat} (h : q < 108) : nI q - nI q / 12 * 12 = nI (q % 12) := pk_rem (a := q) (d := 12) (by omega) (by decide) (by decide)
theorem d12 {q : Nat} (h : q < 108) : nI q / 12 = nI (q / 12) := pk_div (a := q) (d := 12) (by omega) (by decide) (by decide)
theorem min_nI {a b : Nat} (ha : a < 2 ^ 31) (hb : b < 2 ^ 31) : mmin (nI a) (nI b) = nI (min a b) := by
  unfold mmin
  by_cases h : b < a
  · rw [if_pos (nI_lt h ha), Nat.min_eq_right (by omega)]
  · rw [if_neg (nI_nlt (by omega) hb), Nat.min_eq_left (by omega)]
theorem dX12 (t q : Nat) : dX t q < 12 := by unfold dX; omega
theorem dY9 {t q : Nat} (ht : t < 108) (hq : q < 108) : dY t q < 9 := by unfold dY; omega
section See
variable {n k c p fu : Nat} {M N S : Mem}
theorem isSeen_L113 (R : CR n M S) (hN : SN n) {far first s : Nat} (hb : ∀ i, i < far → first + i * s < 108) (hfar : far < 30) : ∀ (d i f : Nat), far - i = d → i < 30 → d < f → m_X1_isSeen_L113 fu M n (nI far) (nI first) (nI s) f (nI i) = some (ioB (anyB (fun i => nz S (first + i * s)) i d)) := by
  intro d
  induction d with
  | zero =>
    intro i f hi hi3 hf
    obtain ⟨f, rfl⟩ := f1 hf
    rw [m_X1_isSeen_L113, if_pos (nI_le (by omega) (by omega))]
    rfl
  | succ d ih =>
    intro i f hi hi3 hf
    obtain ⟨f, rfl⟩ := f1 hf
    have hb1 := hb i (by omega)
    have e1 : m_X3_at fu M (n + 1) (nI (first + i * s)) = some (S 0 (first + i * s)) := at_s (o := some (first + i * s)) R hN (fun z hz => by cases hz; exact hb1)
    rw [m_X1_isSeen_L113, if_neg (nI_ge (by omega) (by omega)), pk_mul, nI_add, e1, cb1_s]
    show _ = some (ioB (nz S (first + i * s) || anyB (fun i => nz S (first + i * s)) (i + 1) d))
    unfold nz
    by_cases h : S 0 (first + i * s) = 0
    · rw [if_pos h, decide_eq_false (fun z => z h), mlet_s, nI_1, ih (i + 1) f (by omega) (by omega) (by omega), Bool.false_or]
      rfl
    · rw [if_neg h, decide_eq_true h, Bool.true_or]
      rfl
/-- what the class does behind the tests of people and torch -/
theorem seen_core {t q sg : Nat} {Y : Int32} {L1 L2 : Option (Unit ⊕ Unit)} {b : Bool} (hY : Y = nI sg) (hsg : sg < 30) (ht : t < 108) (hq : q < 108) (h1 : dY t q = 0 → L1 = some (ioB b)) (h2 : dX t q = 0 → ¬ dY t q = 0 → L2 = some (ioB b)) :
    (if nI (dX t q) ≤ 0 then (if nI (dX t q + dY t q) ≤ Y then (if nI (dY t q) = 0 then cb1 L1 (Sum.elim (fun _ => some (1 : Int32)) (fun _ => some 0)) else cb1 L2 (Sum.elim (fun _ => some (1 : Int32)) (fun _ => some 0))) else some 0) else (if 0 < nI (dY t q) then some 0 else (if nI (dX t q + dY t q) ≤ Y then (if nI (dY t q) = 0 then cb1 L1 (Sum.elim (fun _ => some (1 : Int32)) (fun _ => some 0)) else cb1 L2 (Sum.elim (fun _ => some (1 : Int32)) (fun _ => some 0))) else some 0))) = some (bI (if 0 < dX t q ∧ 0 < dY t q then false else if sg < dX t q + dY t q then false else !b)) := by
  have hx := dX12 t q
  have hy := dY9 ht hq
  have hk : cb1 (some (ioB b)) (Sum.elim (fun _ => some (1 : Int32)) (fun _ => some 0)) = some (bI (!b)) := by cases b <;> rfl
  by_cases ey : dY t q = 0
  · have e0 : nI (dY t q) = 0 := by rw [ey]; rfl
    rw [if_pos e0, h1 ey, hk, if_neg (show ¬ (0 : Int32) < nI (dY t q) from by rw [e0]; decide), if_neg (show ¬ (0 < dX t q ∧ 0 < dY t q) by omega), hY]
    by_cases hs : sg < dX t q + dY t q
    · rw [if_neg (nI_ge hs (by omega)), if_pos hs, ite_self]
      rfl
    · rw [if_pos (nI_le (by omega) (by omega)), if_neg hs, ite_self]
  · rw [if_neg (nI_ne0 (by omega) (by omega))]
    by_cases ex : dX t q = 0
    · rw [h2 ex ey, hk, if_pos (show nI (dX t q) ≤ 0 from by rw [ex]; decide), if_neg (show ¬ (0 < dX t q ∧ 0 < dY t q) by omega), hY]
      by_cases hs : sg < dX t q + dY t q
      · rw [if_neg (nI_ge hs (by omega)), if_pos hs]
        rfl
      · rw [if_pos (nI_le (by omega) (by omega)), if_neg hs]
    · rw [if_neg (nI_nle (by omega) (by omega)), if_pos (show (0 : Int32) < nI (dY t q) from nI_lt (a := 0) (by omega) (by omega)), if_pos (show 0 < dX t q ∧ 0 < dY t q by omega)]
      rfl
theorem isSeen_s (R : CR n M S) (W : WF c p S) (hN : SN n) {i j : Nat} (hi : i < 3) (hj : j < 6) (hf : 30 < fu) : m_X1_isSeen fu M n (ptl n i) (cwd n j) = some (bI (seeS S i j)) := by
  obtain ⟨q, hq, eq⟩ := W.pl hj
  obtain ⟨t, ht, et⟩ := W.po hi
  have hx := dX12 t q
  have hy := dY9 ht hq
  have a1 : mabs (nI (q % 12) - nI (t % 12)) = nI (dX t q) := (abs_dec _ (by omega) _ (by omega)).1
  have a2 : mabs (nI (q / 12) - nI (t / 12)) = nI (dY t q) := (abs_dec _ (by omega) _ (by omega)).1
  have h1 : dY t q = 0 → m_X1_isSeen_L113 fu M n (nI (dX t q + dY t q)) (nI (min q t)) 1 fu 1 = some (ioB (btw S t q)) := by
    intro e
    have := isSeen_L113 (fu := fu) R hN (far := dX t q + dY t q) (first := min q t) (s := 1) (fun z hz => by unfold dX dY at *; omega) (by omega) (dX t q + dY t q - 1) 1 fu rfl (by omega) (by omega)
    unfold btw stp
    rw [if_pos e]
    exact this
  have h2 : dX t q = 0 → ¬ dY t q = 0 → m_X1_isSeen_L113 fu M n (nI (dX t q + dY t q)) (nI (min q t)) 12 fu 1 = some (ioB (btw S t q)) := by
    intro e e2
    have := isSeen_L113 (fu := fu) R hN (far := dX t q + dY t q) (first := min q t) (s := 12) (fun z hz => by unfold dX dY at *; omega) (by omega) (dX t q + dY t q - 1) 1 fu rfl (by omega) (by omega)
    unfold btw stp
    rw [if_neg e2]
    exact this
  unfold m_X1_isSeen
  simp only [mlet_s]
  rw [scat_s R hj, R.pl hj, R.po hi, R.to hj, eq, et, r12 hq, r12 ht, d12 hq, d12 ht, a1, a2, nI_add, min_nI (by omega) (by omega), cb1_s, cb1_s]
  unfold seeS seeN
  rw [eq, et, nI_clamp (by omega), nI_clamp (by omega)]
  by_cases e2 : S 2 j = 0
  · rw [decide_eq_true e2, if_neg (show ¬ bI true = 0 by decide), if_neg (show ¬ bI true = 0 by decide), if_pos e2, ite_self]
    rfl
  rw [decide_eq_false e2, if_pos (show bI false = 0 by decide), if_pos (show bI false = 0 by decide), if_neg e2]
  by_cases e3 : S 3 j = 0
  · rw [if_pos e3, if_pos e3]
    exact seen_core (sg := 1) rfl (by decide) ht hq h1 h2
  · rw [if_neg e3, if_neg e3]
    exact seen_core (sg := 4) rfl (by decide) ht hq h1 h2
def gS (t q s z : Nat) : Nat := if t ≤ q then t + z * s else t - z * s
theorem btw_g {S : Mem} {t q : Nat} (ht : t < 108) (hq : q < 108) (ha : dX t q = 0 ∨ dY t q = 0) : anyB (fun z => nz S (gS t q (stp t q) z)) 1 (dX t q + dY t q - 1) = btw S t q := by
  unfold btw
  by_cases h : t ≤ q
  · exact anyB_congr _ _ (fun z _ _ => by unfold gS; rw [if_pos h, Nat.min_eq_right h])
  · refine anyB_rev (fun z h1 h2 => ?_)
    show nz S (gS t q (stp t q) z) = nz S (min q t + (dX t q + dY t q - z) * stp t q)
    congr 1
    unfold gS
    rw [if_neg h, Nat.min_eq_left (by omega)]
    unfold stp
    unfold dX dY at *
    by_cases hy : (q / 12 - t / 12) + (t / 12 - q / 12) = 0
    · rw [if_pos hy]; omega
    · rw [if_neg hy]; omega
theorem g_ok {t q z : Nat} {y : Int32} (ht : t < 108) (hq : q < 108) (ha : dX t q = 0 ∨ dY t q = 0) (hy : t < q → y = nI (stp t q)) (hy2 : q < t → y = - nI (stp t q)) (h1 : 1 ≤ z) (h2 : z < dX t q + dY t q) : nI t + nI z * y = nI (gS t q (stp t q) z) ∧ gS t q (stp t q) z < 108 := by
  have hs : z * stp t q < (q - t) + (t - q) := by
    unfold stp
    unfold dX dY at *
    by_cases hy : (q / 12 - t / 12) + (t / 12 - q / 12) = 0
    · rw [if_pos hy]; omega
    · rw [if_neg hy]; omega
  unfold gS
  by_cases h : t < q
  · rw [hy h, pk_mul, nI_add, if_pos (by omega)]
    exact ⟨rfl, by omega⟩
  · rw [hy2 (by omega), Int32.mul_neg, ← Int32.sub_eq_add_neg, pk_mul, pk_sub (by omega), if_neg (by omega)]
    exact ⟨rfl, by omega⟩
end See

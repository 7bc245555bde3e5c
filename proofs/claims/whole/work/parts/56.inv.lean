/-! ===== the calls: what both hold between them ===== -/
def Inv (M : Mem) : Prop := ∃ (S : Mem) (c p : Nat), CR 0 M S ∧ RR 49 M S ∧ RD p M S ∧ WF c p S
/-- a call's answers agree, and both hold the same afterwards -/
def Okc (cls : Option (Mem × Int32)) (ref : Mem → Option (Mem × Int32)) : Prop := ∃ M1 k M2 b, cls = some (M1, k) ∧ ref M1 = some (M2, b) ∧ M2 44 0 = k ∧ (k = 0 → M2 69 0 = b) ∧ Inv M2
def Okb (cls : Option (Mem × Int32)) (ref : Mem → Option (Mem × Int32)) : Prop := ∃ M1 k M2 b, cls = some (M1, k) ∧ ref M1 = some (M2, b) ∧ M2 44 0 = k ∧ (k = 0 → M2 69 0 = b) ∧ isb b = true ∧ Inv M2
section Hlp
variable {c p fu : Nat} {M M1 N S : Mem}
theorem RR.thr (R : RR 49 N S) (x : Int32) : RR 49 (mst N 44 0 x) S := by
  refine R.fm (fun a h1 h2 => mst_ne (by omega)) ?_ ?_ ?_
  · exact mst_o (by omega)
  · exact mst_o (by omega)
  · exact mst_ne (by decide)
theorem RR.cl (R : RR 49 M S) (w : ∀ a, 44 ≤ a → a ≠ 69 → M1 a = M a) : RR 49 M1 S := by
  refine R.fm (fun a h1 h2 => w a (by omega) (by omega)) ?_ ?_ ?_
  · rw [w 44 (by decide) (by decide)]
  · rw [w 44 (by decide) (by decide)]
  · rw [w 45 (by decide) (by decide)]
theorem RD.cl (D : RD p M S) (w : M1 46 = M 46) : RD p M1 S := fun i hi => by
  obtain ⟨a, b, h1, h2, h3, h4, h5⟩ := D i hi
  exact ⟨a, b, h1, h2, h3, h4, fun t ht => by rw [w]; exact h5 t ht⟩
theorem RD.thr (D : RD p N S) (x : Int32) : RD p (mst N 44 0 x) S := D.cl (mst_ne (by decide))
theorem CR.lo (R : CR 0 M S) (w : ∀ a, a < 20 → N a = M a) : CR 0 N S := R.fm (fun a _ h => w a (by omega))
theorem Inv.mk1 (R : CR 0 M S) (Q : RR 49 N S) (D : RD p N S) (W : WF c p S) (w : ∀ a, a < 20 → N a = M a) : Inv N := ⟨S, c, p, R.lo w, Q, D, W⟩
theorem Inv.thr (h : Inv M) (x : Int32) : Inv (mst M 44 0 x) := by
  obtain ⟨S, c, p, R, Q, D, W⟩ := h
  exact ⟨S, c, p, R.lo (fun a ha => mst_ne (by omega)), Q.thr x, D.thr x, W⟩
theorem Inv.out (h : Inv M) (x : Int32) : Inv (mst M 69 0 x) := by
  obtain ⟨S, c, p, R, Q, D, W⟩ := h
  exact ⟨S, c, p, R.lo (fun a ha => mst_ne (by omega)), Q.cl (fun a _ h => mst_ne h), D.cl (mst_ne (by decide)), W⟩
/-- what is refused -/
theorem Okc.no {cls : Option (Mem × Int32)} {ref : Mem → Option (Mem × Int32)} (h : Inv M) {k : Int32} (hk : k ≠ 0) (h1 : cls = some (M, k)) (h2 : ref M = some (mst (mst M 44 0 0) 44 0 k, 0)) : Okc cls ref := ⟨M, k, _, 0, h1, h2, mst_s _ _ _ _, fun z => absurd z hk, (h.thr 0).thr k⟩
theorem Okb.no {cls : Option (Mem × Int32)} {ref : Mem → Option (Mem × Int32)} (h : Inv M) {k : Int32} (hk : k ≠ 0) (h1 : cls = some (M, k)) (h2 : ref M = some (mst (mst M 44 0 0) 44 0 k, 0)) : Okb cls ref := ⟨M, k, _, 0, h1, h2, mst_s _ _ _ _, fun z => absurd z hk, rfl, (h.thr 0).thr k⟩
theorem in_c (x : Int32) {n : Nat} (hn : n < 2 ^ 30) : (∃ j, j < n ∧ x = nI j) ∨ ((x < 0 ∨ nI n ≤ x) ∧ ¬ (0 ≤ x ∧ x < nI n)) := by
  rcases pk_ix x (n := n) (by omega) with h | h | h
  · exact Or.inr ⟨Or.inl h, fun z => absurd h (Int32.not_lt.mpr z.1)⟩
  · exact Or.inr ⟨Or.inr h, fun z => absurd z.2 (Int32.not_lt.mpr h)⟩
  · exact Or.inl h
theorem isIn_1 {j a b : Nat} (h1 : a ≤ j) (h2 : j ≤ b) (hb : b < 2 ^ 30) : m_X7_isIn fu N (nI j) (nI a) (nI b) = some 1 := by
  unfold m_X7_isIn
  rw [if_neg (nI_nlt h1 (by omega)), if_neg (nI_nlt h2 (by omega))]
theorem isIn_lo {x a b : Int32} (h : x < a) : m_X7_isIn fu N x a b = some 0 := by
  unfold m_X7_isIn
  rw [if_pos h]
theorem isIn_hi {x a b : Int32} (h : b < x) : m_X7_isIn fu N x a b = some 0 := by
  unfold m_X7_isIn
  by_cases e : x < a
  · rw [if_pos e]
  · rw [if_neg e, if_pos h]
theorem pr_lt {n : Nat} (hn : n < 2 ^ 30) {x : Int32} (h : nI n ≤ x) : nI n - 1 < x := by
  have h1 : (nI n - nI 1).toInt = (n : Int) - 1 := pk_sub_toInt (a := n) (b := 1) hn (by decide)
  have h2 : (nI n).toInt = (n : Int) := nI_toInt (by omega)
  have h3 := Int32.le_iff_toInt_le.mp h
  refine Int32.lt_iff_toInt_lt.mpr ?_
  rw [show (1 : Int32) = nI 1 from rfl, h1]
  omega
theorem pr_is {j n : Nat} (h : j < n) (hn : n < 2 ^ 30) : m_X7_isIn fu N (nI j) 0 (nI n - 1) = some 1 := by
  obtain ⟨m, rfl⟩ : ∃ m, n = m + 1 := ⟨n - 1, by omega⟩
  rw [nI_pred]
  exact isIn_1 (a := 0) (Nat.zero_le j) (by omega) (by omega)
theorem pr_no {n : Nat} (hn : n < 2 ^ 30) {x : Int32} (h : x < 0 ∨ nI n ≤ x) : m_X7_isIn fu N x 0 (nI n - 1) = some 0 := by
  rcases h with h | h
  · exact isIn_lo h
  · exact isIn_hi (pr_lt hn h)
theorem cell_c (x y : Int32) : (∃ q, q < 108 ∧ (∀ M, m_X5_placeOf fu M x y = some (Sum.inr (nI q))) ∧ (∀ N, m_X7_isCell fu N x y = some 1) ∧ 12 * y + x = nI q) ∨ ((∀ M, m_X5_placeOf fu M x y = some (Sum.inl 1)) ∧ ∀ N, m_X7_isCell fu N x y = some 0) := by
  rcases pk_ix x (n := 12) (by decide) with h | h | ⟨a, ha, rfl⟩
  · refine Or.inr ⟨fun M => ?_, fun N => ?_⟩
    · rw [m_X5_placeOf, if_pos h]
    · rw [m_X7_isCell, isIn_lo h]; rfl
  · refine Or.inr ⟨fun M => ?_, fun N => ?_⟩
    · rw [m_X5_placeOf, if_pos (show (12 : Int32) ≤ x from h), ite_self]
    · rw [m_X7_isCell, isIn_hi (show (11 : Int32) < x from pr_lt (n := 12) (by decide) h)]; rfl
  · have e1 : ∀ N, m_X7_isIn fu N (nI a) 0 11 = some 1 := fun N => isIn_1 (a := 0) (b := 11) (by omega) (by omega) (by decide)
    rcases pk_ix y (n := 9) (by decide) with h | h | ⟨b, hb, rfl⟩
    · refine Or.inr ⟨fun M => ?_, fun N => ?_⟩
      · rw [m_X5_placeOf, if_neg (nI_pos (by omega)), if_neg (show ¬ (12 : Int32) ≤ nI a from nI_ge (b := 12) ha (by omega)), if_pos h]
      · rw [m_X7_isCell, e1, isIn_lo h]; rfl
    · refine Or.inr ⟨fun M => ?_, fun N => ?_⟩
      · rw [m_X5_placeOf, if_neg (nI_pos (by omega)), if_neg (show ¬ (12 : Int32) ≤ nI a from nI_ge (b := 12) ha (by omega)), if_neg (show ¬ y < 9 from Int32.not_lt.mpr h), ite_self]
      · rw [m_X7_isCell, e1, isIn_hi (show (8 : Int32) < y from pr_lt (n := 9) (by decide) h)]; rfl
    · refine Or.inl ⟨12 * b + a, by omega, fun M => ?_, fun N => ?_, ?_⟩
      · rw [m_X5_placeOf, if_neg (nI_pos (by omega)), if_neg (show ¬ (12 : Int32) ≤ nI a from nI_ge (b := 12) ha (by omega)), if_neg (nI_pos (by omega)), if_pos (show nI b < 9 from nI_lt (b := 9) hb (by omega)), show (12 : Int32) * nI b = nI (12 * b) from pk_mul 12 b, nI_add]
      · have e2 : m_X7_isIn fu N (nI b) 0 8 = some 1 := isIn_1 (a := 0) (b := 8) (Nat.zero_le b) (by omega) (by decide)
        rw [m_X7_isCell, e1, e2]; rfl
      · rw [show (12 : Int32) * nI b = nI (12 * b) from pk_mul 12 b, nI_add]
theorem crowd_c (W : WF c p S) (x : Int32) : (∃ i, i < c ∧ x = nI i ∧ (∀ M, CR 0 M S → m_X5_needCrowd fu M 40 x = some (Sum.inr ())) ∧ ∀ N, RR 49 N S → m_X7_isCrowd fu N 44 x = some 1) ∨ ((∀ M, CR 0 M S → m_X5_needCrowd fu M 40 x = some (Sum.inl 1)) ∧ ∀ N, RR 49 N S → m_X7_isCrowd fu N 44 x = some 0) := by
  have h6 := W.c6
  rcases pk_ix x (n := c) (by omega) with h | h | ⟨i, hi, rfl⟩
  · refine Or.inr ⟨fun M R => ?_, fun N R => ?_⟩
    · rw [m_X5_needCrowd, if_pos h]
    · rw [m_X7_isCrowd, isIn_lo h]; rfl
  · refine Or.inr ⟨fun M R => ?_, fun N R => ?_⟩
    · rw [m_X5_needCrowd, R.nc, W.nc, if_neg (Int32.not_lt.mpr h), ite_self]
    · rw [m_X7_isCrowd, R.nc, W.nc, pr_no (by omega) (Or.inr h)]; rfl
  · refine Or.inl ⟨i, hi, rfl, fun M R => ?_, fun N R => ?_⟩
    · rw [m_X5_needCrowd, R.nc, W.nc, if_neg (nI_pos (by omega)), if_pos (nI_lt hi (by omega))]
    · rw [m_X7_isCrowd, R.nc, W.nc, pr_is hi (by omega)]; rfl
theorem patrol_c (W : WF c p S) (x : Int32) : (∃ i, i < p ∧ x = nI i ∧ (∀ M, CR 0 M S → m_X5_needPatrol fu M 40 x = some (Sum.inr ())) ∧ ∀ N, RR 49 N S → m_X7_isPatrol fu N 44 x = some 1) ∨ ((∀ M, CR 0 M S → m_X5_needPatrol fu M 40 x = some (Sum.inl 1)) ∧ ∀ N, RR 49 N S → m_X7_isPatrol fu N 44 x = some 0) := by
  have h6 := W.p3
  rcases pk_ix x (n := p) (by omega) with h | h | ⟨i, hi, rfl⟩
  · refine Or.inr ⟨fun M R => ?_, fun N R => ?_⟩
    · rw [m_X5_needPatrol, if_pos h]
    · rw [m_X7_isPatrol, isIn_lo h]; rfl
  · refine Or.inr ⟨fun M R => ?_, fun N R => ?_⟩
    · rw [m_X5_needPatrol, R.np, W.np, if_neg (Int32.not_lt.mpr h), ite_self]
    · rw [m_X7_isPatrol, R.np, W.np, pr_no (by omega) (Or.inr h)]; rfl
  · refine Or.inl ⟨i, hi, rfl, fun M R => ?_, fun N R => ?_⟩
    · rw [m_X5_needPatrol, R.np, W.np, if_neg (nI_pos (by omega)), if_pos (nI_lt hi (by omega))]
    · rw [m_X7_isPatrol, R.np, W.np, pr_is hi (by omega)]; rfl
theorem what_c (x : Int32) {n : Nat} (hn : n < 2 ^ 30) : (∃ w, w < n ∧ x = nI w ∧ (∀ M, m_X5_needWhat fu M x (nI n) = some (Sum.inr ())) ∧ ∀ N, m_X7_isIn fu N x 0 (nI n - 1) = some 1) ∨ ((∀ M, m_X5_needWhat fu M x (nI n) = some (Sum.inl 1)) ∧ ∀ N, m_X7_isIn fu N x 0 (nI n - 1) = some 0) := by
  rcases pk_ix x (n := n) (by omega) with h | h | ⟨i, hi, rfl⟩
  · refine Or.inr ⟨fun M => ?_, fun N => pr_no hn (Or.inl h)⟩
    rw [m_X5_needWhat, if_pos h]
  · refine Or.inr ⟨fun M => ?_, fun N => pr_no hn (Or.inr h)⟩
    rw [m_X5_needWhat, if_neg (Int32.not_lt.mpr h), ite_self]
  · refine Or.inl ⟨i, hi, rfl, fun M => ?_, fun N => pr_is hi hn⟩
    rw [m_X5_needWhat, if_neg (nI_pos (by omega)), if_pos (nI_lt hi (by omega))]
/-- from 1 to m -/
theorem rng_c (x : Int32) {m : Nat} (hm : m < 2 ^ 29) : (∃ j, 1 ≤ j ∧ j ≤ m ∧ x = nI j ∧ ∀ N, m_X7_isIn fu N x 1 (nI m) = some 1) ∨ ((x < 1 ∨ (¬ x < 1 ∧ nI m < x)) ∧ ∀ N, m_X7_isIn fu N x 1 (nI m) = some 0) := by
  by_cases h1 : x < 1
  · exact Or.inr ⟨Or.inl h1, fun N => isIn_lo h1⟩
  · rcases pk_ix x (n := m + 1) (by omega) with h | h | ⟨i, hi, rfl⟩
    · exact absurd (Int32.lt_trans h (by decide)) h1
    · have h2 : nI m < x := by
        have hm1 : m + 1 < 2 ^ 30 := by omega
        have h3 := pr_lt hm1 h
        rw [nI_pred] at h3
        exact h3
      exact Or.inr ⟨Or.inr ⟨h1, h2⟩, fun N => isIn_hi h2⟩
    · have h0 : 1 ≤ i := by
        by_cases e : i = 0
        · subst e
          exact absurd (show nI 0 < 1 by decide) h1
        · omega
      exact Or.inl ⟨i, h0, by omega, rfl, fun N => isIn_1 (a := 1) (b := m) h0 (by omega) (by omega)⟩
end Hlp

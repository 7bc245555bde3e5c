/-! ===== mean and digest ===== -/
def addL (f : Nat → Int32) : Nat → Nat → Int64 → Int64
  | _, 0, a => a
  | i, d + 1, a => addL f (i + 1) d (a * 31 + (f i).toInt64)
def crdL (S : Mem) (p : Nat) : Nat → Nat → Int64 → Int64
  | _, 0, a => a
  | j, d + 1, a => crdL S p (j + 1) d (addL (fun t => S 6 (24 * j + t)) 0 (S 4 j).toNatClampNeg (addL (crdS S p j) 0 8 a))
def patL (S : Mem) (c : Nat) : Nat → Nat → Int64 → Int64
  | _, 0, a => a
  | i, d + 1, a => patL S c (i + 1) d (addL (grdS S c i) 0 4 a)
def digS (S : Mem) (c p : Nat) : Int64 := patL S c 0 p (crdL S p 0 c (addL (fun j => S 0 j) 0 108 (addL (totS S c p) 0 8 997)))
section Dig
variable {n k c p fu : Nat} {M N S : Mem}
theorem ppl_n (W : WF c p S) : ∃ q, q ≤ 54 ∧ pplS S c = nI q := by
  have h6 := W.c6
  obtain ⟨q, h1, h2⟩ := sumI_le (f := fun j => S 2 j) (b := 9) c 0 0 (fun t _ ht => by
    obtain ⟨q, hq, eq⟩ := W.pe (i := t) (by omega)
    exact ⟨q, by omega, eq⟩)
  exact ⟨q, by omega, h2⟩
theorem lft_n (W : WF c p S) : ∃ q, q ≤ 6 ∧ lftS S c = nI q := by
  have h6 := W.c6
  obtain ⟨q, h1, h2⟩ := sumI_cnt (f := fun j => decide (¬ S 2 j = 0)) c 0 0
  exact ⟨q, by omega, h2⟩
/-! the class's digest -/
theorem cellsD_L5 (R : CR n M S) (hN : SN n) : ∀ (d i f : Nat) (a : Int64), i + d = 108 → d < f → m_X3_addCellsTo_L5 fu M (n + 1) f a (nI i) = some (addL (fun j => S 0 j) i d a) := by
  intro d
  induction d with
  | zero =>
    intro i f a hi hf
    obtain ⟨f, rfl⟩ := f1 hf
    rw [m_X3_addCellsTo_L5, if_pos (show (108 : Int32) ≤ nI i from nI_le (a := 108) (by omega) (by omega))]
    rfl
  | succ d ih =>
    intro i f a hi hf
    obtain ⟨f, rfl⟩ := f1 hf
    rw [m_X3_addCellsTo_L5, if_neg (show ¬ (108 : Int32) ≤ nI i from nI_ge (b := 108) (by omega) (by omega)), hN.1, chk_t (inb_nI (by omega) (by decide)), nI_clamp (n := i) (by omega), R.ce (by omega), nI_1, mlet_s, mlet_s, ih (i + 1) f _ (by omega) (by omega)]
    rfl
theorem cellsD_s (R : CR n M S) (hN : SN n) (a : Int64) (hf : 110 < fu) : m_X3_addCellsTo fu M (n + 1) a = some (addL (fun j => S 0 j) 0 108 a) := by
  have e := cellsD_L5 (fu := fu) R hN 108 0 fu a (by omega) (by omega)
  rw [nI_0] at e
  rw [m_X3_addCellsTo, e]
  rfl
theorem ordD_L5 (R : CR n M S) (W : WF c p S) (hN : SN n) {j m : Nat} (hj : j < 6) (em : S 4 j = nI m) (hm : m < 25) : ∀ (d i f : Nat) (a : Int64), i + d = m → d < f → m_X0_addOrdersTo_L5 fu M (cwd n j) f a (nI i) = some (addL (fun t => S 6 (24 * j + t)) i d a) := by
  intro d
  induction d with
  | zero =>
    intro i f a hi hf
    obtain ⟨f, rfl⟩ := f1 hf
    rw [m_X0_addOrdersTo_L5, R.oc hj, em, if_pos (nI_le (by omega) (by omega))]
    rfl
  | succ d ih =>
    intro i f a hi hf
    obtain ⟨f, rfl⟩ := f1 hf
    rw [m_X0_addOrdersTo_L5, R.oc hj, em, if_neg (nI_ge (by omega) (by omega)), if_neg (show ¬ (24 : Int32) ≤ nI i from nI_ge (b := 24) (by omega) (by omega)), hN.2 j hj, chk_t (inb_nI (by omega) (by decide)), nI_clamp (n := i) (by omega), R.or hj (by omega), nI_1, mlet_s, mlet_s, ih (i + 1) f _ (by omega) (by omega)]
    rfl
theorem ordD_s (R : CR n M S) (W : WF c p S) (hN : SN n) {j : Nat} (hj : j < 6) (a : Int64) (hf : 110 < fu) : m_X0_addOrdersTo fu M (cwd n j) a = some (addL (fun t => S 6 (24 * j + t)) 0 (S 4 j).toNatClampNeg a) := by
  obtain ⟨m, hm, em⟩ := W.oc hj
  have e := ordD_L5 (fu := fu) R W hN hj em hm m 0 fu a (by omega) (by omega)
  rw [nI_0] at e
  rw [m_X0_addOrdersTo, e, em, nI_clamp (by omega)]
  rfl
theorem crdD_L6 (R : CR n M S) (W : WF c p S) (hN : SN n) (hf : 110 < fu) {j : Nat} (hj : j < 6) : ∀ (d i f : Nat) (a : Int64), i + d = 8 → d < f → m_X1_addCrowdTo_L6 fu M n (cwd n j) f a (nI i) = some (addL (crdS S p j) i d a) := by
  intro d
  induction d with
  | zero =>
    intro i f a hi hf
    obtain ⟨f, rfl⟩ := f1 hf
    rw [m_X1_addCrowdTo_L6, if_pos (show (8 : Int32) ≤ nI i from nI_le (a := 8) (by omega) (by omega))]
    rfl
  | succ d ih =>
    intro i f a hi hf
    obtain ⟨f, rfl⟩ := f1 hf
    rw [m_X1_addCrowdTo_L6, if_neg (show ¬ (8 : Int32) ≤ nI i from nI_ge (b := 8) (by omega) (by omega)), crowdN_s R W hN (by omega) hj (by omega), cb1_s, nI_1, mlet_s, mlet_s, ih (i + 1) f _ (by omega) (by omega)]
    rfl
theorem patD_L6 (R : CR n M S) (W : WF c p S) (D : RD p S) (hN : SN n) (hf : 110 < fu) {i : Nat} (hi : i < p) : ∀ (d w f : Nat) (a : Int64), w + d = 4 → d < f → m_X1_addPatrolTo_L6 fu M n (ptl n i) f a (nI w) = some (addL (grdS S c i) w d a) := by
  intro d
  induction d with
  | zero =>
    intro w f a hw hf
    obtain ⟨f, rfl⟩ := f1 hf
    rw [m_X1_addPatrolTo_L6, if_pos (show (4 : Int32) ≤ nI w from nI_le (a := 4) (by omega) (by omega))]
    rfl
  | succ d ih =>
    intro w f a hw hf
    obtain ⟨f, rfl⟩ := f1 hf
    rw [m_X1_addPatrolTo_L6, if_neg (show ¬ (4 : Int32) ≤ nI w from nI_ge (b := 4) (by omega) (by omega)), guardN_s R W D hN (by omega) hi (by omega), cb1_s, nI_1, mlet_s, mlet_s, ih (w + 1) f _ (by omega) (by omega)]
    rfl
theorem totD_L6 (R : CR 0 M S) (W : WF c p S) (hf : 110 < fu) (q0 : Nat) : ∀ (d i f : Nat) (a : Int64), i + d = 8 → d < f → m_X5_digest_L6 fu M q0 f a (nI i) = some (addL (totS S c p) i d a) := by
  intro d
  induction d with
  | zero =>
    intro i f a hi hf
    obtain ⟨f, rfl⟩ := f1 hf
    rw [m_X5_digest_L6, if_pos (show (8 : Int32) ≤ nI i from nI_le (a := 8) (by omega) (by omega))]
    rfl
  | succ d ih =>
    intro i f a hi hf
    obtain ⟨f, rfl⟩ := f1 hf
    rw [m_X5_digest_L6, if_neg (show ¬ (8 : Int32) ≤ nI i from nI_ge (b := 8) (by omega) (by omega)), total_s R W SN_0 (by omega) (by omega), cb1_s, nI_1, mlet_s, mlet_s, ih (i + 1) f _ (by omega) (by omega)]
    rfl
theorem dig_L48 (R : CR 0 M S) (W : WF c p S) (hf : 110 < fu) (q0 : Nat) : ∀ (d j f : Nat) (a : Int64), j + d = c → d < f → m_X5_digest_L48 fu M q0 f a (nI j) = some (crdL S p j d a) := by
  have h6 := W.c6
  intro d
  induction d with
  | zero =>
    intro j f a hj hf
    obtain ⟨f, rfl⟩ := f1 hf
    rw [m_X5_digest_L48, R.nc, W.nc, if_pos (nI_le (by omega) (by omega))]
    rfl
  | succ d ih =>
    intro j f a hj hf
    obtain ⟨f, rfl⟩ := f1 hf
    have e := crdD_L6 (fu := fu) R W SN_0 (by omega) (j := j) (by omega) 8 0 fu a (by omega) (by omega)
    rw [nI_0] at e
    have e2 : m_X1_addCrowdTo fu M 0 a (cwd 0 j) = some (addL (fun t => S 6 (24 * j + t)) 0 (S 4 j).toNatClampNeg (addL (crdS S p j) 0 8 a)) := by
      rw [m_X1_addCrowdTo, e, cb1_s, ordD_s R W SN_0 (by omega) _ (by omega), cb1_s]
    rw [m_X5_digest_L48, R.nc, W.nc, if_neg (nI_ge (by omega) (by omega)), chk_t (inb_nI (by omega) (by decide)), elC_nI 0 (by omega), e2, cb1_s, nI_1, mlet_s, ih (j + 1) f _ (by omega) (by omega)]
    rfl
theorem dig_L85 (R : CR 0 M S) (W : WF c p S) (D : RD p S) (hf : 110 < fu) (q0 : Nat) : ∀ (d i f : Nat) (a : Int64), i + d = p → d < f → m_X5_digest_L85 fu M q0 f a (nI i) = some (patL S c i d a) := by
  have h3 := W.p3
  intro d
  induction d with
  | zero =>
    intro i f a hi hf
    obtain ⟨f, rfl⟩ := f1 hf
    rw [m_X5_digest_L85, R.np, W.np, if_pos (nI_le (by omega) (by omega))]
    rfl
  | succ d ih =>
    intro i f a hi hf
    obtain ⟨f, rfl⟩ := f1 hf
    have e := patD_L6 (fu := fu) R W D SN_0 (by omega) (i := i) (by omega) 4 0 fu a (by omega) (by omega)
    rw [nI_0] at e
    have e2 : m_X1_addPatrolTo fu M 0 a (ptl 0 i) = some (addL (grdS S c i) 0 4 a) := by
      rw [m_X1_addPatrolTo, e, cb1_s]
    rw [m_X5_digest_L85, R.np, W.np, if_neg (nI_ge (by omega) (by omega)), chk_t (inb_nI (by omega) (by decide)), elP_nI 0 (by omega), e2, cb1_s, nI_1, mlet_s, ih (i + 1) f _ (by omega) (by omega)]
    rfl
theorem digest_s (R : CR 0 M S) (W : WF c p S) (D : RD p S) (hf : 110 < fu) (a0 : Nat) : m_X5_digest fu M a0 = some (digS S c p) := by
  have h3 := W.p3
  have h6 := W.c6
  have e1 := totD_L6 (fu := fu) R W (by omega) a0 8 0 fu 997 (by omega) (by omega)
  have e2 := cellsD_s (fu := fu) R SN_0 (addL (totS S c p) 0 8 997) (by omega)
  have e3 := dig_L48 (fu := fu) R W (by omega) a0 c 0 fu (addL (fun j => S 0 j) 0 108 (addL (totS S c p) 0 8 997)) (by omega) (by omega)
  have e4 := dig_L85 (fu := fu) R W D (by omega) a0 p 0 fu (crdL S p 0 c (addL (fun j => S 0 j) 0 108 (addL (totS S c p) 0 8 997))) (by omega) (by omega)
  rw [nI_0] at e1 e3 e4
  rw [m_X5_digest, e1, cb1_s, e2, cb1_s, e3, cb1_s, e4, cb1_s]
  rfl
/-! the reference's digest -/
end Dig

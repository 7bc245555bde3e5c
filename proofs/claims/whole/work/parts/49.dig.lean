/-! ===== mean and digest ===== -/
def meanS (S : Mem) (c : Nat) : UInt64 := if lftS S c = 0 then FP.dconst0 else FP.ddiv (FP.i2d (pplS S c)) (FP.i2d (lftS S c))
theorem dok_dec : ∀ a < 55, ∀ b < 7, b = 0 ∨ dok (FP.i2d (nI a)) (FP.i2d (nI b)) = true := by decide +kernel
def addL (f : Nat → Int32) : Nat → Nat → Int64 → Int64
  | _, 0, a => a
  | i, d + 1, a => addL f (i + 1) d (a * 31 + (f i).toInt64)
def crdL (S : Mem) (p : Nat) : Nat → Nat → Int64 → Int64
  | _, 0, a => a
  | j, d + 1, a => crdL S p (j + 1) d (addL (fun t => S 6 (24 * j + t)) 0 (S 4 j).toNatClampNeg (addL (crdS S p j) 0 8 a))
def patL (S : Mem) (c : Nat) : Nat → Nat → Int64 → Int64
  | _, 0, a => a
  | i, d + 1, a => patL S c (i + 1) d (addL (grdS S c i) 0 4 a)
def digS (S : Mem) (c p : Nat) : Int64 := patL S c 0 p (crdL S p 0 c (addL (fun j => S 0 j) 0 108 (addL (totS S c p) 0 8 997)))
section Dig
variable {n k c p fu : Nat} {M N S : Mem}
theorem ppl_n (W : WF c p S) : ∃ q, q ≤ 54 ∧ pplS S c = nI q := by
  have h6 := W.c6
  obtain ⟨q, h1, h2⟩ := sumI_le (f := fun j => S 2 j) (b := 9) c 0 0 (fun t _ ht => by
    obtain ⟨q, hq, eq⟩ := W.pe (i := t) (by omega)
    exact ⟨q, by omega, eq⟩)
  exact ⟨q, by omega, h2⟩
theorem lft_n (W : WF c p S) : ∃ q, q ≤ 6 ∧ lftS S c = nI q := by
  have h6 := W.c6
  obtain ⟨q, h1, h2⟩ := sumI_cnt (f := fun j => decide (¬ S 2 j = 0)) c 0 0
  exact ⟨q, by omega, h2⟩
theorem mean_ok (W : WF c p S) (h : ¬ lftS S c = 0) : dok (FP.i2d (pplS S c)) (FP.i2d (lftS S c)) = true := by
  obtain ⟨a, ha, ea⟩ := ppl_n W
  obtain ⟨b, hb, eb⟩ := lft_n W
  rw [ea, eb]
  exact (dok_dec a (by omega) b (by omega)).resolve_left (fun z => h (by rw [eb, z]; rfl))
theorem mean_s (R : CR 0 M S) (W : WF c p S) (hf : 10 < fu) (a0 : Nat) : m_X5_mean fu M a0 = some (meanS S c) := by
  unfold m_X5_mean meanS
  rw [left_s R W hf, cb1_s, ppl_s R W hf, cb1_s]
  by_cases h : lftS S c = 0
  · rw [if_pos h, if_pos h]
  · rw [if_neg h, if_neg h, chk_t (mean_ok W h)]
theorem rmean_s (R : RR 49 (mst N 44 0 0) S) (W : WF c p S) (hf : 10 < fu) : m_X7_mean fu N 44 = some (mst N 44 0 0, meanS S c) := by
  unfold m_X7_mean meanS
  rw [mlet_s, rleft_s R W hf, cb1_s, rppl_s R W SK_49 hf, cb1_s, cb1_s]
  by_cases h : lftS S c = 0
  · rw [if_pos h, if_pos h]
  · rw [if_neg h, if_neg h, chk_t (mean_ok W h)]
/-! the class's digest -/
theorem cellsD_L5 (R : CR n M S) (hN : SN n) : ∀ (d i f : Nat) (a : Int64), i + d = 108 → d < f → m_X3_addCellsTo_L5 fu M (n + 1) f a (nI i) = some (addL (fun j => S 0 j) i d a) := by
  intro d
  induction d with
  | zero =>
    intro i f a hi hf
    obtain ⟨f, rfl⟩ := f1 hf
    rw [m_X3_addCellsTo_L5, if_pos (show (108 : Int32) ≤ nI i from nI_le (a := 108) (by omega) (by omega))]
    rfl
  | succ d ih =>
    intro i f a hi hf
    obtain ⟨f, rfl⟩ := f1 hf
    rw [m_X3_addCellsTo_L5, if_neg (show ¬ (108 : Int32) ≤ nI i from nI_ge (b := 108) (by omega) (by omega)), hN.1, chk_t (inb_nI (by omega) (by decide)), nI_clamp (n := i) (by omega), R.ce (by omega), nI_1, mlet_s, mlet_s, ih (i + 1) f _ (by omega) (by omega)]
    rfl
theorem cellsD_s (R : CR n M S) (hN : SN n) (a : Int64) (hf : 110 < fu) : m_X3_addCellsTo fu M (n + 1) a = some (addL (fun j => S 0 j) 0 108 a) := by
  have e := cellsD_L5 (fu := fu) R hN 108 0 fu a (by omega) (by omega)
  rw [nI_0] at e
  rw [m_X3_addCellsTo, e]
  rfl
theorem ordD_L5 (R : CR n M S) (W : WF c p S) (hN : SN n) {j m : Nat} (hj : j < 6) (em : S 4 j = nI m) (hm : m < 25) : ∀ (d i f : Nat) (a : Int64), i + d = m → d < f → m_X0_addOrdersTo_L5 fu M (cwd n j) f a (nI i) = some (addL (fun t => S 6 (24 * j + t)) i d a) := by
  intro d
  induction d with
  | zero =>
    intro i f a hi hf
    obtain ⟨f, rfl⟩ := f1 hf
    rw [m_X0_addOrdersTo_L5, R.oc hj, em, if_pos (nI_le (by omega) (by omega))]
    rfl
  | succ d ih =>
    intro i f a hi hf
    obtain ⟨f, rfl⟩ := f1 hf
    rw [m_X0_addOrdersTo_L5, R.oc hj, em, if_neg (nI_ge (by omega) (by omega)), if_neg (show ¬ (24 : Int32) ≤ nI i from nI_ge (b := 24) (by omega) (by omega)), hN.2 j hj, chk_t (inb_nI (by omega) (by decide)), nI_clamp (n := i) (by omega), R.or hj (by omega), nI_1, mlet_s, mlet_s, ih (i + 1) f _ (by omega) (by omega)]
    rfl
theorem ordD_s (R : CR n M S) (W : WF c p S) (hN : SN n) {j : Nat} (hj : j < 6) (a : Int64) (hf : 110 < fu) : m_X0_addOrdersTo fu M (cwd n j) a = some (addL (fun t => S 6 (24 * j + t)) 0 (S 4 j).toNatClampNeg a) := by
  obtain ⟨m, hm, em⟩ := W.oc hj
  have e := ordD_L5 (fu := fu) R W hN hj em hm m 0 fu a (by omega) (by omega)
  rw [nI_0] at e
  rw [m_X0_addOrdersTo, e, em, nI_clamp (by omega)]
  rfl
theorem crdD_L6 (R : CR n M S) (W : WF c p S) (hN : SN n) (hf : 110 < fu) {j : Nat} (hj : j < 6) : ∀ (d i f : Nat) (a : Int64), i + d = 8 → d < f → m_X1_addCrowdTo_L6 fu M n (cwd n j) f a (nI i) = some (addL (crdS S p j) i d a) := by
  intro d
  induction d with
  | zero =>
    intro i f a hi hf
    obtain ⟨f, rfl⟩ := f1 hf
    rw [m_X1_addCrowdTo_L6, if_pos (show (8 : Int32) ≤ nI i from nI_le (a := 8) (by omega) (by omega))]
    rfl
  | succ d ih =>
    intro i f a hi hf
    obtain ⟨f, rfl⟩ := f1 hf
    rw [m_X1_addCrowdTo_L6, if_neg (show ¬ (8 : Int32) ≤ nI i from nI_ge (b := 8) (by omega) (by omega)), crowdN_s R W hN (by omega) hj (by omega), cb1_s, nI_1, mlet_s, mlet_s, ih (i + 1) f _ (by omega) (by omega)]
    rfl
theorem patD_L6 (R : CR n M S) (W : WF c p S) (D : RD p N S) (hN : SN n) (hf : 110 < fu) {i : Nat} (hi : i < p) : ∀ (d w f : Nat) (a : Int64), w + d = 4 → d < f → m_X1_addPatrolTo_L6 fu M n (ptl n i) f a (nI w) = some (addL (grdS S c i) w d a) := by
  intro d
  induction d with
  | zero =>
    intro w f a hw hf
    obtain ⟨f, rfl⟩ := f1 hf
    rw [m_X1_addPatrolTo_L6, if_pos (show (4 : Int32) ≤ nI w from nI_le (a := 4) (by omega) (by omega))]
    rfl
  | succ d ih =>
    intro w f a hw hf
    obtain ⟨f, rfl⟩ := f1 hf
    rw [m_X1_addPatrolTo_L6, if_neg (show ¬ (4 : Int32) ≤ nI w from nI_ge (b := 4) (by omega) (by omega)), guardN_s R W D hN (by omega) hi (by omega), cb1_s, nI_1, mlet_s, mlet_s, ih (w + 1) f _ (by omega) (by omega)]
    rfl
theorem totD_L6 (R : CR 0 M S) (W : WF c p S) (hf : 110 < fu) (q0 : Nat) : ∀ (d i f : Nat) (a : Int64), i + d = 8 → d < f → m_X5_digest_L6 fu M q0 f a (nI i) = some (addL (totS S c p) i d a) := by
  intro d
  induction d with
  | zero =>
    intro i f a hi hf
    obtain ⟨f, rfl⟩ := f1 hf
    rw [m_X5_digest_L6, if_pos (show (8 : Int32) ≤ nI i from nI_le (a := 8) (by omega) (by omega))]
    rfl
  | succ d ih =>
    intro i f a hi hf
    obtain ⟨f, rfl⟩ := f1 hf
    rw [m_X5_digest_L6, if_neg (show ¬ (8 : Int32) ≤ nI i from nI_ge (b := 8) (by omega) (by omega)), total_s R W SN_0 (by omega) (by omega), cb1_s, nI_1, mlet_s, mlet_s, ih (i + 1) f _ (by omega) (by omega)]
    rfl
theorem dig_L48 (R : CR 0 M S) (W : WF c p S) (hf : 110 < fu) (q0 : Nat) : ∀ (d j f : Nat) (a : Int64), j + d = c → d < f → m_X5_digest_L48 fu M q0 f a (nI j) = some (crdL S p j d a) := by
  have h6 := W.c6
  intro d
  induction d with
  | zero =>
    intro j f a hj hf
    obtain ⟨f, rfl⟩ := f1 hf
    rw [m_X5_digest_L48, R.nc, W.nc, if_pos (nI_le (by omega) (by omega))]
    rfl
  | succ d ih =>
    intro j f a hj hf
    obtain ⟨f, rfl⟩ := f1 hf
    have e := crdD_L6 (fu := fu) R W SN_0 (by omega) (j := j) (by omega) 8 0 fu a (by omega) (by omega)
    rw [nI_0] at e
    have e2 : m_X1_addCrowdTo fu M 0 a (cwd 0 j) = some (addL (fun t => S 6 (24 * j + t)) 0 (S 4 j).toNatClampNeg (addL (crdS S p j) 0 8 a)) := by
      rw [m_X1_addCrowdTo, e, cb1_s, ordD_s R W SN_0 (by omega) _ (by omega), cb1_s]
    rw [m_X5_digest_L48, R.nc, W.nc, if_neg (nI_ge (by omega) (by omega)), chk_t (inb_nI (by omega) (by decide)), elC_nI 0 (by omega), e2, cb1_s, nI_1, mlet_s, ih (j + 1) f _ (by omega) (by omega)]
    rfl
theorem dig_L85 (R : CR 0 M S) (W : WF c p S) (D : RD p N S) (hf : 110 < fu) (q0 : Nat) : ∀ (d i f : Nat) (a : Int64), i + d = p → d < f → m_X5_digest_L85 fu M q0 f a (nI i) = some (patL S c i d a) := by
  have h3 := W.p3
  intro d
  induction d with
  | zero =>
    intro i f a hi hf
    obtain ⟨f, rfl⟩ := f1 hf
    rw [m_X5_digest_L85, R.np, W.np, if_pos (nI_le (by omega) (by omega))]
    rfl
  | succ d ih =>
    intro i f a hi hf
    obtain ⟨f, rfl⟩ := f1 hf
    have e := patD_L6 (fu := fu) R W D SN_0 (by omega) (i := i) (by omega) 4 0 fu a (by omega) (by omega)
    rw [nI_0] at e
    have e2 : m_X1_addPatrolTo fu M 0 a (ptl 0 i) = some (addL (grdS S c i) 0 4 a) := by
      rw [m_X1_addPatrolTo, e, cb1_s]
    rw [m_X5_digest_L85, R.np, W.np, if_neg (nI_ge (by omega) (by omega)), chk_t (inb_nI (by omega) (by decide)), elP_nI 0 (by omega), e2, cb1_s, nI_1, mlet_s, ih (i + 1) f _ (by omega) (by omega)]
    rfl
theorem digest_s (R : CR 0 M S) (W : WF c p S) (D : RD p N S) (hf : 110 < fu) (a0 : Nat) : m_X5_digest fu M a0 = some (digS S c p) := by
  have h3 := W.p3
  have h6 := W.c6
  have e1 := totD_L6 (fu := fu) R W (by omega) a0 8 0 fu 997 (by omega) (by omega)
  have e2 := cellsD_s (fu := fu) R SN_0 (addL (totS S c p) 0 8 997) (by omega)
  have e3 := dig_L48 (fu := fu) R W (by omega) a0 c 0 fu (addL (fun j => S 0 j) 0 108 (addL (totS S c p) 0 8 997)) (by omega) (by omega)
  have e4 := dig_L85 (fu := fu) R W D (by omega) a0 p 0 fu (crdL S p 0 c (addL (fun j => S 0 j) 0 108 (addL (totS S c p) 0 8 997))) (by omega) (by omega)
  rw [nI_0] at e1 e3 e4
  rw [m_X5_digest, e1, cb1_s, e2, cb1_s, e3, cb1_s, e4, cb1_s]
  rfl
/-! the reference's digest -/
theorem rdig_L38 (R : RR 49 N S) : ∀ (d i f : Nat) (a : Int64), i + d = 108 → d < f → m_X7_digest_L38 fu N 44 f a (nI i) = some (addL (fun j => S 0 j) i d a) := by
  intro d
  induction d with
  | zero =>
    intro i f a hi hf
    obtain ⟨f, rfl⟩ := f1 hf
    rw [m_X7_digest_L38, if_pos (show (108 : Int32) ≤ nI i from nI_le (a := 108) (by omega) (by omega))]
    rfl
  | succ d ih =>
    intro i f a hi hf
    obtain ⟨f, rfl⟩ := f1 hf
    have e1 : alen (49 + 1) = 108 := SK_49.2.1
    rw [m_X7_digest_L38, if_neg (show ¬ (108 : Int32) ≤ nI i from nI_ge (b := 108) (by omega) (by omega)), e1, chk_t (inb_nI (by omega) (by decide)), nI_clamp (n := i) (by omega), R.ce (by omega), nI_1, mlet_s, mlet_s, ih (i + 1) f _ (by omega) (by omega)]
    rfl
theorem rdig_L80 (R : RR 49 N S) (W : WF c p S) (hf : 110 < fu) {j : Nat} (hj : j < 6) : ∀ (d i f : Nat) (a : Int64), i + d = 8 → d < f → m_X7_digest_L80 fu N 44 (nI j) f a (nI i) = some (addL (crdS S p j) i d a) := by
  intro d
  induction d with
  | zero =>
    intro i f a hi hf
    obtain ⟨f, rfl⟩ := f1 hf
    rw [m_X7_digest_L80, if_pos (show (7 : Int32) < nI i from nI_lt (a := 7) (by omega) (by omega))]
    rfl
  | succ d ih =>
    intro i f a hi hf
    obtain ⟨f, rfl⟩ := f1 hf
    rw [m_X7_digest_L80, if_neg (show ¬ (7 : Int32) < nI i from nI_nlt (a := 7) (by omega) (by omega)), crowdT_s R W (by omega) hj (by omega), cb1_s, nI_1, mlet_s, mlet_s, ih (i + 1) f _ (by omega) (by omega)]
    rfl
theorem rdig_L111 (R : RR 49 N S) (W : WF c p S) {j m : Nat} (hj : j < 6) (em : S 4 j = nI m) (hm : m < 25) : ∀ (d i f : Nat) (a : Int64), i + d = m → d < f → m_X7_digest_L111 fu N 44 (nI j) f a (nI i) = some (addL (fun t => S 6 (24 * j + t)) i d a) := by
  have e5 : alen (49 + 5) = 6 := SK_49.2.2.2.2.2.1
  have e6 : alen (49 + 6) = 144 := SK_49.2.2.2.2.2.2.1
  have e24 : (24 : Int32) * nI j = nI (24 * j) := pk_mul 24 j
  intro d
  induction d with
  | zero =>
    intro i f a hi hf
    obtain ⟨f, rfl⟩ := f1 hf
    rw [m_X7_digest_L111, e5, chk_t (inb_nI hj (by decide)), nI_clamp (n := j) (by omega), R.oc hj, em, if_pos (nI_le (by omega) (by omega))]
    rfl
  | succ d ih =>
    intro i f a hi hf
    obtain ⟨f, rfl⟩ := f1 hf
    rw [m_X7_digest_L111, e5, chk_t (inb_nI hj (by decide)), nI_clamp (n := j) (by omega), R.oc hj, em, if_neg (nI_ge (by omega) (by omega)), e24, nI_add, e6, chk_t (inb_nI (by omega) (by decide)), nI_clamp (n := 24 * j + i) (by omega), R.or (by omega), nI_1, mlet_s, mlet_s, ih (i + 1) f _ (by omega) (by omega)]
    rfl
theorem rdig_L69 (R : RR 49 N S) (W : WF c p S) (hf : 110 < fu) : ∀ (d j f : Nat) (a : Int64), j + d = c → d < f → m_X7_digest_L69 fu N 44 f a (nI j) = some (crdL S p j d a) := by
  have h6 := W.c6
  intro d
  induction d with
  | zero =>
    intro j f a hj hf
    obtain ⟨f, rfl⟩ := f1 hf
    rw [m_X7_digest_L69, R.nc, W.nc, if_pos (nI_le (by omega) (by omega))]
    rfl
  | succ d ih =>
    intro j f a hj hf
    obtain ⟨f, rfl⟩ := f1 hf
    obtain ⟨m, hm, em⟩ := W.oc (i := j) (by omega)
    have e := rdig_L80 (fu := fu) R W (by omega) (j := j) (by omega) 8 0 fu a (by omega) (by omega)
    have e2 := rdig_L111 (fu := fu) R W (j := j) (by omega) em hm m 0 fu (addL (crdS S p j) 0 8 a) (by omega) (by omega)
    rw [nI_0] at e e2
    rw [m_X7_digest_L69, R.nc, W.nc, if_neg (nI_ge (by omega) (by omega)), e, cb1_s, e2, cb1_s, nI_1, mlet_s, ih (j + 1) f _ (by omega) (by omega)]
    show _ = some (crdL S p (j + 1) d (addL (fun t => S 6 (24 * j + t)) 0 (S 4 j).toNatClampNeg (addL (crdS S p j) 0 8 a)))
    rw [em, nI_clamp (by omega)]
theorem rdig_L173 (R : RR 49 N S) (W : WF c p S) (D : RD p N S) (hf : 110 < fu) {i : Nat} (hi : i < p) : ∀ (d w f : Nat) (a : Int64), w + d = 4 → d < f → m_X7_digest_L173 fu N 44 (nI i) f a (nI w) = some (addL (grdS S c i) w d a) := by
  intro d
  induction d with
  | zero =>
    intro w f a hw hf
    obtain ⟨f, rfl⟩ := f1 hf
    rw [m_X7_digest_L173, if_pos (show (3 : Int32) < nI w from nI_lt (a := 3) (by omega) (by omega))]
    rfl
  | succ d ih =>
    intro w f a hw hf
    obtain ⟨f, rfl⟩ := f1 hf
    rw [m_X7_digest_L173, if_neg (show ¬ (3 : Int32) < nI w from nI_nlt (a := 3) (by omega) (by omega)), guardT_s R W D (by omega) hi (by omega), cb1_s, nI_1, mlet_s, mlet_s, ih (w + 1) f _ (by omega) (by omega)]
    rfl
theorem rdig_L162 (R : RR 49 N S) (W : WF c p S) (D : RD p N S) (hf : 110 < fu) : ∀ (d i f : Nat) (a : Int64), i + d = p → d < f → m_X7_digest_L162 fu N 44 f a (nI i) = some (patL S c i d a) := by
  have h3 := W.p3
  intro d
  induction d with
  | zero =>
    intro i f a hi hf
    obtain ⟨f, rfl⟩ := f1 hf
    rw [m_X7_digest_L162, R.np, W.np, if_pos (nI_le (by omega) (by omega))]
    rfl
  | succ d ih =>
    intro i f a hi hf
    obtain ⟨f, rfl⟩ := f1 hf
    have e := rdig_L173 (fu := fu) R W D (by omega) (i := i) (by omega) 4 0 fu a (by omega) (by omega)
    rw [nI_0] at e
    rw [m_X7_digest_L162, R.np, W.np, if_neg (nI_ge (by omega) (by omega)), e, cb1_s, nI_1, mlet_s, ih (i + 1) f _ (by omega) (by omega)]
    rfl
theorem rdigest_s (R : RR 49 (mst N 44 0 0) S) (W : WF c p S) (D : RD p (mst N 44 0 0) S) (hf : 110 < fu) : m_X7_digest fu N 44 = some (mst N 44 0 0, digS S c p) := by
  have h3 := W.p3
  have h6 := W.c6
  have g : ∀ w, w < 8 → m_X7_counted fu (mst N 44 0 0) 44 (nI w) = some (totS S c p w) := fun w hw => counted_s R W hf hw
  have g0 := g 0 (by decide)
  have g1 := g 1 (by decide)
  have g2 := g 2 (by decide)
  have g3 := g 3 (by decide)
  have g4 := g 4 (by decide)
  have g5 := g 5 (by decide)
  have g6 := g 6 (by decide)
  have g7 := g 7 (by decide)
  rw [show nI 0 = 0 from rfl] at g0
  rw [show nI 1 = 1 from rfl] at g1
  rw [show nI 2 = 2 from rfl] at g2
  rw [show nI 3 = 3 from rfl] at g3
  rw [show nI 4 = 4 from rfl] at g4
  rw [show nI 5 = 5 from rfl] at g5
  rw [show nI 6 = 6 from rfl] at g6
  rw [show nI 7 = 7 from rfl] at g7
  have e2 := rdig_L38 (fu := fu) R 108 0 fu (addL (totS S c p) 0 8 997) (by omega) (by omega)
  have e3 := rdig_L69 (fu := fu) R W (by omega) c 0 fu (addL (fun j => S 0 j) 0 108 (addL (totS S c p) 0 8 997)) (by omega) (by omega)
  have e4 := rdig_L162 (fu := fu) R W D (by omega) p 0 fu (crdL S p 0 c (addL (fun j => S 0 j) 0 108 (addL (totS S c p) 0 8 997))) (by omega) (by omega)
  rw [nI_0] at e2 e3 e4
  rw [m_X7_digest, mlet_s, g0, cb1_s, mlet_s, g1, cb1_s, mlet_s, g2, cb1_s, mlet_s, g3, cb1_s, mlet_s, g4, cb1_s, mlet_s, g5, cb1_s, mlet_s, g6, cb1_s, mlet_s, g7, cb1_s, mlet_s]
  show cb1 (m_X7_digest_L38 fu (mst N 44 0 0) 44 fu (addL (totS S c p) 0 8 997) 0) _ = _
  rw [e2, cb1_s, e3, cb1_s, e4, cb1_s]
  rfl
end Dig

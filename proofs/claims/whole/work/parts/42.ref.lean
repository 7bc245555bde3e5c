/-! ===== the reference's orders ===== -/
def lane (S : Mem) (o : Option Nat) : Bool := match o with
  | none => false
  | some q => decide (¬ S 0 q = -1)
theorem lane_0 {S : Mem} {t : Nat} (h : S 0 t = -1) : bI (lane S (some t)) = 0 := by
  show bI (decide (¬ S 0 t = -1)) = 0
  rw [decide_eq_false (fun z => z h)]
  rfl
theorem lane_1 {S : Mem} {t : Nat} (h : ¬ S 0 t = -1) : ¬ bI (lane S (some t)) = 0 := by
  show ¬ bI (decide (¬ S 0 t = -1)) = 0
  rw [decide_eq_true h]
  decide
section RefOrd
variable {k c p fu : Nat} {N S : Mem}
theorem isLane_s (R : RR k N S) (K : SK k) {o : Option Nat} (ho : okO o) : m_X6_isLane fu N k (oI o) = some (bI (lane S o)) := by
  cases o with
  | none => rfl
  | some q =>
    have hq := ho q rfl
    show m_X6_isLane fu N k (nI q) = some (bI (decide (¬ S 0 q = -1)))
    unfold m_X6_isLane
    rw [if_neg (show ¬ nI q = -1 from fun h => nI_pos (n := q) (by omega) (by rw [h]; decide)), K.2.1, chk_t (inb_nI hq (by decide)), nI_clamp (by omega), R.ce hq]
    by_cases h : S 0 q = -1
    · rw [if_pos h, decide_eq_false (fun z => z h)]
      rfl
    · rw [if_neg h, decide_eq_true h]
      rfl
theorem goes_s (hI : LInj 13 (LR k)) (R : RR k N S) (W : WF c p S) (K : SK k) {i : Nat} (hi : i < 6) {to be : Option Nat} (ht : okO to) (hb : okO be) (hne : ∀ t u, to = some t → be = some u → u ≠ t) (hf : 10 < fu) : ∃ N1, m_X6_goes fu N k (nI i) (oI to) (oI be) = some (N1, bI (goS S c p i to be).2) ∧ RR k N1 (goS S c p i to be).1 ∧ FrK k N N1 := by
  unfold m_X6_goes
  rw [isLane_s R K ht, cb1_s, K.2.1, K.2.2.1, K.2.2.2.1]
  cases to with
  | none => exact ⟨N, rfl, R, FrK.rf⟩
  | some t =>
    have h0 : t < 108 := ht t rfl
    obtain ⟨q, hq, eq⟩ := W.ce h0
    unfold goS
    by_cases h1 : S 0 t = -1
    · simp only [if_pos h1]
      have e := lane_0 h1
      rw [if_pos e]
      exact ⟨N, rfl, R, FrK.rf⟩
    have e := lane_1 h1
    simp only [if_neg h1]
    rw [if_neg e]
    show ∃ N1, chk (inb (nI t) 108) (mlet (N (k + 1) (nI t).toNatClampNeg) fun x10 => _) = _ ∧ _
    rw [chk_t (inb_nI h0 (by decide)), nI_clamp (by omega), R.ce h0, mlet_s, chk_t (inb_nI hi (by decide)), nI_clamp (n := i) (by omega), R.pe hi]
    by_cases h2 : S 0 t ≤ 0
    · simp only [if_pos h2]
      rw [mlet_s]
      exact ⟨_, rfl, R.wpl hI hi _, FrK.wr (by omega)⟩
    simp only [if_neg h2]
    rw [chk_t (inb_nI hi (by decide))]
    by_cases h4 : S 2 i < 2 * S 0 t
    · simp only [if_pos h4]
      exact ⟨N, rfl, R, FrK.rf⟩
    simp only [if_neg h4]
    rw [isLane_s R K hb, cb1_s]
    cases be with
    | none => exact ⟨N, rfl, R, FrK.rf⟩
    | some u =>
      have hu : u < 108 := hb u rfl
      have hut : u ≠ t := hne t u rfl rfl
      by_cases h5 : S 0 u = -1
      · have e2 := lane_0 h5
        simp only [if_pos h5]
        rw [if_pos e2]
        exact ⟨N, rfl, R, FrK.rf⟩
      have e2 := lane_1 h5
      simp only [if_neg h5]
      rw [if_neg e2]
      show ∃ N1, chk (inb (nI u) 108) (if 3 - S 0 t < N (k + 1) (nI u).toNatClampNeg then _ else _) = _ ∧ _
      rw [chk_t (inb_nI hu (by decide)), nI_clamp (n := u) (by omega), R.ce hu]
      by_cases h6 : 3 - S 0 t < S 0 u
      · simp only [if_pos h6]
        exact ⟨N, rfl, R, FrK.rf⟩
      simp only [if_neg h6]
      have eb : m_X6_isBusy fu N k (oI (some u)) = some (bI (busy S c p (nI u))) := isBusy_s R W K (nI u) hf
      rw [eb, cb1_s]
      cases h7 : busy S c p (nI u) with
      | true => exact ⟨N, rfl, R, FrK.rf⟩
      | false =>
        simp only [show bI false = 0 from rfl, if_true, Bool.false_eq_true, if_false]
        show ∃ N1, chk (inb (nI u) 108) (chk (inb (nI u) 108) (mlet (mst N (k + 1) (nI u).toNatClampNeg (N (k + 1) (nI u).toNatClampNeg + S 0 t)) _)) = _ ∧ _
        rw [chk_t (inb_nI hu (by decide)), chk_t (inb_nI hu (by decide)), nI_clamp (n := u) (by omega), R.ce hu, mlet_s, show oI (some t) = nI t from rfl, chk_t (inb_nI h0 (by decide)), nI_clamp (n := t) (by omega), mlet_s, chk_t (inb_nI hi (by decide)), mlet_s, mst_comm (S := S) (fun z => hut z.2.symm)]
        exact ⟨_, rfl, ((R.wce hI hu _).wce hI h0 _).wpl hI hi _, ((FrK.wr (by omega)).tr (FrK.wr (by omega))).tr (FrK.wr (by omega))⟩
theorem raises_s (hI : LInj 13 (LR k)) (R : RR k N S) (W : WF c p S) (K : SK k) {i : Nat} (hi : i < 6) {to : Option Nat} (ht : okO to) (hf : 10 < fu) : ∃ N1, m_X6_raises fu N k (nI i) (oI to) = some (N1, bI (raiseS S c p i to).2) ∧ RR k N1 (raiseS S c p i to).1 ∧ FrK k N N1 := by
  unfold m_X6_raises raiseS
  rw [K.2.1, K.2.2.2.1, chk_t (inb_nI hi (by decide)), nI_clamp (n := i) (by omega), R.pe hi, isLane_s R K ht]
  cases to with
  | none =>
    by_cases h : S 2 i < 3
    · rw [if_pos h]
      exact ⟨N, rfl, R, FrK.rf⟩
    · rw [if_neg h]
      exact ⟨N, rfl, R, FrK.rf⟩
  | some t =>
    have h0 : t < 108 := ht t rfl
    by_cases h : S 2 i < 3
    · simp only [if_pos h]
      exact ⟨N, rfl, R, FrK.rf⟩
    simp only [if_neg h]
    rw [cb1_s]
    by_cases h1 : S 0 t = -1
    · simp only [if_pos h1]
      have e := lane_0 h1
      rw [if_pos e]
      exact ⟨N, rfl, R, FrK.rf⟩
    have e := lane_1 h1
    simp only [if_neg h1]
    rw [if_neg e]
    show ∃ N1, chk (inb (nI t) 108) (if N (k + 1) (nI t).toNatClampNeg = 3 then _ else _) = _ ∧ _
    rw [chk_t (inb_nI h0 (by decide)), nI_clamp (by omega), R.ce h0]
    by_cases h2 : S 0 t = 3
    · simp only [if_pos h2]
      exact ⟨N, rfl, R, FrK.rf⟩
    simp only [if_neg h2]
    have eb : m_X6_isBusy fu N k (oI (some t)) = some (bI (busy S c p (nI t))) := isBusy_s R W K (nI t) hf
    rw [eb, cb1_s]
    cases h7 : busy S c p (nI t) with
    | true => exact ⟨N, rfl, R, FrK.rf⟩
    | false =>
      simp only [show bI false = 0 from rfl, if_true, Bool.false_eq_true, if_false]
      show ∃ N1, chk (inb (nI t) 108) (chk (inb (nI t) 108) (mlet (mst N (k + 1) (nI t).toNatClampNeg (N (k + 1) (nI t).toNatClampNeg + 1)) _)) = _ ∧ _
      rw [chk_t (inb_nI h0 (by decide)), chk_t (inb_nI h0 (by decide)), nI_clamp (by omega), R.ce h0, mlet_s]
      exact ⟨_, rfl, R.wce hI h0 _, FrK.wr (by omega)⟩
theorem pulls_s (hI : LInj 13 (LR k)) (R : RR k N S) (W : WF c p S) (K : SK k) {to : Option Nat} (ht : okO to) : ∃ N1, m_X6_pulls fu N k (oI to) = some (N1, bI (pullS S to).2) ∧ RR k N1 (pullS S to).1 ∧ FrK k N N1 := by
  unfold m_X6_pulls pullS
  rw [K.2.1, isLane_s R K ht, cb1_s]
  cases to with
  | none => exact ⟨N, rfl, R, FrK.rf⟩
  | some t =>
    have h0 : t < 108 := ht t rfl
    obtain ⟨q, hq, eq⟩ := W.ce h0
    by_cases h1 : S 0 t = -1
    · have e := lane_0 h1
      simp only [if_pos (show S 0 t ≤ 0 by rw [h1]; decide)]
      rw [if_pos e]
      exact ⟨N, rfl, R, FrK.rf⟩
    have e := lane_1 h1
    rw [if_neg e]
    show ∃ N1, chk (inb (nI t) 108) (if N (k + 1) (nI t).toNatClampNeg = 0 then _ else _) = _ ∧ _
    rw [chk_t (inb_nI h0 (by decide)), nI_clamp (by omega), R.ce h0]
    by_cases h2 : S 0 t = 0
    · simp only [if_pos h2, if_pos (show S 0 t ≤ 0 by rw [h2]; decide)]
      exact ⟨N, rfl, R, FrK.rf⟩
    have h3 : ¬ S 0 t ≤ 0 := by
      rw [eq] at h1 h2 ⊢
      rw [cv_h hq] at h1
      rw [cv_0 hq] at h2
      rw [cv_le hq]
      omega
    simp only [if_neg h2, if_neg h3]
    show ∃ N1, chk (inb (nI t) 108) (chk (inb (nI t) 108) (mlet (mst N (k + 1) (nI t).toNatClampNeg (N (k + 1) (nI t).toNatClampNeg - 1)) _)) = _ ∧ _
    rw [chk_t (inb_nI h0 (by decide)), chk_t (inb_nI h0 (by decide)), nI_clamp (by omega), R.ce h0, mlet_s]
    exact ⟨_, rfl, R.wce hI h0 _, FrK.wr (by omega)⟩
end RefOrd

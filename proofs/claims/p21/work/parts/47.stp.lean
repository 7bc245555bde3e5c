/-! ===== a step, and steps ===== -/
theorem sumI_cnt {f : Nat → Bool} : ∀ (d i a : Nat), ∃ k, k ≤ a + d ∧ sumI (fun t => bI (f t)) i d (nI a) = nI k
  | 0, _, a => ⟨a, by omega, rfl⟩
  | d + 1, i, a => by
    show ∃ k, k ≤ a + (d + 1) ∧ sumI (fun t => bI (f t)) (i + 1) d (nI a + bI (f i)) = nI k
    cases f i with
    | false =>
      obtain ⟨k, h1, h2⟩ := sumI_cnt (f := f) d (i + 1) a
      exact ⟨k, by omega, by rw [show nI a + bI false = nI a from Int32.add_zero _]; exact h2⟩
    | true =>
      obtain ⟨k, h1, h2⟩ := sumI_cnt (f := f) d (i + 1) (a + 1)
      exact ⟨k, by omega, by rw [show nI a + bI true = nI (a + 1) from nI_1 a]; exact h2⟩
/-- by how many patrols a crowd is seen, how many crowds a patrol sees -/
def seenC (S : Mem) (p j : Nat) : Int32 := sumI (fun i => bI (seeS S i j)) 0 p 0
def seesC (S : Mem) (c i : Nat) : Int32 := sumI (fun j => bI (seeS S i j)) 0 c 0
def m0 (x : Int32) : Int32 := if x < 0 then 0 else x
theorem m0_c (x : Int32) : mmax x 0 = m0 x := rfl
theorem m0_r (x : Int32) : mmax 0 x = m0 x := by
  unfold mmax m0
  by_cases h : 0 < x
  · rw [if_pos h, if_neg (Int32.not_lt.mpr (Int32.le_of_lt h))]
  · rw [if_neg h]
    by_cases h2 : x < 0
    · rw [if_pos h2]
    · rw [if_neg h2]
      exact Int32.le_antisymm (Int32.not_lt.mp h2) (Int32.not_lt.mp h)
theorem m0_dec : ∀ q < 10, ∀ k < 4, m0 (nI q - nI k) = nI (q - k) := by decide +kernel
def scatS (S : Mem) (p i : Nat) : Mem := mst S 2 i (m0 (S 2 i - seenC S p i))
def scN (S : Mem) (p : Nat) : Nat → Nat → Mem
  | _, 0 => S
  | i, d + 1 => scN (scatS S p i) p (i + 1) d
def mvN (S : Mem) : Nat → Nat → Mem
  | _, 0 => S
  | i, d + 1 => mvN (moveS S i) (i + 1) d
def stepS (S : Mem) (c p : Nat) : Mem := mst (scN (mvN (actN S c p 0 c) 0 p) p 0 c) 9 0 (S 9 0 + 1)
def stN (S : Mem) (c p : Nat) : Nat → Mem
  | 0 => S
  | d + 1 => stN (stepS S c p) c p d
section Stp
variable {n k c p fu : Nat} {M N S : Mem}
theorem WF.scat (W : WF c p S) {i : Nat} (hi : i < 6) : WF c p (scatS S p i) := by
  obtain ⟨q, hq, eq⟩ := W.pe hi
  have h3 := W.p3
  obtain ⟨m, hm, em⟩ := sumI_cnt (f := fun t => seeS S t i) p 0 0
  refine W.w2 ⟨q - m, by omega, ?_⟩
  rw [eq, show seenC S p i = nI m from em, m0_dec q hq m (by omega)]
theorem WF.scN : ∀ (d i : Nat) (S : Mem), WF c p S → i + d ≤ 6 → WF c p (scN S p i d) := by
  intro d
  induction d with
  | zero => intro i S W _; exact W
  | succ d ih => intro i S W h; exact ih (i + 1) _ (W.scat (by omega)) (by omega)
theorem WF.mvN : ∀ (d i : Nat) (S : Mem), WF c p S → RD p S → i + d ≤ p → WF c p (mvN S i d) := by
  intro d
  induction d with
  | zero => intro i S W _ _; exact W
  | succ d ih => intro i S W D h; exact ih (i + 1) _ (W.move D (by omega)) (D.keep Kp.move) (by omega)
theorem Kp.mvN : ∀ (d i : Nat) (S : Mem), Kp S (mvN S i d) := by
  intro d
  induction d with
  | zero => intro i S; exact Kp.rf
  | succ d ih => intro i S; exact Kp.move.tr (ih (i + 1) _)
theorem Kp.scN : ∀ (d i : Nat) (S : Mem), Kp S (scN S p i d) := by
  intro d
  induction d with
  | zero => intro i S; exact Kp.rf
  | succ d ih => intro i S; exact (Kp.wr (by decide)).tr (ih (i + 1) _)
theorem Kp.step : Kp S (stepS S c p) := (((Kp.actN c 0 S).tr (Kp.mvN p 0 _)).tr (Kp.scN c 0 _)).tr (Kp.wr (by decide))
theorem WF.step (W : WF c p S) (D : RD p S) : WF c p (stepS S c p) := by
  have h6 := W.c6
  exact (WF.scN c 0 _ (WF.mvN p 0 _ (W.actN c 0 (by omega)) (D.keep (Kp.actN c 0 S)) (by omega)) (by omega)).w9
theorem Kp.stN : ∀ (d : Nat) (S : Mem), Kp S (stN S c p d) := by
  intro d
  induction d with
  | zero => intro S; exact Kp.rf
  | succ d ih => intro S; exact Kp.step.tr (ih _)
theorem WF.stN : ∀ (d : Nat) (S : Mem), WF c p S → RD p S → WF c p (stN S c p d) := by
  intro d
  induction d with
  | zero => intro S W _; exact W
  | succ d ih => intro S W D; exact ih _ (W.step D) (D.keep Kp.step)
/-! nine stays where it was till the step's end -/
theorem mst9 {S : Mem} {f i : Nat} {x : Int32} (h : f < 9) : mst S f i x 9 = S 9 := mst_ne (by omega)
theorem sc9 : ∀ (d i : Nat) (S : Mem), scN S p i d 9 = S 9 := by
  intro d
  induction d with
  | zero => intro i S; rfl
  | succ d ih =>
    intro i S
    show scN (scatS S p i) p (i + 1) d 9 = S 9
    rw [ih (i + 1)]
    unfold scatS
    rw [mst9 (show 2 < 9 by decide)]
theorem move9 {i : Nat} : moveS S i 9 = S 9 := by
  unfold moveS turnS
  rw [mst9 (show 8 < 9 by decide)]
  exact stepTo_f S i _ (by decide)
theorem mv9 : ∀ (d i : Nat) (S : Mem), mvN S i d 9 = S 9 := by
  intro d
  induction d with
  | zero => intro i S; rfl
  | succ d ih => intro i S; exact (ih (i + 1) _).trans move9
theorem go9 {i : Nat} {to be : Option Nat} : (goS S c p i to be).1 9 = S 9 := by
  unfold goS
  cases to with
  | none => rfl
  | some t =>
    simp only
    by_cases h1 : S 0 t = -1
    · rw [if_pos h1]
    rw [if_neg h1]
    by_cases h2 : S 0 t ≤ 0
    · rw [if_pos h2]
      show mst S 1 i (nI t) 9 = S 9
      rw [mst9 (show 1 < 9 by decide)]
    rw [if_neg h2]
    by_cases h4 : S 2 i < 2 * S 0 t
    · rw [if_pos h4]
    rw [if_neg h4]
    cases be with
    | none => rfl
    | some u =>
      simp only
      by_cases h5 : S 0 u = -1
      · rw [if_pos h5]
      rw [if_neg h5]
      by_cases h6 : 3 - S 0 t < S 0 u
      · rw [if_pos h6]
      rw [if_neg h6]
      by_cases h7 : busy S c p (nI u) = true
      · rw [if_pos h7]
      rw [if_neg h7]
      show mst (mst (mst S 0 t 0) 0 u (S 0 u + S 0 t)) 1 i (nI t) 9 = S 9
      rw [mst9 (show 1 < 9 by decide), mst9 (show 0 < 9 by decide), mst9 (show 0 < 9 by decide)]
theorem raise9 {i : Nat} {to : Option Nat} : (raiseS S c p i to).1 9 = S 9 := by
  unfold raiseS
  cases to with
  | none => rfl
  | some t =>
    simp only
    by_cases h : S 2 i < 3
    · rw [if_pos h]
    rw [if_neg h]
    by_cases h1 : S 0 t = -1
    · rw [if_pos h1]
    rw [if_neg h1]
    by_cases h2 : S 0 t = 3
    · rw [if_pos h2]
    rw [if_neg h2]
    by_cases h7 : busy S c p (nI t) = true
    · rw [if_pos h7]
    rw [if_neg h7]
    show mst S 0 t (S 0 t + 1) 9 = S 9
    rw [mst9 (show 0 < 9 by decide)]
theorem pull9 {to : Option Nat} : (pullS S to).1 9 = S 9 := by
  unfold pullS
  cases to with
  | none => rfl
  | some t =>
    simp only
    by_cases h : S 0 t ≤ 0
    · rw [if_pos h]
    rw [if_neg h]
    show mst S 0 t (S 0 t - 1) 9 = S 9
    rw [mst9 (show 0 < 9 by decide)]
theorem ord9 {i code : Nat} : (ordS S c p i code).1 9 = S 9 := by
  unfold ordS
  by_cases h : code < 4
  · rw [if_pos h]; exact go9
  rw [if_neg h]
  by_cases h : code < 8
  · rw [if_pos h]; exact raise9
  rw [if_neg h]
  exact pull9
theorem drop9 {i : Nat} : dropS S i 9 = S 9 := by
  unfold dropS
  have e : ∀ (S : Mem) (m : Nat), shS S i m 9 = S 9 := fun S m => by
    funext b
    exact if_neg (fun z => by cases z.1)
  rw [e]
  rw [mst9 (show 4 < 9 by decide)]
theorem act9 {i : Nat} : actS S c p i 9 = S 9 := by
  unfold actS
  by_cases h : S 2 i = 0
  · rw [if_pos h]
  rw [if_neg h]
  by_cases h4 : S 4 i = 0
  · rw [if_pos h4]
  rw [if_neg h4]
  unfold missS
  by_cases hb : (ordS (dropS S i) c p i (S 6 (24 * i)).toNatClampNeg).2 = true
  · rw [if_pos hb]; exact ord9.trans drop9
  · rw [if_neg hb, mst9 (show 5 < 9 by decide)]; exact ord9.trans drop9
theorem actN9 : ∀ (d i : Nat) (S : Mem), actN S c p i d 9 = S 9 := by
  intro d
  induction d with
  | zero => intro i S; rfl
  | succ d ih => intro i S; exact (ih (i + 1) _).trans act9
/-! the class's step -/
theorem seenC_L4 (R : CR n M S) (W : WF c p S) (hN : SN n) {j : Nat} (hj : j < 6) (hf : 30 < fu) : ∀ (d i f : Nat) (a : Int32), i + d = p → d < f → m_X1_patrolsThatSee_L4 fu M n (cwd n j) f a (nI i) = some (sumI (fun i => bI (seeS S i j)) i d a) := by
  have h3 := W.p3
  intro d
  induction d with
  | zero =>
    intro i f a hi hf
    obtain ⟨f, rfl⟩ := f1 hf
    rw [m_X1_patrolsThatSee_L4, R.np, W.np, if_pos (nI_le (by omega) (by omega))]
    rfl
  | succ d ih =>
    intro i f a hi hf
    obtain ⟨f, rfl⟩ := f1 hf
    have e := isSeen_s (fu := fu) R W hN (i := i) (j := j) (by omega) hj (by omega)
    rw [m_X1_patrolsThatSee_L4, R.np, W.np, if_neg (nI_ge (by omega) (by omega)), chk_t (inb_nI (by omega) (by decide)), elP_nI n (by omega), e, cb1_s, nI_1]
    show _ = some (sumI (fun i => bI (seeS S i j)) (i + 1) d (a + bI (seeS S i j)))
    cases seeS S i j with
    | false => rw [if_pos (show bI false = 0 by decide), mlet_s, ih (i + 1) f a (by omega) (by omega), show a + bI false = a from Int32.add_zero a]
    | true => rw [if_neg (show ¬ bI true = 0 by decide), mlet_s, mlet_s, ih (i + 1) f _ (by omega) (by omega)]; rfl
theorem seenC_s (R : CR n M S) (W : WF c p S) (hN : SN n) {j : Nat} (hj : j < 6) (hf : 30 < fu) : m_X1_patrolsThatSee fu M n (cwd n j) = some (seenC S p j) := by
  have h3 := W.p3
  have e := seenC_L4 (fu := fu) R W hN hj hf p 0 fu 0 (by omega) (by omega)
  rw [nI_0] at e
  rw [m_X1_patrolsThatSee, e]
  rfl
theorem scatter_L2 (hI : LInj 14 (LC n)) (hN : SN n) (hf : 30 < fu) : ∀ (d i f : Nat) (M S : Mem), CR n M S → WF c p S → i + d = c → d < f → ∃ M1, m_X1_scatter_L2 fu n f M (nI i) = some M1 ∧ CR n M1 (scN S p i d) ∧ Fr n M M1 := by
  intro d
  induction d with
  | zero =>
    intro i f M S R W hi hf
    have h6 := W.c6
    obtain ⟨f, rfl⟩ := f1 hf
    rw [m_X1_scatter_L2, R.nc, W.nc, if_pos (nI_le (by omega) (by omega))]
    exact ⟨M, rfl, R, Fr.rf⟩
  | succ d ih =>
    intro i f M S R W hi hf
    have h6 := W.c6
    have hi6 : i < 6 := by omega
    obtain ⟨f, rfl⟩ := f1 hf
    rw [m_X1_scatter_L2, R.nc, W.nc, if_neg (nI_ge (by omega) (by omega)), chk_t (inb_nI hi6 (by decide)), elC_nI n (by omega), seenC_s R W hN hi6 (by omega), cb1_s, R.pe hi6, mlet_s, mlet_s, mlet_s, mlet_s, nI_1, m0_c]
    obtain ⟨M1, e1, R1, f1⟩ := ih (i + 1) f _ _ (R.wpe hI hi6 (m0 (S 2 i - seenC S p i))) (W.scat hi6) (by omega) (by omega)
    exact ⟨M1, e1, R1, (Fr.wr (cwd_in hi6)).tr f1⟩
theorem goOn_L13 (hI : LInj 14 (LC n)) (hN : SN n) (y1 y2 : Int32) : ∀ (d i f : Nat) (M S : Mem), CR n M S → WF c p S → RD p S → i + d = p → d < f → ∃ M1, m_X1_goOn_L13 fu n y1 y2 f M (nI i) = some M1 ∧ CR n M1 (mvN S i d) ∧ Fr n M M1 := by
  intro d
  induction d with
  | zero =>
    intro i f M S R W D hi hf
    have h6 := W.p3
    obtain ⟨f, rfl⟩ := f1 hf
    rw [m_X1_goOn_L13, R.np, W.np, if_pos (nI_le (by omega) (by omega))]
    exact ⟨M, rfl, R, Fr.rf⟩
  | succ d ih =>
    intro i f M S R W D hi hf
    have h6 := W.p3
    obtain ⟨f, rfl⟩ := f1 hf
    obtain ⟨M1, e1, R1, f1⟩ := moveOn_s (fu := fu) hI R W D hN (i := i) (by omega)
    rw [m_X1_goOn_L13, R.np, W.np, if_neg (nI_ge (by omega) (by omega)), chk_t (inb_nI (by omega) (by decide)), elP_nI n (by omega), e1, cb1_s, mlet_s, nI_1]
    obtain ⟨M2, e2, R2, f2⟩ := ih (i + 1) f _ _ R1 (W.move D (by omega)) (D.keep Kp.move) (by omega) (by omega)
    exact ⟨M2, e2, R2, f1.tr f2⟩
theorem goOn_L2 (hI : LInj 14 (LC n)) (hN : SN n) (hf : 30 < fu) {m : Nat} (hm : m < 2 ^ 31) : ∀ (d i f : Nat) (M S : Mem), CR n M S → WF c p S → RD p S → i + d = m → d < f → ∃ M1, m_X1_goOn_L2 fu n (nI m) f M (nI i) = some M1 ∧ CR n M1 (stN S c p d) ∧ Fr n M M1 := by
  intro d
  induction d with
  | zero =>
    intro i f M S R W D hi hf
    obtain ⟨f, rfl⟩ := f1 hf
    rw [m_X1_goOn_L2, if_pos (nI_le (by omega) (by omega))]
    exact ⟨M, rfl, R, Fr.rf⟩
  | succ d ih =>
    intro i f M S R W D hi hf
    have h6 := W.c6
    have h3 := W.p3
    obtain ⟨f, rfl⟩ := f1 hf
    obtain ⟨M1, e1, R1, f1⟩ := obey_s (fu := fu) hI R W hN (by omega)
    have W1 := W.actN c 0 (by omega)
    have D1 : RD p (actN S c p 0 c) := D.keep (Kp.actN c 0 S)
    obtain ⟨M2, e2, R2, f2⟩ := goOn_L13 (fu := fu) (c := c) (p := p) hI hN (nI m) (nI i) p 0 fu M1 _ R1 W1 D1 (by omega) (by omega)
    have W2 := WF.mvN p 0 _ W1 D1 (by omega)
    obtain ⟨M3, e3, R3, f3⟩ := scatter_L2 (fu := fu) (p := p) hI hN (by omega) c 0 fu M2 _ R2 W2 (by omega) (by omega)
    rw [nI_0] at e2 e3
    have e3 : m_X1_scatter fu M2 n = some M3 := by rw [m_X1_scatter, e3]; rfl
    have h9 : M3 n 5 = S 9 0 := by rw [R3.st, sc9, mv9, actN9]
    rw [m_X1_goOn_L2, if_neg (nI_ge (by omega) (by omega)), e1, cb1_s, e2, cb1_s, e3, cb1_s, mlet_s, mlet_s, nI_1, h9]
    have R4 : CR n (mst M3 n 5 (S 9 0 + 1)) (stepS S c p) := R3.wst hI _
    obtain ⟨M4, e4, R5, f4⟩ := ih (i + 1) f _ _ R4 (W.step D) (D.keep Kp.step) (by omega) (by omega)
    exact ⟨M4, e4, R5, (((f1.tr f2).tr f3).tr (Fr.wr (by omega))).tr f4⟩
theorem goOn_s (hI : LInj 14 (LC n)) (hN : SN n) (hf : 61 < fu) {m : Nat} (hm : m ≤ 60) (R : CR n M S) (W : WF c p S) (D : RD p S) : ∃ M1, m_X1_goOn fu M n (nI m) = some M1 ∧ CR n M1 (stN S c p m) ∧ Fr n M M1 := by
  obtain ⟨M1, e1, R1, f1⟩ := goOn_L2 (fu := fu) hI hN (by omega) (m := m) (by omega) m 0 fu M S R W D (by omega) (by omega)
  rw [nI_0] at e1
  refine ⟨M1, ?_, R1, f1⟩
  rw [m_X1_goOn, e1]
  rfl
/-! the reference's step -/
end Stp

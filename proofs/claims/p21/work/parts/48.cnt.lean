/-! ===== counts and sums ===== -/
def pplS (S : Mem) (c : Nat) : Int32 := sumI (fun j => S 2 j) 0 c 0
def lftS (S : Mem) (c : Nat) : Int32 := sumI (fun j => bI (decide (¬ S 2 j = 0))) 0 c 0
def misS (S : Mem) (c : Nat) : Int32 := sumI (fun j => S 5 j) 0 c 0
def barS (S : Mem) : Int32 := sumI (fun j => m0 (S 0 j)) 0 108 0
def cntS (S : Mem) (v : Int32) : Int32 := sumI (fun j => bI (decide (S 0 j = v))) 0 108 0
def totS (S : Mem) (c p w : Nat) : Int32 := match w with
  | 0 => S 9 0
  | 1 => cntS S (-1)
  | 2 => barS S
  | 3 => cntS S 0
  | 4 => lftS S c
  | 5 => pplS S c
  | 6 => nI p
  | _ => misS S c
def crdS (S : Mem) (p j w : Nat) : Int32 := match w with
  | 0 => S 1 j - S 1 j / 12 * 12
  | 1 => S 1 j / 12
  | 2 => S 2 j
  | 3 => S 3 j
  | 4 => S 4 j
  | 5 => if S 4 j = 0 then -1 else S 6 (24 * j)
  | 6 => S 5 j
  | _ => seenC S p j
def grdS (S : Mem) (c i w : Nat) : Int32 := match w with
  | 0 => S 7 i - S 7 i / 12 * 12
  | 1 => S 7 i / 12
  | 2 => nI (dirS S i)
  | _ => seesC S c i
theorem sumI_le {f : Nat → Int32} {b : Nat} : ∀ (d i a : Nat), (∀ t, i ≤ t → t < i + d → ∃ q, q ≤ b ∧ f t = nI q) → ∃ k, k ≤ a + b * d ∧ sumI f i d (nI a) = nI k
  | 0, _, a, _ => ⟨a, by omega, rfl⟩
  | d + 1, i, a, h => by
    obtain ⟨q, hq, eq⟩ := h i (Nat.le_refl _) (by omega)
    obtain ⟨k, h1, h2⟩ := sumI_le (f := f) (b := b) d (i + 1) (a + q) (fun t h1 h2 => h t (by omega) (by omega))
    refine ⟨k, by rw [Nat.mul_add]; omega, ?_⟩
    show sumI f (i + 1) d (nI a + f i) = nI k
    rw [eq, nI_add]
    exact h2
section Cnt
variable {n k c p fu : Nat} {M N S : Mem}
theorem WF.sc (W : WF c p S) {j : Nat} (hj : j < 6) : (S 2 j ≤ 0 ↔ S 2 j = 0) := by
  obtain ⟨q, hq, eq⟩ := W.pe hj
  rw [eq]
  exact (by decide : ∀ q < 10, (nI q ≤ 0 ↔ nI q = 0)) q hq
theorem cells_L4 (R : CR n M S) (hN : SN n) (v : Int32) : ∀ (d i f : Nat) (a : Int32), i + d = 108 → d < f → m_X3_cellsWith_L4 fu M (n + 1) v f a (nI i) = some (sumI (fun j => bI (decide (S 0 j = v))) i d a) := by
  intro d
  induction d with
  | zero =>
    intro i f a hi hf
    obtain ⟨f, rfl⟩ := f1 hf
    rw [m_X3_cellsWith_L4, if_pos (show (108 : Int32) ≤ nI i from nI_le (a := 108) (by omega) (by omega))]
    rfl
  | succ d ih =>
    intro i f a hi hf
    obtain ⟨f, rfl⟩ := f1 hf
    rw [m_X3_cellsWith_L4, if_neg (show ¬ (108 : Int32) ≤ nI i from nI_ge (b := 108) (by omega) (by omega)), hN.1, chk_t (inb_nI (by omega) (by decide)), nI_clamp (n := i) (by omega), R.ce (by omega), nI_1]
    show _ = some (sumI (fun j => bI (decide (S 0 j = v))) (i + 1) d (a + bI (decide (S 0 i = v))))
    by_cases h : S 0 i = v
    · rw [if_pos h, decide_eq_true h, mlet_s, mlet_s, ih (i + 1) f _ (by omega) (by omega)]; rfl
    · rw [if_neg h, decide_eq_false h, mlet_s, ih (i + 1) f _ (by omega) (by omega), show a + bI false = a from Int32.add_zero a]
theorem cells_s (R : CR n M S) (hN : SN n) (v : Int32) (hf : 110 < fu) : m_X3_cellsWith fu M (n + 1) v = some (cntS S v) := by
  have e := cells_L4 (fu := fu) R hN v 108 0 fu 0 (by omega) (by omega)
  rw [nI_0] at e
  rw [m_X3_cellsWith, e]
  rfl
theorem bars_L4 (R : CR n M S) (W : WF c p S) (hN : SN n) : ∀ (d i f : Nat) (a : Int32), i + d = 108 → d < f → m_X3_barricades_L4 fu M (n + 1) f a (nI i) = some (sumI (fun j => m0 (S 0 j)) i d a) := by
  intro d
  induction d with
  | zero =>
    intro i f a hi hf
    obtain ⟨f, rfl⟩ := f1 hf
    rw [m_X3_barricades_L4, if_pos (show (108 : Int32) ≤ nI i from nI_le (a := 108) (by omega) (by omega))]
    rfl
  | succ d ih =>
    intro i f a hi hf
    obtain ⟨f, rfl⟩ := f1 hf
    rw [m_X3_barricades_L4, if_neg (show ¬ (108 : Int32) ≤ nI i from nI_ge (b := 108) (by omega) (by omega)), hN.1, chk_t (inb_nI (by omega) (by decide)), nI_clamp (n := i) (by omega), R.ce (by omega), nI_1]
    show _ = some (sumI (fun j => m0 (S 0 j)) (i + 1) d (a + m0 (S 0 i)))
    obtain ⟨q, hq, eq⟩ := W.ce (j := i) (by omega)
    by_cases h : S 0 i ≤ 0
    · have e0 : m0 (S 0 i) = 0 := by
        rw [eq] at h ⊢
        exact (by decide : ∀ q < 5, (¬ cv q ≤ 0 ∨ m0 (cv q) = 0)) q hq |>.resolve_left (fun z => z h)
      rw [if_pos h, mlet_s, ih (i + 1) f _ (by omega) (by omega), e0, Int32.add_zero]
    · have e0 : m0 (S 0 i) = S 0 i := if_neg (fun z => h (Int32.le_of_lt z))
      rw [if_neg h, chk_t (inb_nI (by omega) (by decide)), mlet_s, mlet_s, ih (i + 1) f _ (by omega) (by omega), e0]
theorem bars_s (R : CR n M S) (W : WF c p S) (hN : SN n) (hf : 110 < fu) : m_X3_barricades fu M (n + 1) = some (barS S) := by
  have e := bars_L4 (fu := fu) R W hN 108 0 fu 0 (by omega) (by omega)
  rw [nI_0] at e
  rw [m_X3_barricades, e]
  rfl
theorem left_L4 (R : CR n M S) (W : WF c p S) : ∀ (d i f : Nat) (a : Int32), i + d = c → d < f → m_X1_crowdsLeft_L4 fu M n f a (nI i) = some (sumI (fun j => bI (decide (¬ S 2 j = 0))) i d a) := by
  have h6 := W.c6
  intro d
  induction d with
  | zero =>
    intro i f a hi hf
    obtain ⟨f, rfl⟩ := f1 hf
    rw [m_X1_crowdsLeft_L4, R.nc, W.nc, if_pos (nI_le (by omega) (by omega))]
    rfl
  | succ d ih =>
    intro i f a hi hf
    obtain ⟨f, rfl⟩ := f1 hf
    rw [m_X1_crowdsLeft_L4, R.nc, W.nc, if_neg (nI_ge (by omega) (by omega)), chk_t (inb_nI (by omega) (by decide)), elC_nI n (by omega), scat_s R (by omega), cb1_s, nI_1]
    show _ = some (sumI (fun j => bI (decide (¬ S 2 j = 0))) (i + 1) d (a + bI (decide (¬ S 2 i = 0))))
    by_cases h : S 2 i = 0
    · rw [decide_eq_true h, if_neg (show ¬ bI true = 0 by decide), decide_eq_false (fun z => z h), mlet_s, ih (i + 1) f _ (by omega) (by omega), show a + bI false = a from Int32.add_zero a]
    · rw [decide_eq_false h, if_pos (show bI false = 0 by decide), decide_eq_true h, mlet_s, mlet_s, ih (i + 1) f _ (by omega) (by omega)]; rfl
theorem left_s (R : CR n M S) (W : WF c p S) (hf : 10 < fu) : m_X1_crowdsLeft fu M n = some (lftS S c) := by
  have h6 := W.c6
  have e := left_L4 (fu := fu) R W c 0 fu 0 (by omega) (by omega)
  rw [nI_0] at e
  rw [m_X1_crowdsLeft, e]
  rfl
theorem ppl_L4 (R : CR n M S) (W : WF c p S) : ∀ (d i f : Nat) (a : Int32), i + d = c → d < f → m_X1_peopleLeft_L4 fu M n f a (nI i) = some (sumI (fun j => S 2 j) i d a) := by
  have h6 := W.c6
  intro d
  induction d with
  | zero =>
    intro i f a hi hf
    obtain ⟨f, rfl⟩ := f1 hf
    rw [m_X1_peopleLeft_L4, R.nc, W.nc, if_pos (nI_le (by omega) (by omega))]
    rfl
  | succ d ih =>
    intro i f a hi hf
    obtain ⟨f, rfl⟩ := f1 hf
    rw [m_X1_peopleLeft_L4, R.nc, W.nc, if_neg (nI_ge (by omega) (by omega)), chk_t (inb_nI (by omega) (by decide)), elC_nI n (by omega), R.pe (by omega), nI_1, mlet_s, mlet_s, ih (i + 1) f _ (by omega) (by omega)]
    rfl
theorem ppl_s (R : CR n M S) (W : WF c p S) (hf : 10 < fu) : m_X1_peopleLeft fu M n = some (pplS S c) := by
  have h6 := W.c6
  have e := ppl_L4 (fu := fu) R W c 0 fu 0 (by omega) (by omega)
  rw [nI_0] at e
  rw [m_X1_peopleLeft, e]
  rfl
theorem mis_L4 (R : CR n M S) (W : WF c p S) : ∀ (d i f : Nat) (a : Int32), i + d = c → d < f → m_X1_ordersMissed_L4 fu M n f a (nI i) = some (sumI (fun j => S 5 j) i d a) := by
  have h6 := W.c6
  intro d
  induction d with
  | zero =>
    intro i f a hi hf
    obtain ⟨f, rfl⟩ := f1 hf
    rw [m_X1_ordersMissed_L4, R.nc, W.nc, if_pos (nI_le (by omega) (by omega))]
    rfl
  | succ d ih =>
    intro i f a hi hf
    obtain ⟨f, rfl⟩ := f1 hf
    rw [m_X1_ordersMissed_L4, R.nc, W.nc, if_neg (nI_ge (by omega) (by omega)), chk_t (inb_nI (by omega) (by decide)), elC_nI n (by omega), R.mi (by omega), nI_1, mlet_s, mlet_s, ih (i + 1) f _ (by omega) (by omega)]
    rfl
theorem mis_s (R : CR n M S) (W : WF c p S) (hf : 10 < fu) : m_X1_ordersMissed fu M n = some (misS S c) := by
  have h6 := W.c6
  have e := mis_L4 (fu := fu) R W c 0 fu 0 (by omega) (by omega)
  rw [nI_0] at e
  rw [m_X1_ordersMissed, e]
  rfl
theorem seesC_L4 (R : CR n M S) (W : WF c p S) (hN : SN n) {i : Nat} (hi : i < 3) (hf : 30 < fu) : ∀ (d j f : Nat) (a : Int32), j + d = c → d < f → m_X1_crowdsSeenBy_L4 fu M n (ptl n i) f a (nI j) = some (sumI (fun j => bI (seeS S i j)) j d a) := by
  have h6 := W.c6
  intro d
  induction d with
  | zero =>
    intro j f a hj hf
    obtain ⟨f, rfl⟩ := f1 hf
    rw [m_X1_crowdsSeenBy_L4, R.nc, W.nc, if_pos (nI_le (by omega) (by omega))]
    rfl
  | succ d ih =>
    intro j f a hj hf
    obtain ⟨f, rfl⟩ := f1 hf
    have e := isSeen_s (fu := fu) R W hN (i := i) (j := j) hi (by omega) (by omega)
    rw [m_X1_crowdsSeenBy_L4, R.nc, W.nc, if_neg (nI_ge (by omega) (by omega)), chk_t (inb_nI (by omega) (by decide)), elC_nI n (by omega), e, cb1_s, nI_1]
    show _ = some (sumI (fun j => bI (seeS S i j)) (j + 1) d (a + bI (seeS S i j)))
    cases seeS S i j with
    | false => rw [if_pos (show bI false = 0 by decide), mlet_s, ih (j + 1) f a (by omega) (by omega), show a + bI false = a from Int32.add_zero a]
    | true => rw [if_neg (show ¬ bI true = 0 by decide), mlet_s, mlet_s, ih (j + 1) f _ (by omega) (by omega)]; rfl
theorem seesC_s (R : CR n M S) (W : WF c p S) (hN : SN n) {i : Nat} (hi : i < 3) (hf : 30 < fu) : m_X1_crowdsSeenBy fu M n (ptl n i) = some (seesC S c i) := by
  have h6 := W.c6
  have e := seesC_L4 (fu := fu) R W hN hi hf c 0 fu 0 (by omega) (by omega)
  rw [nI_0] at e
  rw [m_X1_crowdsSeenBy, e]
  rfl
theorem w8 {w : Nat} (h : w < 8) : w = 0 ∨ w = 1 ∨ w = 2 ∨ w = 3 ∨ w = 4 ∨ w = 5 ∨ w = 6 ∨ w = 7 := by omega
theorem w4 {w : Nat} (h : w < 4) : w = 0 ∨ w = 1 ∨ w = 2 ∨ w = 3 := by omega
theorem total_s (R : CR n M S) (W : WF c p S) (hN : SN n) (hf : 110 < fu) {w : Nat} (hw : w < 8) : m_X1_total fu M n (nI w) = some (totS S c p w) := by
  unfold m_X1_total
  rw [cells_s R hN _ hf, cells_s R hN _ hf, bars_s R W hN hf, left_s R W (by omega), ppl_s R W (by omega), mis_s R W (by omega), R.st, R.np, W.np]
  rcases w8 hw with rfl | rfl | rfl | rfl | rfl | rfl | rfl | rfl <;> rfl
theorem crowdN_s (R : CR n M S) (W : WF c p S) (hN : SN n) (hf : 110 < fu) {j w : Nat} (hj : j < 6) (hw : w < 8) : m_X1_crowdNumber fu M n (cwd n j) (nI w) = some (crdS S p j w) := by
  unfold m_X1_crowdNumber
  have e3 : (if S 3 j = 0 then some (0 : Int32) else some 1) = some (S 3 j) := by
    obtain ⟨q, hq, eq⟩ := W.to hj
    rw [eq]
    exact (by decide : ∀ q < 2, (if nI q = 0 then some (0 : Int32) else some 1) = some (nI q)) q hq
  rw [R.pl hj, R.pe hj, R.to hj, R.oc hj, R.mi hj, first_s R W hN hj, seenC_s R W hN hj (by omega), e3]
  rcases w8 hw with rfl | rfl | rfl | rfl | rfl | rfl | rfl | rfl <;> rfl
theorem guardN_s (R : CR n M S) (W : WF c p S) (D : RD p S) (hN : SN n) (hf : 110 < fu) {i w : Nat} (hi : i < p) (hw : w < 4) : m_X1_guardNumber fu M n (ptl n i) (nI w) = some (grdS S c i w) := by
  have h3 := W.p3
  have hi3 : i < 3 := by omega
  obtain ⟨w', ln, q, t, hw', e13, e12, e8, hq, hl, -, e7, ht, ed⟩ := pat_k W D hi
  have e1 : m_X2_nextDirection fu M (ptl n i) = some (nI (dirS S i)) := by
    unfold m_X2_nextDirection
    rw [R.rd hi3, R.ne hi3, e13, e8, dir_n hw' (by omega), ed]
  unfold m_X1_guardNumber
  rw [R.po hi3, e1, seesC_s R W hN hi3 (by omega)]
  rcases w4 hw with rfl | rfl | rfl | rfl <;> rfl
/-! the reference's counts -/
end Cnt

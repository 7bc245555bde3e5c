/-! ===== the class's calls, where they are not refused ===== -/
theorem xb_r {α β : Type} (a : α) (f : α → Option (Nat ⊕ β)) : xb (some (Sum.inr a)) f = f a := rfl
theorem nbd_r {α β : Type} (a : α) (f : α → Option β) : nbd (some (Sum.inr a)) f = f a := rfl
theorem lb_r {α β : Type} (a : α) (fx : Nat → Option β) (f : α → Option β) : lb (some (Sum.inr a)) fx f = f a := rfl
theorem lb_l {α β : Type} (k : Nat) (fx : Nat → Option β) (f : α → Option β) : lb (some (Sum.inl k) : Option (Nat ⊕ α)) fx f = fx k := rfl
theorem four_dec : ∀ ln < 13, ln = 0 ∨ (1 : Int32) <<< ((2 * nI ln) &&& 31) = nI (4 ^ ln) := by decide +kernel
theorem four_le : ∀ ln < 13, 4 ^ ln ≤ 2 ^ 24 := by decide
def gatS (S : Mem) (c q v : Nat) : Mem := mst (mst (mst (mst S 1 c (nI q)) 2 c (nI v)) 3 c 1) 10 0 (nI (c + 1))
def patS (S : Mem) (p q ln w : Nat) : Mem := mst (mst (mst (mst S 7 p (nI q)) 12 p (nI ln)) 13 p (nI w)) 11 0 (nI (p + 1))
def addS (S : Mem) (i m j : Nat) : Mem := mst (mst S 6 (24 * i + m) (nI j)) 4 i (nI (m + 1))
section CallsK
variable {c p fu : Nat} {M N S : Mem}
theorem CR.lo (R : CR 0 M S) (w : ∀ a, a < 20 → N a = M a) : CR 0 N S := R.fm (fun a _ h => w a (by omega))
theorem CR.wor {n : Nat} (hI : LInj 14 (LC n)) (R : CR n M S) {i j : Nat} (h : i < 6) (hj : j < 24) (x : Int32) : CR n (mst M (cwd n i + 1) j x) (mst S 6 (24 * i + j) x) := by
  have h1 := CR.wr hI R (f := 6) (i := 24 * i + j) (by decide) (show 24 * i + j < 144 by omega) x
  have e1 : (24 * i + j) / 24 = i := by omega
  have e2 : (24 * i + j) % 24 = j := by omega
  simp only [LC, e1, e2] at h1
  exact h1
theorem CR.wln {n : Nat} (hI : LInj 14 (LC n)) (R : CR n M S) {i : Nat} (h : i < 3) (x : Int32) : CR n (mst M (ptl n i) 1 x) (mst S 12 i x) := CR.wr hI R (f := 12) (by decide) h x
theorem CR.wrd {n : Nat} (hI : LInj 14 (LC n)) (R : CR n M S) {i : Nat} (h : i < 3) (x : Int32) : CR n (mst M (ptl n i) 2 x) (mst S 13 i x) := CR.wr hI R (f := 13) (by decide) h x
theorem WF.gat (W : WF c p S) (h : c < 6) {q v : Nat} (hq : q < 108) (hv : v < 10) : WF (c + 1) p (gatS S c q v) := by
  have W1 := ((W.w1 (j := c) ⟨q, hq, rfl⟩).w2 (j := c) ⟨v, hv, rfl⟩).w3 (j := c) (x := 1) ⟨1, by decide, rfl⟩
  obtain ⟨h0, h1, h2, h3, h4, h5, h6, h7, h8, h9, h10, h11⟩ := W1
  unfold gatS
  refine ⟨by omega, h1, mst_s _ _ _ _, ?_, ?_, ?_, ?_, ?_, ?_, ?_, ?_, ?_⟩
  · rw [mst_ne (by decide)]; exact h3
  · rw [mst_ne (by decide)]; exact h4
  · rw [mst_ne (by decide)]; exact h5
  · rw [mst_ne (by decide)]; exact h6
  · rw [mst_ne (by decide)]; exact h7
  · rw [mst_ne (by decide)]; exact h8
  · rw [mst_ne (by decide)]; exact h9
  · rw [mst_ne (by decide)]; exact h10
  · rw [mst_ne (show (8 : Nat) ≠ 10 by decide), mst_ne (show (12 : Nat) ≠ 10 by decide)]; exact h11
theorem WF.pat (W : WF c p S) (h : p < 3) {q ln : Nat} (hq : q < 108) (h1 : 1 ≤ ln) (h2 : ln ≤ 12) (w : Nat) : WF c (p + 1) (patS S p q ln w) := by
  obtain ⟨h0, h1', h2', h3, h4, h5, h6, h7, h8, h9, h10, h11⟩ := W.w7 (j := p) ⟨q, hq, rfl⟩
  unfold patS
  refine ⟨h0, by omega, ?_, mst_s _ _ _ _, ?_, ?_, ?_, ?_, ?_, ?_, ?_, ?_⟩
  · rw [mst_ne (by decide), mst_ne (by decide), mst_ne (by decide)]; exact h2'
  · rw [mst_ne (by decide), mst_ne (by decide), mst_ne (by decide)]; exact h4
  · rw [mst_ne (by decide), mst_ne (by decide), mst_ne (by decide)]; exact h5
  · rw [mst_ne (by decide), mst_ne (by decide), mst_ne (by decide)]; exact h6
  · rw [mst_ne (by decide), mst_ne (by decide), mst_ne (by decide)]; exact h7
  · rw [mst_ne (by decide), mst_ne (by decide), mst_ne (by decide)]; exact h8
  · rw [mst_ne (by decide), mst_ne (by decide), mst_ne (by decide)]; exact h9
  · rw [mst_ne (by decide), mst_ne (by decide), mst_ne (by decide)]; exact h10
  · rw [mst_ne (show (8 : Nat) ≠ 11 by decide), mst_ne (show (8 : Nat) ≠ 13 by decide), mst_ne (show (8 : Nat) ≠ 12 by decide), mst_ne (show (12 : Nat) ≠ 11 by decide), mst_ne (show (12 : Nat) ≠ 13 by decide)]
    intro i hi
    obtain ⟨z, l, g1, g2, g3, g4, g5, g6⟩ := h11 i hi
    by_cases e : i = p
    · subst e
      have z0 := g6 (Nat.le_refl i)
      subst z0
      refine ⟨0, ln, g1, mst_s _ _ _ _, Nat.zero_le ln, h2, fun _ => by omega, fun _ => rfl⟩
    · have h12e : mst (mst S 7 p (nI q)) 12 p (nI ln) 12 i = mst S 7 p (nI q) 12 i := mst_o (fun z => e z.2)
      rw [h12e]
      exact ⟨z, l, g1, g2, g3, g4, fun h => g5 (by omega), fun h => g6 (by omega)⟩
theorem RD.pat (D : RD p S) {q ln w : Nat} (h2 : ln ≤ 12) (hw : w < 2 ^ 24) : RD (p + 1) (patS S p q ln w) := by
  intro i hi
  unfold patS
  by_cases e : i = p
  · subst e
    refine ⟨w, ln, hw, h2, ?_, ?_⟩
    · rw [mst_ne (by decide), mst_s]
    · rw [mst_ne (by decide), mst_ne (by decide), mst_s]
  · obtain ⟨a, b, d1, d2, d3, d4⟩ := D i (by omega)
    refine ⟨a, b, d1, d2, ?_, ?_⟩
    · rw [mst_ne (by decide), mst_o (fun z => e z.2), mst_ne (by decide), mst_ne (by decide)]; exact d3
    · rw [mst_ne (by decide), mst_ne (by decide), mst_o (fun z => e z.2), mst_ne (by decide)]; exact d4
theorem place_s {a b : Nat} (ha : a < 12) (hb : b < 9) : m_X5_placeOf fu M (nI a) (nI b) = some (Sum.inr (nI (12 * b + a))) := by
  rw [m_X5_placeOf, if_neg (nI_pos (by omega)), if_neg (show ¬ (12 : Int32) ≤ nI a from nI_ge (b := 12) ha (by omega)), if_neg (nI_pos (by omega)), if_pos (show nI b < 9 from nI_lt (b := 9) hb (by omega)), show (12 : Int32) * nI b = nI (12 * b) from pk_mul 12 b, nI_add]
theorem needC_s (R : CR 0 M S) (W : WF c p S) {i : Nat} (hi : i < c) : m_X5_needCrowd fu M 40 (nI i) = some (Sum.inr ()) := by
  have h6 := W.c6
  rw [m_X5_needCrowd, R.nc, W.nc, if_neg (nI_pos (by omega)), if_pos (nI_lt hi (by omega))]
theorem needC_n (R : CR 0 M S) (W : WF c p S) : m_X5_needCrowd fu M 40 (nI c) = some (Sum.inl 1) := by
  have h6 := W.c6
  rw [m_X5_needCrowd, R.nc, W.nc, if_neg (nI_pos (by omega)), if_neg (nI_nlt (Nat.le_refl c) (by omega))]
theorem needP_s (R : CR 0 M S) (W : WF c p S) {i : Nat} (hi : i < p) : m_X5_needPatrol fu M 40 (nI i) = some (Sum.inr ()) := by
  have h6 := W.p3
  rw [m_X5_needPatrol, R.np, W.np, if_neg (nI_pos (by omega)), if_pos (nI_lt hi (by omega))]
theorem needW_s {w n : Nat} (hw : w < n) (hn : n < 2 ^ 30) : m_X5_needWhat fu M (nI w) (nI n) = some (Sum.inr ()) := by
  rw [m_X5_needWhat, if_neg (nI_pos (by omega)), if_pos (nI_lt hw (by omega))]
theorem needS_s {m : Nat} (h1 : 1 ≤ m) (hm : m ≤ 60) : m_X5_needSteps fu M (nI m) = some (Sum.inr ()) := by
  unfold m_X5_needSteps
  rw [if_neg (show ¬ nI m < 1 from nI_nlt (b := 1) h1 (by omega)), if_pos (show nI m ≤ 60 from nI_le (b := 60) hm (by omega))]
theorem cell_k (R : CR 0 M S) {a b : Nat} (ha : a < 12) (hb : b < 9) : m_X5_cell fu M 40 (nI a) (nI b) = some (Sum.inr (S 0 (12 * b + a))) := by
  have hat : m_X3_at fu M (0 + 1) (nI (12 * b + a)) = some (S 0 (12 * b + a)) := at_s (o := some (12 * b + a)) R SN_0 (fun z hz => by cases hz; omega)
  unfold m_X5_cell
  rw [place_s ha hb, xb_r, hat]
  rfl
theorem house_k (hf : 30 < fu) (R : CR 0 M S) (W : WF 0 0 S) {a b : Nat} (ha : a < 12) (hb : b < 9) (h0 : S 0 (12 * b + a) = 0) : ∃ M1, m_X5_house fu M 40 (nI a) (nI b) = some (Sum.inr (M1, 1)) ∧ CR 0 M1 (mst S 0 (12 * b + a) (-1)) := by
  have hat : m_X3_at fu M (0 + 1) (nI (12 * b + a)) = some (S 0 (12 * b + a)) := at_s (o := some (12 * b + a)) R SN_0 (fun z hz => by cases hz; omega)
  have htk := isTaken_s (fu := fu) R W (nI (12 * b + a)) (by omega)
  obtain ⟨M1, p1, R1, -⟩ := put_s (fu := fu) (o := some (12 * b + a)) LI_0 R SN_0 (fun z hz => by cases hz; omega) (-1)
  have p1 : m_X3_put fu M (0 + 1) (nI (12 * b + a)) (-1) = some M1 := p1
  refine ⟨M1, ?_, R1⟩
  unfold m_X5_house
  rw [place_s ha hb, xb_r, hat, cb1_s, h0, if_neg (by decide), htk, show busy S 0 0 (nI (12 * b + a)) = false from rfl, cb1_s, if_pos (show bI false = 0 by decide), if_neg (by decide), p1]
  rfl
theorem block_k (hf : 30 < fu) (R : CR 0 M S) (W : WF 0 0 S) {a b j : Nat} (ha : a < 12) (hb : b < 9) (hj : j < 4) (h0 : ¬ S 0 (12 * b + a) = -1) : ∃ M1, m_X5_block fu M 40 (nI a) (nI b) (nI j) = some (Sum.inr (M1, S 0 (12 * b + a))) ∧ CR 0 M1 (mst S 0 (12 * b + a) (nI j)) := by
  have hat : m_X3_at fu M (0 + 1) (nI (12 * b + a)) = some (S 0 (12 * b + a)) := at_s (o := some (12 * b + a)) R SN_0 (fun z hz => by cases hz; omega)
  have htk := isTaken_s (fu := fu) R W (nI (12 * b + a)) (by omega)
  obtain ⟨M1, p1, R1, -⟩ := put_s (fu := fu) (o := some (12 * b + a)) LI_0 R SN_0 (fun z hz => by cases hz; omega) (nI j)
  have p1 : m_X3_put fu M (0 + 1) (nI (12 * b + a)) (nI j) = some M1 := p1
  refine ⟨M1, ?_, R1⟩
  have c1 : ¬ nI j < 0 := nI_pos (by omega)
  have c2 : nI j ≤ 3 := nI_le (b := 3) (by omega) (by omega)
  unfold m_X5_block
  rw [place_s ha hb, xb_r, if_neg c1, if_pos c2, hat, cb1_s, if_neg h0, htk, show busy S 0 0 (nI (12 * b + a)) = false from rfl, cb1_s, if_pos (show bI false = 0 by decide), p1]
  rfl
theorem gather_k (hf : 30 < fu) (R : CR 0 M S) (W : WF c p S) {a b v : Nat} (ha : a < 12) (hb : b < 9) (hv1 : 1 ≤ v) (hv : v ≤ 9) : ∃ M1 r, m_L_gather fu M 40 (nI a) (nI b) (nI v) = some (M1, r) ∧ (CR 0 M1 S ∨ (c < 6 ∧ S 0 (12 * b + a) = 0 ∧ CR 0 M1 (gatS S c (12 * b + a) v))) := by
  have h6 := W.c6
  obtain ⟨q, eq⟩ : ∃ q, q = 12 * b + a := ⟨_, rfl⟩
  have hq : q < 108 := by omega
  have e1 : ∀ N, m_X5_placeOf fu N (nI a) (nI b) = some (Sum.inr (nI q)) := fun N => by rw [eq]; exact place_s ha hb
  rw [← eq]
  have hfr : m_X3_isFree fu M (0 + 1) (nI q) = some (bI (decide (S 0 q = 0))) := isFree_s (o := some q) R SN_0 (fun z hz => by cases hz; exact hq)
  have c1 : ¬ nI v < 1 := nI_nlt (b := 1) hv1 (by omega)
  have c2 : nI v ≤ 9 := nI_le (b := 9) (by omega) (by omega)
  by_cases hc : c = 6
  · refine ⟨M, -1, ?_, Or.inl R⟩
    unfold m_L_gather m_X5_gather
    rw [e1, xb_r, if_neg c1, if_pos c2, R.nc, W.nc, if_pos (show (6 : Int32) ≤ nI c from nI_le (a := 6) (by omega) (by omega))]
    rfl
  · by_cases h0 : S 0 q = 0
    · have hc6 : c < 6 := by omega
      have R1 : CR 0 (mst (mst (mst (mst M (cwd 0 c) 0 (nI q)) (cwd 0 c) 1 (nI v)) (cwd 0 c) 2 1) 0 2 (nI (c + 1))) (gatS S c q v) := CR.wr LI_0 (((R.wpl LI_0 hc6 (nI q)).wpe LI_0 hc6 (nI v)).wto LI_0 hc6 1) (f := 10) (i := 0) (by decide) (by decide) (nI (c + 1))
      have hcw : (0 : Nat) ≠ cwd 0 c := by unfold cwd; omega
      refine ⟨_, nI c, ?_, Or.inr ⟨hc6, h0, R1⟩⟩
      unfold m_L_gather m_X5_gather m_X1_addCrowd
      rw [e1, xb_r, if_neg c1, if_pos c2, R.nc, W.nc, if_neg (show ¬ (6 : Int32) ≤ nI c from nI_ge (b := 6) hc6 (by omega)), hfr, decide_eq_true h0, cb1_s, if_neg (show ¬ bI true = 0 by decide), mlet_s, if_neg (show ¬ (6 : Int32) ≤ nI c from nI_ge (b := 6) hc6 (by omega)), chk_t (inb_nI hc6 (by decide)), elC_nI 0 (by omega), mlet_s, chk_t (inb_nI hc6 (by decide)), mlet_s, chk_t (inb_nI hc6 (by decide)), mlet_s, mst_ne hcw, mst_ne hcw, mst_ne hcw, R.nc, W.nc, nI_1, mlet_s]
      rfl
    · refine ⟨M, -1, ?_, Or.inl R⟩
      unfold m_L_gather m_X5_gather
      rw [e1, xb_r, if_neg c1, if_pos c2, R.nc, W.nc, if_neg (show ¬ (6 : Int32) ≤ nI c from nI_ge (b := 6) (by omega) (by omega)), hfr, decide_eq_false h0, cb1_s, if_pos (show bI false = 0 by decide)]
      rfl
theorem patrol_k (hf : 30 < fu) (R : CR 0 M S) (W : WF c p S) {a b ln w : Nat} (ha : a < 12) (hb : b < 9) (hl1 : 1 ≤ ln) (hl : ln ≤ 12) (hw : w < 4 ^ ln) : ∃ M1 r, m_L_patrol fu M 40 (nI a) (nI b) (nI ln) (nI w) = some (M1, r) ∧ (CR 0 M1 S ∨ (p < 3 ∧ S 0 (12 * b + a) = 0 ∧ CR 0 M1 (patS S p (12 * b + a) ln w))) := by
  have h3 := W.p3
  obtain ⟨q, eq⟩ : ∃ q, q = 12 * b + a := ⟨_, rfl⟩
  have hq : q < 108 := by omega
  have e1 : ∀ N, m_X5_placeOf fu N (nI a) (nI b) = some (Sum.inr (nI q)) := fun N => by rw [eq]; exact place_s ha hb
  rw [← eq]
  have hfr : m_X3_isFree fu M (0 + 1) (nI q) = some (bI (decide (S 0 q = 0))) := isFree_s (o := some q) R SN_0 (fun z hz => by cases hz; exact hq)
  have c1 : ¬ nI ln < 1 := nI_nlt (b := 1) hl1 (by omega)
  have c2 : ¬ 12 < nI ln := nI_nlt (a := 12) (by omega) (by omega)
  have k4 : (1 : Int32) <<< ((2 * nI ln) &&& 31) = nI (4 ^ ln) := (four_dec ln (by omega)).resolve_left (by omega)
  have k4b := four_le ln (by omega)
  have c3 : ¬ nI w < 0 := nI_pos (by omega)
  have c4 : nI w < nI (4 ^ ln) := nI_lt hw (by omega)
  by_cases hp : p = 3
  · refine ⟨M, -1, ?_, Or.inl R⟩
    unfold m_L_patrol m_X5_patrol
    rw [e1, xb_r, if_neg c1, if_neg c2, if_neg c3, k4, if_pos c4, R.np, W.np, if_pos (show (3 : Int32) ≤ nI p from nI_le (a := 3) (by omega) (by omega))]
    rfl
  · have hp3 : p < 3 := by omega
    by_cases h0 : S 0 q = 0
    · have R1 : CR 0 (mst (mst (mst (mst M (ptl 0 p) 0 (nI q)) (ptl 0 p) 1 (nI ln)) (ptl 0 p) 2 (nI w)) 0 4 (nI (p + 1))) (patS S p q ln w) := CR.wr LI_0 (((R.wpo LI_0 hp3 (nI q)).wln LI_0 hp3 (nI ln)).wrd LI_0 hp3 (nI w)) (f := 11) (i := 0) (by decide) (by decide) (nI (p + 1))
      have hcw : (0 : Nat) ≠ ptl 0 p := by unfold ptl; omega
      refine ⟨_, nI p, ?_, Or.inr ⟨hp3, h0, R1⟩⟩
      unfold m_L_patrol m_X5_patrol m_X1_addPatrol
      rw [e1, xb_r, if_neg c1, if_neg c2, if_neg c3, k4, if_pos c4, R.np, W.np, if_neg (show ¬ (3 : Int32) ≤ nI p from nI_ge (b := 3) hp3 (by omega)), hfr, decide_eq_true h0, cb1_s, if_neg (show ¬ bI true = 0 by decide), mlet_s, if_neg (show ¬ (3 : Int32) ≤ nI p from nI_ge (b := 3) hp3 (by omega)), chk_t (inb_nI hp3 (by decide)), elP_nI 0 (by omega), mlet_s, chk_t (inb_nI hp3 (by decide)), mlet_s, chk_t (inb_nI hp3 (by decide)), mlet_s, mst_ne hcw, mst_ne hcw, mst_ne hcw, R.np, W.np, nI_1, mlet_s]
      rfl
    · refine ⟨M, -1, ?_, Or.inl R⟩
      unfold m_L_patrol m_X5_patrol
      rw [e1, xb_r, if_neg c1, if_neg c2, if_neg c3, k4, if_pos c4, R.np, W.np, if_neg (show ¬ (3 : Int32) ≤ nI p from nI_ge (b := 3) hp3 (by omega)), hfr, decide_eq_false h0, cb1_s, if_pos (show bI false = 0 by decide)]
      rfl
theorem order_k (R : CR 0 M S) (W : WF c p S) {i j m : Nat} (hi : i < c) (hj : j < 12) (h2 : ¬ S 2 i = 0) (em : S 4 i = nI m) (hm : m < 24) : ∃ M1, m_X5_order fu M 40 (nI i) (nI j) = some (Sum.inr (M1, nI (m + 1))) ∧ CR 0 M1 (addS S i m j) := by
  have h6 := W.c6
  have hi6 : i < 6 := by omega
  have hsc := scat_s (fu := fu) R hi6
  have c1 : ¬ nI j < 0 := nI_pos (by omega)
  have c2 : nI j < 12 := nI_lt (b := 12) (by omega) (by omega)
  have R1 : CR 0 (mst (mst M (cwd 0 i + 1) m (nI j)) (cwd 0 i) 4 (nI (m + 1))) (addS S i m j) := (R.wor LI_0 hi6 hm (nI j)).woc LI_0 hi6 (nI (m + 1))
  refine ⟨_, ?_, R1⟩
  unfold m_X5_order m_X0_addOrder
  rw [needC_s R W hi, xb_r, if_neg c1, if_pos c2, chk_t (inb_nI hi6 (by decide)), elC_nI 0 (by omega), hsc, decide_eq_false h2, cb1_s, if_pos (show bI false = 0 by decide), R.oc hi6, em, if_pos (show nI m < 24 from nI_lt (b := 24) hm (by omega)), if_neg (nI_pos (by omega)), if_neg (show ¬ (24 : Int32) ≤ nI m from nI_ge (b := 24) hm (by omega)), SN_0.2 i hi6, chk_t (inb_nI hm (by decide)), nI_clamp (n := m) (by omega), mlet_s, mst_ne (show cwd 0 i ≠ cwd 0 i + 1 by omega), R.oc hi6, em, nI_1, mlet_s, cb1_s, mst_s]
theorem order_n (R : CR 0 M S) (W : WF c p S) {i j m : Nat} (hi : i < c) (hj : j < 12) (em : S 4 i = nI m) (hm : m < 25) (h : S 2 i = 0 ∨ m = 24) : m_X5_order fu M 40 (nI i) (nI j) = some (Sum.inl 2) := by
  have h6 := W.c6
  have hi6 : i < 6 := by omega
  have hsc := scat_s (fu := fu) R hi6
  have c1 : ¬ nI j < 0 := nI_pos (by omega)
  have c2 : nI j < 12 := nI_lt (b := 12) (by omega) (by omega)
  unfold m_X5_order
  by_cases h2 : S 2 i = 0
  · rw [needC_s R W hi, xb_r, if_neg c1, if_pos c2, chk_t (inb_nI hi6 (by decide)), elC_nI 0 (by omega), hsc, decide_eq_true h2, cb1_s, if_neg (show ¬ bI true = 0 by decide)]
  · have h24 := h.resolve_left h2
    subst h24
    rw [needC_s R W hi, xb_r, if_neg c1, if_pos c2, chk_t (inb_nI hi6 (by decide)), elC_nI 0 (by omega), hsc, decide_eq_false h2, cb1_s, if_pos (show bI false = 0 by decide), R.oc hi6, em, if_neg (by decide)]
theorem torch_k (R : CR 0 M S) (W : WF c p S) {i : Nat} (hi : i < c) (h2 : ¬ S 2 i = 0) : ∃ M1 r t, m_X5_torch fu M 40 (nI i) = some (Sum.inr (M1, r)) ∧ t < 2 ∧ CR 0 M1 (mst S 3 i (nI t)) := by
  have h6 := W.c6
  have hi6 : i < 6 := by omega
  have hsc := scat_s (fu := fu) R hi6
  obtain ⟨t, ht, et⟩ := W.to hi6
  unfold m_X5_torch
  rw [needC_s R W hi, xb_r, chk_t (inb_nI hi6 (by decide)), elC_nI 0 (by omega), hsc, decide_eq_false h2, cb1_s, if_pos (show bI false = 0 by decide), R.to hi6, et]
  rcases (show t = 0 ∨ t = 1 by omega) with rfl | rfl
  · refine ⟨mst M (cwd 0 i) 2 1, 1, 1, ?_, by decide, R.wto LI_0 hi6 1⟩
    simp [mlet, mst_s]
    rfl
  · refine ⟨mst M (cwd 0 i) 2 0, 0, 0, ?_, by decide, R.wto LI_0 hi6 0⟩
    simp [mlet, mst_s]
    rfl
theorem crowd_k (hf : 120 < fu) (R : CR 0 M S) (W : WF c p S) {i w : Nat} (hi : i < c) (hw : w < 8) : m_X5_crowd fu M 40 (nI i) (nI w) = some (Sum.inr (crdS S p i w)) := by
  have h6 := W.c6
  have hn := crowdN_s (fu := fu) R W SN_0 (by omega) (j := i) (w := w) (by omega) hw
  have e3 : ∀ M, m_X5_needWhat fu M (nI w) 8 = some (Sum.inr ()) := fun M => needW_s (n := 8) hw (by decide)
  unfold m_X5_crowd
  rw [needC_s R W hi, xb_r, e3, xb_r, chk_t (inb_nI (by omega) (by decide)), elC_nI 0 (by omega), hn]
  rfl
theorem guard_k (hf : 120 < fu) (R : CR 0 M S) (W : WF c p S) (D : RD p S) {i w : Nat} (hi : i < p) (hw : w < 4) : m_X5_guard fu M 40 (nI i) (nI w) = some (Sum.inr (grdS S c i w)) := by
  have h3 := W.p3
  have hn := guardN_s (fu := fu) (c := c) R W D SN_0 (by omega) hi hw
  have e3 : ∀ M, m_X5_needWhat fu M (nI w) 4 = some (Sum.inr ()) := fun M => needW_s (n := 4) hw (by decide)
  unfold m_X5_guard
  rw [needP_s R W hi, xb_r, e3, xb_r, chk_t (inb_nI (by omega) (by decide)), elP_nI 0 (by omega), hn]
  rfl
theorem sees_k (hf : 120 < fu) (R : CR 0 M S) (W : WF c p S) {i j : Nat} (hi : i < p) (hj : j < c) : m_X5_sees fu M 40 (nI i) (nI j) = some (Sum.inr (bI (seeS S i j))) := by
  have h3 := W.p3
  have h6 := W.c6
  have hn := isSeen_s (fu := fu) (n := 0) R W SN_0 (i := i) (j := j) (by omega) (by omega) (by omega)
  unfold m_X5_sees
  rw [needP_s R W hi, xb_r, needC_s R W hj, xb_r, chk_t (inb_nI (by omega) (by decide)), elP_nI 0 (by omega), chk_t (inb_nI (by omega) (by decide)), elC_nI 0 (by omega), hn, cb1_s, chk_t (isb_bI _)]
theorem count_k (hf : 120 < fu) (R : CR 0 M S) (W : WF c p S) {w : Nat} (hw : w < 8) : m_X5_count fu M 40 (nI w) = some (Sum.inr (totS S c p w)) := by
  have hn := total_s (fu := fu) R W SN_0 (by omega) hw
  have e3 : ∀ M, m_X5_needWhat fu M (nI w) 8 = some (Sum.inr ()) := fun M => needW_s (n := 8) hw (by decide)
  unfold m_X5_count
  rw [e3, xb_r, hn]
  rfl
theorem shuts_k (hf : 120 < fu) (R : CR 0 M S) : ∃ M1 r, m_X5_shuts fu M 40 = some (M1, nI r) ∧ ShV S r ∧ r ≤ 9 ∧ ∀ a, a < 20 → M1 a = M a := by
  obtain ⟨M1, r, e, h, h9, w⟩ := shut_v (fu := fu) (by decide) SN_0 hf R
  refine ⟨M1, r, ?_, h, h9, fun a ha => w a (by omega)⟩
  unfold m_X5_shuts
  rw [e]
  rfl
theorem pass_k (hf : 120 < fu) (R : CR 0 M S) (W : WF c p S) (D : RD p S) {m : Nat} (h1 : 1 ≤ m) (hm : m ≤ 60) : ∃ M1, m_X5_pass fu M 40 (nI m) = some (Sum.inr (M1, pplS S c - pplS (stN S c p m) c)) ∧ CR 0 M1 (stN S c p m) := by
  obtain ⟨M1, g1, R1, -⟩ := goOn_s (fu := fu) LI_0 SN_0 (by omega) hm R W D
  have W1 := WF.stN m S W D
  have p1 := ppl_s (fu := fu) R W (by omega)
  have p2 := ppl_s (fu := fu) R1 W1 (by omega)
  refine ⟨M1, ?_, R1⟩
  unfold m_X5_pass
  rw [needS_s h1 hm, xb_r, p1, cb1_s, g1, cb1_s, p2, cb1_s]
theorem fore_k0 (hf : 120 < fu) (R : CR 0 M S) (W : WF c p S) (D : RD p S) : ∃ M1, m_X5_foresee fu M 40 1 0 = some (Sum.inr (M1, pplS (stepS S c p) c)) ∧ ∀ a, a < 20 → M1 a = M a := by
  obtain ⟨M1, g1, R1, f1⟩ := become_s (fu := fu) R W (by omega)
  obtain ⟨M2, g2, R2, f2⟩ := goOn_s (fu := fu) (m := 1) LI_20 SN_20 (by omega) (by decide) R1 W D
  have g2 : m_X1_goOn fu M1 20 1 = some M2 := g2
  have W2 := WF.stN 1 S W D
  have p1 := ppl_s (fu := fu) R2 W2 (by omega)
  have e0 : ∀ M, m_X5_needSteps fu M 1 = some (Sum.inr ()) := fun M => needS_s (m := 1) (by decide) (by decide)
  have e3 : ∀ M, m_X5_needWhat fu M 0 3 = some (Sum.inr ()) := fun M => needW_s (w := 0) (n := 3) (by decide) (by decide)
  refine ⟨M2, ?_, fun a ha => (f2 a (by omega)).trans (f1 a (by omega))⟩
  unfold m_X5_foresee
  rw [e0, xb_r, e3, xb_r, g1, cb1_s, g2, cb1_s, p1, cb1_s]
  rfl
theorem fore_k2 (hf : 120 < fu) (R : CR 0 M S) (W : WF c p S) (D : RD p S) : ∃ M1 r, m_X5_foresee fu M 40 1 2 = some (Sum.inr (M1, nI r)) ∧ ShV (stepS S c p) r ∧ r ≤ 9 ∧ ∀ a, a < 20 → M1 a = M a := by
  obtain ⟨M1, g1, R1, f1⟩ := become_s (fu := fu) R W (by omega)
  obtain ⟨M2, g2, R2, f2⟩ := goOn_s (fu := fu) (m := 1) LI_20 SN_20 (by omega) (by decide) R1 W D
  have g2 : m_X1_goOn fu M1 20 1 = some M2 := g2
  obtain ⟨M3, r, g3, h3, h9, f3⟩ := shut_v (fu := fu) (by decide) SN_20 hf R2
  have e0 : ∀ M, m_X5_needSteps fu M 1 = some (Sum.inr ()) := fun M => needS_s (m := 1) (by decide) (by decide)
  have e3 : ∀ M, m_X5_needWhat fu M 2 3 = some (Sum.inr ()) := fun M => needW_s (w := 2) (n := 3) (by decide) (by decide)
  refine ⟨M3, r, ?_, h3, h9, fun a ha => (f3 a (by omega)).trans ((f2 a (by omega)).trans (f1 a (by omega)))⟩
  unfold m_X5_foresee
  rw [e0, xb_r, e3, xb_r, g1, cb1_s, g2, cb1_s, if_neg (by decide), if_neg (by decide), g3]
  rfl
theorem way_k (hf : 120 < fu) (R : CR 0 M S) {a b a' b' : Nat} (ha : a < 12) (hb : b < 9) (ha' : a' < 12) (hb' : b' < 9) : ∃ M1, m_X5_way fu M 40 (nI a) (nI b) (nI a') (nI b') = some (Sum.inr (M1, wayS S (12 * b + a) (12 * b' + a'))) ∧ ∀ z, z < 20 → M1 z = M z := by
  obtain ⟨M1, g1, w1⟩ := way_s (fu := fu) (by decide) SN_0 hf R (u := 12 * b + a) (v := 12 * b' + a') (by omega) (by omega)
  refine ⟨M1, ?_, fun z hz => w1 z (by omega)⟩
  unfold m_X5_way
  rw [place_s ha hb, xb_r, place_s ha' hb', xb_r, g1]
  rfl
/-! advise -/
def advS (S : Mem) (i code : Nat) : Mem := mst (mst S 4 i 1) 6 (24 * i) (nI code)
theorem WF.adv (W : WF c p S) {i code : Nat} (hi : i < 6) (hc : code < 12) : WF c p (advS S i code) := (W.w4 ⟨1, by decide, rfl⟩).w6 ⟨code, hc, rfl⟩
theorem Kp.adv {i code : Nat} : Kp S (advS S i code) := (Kp.wr (by decide)).tr (Kp.wr (by decide))
theorem adv_trial (hf : 120 < fu) (R : CR 0 M S) (W : WF c p S) (D : RD p S) {i code : Nat} (hi : i < c) (hc : code < 12) : ∃ M2 v, m_X5_shutsBehind fu M 40 (nI i) (nI code) = some (M2, nI v) ∧ v ≤ 9 ∧ ∀ a, a < 20 → M2 a = M a := by
  have h6 := W.c6
  have hi6 : i < 6 := by omega
  obtain ⟨M1, g1, R1, f1⟩ := become_s (fu := fu) R W (by omega)
  have R2 := R1.woc LI_20 hi6 0
  have R3 := R2.wor LI_20 hi6 (j := 0) (by decide) (nI code)
  have R4 := R3.woc LI_20 hi6 1
  have eS : mst (mst (mst S 4 i 0) 6 (24 * i + 0) (nI code)) 4 i 1 = advS S i code := by
    funext a b
    unfold advS
    by_cases h4 : a = 4 ∧ b = i
    · obtain ⟨rfl, rfl⟩ := h4
      rw [mst_s, mst_ne (by decide), mst_s]
    · rw [mst_o h4]
      by_cases h6 : a = 6 ∧ b = 24 * i
      · obtain ⟨rfl, rfl⟩ := h6
        rw [Nat.add_zero, mst_s, mst_s]
      · rw [Nat.add_zero, mst_o h6, mst_o h6, mst_o h4, mst_o h4]
  rw [eS] at R4
  have o0 : (mst M1 (cwd 20 i) 4 0) (cwd 20 i) 4 = 0 := mst_s _ _ _ _
  have e2 : m_X0_addOrder fu (mst M1 (cwd 20 i) 4 0) (cwd 20 i) (nI code) = some (mst (mst (mst M1 (cwd 20 i) 4 0) (cwd 20 i + 1) 0 (nI code)) (cwd 20 i) 4 1) := by
    unfold m_X0_addOrder
    rw [o0, if_neg (by decide), if_neg (by decide), SN_20.2 i hi6, chk_t (by decide), mlet_s, show (0 : Int32).toNatClampNeg = 0 from rfl, mst_ne (show cwd 20 i ≠ cwd 20 i + 1 by omega), o0, mlet_s]
    rfl
  obtain ⟨M2, g2, R5, f2⟩ := goOn_s (fu := fu) (m := 1) LI_20 SN_20 (by omega) (by decide) R4 (W.adv hi6 hc) (D.keep Kp.adv)
  have g2 : m_X1_goOn fu _ 20 1 = some M2 := g2
  obtain ⟨M3, v, g3, -, h9, f3⟩ := shut_v (fu := fu) (by decide) SN_20 (by omega) R5
  refine ⟨M3, v, ?_, h9, fun a ha => ?_⟩
  · unfold m_X5_shutsBehind
    rw [g1, cb1_s, chk_t (inb_nI hi6 (by decide)), elC_nI 20 (by omega), mlet_s, chk_t (inb_nI hi6 (by decide)), e2, cb1_s, g2, cb1_s, g3, cb2_s]
  · have c1 := cwd_in (n := 20) hi6
    have c2 := cwd1_in (n := 20) hi6
    rw [f3 a (by omega), f2 a (by omega), mst_ne (by omega), mst_ne (by omega), mst_ne (by omega), f1 a (by omega)]
theorem adv_L30 (hf : 120 < fu) (W : WF c p S) (D : RD p S) {i : Nat} (hi : i < c) : ∀ (d code g : Nat) (M : Mem) (b : Int32) (l : Nat), code + d = 12 → d < g → l < 2 ^ 30 → CR 0 M S → ∃ M1 r, m_X5_advise_L30 fu 40 (nI i) g M b (nI l) (nI code) = some (M1, r) ∧ (∀ a, a < 20 → M1 a = M a) ∧ (r = b ∨ ∃ j, j < 12 ∧ r = nI j) ∧ (9 < l → 0 < d → ∃ j, j < 12 ∧ r = nI j) := by
  intro d
  induction d with
  | zero =>
    intro code g M b l hc hg hl R
    obtain ⟨g, rfl⟩ := f1 hg
    rw [m_X5_advise_L30, if_pos (show (12 : Int32) ≤ nI code from nI_le (a := 12) (by omega) (by omega))]
    exact ⟨M, b, rfl, fun _ _ => rfl, Or.inl rfl, fun _ h => by omega⟩
  | succ d ih =>
    intro code g M b l hc hg hl R
    obtain ⟨g, rfl⟩ := f1 hg
    obtain ⟨M2, v, e1, h9, w2⟩ := adv_trial (fu := fu) hf R W D hi (code := code) (by omega)
    have R2 : CR 0 M2 S := R.lo (fun a ha => w2 a ha)
    rw [m_X5_advise_L30, if_neg (show ¬ (12 : Int32) ≤ nI code from nI_ge (b := 12) (by omega) (by omega)), e1, cb2_s, nI_1]
    by_cases h : v < l
    · rw [if_neg (nI_ge h (by omega)), mlet_s]
      obtain ⟨M3, r, e3, w3, h3, -⟩ := ih (code + 1) g M2 (nI code) v (by omega) (by omega) (by omega) R2
      have h4 : ∃ j, j < 12 ∧ r = nI j := by
        rcases h3 with rfl | h3
        · exact ⟨code, by omega, rfl⟩
        · exact h3
      exact ⟨M3, r, e3, fun a ha => (w3 a ha).trans (w2 a ha), Or.inr h4, fun _ _ => h4⟩
    · rw [if_pos (nI_le (by omega) (by omega)), mlet_s]
      obtain ⟨M3, r, e3, w3, h3, -⟩ := ih (code + 1) g M2 b l (by omega) (by omega) hl R2
      exact ⟨M3, r, e3, fun a ha => (w3 a ha).trans (w2 a ha), h3, fun h5 _ => by omega⟩
theorem advise_k (hf : 120 < fu) (R : CR 0 M S) (W : WF c p S) (D : RD p S) {i : Nat} (hi : i < c) : ∃ M1 r, m_X5_advise fu M 40 (nI i) = some (Sum.inr (M1, r)) ∧ (∀ a, a < 20 → M1 a = M a) ∧ ((S 2 i = 0 ∧ r = -1) ∨ (¬ S 2 i = 0 ∧ ∃ j, j < 12 ∧ r = nI j)) := by
  have h6 := W.c6
  have hi6 : i < 6 := by omega
  have hsc := scat_s (fu := fu) R hi6
  by_cases h2 : S 2 i = 0
  · refine ⟨M, -1, ?_, fun _ _ => rfl, Or.inl ⟨h2, rfl⟩⟩
    unfold m_X5_advise
    rw [needC_s R W hi, xb_r, chk_t (inb_nI hi6 (by decide)), elC_nI 0 (by omega), hsc, decide_eq_true h2, cb1_s, if_neg (show ¬ bI true = 0 by decide)]
  · obtain ⟨M1, r, g1, w1, -, h4⟩ := adv_L30 (fu := fu) hf W D hi 12 0 fu M (-1) 108 (by omega) (by omega) (by omega) R
    rw [nI_0] at g1
    have g1 : m_X5_advise_L30 fu 40 (nI i) fu M (-1) 108 0 = some (M1, r) := g1
    refine ⟨M1, r, ?_, w1, Or.inr ⟨h2, h4 (by decide) (by decide)⟩⟩
    unfold m_X5_advise
    rw [needC_s R W hi, xb_r, chk_t (inb_nI hi6 (by decide)), elC_nI 0 (by omega), hsc, decide_eq_false h2, cb1_s, if_pos (show bI false = 0 by decide), g1]
    rfl
end CallsK

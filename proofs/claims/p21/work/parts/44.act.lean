/-! ===== an order, an act: both sides ===== -/
section Act
variable {n k c p fu : Nat} {M N S : Mem}
theorem tryOrder_s (hI : LInj 14 (LC n)) (R : CR n M S) (W : WF c p S) (hN : SN n) {i code : Nat} (hi : i < 6) (hc : code < 12) (hf : 10 < fu) : ∃ M1, m_X1_tryOrder fu M n (cwd n i) (nI (code / 4)) (nI (code % 4)) = some (M1, bI (ordS S c p i code).2) ∧ CR n M1 (ordS S c p i code).1 ∧ Fr n M M1 := by
  obtain ⟨hp, ep⟩ := W.pn hi
  have hd : code % 4 < 4 := by omega
  have ho : okO (nb (plN S i) (code % 4)) := nb_ok hp
  unfold m_X1_tryOrder ordS
  rw [R.pl hi, ep, next_s fu M hp hd, cb1_s]
  by_cases h4 : code < 4
  · rw [if_pos (show nI (code / 4) = 0 by rw [show code / 4 = 0 by omega]; rfl), next_o fu M ho hd, cb1_s, if_pos h4]
    obtain ⟨M1, e1, R1, f1⟩ := tryGo_s (fu := fu) hI R W hN hi ho (nb2_ok ho) hf
    rw [e1, cb2_s, chk_t (isb_bI _)]
    exact ⟨M1, rfl, R1, f1⟩
  by_cases h8 : code < 8
  · rw [if_neg (show ¬ nI (code / 4) = 0 by rw [show code / 4 = 1 by omega]; decide), if_pos (show nI (code / 4) = 1 by rw [show code / 4 = 1 by omega]; rfl), if_neg h4, if_pos h8]
    obtain ⟨M1, e1, R1, f1⟩ := tryRaise_s (fu := fu) hI R W hN hi ho hf
    rw [e1, cb2_s, chk_t (isb_bI _)]
    exact ⟨M1, rfl, R1, f1⟩
  · rw [if_neg (show ¬ nI (code / 4) = 0 by rw [show code / 4 = 2 by omega]; decide), if_neg (show ¬ nI (code / 4) = 1 by rw [show code / 4 = 2 by omega]; decide), if_neg h4, if_neg h8]
    obtain ⟨M1, e1, R1, f1⟩ := tryPull_s (fu := fu) hI R hN ho
    rw [e1, cb2_s, chk_t (isb_bI _)]
    exact ⟨M1, rfl, R1, f1⟩
theorem nb2_ne {q d : Nat} (h : q < 108) : ∀ t u, nb q d = some t → nb2 (nb q d) d = some u → u ≠ t := by
  intro t u h1 h2
  rw [h1] at h2
  exact nb_ne (q := t) h2 (nb_ok h t h1)
theorem cpok_nI {a b d x y : Nat} (ha : a < 2 ^ 31) (hb : b < 2 ^ 31) (hd : d < 2 ^ 31) (h1 : a + d ≤ x) (h2 : b + d ≤ y) : cpok (nI a) (nI b) (nI d) x y = true := by
  simp only [cpok, Bool.and_eq_true, decide_eq_true_eq]
  rw [nI_clamp ha, nI_clamp hb, nI_clamp hd]
  exact ⟨⟨⟨⟨nI_pos ha, nI_pos hb⟩, nI_pos hd⟩, h1⟩, h2⟩
theorem CR.sh (R : CR n M S) {i m : Nat} (hi : i < 6) (hm : m < 24) : CR n (mcp M (cwd n i + 1) (cwd n i + 1) 1 0 m) (shS S i m) := by
  intro f hf j hj
  by_cases h6 : f = 6
  · subst h6
    have hj : j < 144 := hj
    show mcp M (cwd n i + 1) (cwd n i + 1) 1 0 m (cwd n (j / 24) + 1) (j % 24) = shS S i m 6 j
    by_cases hij : j / 24 = i
    · rw [hij, mcp_row]
      by_cases h : j % 24 < m
      · rw [pk_cpy_in (by omega) (by omega), show shS S i m 6 j = S 6 (j + 1) from if_pos ⟨rfl, by omega, by omega⟩, R.or hi (by omega), show 24 * i + (1 + (j % 24 - 0)) = j + 1 by omega]
      · rw [pk_cpy_out (by omega), show shS S i m 6 j = S 6 j from if_neg (fun z => by omega), R.or hi (by omega), show 24 * i + j % 24 = j by omega]
    · rw [mcp_ne (by unfold cwd; omega), show shS S i m 6 j = S 6 j from if_neg (fun z => by omega), R.or (i := j / 24) (by omega) (by omega), show 24 * (j / 24) + j % 24 = j by omega]
  · have e : shS S i m f j = S f j := if_neg (fun z => h6 z.1)
    rw [e, ← R f hf j hj]
    have hne : (LC n f j).1 ≠ cwd n i + 1 := by
      rcases (show f = 0 ∨ f = 1 ∨ f = 2 ∨ f = 3 ∨ f = 4 ∨ f = 5 ∨ f = 7 ∨ f = 8 ∨ f = 9 ∨ f = 10 ∨ f = 11 ∨ f = 12 ∨ f = 13 by omega) with h | h | h | h | h | h | h | h | h | h | h | h | h <;> subst h <;> simp only [LC, cwd, ptl] <;> (try have hj : j < 6 := hj) <;> (try have hj : j < 3 := hj) <;> omega
    rw [mcp_ne hne]
theorem Fr.cp {a b sp dp m : Nat} (h : n ≤ b ∧ b < n + 20) : Fr n M (mcp M a b sp dp m) := fun z hz => mcp_ne (by omega)
theorem cwd1_in {i : Nat} (h : i < 6) : n ≤ cwd n i + 1 ∧ cwd n i + 1 < n + 20 := by unfold cwd; omega
theorem drop_s (hI : LInj 14 (LC n)) (R : CR n M S) (W : WF c p S) (hN : SN n) {i : Nat} (hi : i < 6) (h4 : ¬ S 4 i = 0) : ∃ M1, m_X0_dropFirstOrder fu M (cwd n i) = some M1 ∧ CR n M1 (dropS S i) ∧ Fr n M M1 := by
  obtain ⟨-, q, hq, e1, e2, e3⟩ := W.drop hi h4
  unfold m_X0_dropFirstOrder dropS
  rw [R.oc hi, e2, if_neg (show ¬ nI (q + 1) ≤ 0 from nI_nle (by omega) (by omega)), if_neg (show ¬ (24 : Int32) < nI (q + 1) from nI_nlt (a := 24) (b := q + 1) (by omega) (by omega)), nI_pred, mlet_s, mst_s, hN.2 i hi, chk_t (show cpok 1 0 (nI q) 24 24 = true from cpok_nI (a := 1) (b := 0) (by decide) (by decide) (by omega) (by omega) (by omega)), mlet_s, nI_clamp (n := q) (by omega), show (nI (q + 1)).toNatClampNeg - 1 = q by rw [nI_clamp (by omega)]; rfl]
  exact ⟨_, rfl, CR.sh (R.woc hI hi (nI q)) hi hq, (Fr.wr (cwd_in hi)).tr (Fr.cp (cwd1_in hi))⟩
theorem first_s (R : CR n M S) (W : WF c p S) (hN : SN n) {i : Nat} (hi : i < 6) : m_X0_firstOrder fu M (cwd n i) = some (if S 4 i = 0 then -1 else S 6 (24 * i)) := by
  obtain ⟨q, hq, eq⟩ := W.oc hi
  unfold m_X0_firstOrder
  rw [R.oc hi, hN.2 i hi]
  by_cases h : S 4 i = 0
  · rw [if_pos (by rw [h]; decide), if_pos h]
  · have h0 : ¬ S 4 i ≤ 0 := by
      rw [eq]
      exact nI_nle (Nat.pos_of_ne_zero (fun z => h (by rw [eq, z]; rfl))) (by omega)
    rw [if_neg h0, if_neg h, chk_t (by decide), show (0 : Int32).toNatClampNeg = 0 from rfl, R.or hi (by decide)]
    rfl
theorem scat_s (R : CR n M S) {i : Nat} (hi : i < 6) : m_X0_isScattered fu M (cwd n i) = some (bI (decide (S 2 i = 0))) := by
  unfold m_X0_isScattered
  rw [R.pe hi]
  by_cases h : S 2 i = 0
  · rw [if_pos h, decide_eq_true h]
    rfl
  · rw [if_neg h, decide_eq_false h]
    rfl
/-- the crowds from i on, d of them, act -/
def actN (S : Mem) (c p : Nat) : Nat → Nat → Mem
  | _, 0 => S
  | i, d + 1 => actN (actS S c p i) c p (i + 1) d
theorem WF.actN (W : WF c p S) : ∀ (d i : Nat), i + d ≤ 6 → WF c p (actN S c p i d) := by
  intro d
  induction d generalizing S with
  | zero => intro i _; exact W
  | succ d ih => intro i h; exact ih (W.act (by omega)) (i + 1) (by omega)
theorem drop6 (S : Mem) (i : Nat) : dropS S i 2 i = S 2 i := by
  unfold dropS shS
  rw [if_neg (fun z => by omega), mst_ne (by decide)]
theorem obey_L2 (hI : LInj 14 (LC n)) (hN : SN n) (hf : 10 < fu) : ∀ (d i f : Nat) (M S : Mem), CR n M S → WF c p S → i + d = c → d < f → ∃ M1, m_X1_obeyOrders_L2 fu n f M (nI i) = some M1 ∧ CR n M1 (actN S c p i d) ∧ Fr n M M1 := by
  intro d
  induction d with
  | zero =>
    intro i f M S R W hi hd
    have h6 := W.c6
    obtain ⟨f, rfl⟩ := f1 hd
    rw [m_X1_obeyOrders_L2, R.nc, W.nc, if_pos (nI_le (by omega) (by omega))]
    exact ⟨M, rfl, R, Fr.rf⟩
  | succ d ih =>
    intro i f M S R W hi hd
    have h6 := W.c6
    have hi6 : i < 6 := by omega
    obtain ⟨f, rfl⟩ := f1 hd
    rw [m_X1_obeyOrders_L2, R.nc, W.nc, if_neg (nI_ge (by omega) (by omega)), chk_t (inb_nI hi6 (by decide)), elC_nI n (by omega), first_s R W hN hi6, cb1_s, scat_s R hi6, cb1_s]
    show ∃ M1, _ = some M1 ∧ CR n M1 (actN (actS S c p i) c p (i + 1) d) ∧ Fr n M M1
    unfold actS
    by_cases h2 : S 2 i = 0
    · rw [decide_eq_true h2, if_neg (show ¬ bI true = 0 by decide), mlet_s, nI_1, if_pos h2]
      exact ih (i + 1) f M S R W (by omega) (by omega)
    rw [decide_eq_false h2, if_pos (show bI false = 0 by decide), if_neg h2]
    by_cases h4 : S 4 i = 0
    · rw [if_pos h4, if_pos h4, if_pos rfl, mlet_s, nI_1]
      exact ih (i + 1) f M S R W (by omega) (by omega)
    obtain ⟨code, hc, ec⟩ := W.or (j := 24 * i) (by omega)
    rw [if_neg h4, if_neg h4, ec, if_neg (show ¬ nI code = -1 from fun h => nI_pos (n := code) (by omega) (by rw [h]; decide))]
    obtain ⟨M1, e1, R1, f1⟩ := drop_s (fu := fu) hI R W hN hi6 h4
    obtain ⟨M2, e2, R2, f2⟩ := tryOrder_s (fu := fu) hI R1 (W.drop hi6 h4).1 hN hi6 hc hf
    rw [e1, cb1_s, sh2 code hc, an3 code hc, e2, cb2_s, nI_clamp (n := code) (by omega)]
    have W2 : WF c p (ordS (dropS S i) c p i code).1 := (W.drop hi6 h4).1.ord hi6
    unfold missS
    cases hb : (ordS (dropS S i) c p i code).2 with
    | true =>
      rw [if_neg (show ¬ bI true = 0 by decide), mlet_s, nI_1, if_pos rfl]
      obtain ⟨M3, e3, R3, f3⟩ := ih (i + 1) f M2 _ R2 W2 (by omega) (by omega)
      exact ⟨M3, e3, R3, (f1.tr f2).tr f3⟩
    | false =>
      rw [if_pos (show bI false = 0 by decide), R2.mi hi6, mlet_s, mlet_s, nI_1, if_neg (by decide)]
      obtain ⟨M3, e3, R3, f3⟩ := ih (i + 1) f _ _ (R2.wmi hI hi6 _) W2.w5 (by omega) (by omega)
      exact ⟨M3, e3, R3, ((f1.tr f2).tr (Fr.wr (cwd_in hi6))).tr f3⟩
theorem obey_s (hI : LInj 14 (LC n)) (R : CR n M S) (W : WF c p S) (hN : SN n) (hf : 10 < fu) : ∃ M1, m_X1_obeyOrders fu M n = some M1 ∧ CR n M1 (actN S c p 0 c) ∧ Fr n M M1 := by
  have h6 := W.c6
  obtain ⟨M1, e1, R1, f1⟩ := obey_L2 (fu := fu) (c := c) (p := p) hI hN hf c 0 fu M S R W (by omega) (by omega)
  unfold m_X1_obeyOrders
  rw [show (0 : Int32) = nI 0 from rfl, e1]
  exact ⟨M1, rfl, R1, f1⟩
end Act

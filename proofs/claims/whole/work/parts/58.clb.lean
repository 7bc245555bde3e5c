/-! ===== the calls: gather, order, torch ===== -/
section CallsB
variable {c p fu : Nat} {M N S : Mem}
theorem WF.gat (W : WF c p S) (h : c < 6) {q v : Nat} (hq : q < 108) (hv : v < 10) : WF (c + 1) p (mst (mst (mst (mst S 1 c (nI q)) 2 c (nI v)) 3 c 1) 10 0 (nI (c + 1))) := by
  have W1 := ((W.w1 (j := c) ⟨q, hq, rfl⟩).w2 (j := c) ⟨v, hv, rfl⟩).w3 (j := c) (x := 1) ⟨1, by decide, rfl⟩
  obtain ⟨h0, h1, h2, h3, h4, h5, h6, h7, h8, h9, h10, h11⟩ := W1
  refine ⟨by omega, h1, mst_s _ _ _ _, ?_, ?_, ?_, ?_, ?_, ?_, ?_, ?_, ?_⟩
  · rw [mst_ne (by decide)]; exact h3
  · rw [mst_ne (by decide)]; exact h4
  · rw [mst_ne (by decide)]; exact h5
  · rw [mst_ne (by decide)]; exact h6
  · rw [mst_ne (by decide)]; exact h7
  · rw [mst_ne (by decide)]; exact h8
  · rw [mst_ne (by decide)]; exact h9
  · rw [mst_ne (by decide)]; exact h10
  · rw [mst_ne (show (8 : Nat) ≠ 10 by decide), mst_ne (show (12 : Nat) ≠ 10 by decide)]; exact h11
theorem call_gather (hf : 30 < fu) (h : Inv M) (x y v : Int32) : Okc (m_L_gather fu M 40 x y v 69) (fun N => m_X7_gather fu N 44 x y v) := by
  have hInv := h
  obtain ⟨S, c, p, R, Q, D, W⟩ := h
  have h6 := W.c6
  rcases cell_c (fu := fu) x y with ⟨q, hq, e1, e2, e3⟩ | ⟨e1, e2⟩
  · have hfr : m_X3_isFree fu M (0 + 1) (nI q) = some (bI (decide (S 0 q = 0))) := isFree_s (o := some q) R SN_0 (fun z hz => by cases hz; exact hq)
    rcases rng_c (fu := fu) v (m := 9) (by decide) with ⟨j, hj1, hj, rfl, e5⟩ | ⟨hv, e5⟩
    · have e5 : ∀ N, m_X7_isIn fu N (nI j) 1 9 = some 1 := e5
      have c1 : ¬ nI j < 1 := nI_nlt (b := 1) hj1 (by omega)
      have c2 : nI j ≤ 9 := nI_le (b := 9) (by omega) (by omega)
      by_cases hc : c = 6
      · refine Okc.no hInv (k := 3) (by decide) ?_ ?_
        · unfold m_L_gather m_X5_gather
          rw [e1, xb_r, if_neg c1, if_pos c2, R.nc, W.nc, if_pos (show (6 : Int32) ≤ nI c from nI_le (a := 6) (by omega) (by omega))]
          rfl
        · show m_X7_gather fu M 44 x y (nI j) = _
          unfold m_X7_gather
          rw [mlet_s, e2, cb1_s, if_neg (by decide), e5, cb1_s, if_neg (by decide), (Q.thr 0).nc, W.nc, if_pos (show nI c = 6 by rw [hc]; rfl), no_s, cb2_s]
      · have k6 : ¬ nI c = 6 := fun z => hc ((nI_eq (a := c) (b := 6) (by omega) (by decide)).mp z)
        by_cases h0 : S 0 q = 0
        · have hc6 : c < 6 := by omega
          have R1 : CR 0 (mst (mst (mst (mst M (cwd 0 c) 0 (nI q)) (cwd 0 c) 1 (nI j)) (cwd 0 c) 2 1) 0 2 (nI (c + 1))) (mst (mst (mst (mst S 1 c (nI q)) 2 c (nI j)) 3 c 1) 10 0 (nI (c + 1))) := CR.wr LI_0 (((R.wpl LI_0 hc6 (nI q)).wpe LI_0 hc6 (nI j)).wto LI_0 hc6 1) (f := 10) (i := 0) (by decide) (by decide) (nI (c + 1))
          have hlo : ∀ a, 20 ≤ a → (mst (mst (mst (mst M (cwd 0 c) 0 (nI q)) (cwd 0 c) 1 (nI j)) (cwd 0 c) 2 1) 0 2 (nI (c + 1))) a = M a := fun a ha => by
            have := cwd_in (n := 0) hc6
            rw [mst_ne (by omega), mst_ne (by omega), mst_ne (by omega), mst_ne (by omega)]
          have Q1 : RR 49 (mst (mst (mst (mst (mst M (cwd 0 c) 0 (nI q)) (cwd 0 c) 1 (nI j)) (cwd 0 c) 2 1) 0 2 (nI (c + 1))) 69 0 (nI c)) S := Q.cl (fun a ha hb => (mst_ne hb).trans (hlo a (by omega)))
          have Q2 := Q1.thr 0
          have hcw : (0 : Nat) ≠ cwd 0 c := by unfold cwd; omega
          have n1 := Q2.nc
          rw [W.nc] at n1
          refine ⟨mst (mst (mst (mst (mst M (cwd 0 c) 0 (nI q)) (cwd 0 c) 1 (nI j)) (cwd 0 c) 2 1) 0 2 (nI (c + 1))) 69 0 (nI c), 0, mst (mst (mst (mst (mst (mst (mst (mst (mst (mst M (cwd 0 c) 0 (nI q)) (cwd 0 c) 1 (nI j)) (cwd 0 c) 2 1) 0 2 (nI (c + 1))) 69 0 (nI c)) 44 0 0) (49 + 2) c (nI q)) (49 + 3) c (nI j)) (49 + 4) c 1) 44 1 (nI (c + 1)), nI c, ?_, ?_, ?_, fun _ => ?_, ?_⟩
          · unfold m_L_gather m_X5_gather m_X1_addCrowd
            rw [e1, xb_r, if_neg c1, if_pos c2, R.nc, W.nc, if_neg (show ¬ (6 : Int32) ≤ nI c from nI_ge (b := 6) hc6 (by omega)), hfr, decide_eq_true h0, cb1_s, if_neg (show ¬ bI true = 0 by decide), mlet_s, if_neg (show ¬ (6 : Int32) ≤ nI c from nI_ge (b := 6) hc6 (by omega)), chk_t (inb_nI hc6 (by decide)), elC_nI 0 (by omega), mlet_s, chk_t (inb_nI hc6 (by decide)), mlet_s, chk_t (inb_nI hc6 (by decide)), mlet_s, mst_ne hcw, mst_ne hcw, mst_ne hcw, R.nc, W.nc, nI_1, mlet_s]
            rfl
          · show m_X7_gather fu _ 44 x y (nI j) = _
            unfold m_X7_gather
            rw [mlet_s, e2, cb1_s, if_neg (by decide), e5, cb1_s, if_neg (by decide), n1, if_neg k6, e3, al50, chk_t (inb_nI hq (by decide)), nI_clamp (n := q) (by omega), Q2.ce hq, if_pos h0, al51, chk_t (inb_nI hc6 (by decide)), nI_clamp (n := c) (by omega), mlet_s, mst_ne (show (44 : Nat) ≠ 49 + 2 by decide), n1, al52, chk_t (inb_nI hc6 (by decide)), nI_clamp (n := c) (by omega), mlet_s, mst_ne (show (44 : Nat) ≠ 49 + 3 by decide), mst_ne (show (44 : Nat) ≠ 49 + 2 by decide), n1, al53, chk_t (inb_nI hc6 (by decide)), nI_clamp (n := c) (by omega), mlet_s, mst_ne (show (44 : Nat) ≠ 49 + 4 by decide), mst_ne (show (44 : Nat) ≠ 49 + 3 by decide), mst_ne (show (44 : Nat) ≠ 49 + 2 by decide), n1, nI_1, mlet_s, mst_s, nI_pred]
          · rw [mst_o (by omega), mst_ne (by decide), mst_ne (by decide), mst_ne (by decide), mst_s]
          · rw [mst_ne (by decide), mst_ne (by decide), mst_ne (by decide), mst_ne (by decide), mst_ne (by decide), mst_s]
          · refine Inv.fin D R1 (RR.wr LI_49 (((Q2.wpl LI_49 hc6 (nI q)).wpe LI_49 hc6 (nI j)).wto LI_49 hc6 1) (f := 10) (i := 0) (by decide) (by decide) (nI (c + 1))) (W.gat hc6 hq (by omega)) ?_ (fun a ha => ?_) ?_ ?_
            · rw [mst_ne (by decide), mst_ne (by decide), mst_ne (by decide), mst_ne (by decide), mst_ne (by decide), mst_ne (by decide), hlo 46 (by decide)]
            · rw [mst_ne (by omega), mst_ne (by omega), mst_ne (by omega), mst_ne (by omega), mst_ne (by omega), mst_ne (by omega)]
            · rw [mst_ne (by decide), mst_ne (by decide), mst_ne (by decide), mst_ne (by decide)]
            · rw [mst_ne (by decide), mst_ne (by decide), mst_ne (by decide), mst_ne (by decide)]
        · refine Okc.no hInv (k := 3) (by decide) ?_ ?_
          · unfold m_L_gather m_X5_gather
            rw [e1, xb_r, if_neg c1, if_pos c2, R.nc, W.nc, if_neg (show ¬ (6 : Int32) ≤ nI c from nI_ge (b := 6) (by omega) (by omega)), hfr, decide_eq_false h0, cb1_s, if_pos (show bI false = 0 by decide)]
            rfl
          · show m_X7_gather fu M 44 x y (nI j) = _
            unfold m_X7_gather
            rw [mlet_s, e2, cb1_s, if_neg (by decide), e5, cb1_s, if_neg (by decide), (Q.thr 0).nc, W.nc, if_neg k6, e3, al50, chk_t (inb_nI hq (by decide)), nI_clamp (n := q) (by omega), (Q.thr 0).ce hq, if_neg h0, no_s, cb2_s]
    · have e5 : ∀ N, m_X7_isIn fu N v 1 9 = some 0 := e5
      refine Okc.no hInv (k := 2) (by decide) ?_ ?_
      · unfold m_L_gather m_X5_gather
        rw [e1, xb_r]
        rcases hv with h | ⟨h, h2⟩
        · rw [if_pos h]
          rfl
        · rw [if_neg h, if_neg (show ¬ v ≤ 9 from Int32.not_le.mpr h2)]
          rfl
      · show m_X7_gather fu M 44 x y v = _
        unfold m_X7_gather
        rw [mlet_s, e2, cb1_s, if_neg (by decide), e5, cb1_s, if_pos rfl, no_s, cb2_s]
  · refine Okc.no hInv (k := 1) (by decide) ?_ ?_
    · unfold m_L_gather m_X5_gather
      rw [e1]
      rfl
    · show m_X7_gather fu M 44 x y v = _
      unfold m_X7_gather
      rw [mlet_s, e2, cb1_s, if_pos rfl, no_s, cb2_s]
theorem call_order (hf : 30 < fu) (h : Inv M) (x v : Int32) : Okc (m_L_order fu M 40 x v 69) (fun N => m_X7_order fu N 44 x v) := by
  have hInv := h
  obtain ⟨S, c, p, R, Q, D, W⟩ := h
  have h6 := W.c6
  rcases crowd_c (fu := fu) W x with ⟨i, hi, rfl, e1, e2⟩ | ⟨e1, e2⟩
  · have hi6 : i < 6 := by omega
    have hsc := scat_s (fu := fu) R hi6
    obtain ⟨m, hm, em⟩ := W.oc hi6
    have e2a := e2 _ (Q.thr 0)
    rcases pk_ix v (n := 12) (by decide) with hv | hv | ⟨j, hj, rfl⟩
    · refine Okc.no hInv (k := 2) (by decide) ?_ ?_
      · unfold m_L_order m_X5_order
        rw [e1 M R, xb_r, if_pos hv]
        rfl
      · show m_X7_order fu M 44 (nI i) v = _
        unfold m_X7_order
        rw [mlet_s, e2a, cb1_s, if_neg (by decide), isIn_lo hv, cb1_s, if_pos rfl, no_s, cb2_s]
    · have h3 : (11 : Int32) < v := pr_lt (n := 12) (by decide) hv
      refine Okc.no hInv (k := 2) (by decide) ?_ ?_
      · unfold m_L_order m_X5_order
        rw [e1 M R, xb_r, if_neg (show ¬ v < 12 from Int32.not_lt.mpr hv), ite_self]
        rfl
      · show m_X7_order fu M 44 (nI i) v = _
        unfold m_X7_order
        rw [mlet_s, e2a, cb1_s, if_neg (by decide), isIn_hi h3, cb1_s, if_pos rfl, no_s, cb2_s]
    · have e5 : ∀ N, m_X7_isIn fu N (nI j) 0 11 = some 1 := fun N => isIn_1 (a := 0) (b := 11) (Nat.zero_le j) (by omega) (by decide)
      have c1 : ¬ nI j < 0 := nI_pos (by omega)
      have c2 : nI j < 12 := nI_lt (b := 12) (by omega) (by omega)
      by_cases h2 : S 2 i = 0
      · refine Okc.no hInv (k := 3) (by decide) ?_ ?_
        · unfold m_L_order m_X5_order
          rw [e1 M R, xb_r, if_neg c1, if_pos c2, chk_t (inb_nI hi6 (by decide)), elC_nI 0 (by omega), hsc, decide_eq_true h2, cb1_s, if_neg (show ¬ bI true = 0 by decide)]
          rfl
        · show m_X7_order fu M 44 (nI i) (nI j) = _
          unfold m_X7_order
          rw [mlet_s, e2a, cb1_s, if_neg (by decide), e5, cb1_s, if_neg (by decide), al52, chk_t (inb_nI hi6 (by decide)), nI_clamp (n := i) (by omega), (Q.thr 0).pe hi6, if_pos h2, no_s, cb2_s]
      · by_cases h24 : m = 24
        · subst h24
          refine Okc.no hInv (k := 3) (by decide) ?_ ?_
          · unfold m_L_order m_X5_order
            rw [e1 M R, xb_r, if_neg c1, if_pos c2, chk_t (inb_nI hi6 (by decide)), elC_nI 0 (by omega), hsc, decide_eq_false h2, cb1_s, if_pos (show bI false = 0 by decide), R.oc hi6, em, if_neg (by decide)]
            rfl
          · show m_X7_order fu M 44 (nI i) (nI j) = _
            unfold m_X7_order
            rw [mlet_s, e2a, cb1_s, if_neg (by decide), e5, cb1_s, if_neg (by decide), al52, chk_t (inb_nI hi6 (by decide)), nI_clamp (n := i) (by omega), (Q.thr 0).pe hi6, if_neg h2, al54, chk_t (inb_nI hi6 (by decide)), (Q.thr 0).oc hi6, em, if_pos (by decide), no_s, cb2_s]
        · have hm24 : m < 24 := by omega
          have k24 : ¬ nI m = 24 := fun z => h24 ((nI_eq (a := m) (b := 24) (by omega) (by decide)).mp z)
          have R1 : CR 0 (mst (mst M (cwd 0 i + 1) m (nI j)) (cwd 0 i) 4 (nI (m + 1))) (mst (mst S 6 (24 * i + m) (nI j)) 4 i (nI (m + 1))) := (R.wor LI_0 hi6 hm24 (nI j)).woc LI_0 hi6 (nI (m + 1))
          have hlo : ∀ a, 20 ≤ a → (mst (mst M (cwd 0 i + 1) m (nI j)) (cwd 0 i) 4 (nI (m + 1))) a = M a := fun a ha => by
            have := cwd_in (n := 0) hi6
            have := cwd1_in (n := 0) hi6
            rw [mst_ne (by omega), mst_ne (by omega)]
          have Q1 : RR 49 (mst (mst (mst M (cwd 0 i + 1) m (nI j)) (cwd 0 i) 4 (nI (m + 1))) 69 0 (nI (m + 1))) S := Q.cl (fun a ha hb => (mst_ne hb).trans (hlo a (by omega)))
          have Q2 := Q1.thr 0
          have n1 := Q2.oc hi6
          rw [em] at n1
          refine ⟨mst (mst (mst M (cwd 0 i + 1) m (nI j)) (cwd 0 i) 4 (nI (m + 1))) 69 0 (nI (m + 1)), 0, mst (mst (mst (mst (mst (mst M (cwd 0 i + 1) m (nI j)) (cwd 0 i) 4 (nI (m + 1))) 69 0 (nI (m + 1))) 44 0 0) (49 + 6) (24 * i + m) (nI j)) (49 + 5) i (nI (m + 1)), nI (m + 1), ?_, ?_, ?_, fun _ => ?_, ?_⟩
          · unfold m_L_order m_X5_order m_X0_addOrder
            rw [e1 M R, xb_r, if_neg c1, if_pos c2, chk_t (inb_nI hi6 (by decide)), elC_nI 0 (by omega), hsc, decide_eq_false h2, cb1_s, if_pos (show bI false = 0 by decide), R.oc hi6, em, if_pos (show nI m < 24 from nI_lt (b := 24) hm24 (by omega)), if_neg (nI_pos (by omega)), if_neg (show ¬ (24 : Int32) ≤ nI m from nI_ge (b := 24) hm24 (by omega)), SN_0.2 i hi6, chk_t (inb_nI hm24 (by decide)), nI_clamp (n := m) (by omega), mlet_s, mst_ne (show cwd 0 i ≠ cwd 0 i + 1 by omega), R.oc hi6, em, nI_1, mlet_s, cb1_s, mst_s]
            rfl
          · show m_X7_order fu _ 44 (nI i) (nI j) = _
            unfold m_X7_order
            rw [mlet_s, e2 _ Q2, cb1_s, if_neg (by decide), e5, cb1_s, if_neg (by decide), al52, chk_t (inb_nI hi6 (by decide)), nI_clamp (n := i) (by omega), Q2.pe hi6, if_neg h2, al54, chk_t (inb_nI hi6 (by decide)), n1, if_neg k24, chk_t (inb_nI hi6 (by decide)), show (24 : Int32) * nI i = nI (24 * i) from pk_mul 24 i, nI_add, al55, chk_t (inb_nI (by omega) (by decide)), nI_clamp (n := 24 * i + m) (by omega), mlet_s, chk_t (inb_nI hi6 (by decide)), chk_t (inb_nI hi6 (by decide)), mst_ne (show (49 + 5 : Nat) ≠ 49 + 6 by decide), n1, nI_1, mlet_s, chk_t (inb_nI hi6 (by decide)), mst_s]
          · rw [mst_ne (by decide), mst_ne (by decide), mst_s]
          · rw [mst_ne (by decide), mst_ne (by decide), mst_ne (by decide), mst_s]
          · refine Inv.fin D R1 ((Q2.wor LI_49 (show 24 * i + m < 144 by omega) (nI j)).woc LI_49 hi6 (nI (m + 1))) ((W.w6 ⟨j, hj, rfl⟩).w4 ⟨m + 1, by omega, rfl⟩) ?_ (fun a ha => ?_) ?_ ?_
            · rw [mst_ne (by decide), mst_ne (by decide), mst_ne (by decide), mst_ne (by decide), hlo 46 (by decide)]
            · rw [mst_ne (by omega), mst_ne (by omega), mst_ne (by omega), mst_ne (by omega)]
            · rw [mst_ne (by decide), mst_ne (by decide)]
            · rw [mst_ne (by decide), mst_ne (by decide)]
  · refine Okc.no hInv (k := 1) (by decide) ?_ ?_
    · unfold m_L_order m_X5_order
      rw [e1 M R]
      rfl
    · show m_X7_order fu M 44 x v = _
      unfold m_X7_order
      rw [mlet_s, e2 _ (Q.thr 0), cb1_s, if_pos rfl, no_s, cb2_s]
theorem call_torch (h : Inv M) (x : Int32) : Okb (m_L_torch fu M 40 x 69) (fun N => m_X7_torch fu N 44 x) := by
  have hInv := h
  obtain ⟨S, c, p, R, Q, D, W⟩ := h
  have h6 := W.c6
  rcases crowd_c (fu := fu) W x with ⟨i, hi, rfl, e1, e2⟩ | ⟨e1, e2⟩
  · have hi6 : i < 6 := by omega
    have hsc := scat_s (fu := fu) R hi6
    have e2a := e2 _ (Q.thr 0)
    by_cases h2 : S 2 i = 0
    · refine Okb.no hInv (k := 2) (by decide) ?_ ?_
      · unfold m_L_torch m_X5_torch
        rw [e1 M R, xb_r, chk_t (inb_nI hi6 (by decide)), elC_nI 0 (by omega), hsc, decide_eq_true h2, cb1_s, if_neg (show ¬ bI true = 0 by decide)]
        rfl
      · show m_X7_torch fu M 44 (nI i) = _
        unfold m_X7_torch
        rw [mlet_s, e2a, cb1_s, if_neg (by decide), al52, chk_t (inb_nI hi6 (by decide)), nI_clamp (n := i) (by omega), (Q.thr 0).pe hi6, if_pos h2, no_s, cb2_s, if_pos rfl]
    · obtain ⟨b, hb, eb⟩ := W.to hi6
      have hgo : ∀ r : Int32, isb r = true → (∃ z, z < 2 ∧ r = nI z) → 1 - S 3 i = r → ((r = 1 ∧ S 3 i = 0) ∨ (r = 0 ∧ ¬ S 3 i = 0)) → Okb (m_L_torch fu M 40 (nI i) 69) (fun N => m_X7_torch fu N 44 (nI i)) := by
        intro r hr hz h1 hcase
        have R1 : CR 0 (mst M (cwd 0 i) 2 r) (mst S 3 i r) := R.wto LI_0 hi6 r
        have hlo : ∀ a, 20 ≤ a → (mst M (cwd 0 i) 2 r) a = M a := fun a ha => by
          have := cwd_in (n := 0) hi6
          rw [mst_ne (by omega)]
        have Q1 : RR 49 (mst (mst M (cwd 0 i) 2 r) 69 0 r) S := Q.cl (fun a ha hb => (mst_ne hb).trans (hlo a (by omega)))
        have Q2 := Q1.thr 0
        refine ⟨mst (mst M (cwd 0 i) 2 r) 69 0 r, 0, mst (mst (mst (mst M (cwd 0 i) 2 r) 69 0 r) 44 0 0) (49 + 4) i r, r, ?_, ?_, ?_, fun _ => ?_, hr, ?_⟩
        · unfold m_L_torch m_X5_torch
          rw [e1 M R, xb_r, chk_t (inb_nI hi6 (by decide)), elC_nI 0 (by omega), hsc, decide_eq_false h2, cb1_s, if_pos (show bI false = 0 by decide), R.to hi6]
          rcases hcase with ⟨r1, r2⟩ | ⟨r1, r2⟩
          · rw [if_pos r2, mlet_s, mst_s, chk_t (by decide), r1]
            rfl
          · rw [if_neg r2, mlet_s, mst_s, chk_t (by decide), r1]
            rfl
        · show m_X7_torch fu _ 44 (nI i) = _
          unfold m_X7_torch
          rw [mlet_s, e2 _ Q2, cb1_s, if_neg (by decide), al52, chk_t (inb_nI hi6 (by decide)), nI_clamp (n := i) (by omega), Q2.pe hi6, if_neg h2, al53, chk_t (inb_nI hi6 (by decide)), chk_t (inb_nI hi6 (by decide)), Q2.to hi6, h1, mlet_s, chk_t (inb_nI hi6 (by decide)), mst_s]
          rcases hcase with ⟨r1, r2⟩ | ⟨r1, r2⟩
          · rw [r1, if_pos rfl]
          · rw [r1, if_neg (by decide)]
        · rw [mst_ne (by decide), mst_s]
        · rw [mst_ne (by decide), mst_ne (by decide), mst_s]
        · refine Inv.fin D R1 (Q2.wto LI_49 hi6 r) (W.w3 hz) ?_ (fun a ha => ?_) (mst_ne (by decide)) (mst_ne (by decide))
          · rw [mst_ne (by decide), mst_ne (by decide), mst_ne (by decide), hlo 46 (by decide)]
          · rw [mst_ne (by omega), mst_ne (by omega), mst_ne (by omega)]
      rcases (show b = 0 ∨ b = 1 by omega) with rfl | rfl
      · exact hgo 1 rfl ⟨1, by decide, rfl⟩ (by rw [eb]; rfl) (Or.inl ⟨rfl, eb⟩)
      · exact hgo 0 rfl ⟨0, by decide, rfl⟩ (by rw [eb]; rfl) (Or.inr ⟨rfl, by rw [eb]; decide⟩)
  · refine Okb.no hInv (k := 1) (by decide) ?_ ?_
    · unfold m_L_torch m_X5_torch
      rw [e1 M R]
      rfl
    · show m_X7_torch fu M 44 x = _
      unfold m_X7_torch
      rw [mlet_s, e2 _ (Q.thr 0), cb1_s, if_pos rfl, no_s, cb2_s, if_pos rfl]
end CallsB

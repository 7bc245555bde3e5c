/-! ===== the calls: house, block, cell, gather, order, torch ===== -/
theorem xb_r {α β : Type} (a : α) (f : α → Option (Nat ⊕ β)) : xb (some (Sum.inr a)) f = f a := rfl
theorem xb_l {α β : Type} (k : Nat) (f : α → Option (Nat ⊕ β)) : xb (some (Sum.inl k)) f = some (Sum.inl k) := rfl
theorem no_s (fu : Nat) (N : Mem) (x : Int32) : m_X7_no fu N 44 x = some (mst N 44 0 x, 0) := rfl
theorem al50 : alen (49 + 1) = 108 := by decide
theorem al51 : alen (49 + 2) = 6 := by decide
theorem al52 : alen (49 + 3) = 6 := by decide
theorem al53 : alen (49 + 4) = 6 := by decide
theorem al54 : alen (49 + 5) = 6 := by decide
theorem al55 : alen (49 + 6) = 144 := by decide
theorem al57 : alen (49 + 8) = 3 := by decide
section Calls
variable {c p fu : Nat} {M N S : Mem}
theorem RD.kp {S1 : Mem} (D : RD p N S) (h : Kp S S1) : RD p N S1 := D.keep (k := 47) (by decide) FrK.rf h
theorem Inv.fin {M1 N1 S1 : Mem} {c1 : Nat} (D : RD p M S) (R1 : CR 0 M1 S1) (Q1 : RR 49 N1 S1) (W1 : WF c1 p S1) (w46 : N1 46 = M 46) (w : ∀ a, a < 20 → N1 a = M1 a) (h12 : S1 12 = S 12) (h13 : S1 13 = S 13) : Inv N1 := by
  refine Inv.mk1 R1 Q1 ?_ W1 w
  intro i hi
  obtain ⟨a, b, h1, h2, h3, h4, h5⟩ := D i hi
  exact ⟨a, b, h1, h2, by rw [h13]; exact h3, by rw [h12]; exact h4, fun t ht => by rw [w46]; exact h5 t ht⟩
theorem CR.wor {n : Nat} (hI : LInj 14 (LC n)) (R : CR n M S) {i j : Nat} (h : i < 6) (hj : j < 24) (x : Int32) : CR n (mst M (cwd n i + 1) j x) (mst S 6 (24 * i + j) x) := by
  have h1 := CR.wr hI R (f := 6) (i := 24 * i + j) (by decide) (show 24 * i + j < 144 by omega) x
  have e1 : (24 * i + j) / 24 = i := by omega
  have e2 : (24 * i + j) % 24 = j := by omega
  simp only [LC, e1, e2] at h1
  exact h1
theorem RR.wor {k : Nat} (hI : LInj 13 (LR k)) (R : RR k N S) {j : Nat} (h : j < 144) (x : Int32) : RR k (mst N (k + 6) j x) (mst S 6 j x) := RR.wr hI R (f := 6) (by decide) h x
theorem call_house (hf : 30 < fu) (h : Inv M) (x y : Int32) : Okb (m_L_house fu M 40 x y 69) (fun N => m_X7_house fu N 44 x y) := by
  have hInv := h
  obtain ⟨S, c, p, R, Q, D, W⟩ := h
  rcases cell_c (fu := fu) x y with ⟨q, hq, e1, e2, e3⟩ | ⟨e1, e2⟩
  · have hat : m_X3_at fu M (0 + 1) (nI q) = some (S 0 q) := at_s (o := some q) R SN_0 (fun z hz => by cases hz; exact hq)
    have htk := isTaken_s (fu := fu) R W (nI q) (by omega)
    have hbz := isBusy_s (fu := fu) (Q.thr 0) W SK_49 (nI q) (by omega)
    by_cases h0 : 0 < S 0 q
    · refine Okb.no hInv (k := 2) (by decide) ?_ ?_
      · unfold m_L_house m_X5_house
        rw [e1, xb_r, hat, cb1_s, if_pos h0]
        rfl
      · show m_X7_house fu M 44 x y = _
        unfold m_X7_house
        rw [mlet_s, e2, cb1_s, if_neg (by decide), mlet_s, e3, al50, chk_t (inb_nI hq (by decide)), nI_clamp (by omega), (Q.thr 0).ce hq, if_pos h0, no_s, cb2_s, if_pos rfl]
    · by_cases hb : busy S c p (nI q) = true
      · refine Okb.no hInv (k := 2) (by decide) ?_ ?_
        · unfold m_L_house m_X5_house
          rw [e1, xb_r, hat, cb1_s, if_neg h0, htk, hb, cb1_s, if_neg (show ¬ bI true = 0 by decide)]
          rfl
        · show m_X7_house fu M 44 x y = _
          unfold m_X7_house
          rw [mlet_s, e2, cb1_s, if_neg (by decide), mlet_s, e3, al50, chk_t (inb_nI hq (by decide)), nI_clamp (by omega), (Q.thr 0).ce hq, if_neg h0, hbz, hb, cb1_s, if_neg (show ¬ bI true = 0 by decide), no_s, cb2_s, if_pos rfl]
      · have hb : busy S c p (nI q) = false := by cases h9 : busy S c p (nI q) with
          | true => exact absurd h9 hb
          | false => rfl
        have hgo : ∀ (v r : Int32), isb r = true → (∃ z, z < 5 ∧ v = cv z) → (∀ M1, m_X3_put fu M (0 + 1) (nI q) v = some M1 → m_L_house fu M 40 x y 69 = some (mst M1 69 0 r, 0)) → (∀ N, RR 49 N S → m_X7_house fu N 44 x y = some (mst (mst N 44 0 0) (49 + 1) q v, r)) → Okb (m_L_house fu M 40 x y 69) (fun N => m_X7_house fu N 44 x y) := by
          intro v r hr hv h1 h2
          obtain ⟨M1, p1, R1, f1⟩ := put_s (fu := fu) (o := some q) LI_0 R SN_0 (fun z hz => by cases hz; exact hq) v
          have Q1 : RR 49 (mst M1 69 0 r) S := Q.cl (fun a ha hb => (mst_ne hb).trans (f1 a (by omega)))
          refine ⟨_, 0, _, r, h1 M1 p1, h2 _ Q1, ?_, fun _ => ?_, hr, ?_⟩
          · rw [mst_ne (by decide), mst_s]
          · rw [mst_ne (by decide), mst_ne (by decide), mst_s]
          · refine Inv.fin D R1 ((Q1.thr 0).wce LI_49 hq v) (W.w0 hv) ?_ (fun a ha => ?_) (mst_ne (by decide)) (mst_ne (by decide))
            · rw [mst_ne (by decide), mst_ne (by decide), mst_ne (by decide), f1 46 (by omega)]
            · rw [mst_ne (by omega), mst_ne (by omega), mst_ne (by omega)]
        by_cases hh : S 0 q = -1
        · refine hgo 0 0 rfl ⟨1, by decide, rfl⟩ (fun M1 p1 => ?_) (fun N Q1 => ?_)
          · unfold m_L_house m_X5_house
            rw [e1, xb_r, hat, cb1_s, if_neg h0, htk, hb, cb1_s, if_pos (show bI false = 0 by decide), if_pos hh, p1]
            rfl
          · have hbz := isBusy_s (fu := fu) (Q1.thr 0) W SK_49 (nI q) (by omega)
            unfold m_X7_house
            rw [mlet_s, e2, cb1_s, if_neg (by decide), mlet_s, e3, al50, chk_t (inb_nI hq (by decide)), nI_clamp (by omega), (Q1.thr 0).ce hq, if_neg h0, hbz, hb, cb1_s, if_pos (show bI false = 0 by decide), chk_t (inb_nI hq (by decide)), if_pos hh, chk_t (inb_nI hq (by decide)), mlet_s, chk_t (inb_nI hq (by decide)), mst_s, if_neg (by decide)]
        · refine hgo (-1) 1 rfl ⟨0, by decide, rfl⟩ (fun M1 p1 => ?_) (fun N Q1 => ?_)
          · unfold m_L_house m_X5_house
            rw [e1, xb_r, hat, cb1_s, if_neg h0, htk, hb, cb1_s, if_pos (show bI false = 0 by decide), if_neg hh, p1]
            rfl
          · have hbz := isBusy_s (fu := fu) (Q1.thr 0) W SK_49 (nI q) (by omega)
            unfold m_X7_house
            rw [mlet_s, e2, cb1_s, if_neg (by decide), mlet_s, e3, al50, chk_t (inb_nI hq (by decide)), nI_clamp (by omega), (Q1.thr 0).ce hq, if_neg h0, hbz, hb, cb1_s, if_pos (show bI false = 0 by decide), chk_t (inb_nI hq (by decide)), if_neg hh, chk_t (inb_nI hq (by decide)), mlet_s, chk_t (inb_nI hq (by decide)), mst_s, if_pos (by decide)]
  · refine Okb.no hInv (k := 1) (by decide) ?_ ?_
    · unfold m_L_house m_X5_house
      rw [e1]
      rfl
    · show m_X7_house fu M 44 x y = _
      unfold m_X7_house
      rw [mlet_s, e2, cb1_s, if_pos rfl, no_s, cb2_s, if_pos rfl]
theorem call_block (hf : 30 < fu) (h : Inv M) (x y v : Int32) : Okc (m_L_block fu M 40 x y v 69) (fun N => m_X7_block fu N 44 x y v) := by
  have hInv := h
  obtain ⟨S, c, p, R, Q, D, W⟩ := h
  rcases cell_c (fu := fu) x y with ⟨q, hq, e1, e2, e3⟩ | ⟨e1, e2⟩
  · have hat : m_X3_at fu M (0 + 1) (nI q) = some (S 0 q) := at_s (o := some q) R SN_0 (fun z hz => by cases hz; exact hq)
    have htk := isTaken_s (fu := fu) R W (nI q) (by omega)
    have hbz := isBusy_s (fu := fu) (Q.thr 0) W SK_49 (nI q) (by omega)
    rcases pk_ix v (n := 4) (by decide) with hv | hv | ⟨j, hj, rfl⟩
    · refine Okc.no hInv (k := 2) (by decide) ?_ ?_
      · unfold m_L_block m_X5_block
        rw [e1, xb_r, if_pos hv]
        rfl
      · show m_X7_block fu M 44 x y v = _
        unfold m_X7_block
        rw [mlet_s, e2, cb1_s, if_neg (by decide), isIn_lo hv, cb1_s, if_pos rfl, no_s, cb2_s]
    · have h3 : (3 : Int32) < v := pr_lt (n := 4) (by decide) hv
      refine Okc.no hInv (k := 2) (by decide) ?_ ?_
      · unfold m_L_block m_X5_block
        rw [e1, xb_r, if_neg (Int32.not_le.mpr h3), ite_self]
        rfl
      · show m_X7_block fu M 44 x y v = _
        unfold m_X7_block
        rw [mlet_s, e2, cb1_s, if_neg (by decide), isIn_hi h3, cb1_s, if_pos rfl, no_s, cb2_s]
    · have e5 : ∀ N, m_X7_isIn fu N (nI j) 0 3 = some 1 := fun N => isIn_1 (a := 0) (b := 3) (Nat.zero_le j) (by omega) (by decide)
      have c1 : ¬ nI j < 0 := nI_pos (by omega)
      have c2 : nI j ≤ 3 := nI_le (b := 3) (by omega) (by omega)
      by_cases hh : S 0 q = -1
      · refine Okc.no hInv (k := 3) (by decide) ?_ ?_
        · unfold m_L_block m_X5_block
          rw [e1, xb_r, if_neg c1, if_pos c2, hat, cb1_s, if_pos hh]
          rfl
        · show m_X7_block fu M 44 x y (nI j) = _
          unfold m_X7_block
          rw [mlet_s, e2, cb1_s, if_neg (by decide), e5, cb1_s, if_neg (by decide), mlet_s, e3, al50, chk_t (inb_nI hq (by decide)), nI_clamp (n := q) (by omega), (Q.thr 0).ce hq, if_pos hh, no_s, cb2_s]
      · by_cases hb : busy S c p (nI q) = true
        · refine Okc.no hInv (k := 3) (by decide) ?_ ?_
          · unfold m_L_block m_X5_block
            rw [e1, xb_r, if_neg c1, if_pos c2, hat, cb1_s, if_neg hh, htk, hb, cb1_s, if_neg (show ¬ bI true = 0 by decide)]
            rfl
          · show m_X7_block fu M 44 x y (nI j) = _
            unfold m_X7_block
            rw [mlet_s, e2, cb1_s, if_neg (by decide), e5, cb1_s, if_neg (by decide), mlet_s, e3, al50, chk_t (inb_nI hq (by decide)), nI_clamp (n := q) (by omega), (Q.thr 0).ce hq, if_neg hh, hbz, hb, cb1_s, if_neg (show ¬ bI true = 0 by decide), no_s, cb2_s]
        · have hb : busy S c p (nI q) = false := by cases h9 : busy S c p (nI q) with
            | true => exact absurd h9 hb
            | false => rfl
          obtain ⟨M1, p1, R1, f1⟩ := put_s (fu := fu) (o := some q) LI_0 R SN_0 (fun z hz => by cases hz; exact hq) (nI j)
          have p1 : m_X3_put fu M (0 + 1) (nI q) (nI j) = some M1 := p1
          have Q1 : RR 49 (mst M1 69 0 (S 0 q)) S := Q.cl (fun a ha hb => (mst_ne hb).trans (f1 a (by omega)))
          have hbz := isBusy_s (fu := fu) (Q1.thr 0) W SK_49 (nI q) (by omega)
          refine ⟨mst M1 69 0 (S 0 q), 0, mst (mst (mst M1 69 0 (S 0 q)) 44 0 0) (49 + 1) q (nI j), S 0 q, ?_, ?_, ?_, fun _ => ?_, ?_⟩
          · unfold m_L_block m_X5_block
            rw [e1, xb_r, if_neg c1, if_pos c2, hat, cb1_s, if_neg hh, htk, hb, cb1_s, if_pos (show bI false = 0 by decide), p1]
            rfl
          · show m_X7_block fu _ 44 x y (nI j) = _
            unfold m_X7_block
            rw [mlet_s, e2, cb1_s, if_neg (by decide), e5, cb1_s, if_neg (by decide), mlet_s, e3, al50, chk_t (inb_nI hq (by decide)), nI_clamp (n := q) (by omega), (Q1.thr 0).ce hq, if_neg hh, hbz, hb, cb1_s, if_pos (show bI false = 0 by decide), chk_t (inb_nI hq (by decide)), mlet_s, chk_t (inb_nI hq (by decide)), mlet_s]
          · rw [mst_ne (by decide), mst_s]
          · rw [mst_ne (by decide), mst_ne (by decide), mst_s]
          · refine Inv.fin D R1 ((Q1.thr 0).wce LI_49 hq (nI j)) (W.w0 ⟨j + 1, by omega, ?_⟩) ?_ (fun a ha => ?_) (mst_ne (by decide)) (mst_ne (by decide))
            · unfold cv
              rw [nI_pred]
            · rw [mst_ne (by decide), mst_ne (by decide), mst_ne (by decide), f1 46 (by omega)]
            · rw [mst_ne (by omega), mst_ne (by omega), mst_ne (by omega)]
  · refine Okc.no hInv (k := 1) (by decide) ?_ ?_
    · unfold m_L_block m_X5_block
      rw [e1]
      rfl
    · show m_X7_block fu M 44 x y v = _
      unfold m_X7_block
      rw [mlet_s, e2, cb1_s, if_pos rfl, no_s, cb2_s]
/-- what only tells -/
theorem Okc.tell {cls : Option (Mem × Int32)} {ref : Mem → Option (Mem × Int32)} (h : Inv M) {r : Int32} (h1 : cls = some (mst M 69 0 r, 0)) (h2 : ref (mst M 69 0 r) = some (mst (mst M 69 0 r) 44 0 0, r)) : Okc cls ref := ⟨_, 0, _, r, h1, h2, mst_s _ _ _ _, fun _ => by rw [mst_ne (by decide), mst_s], (h.out r).thr 0⟩
theorem Okb.tell {cls : Option (Mem × Int32)} {ref : Mem → Option (Mem × Int32)} (h : Inv M) {r : Int32} (hr : isb r = true) (h1 : cls = some (mst M 69 0 r, 0)) (h2 : ref (mst M 69 0 r) = some (mst (mst M 69 0 r) 44 0 0, r)) : Okb cls ref := ⟨_, 0, _, r, h1, h2, mst_s _ _ _ _, fun _ => by rw [mst_ne (by decide), mst_s], hr, (h.out r).thr 0⟩
theorem RR.out (Q : RR 49 M S) (r : Int32) : RR 49 (mst M 69 0 r) S := Q.cl (fun a _ h => mst_ne h)
theorem call_cell (h : Inv M) (x y : Int32) : Okc (m_L_cell fu M 40 x y 69) (fun N => m_X7_cell fu N 44 x y) := by
  have hInv := h
  obtain ⟨S, c, p, R, Q, D, W⟩ := h
  rcases cell_c (fu := fu) x y with ⟨q, hq, e1, e2, e3⟩ | ⟨e1, e2⟩
  · have hat : m_X3_at fu M (0 + 1) (nI q) = some (S 0 q) := at_s (o := some q) R SN_0 (fun z hz => by cases hz; exact hq)
    refine Okc.tell hInv (r := S 0 q) ?_ ?_
    · unfold m_L_cell m_X5_cell
      rw [e1, xb_r, hat]
      rfl
    · show m_X7_cell fu _ 44 x y = _
      unfold m_X7_cell
      rw [mlet_s, e2, cb1_s, if_neg (by decide), e3, al50, chk_t (inb_nI hq (by decide)), nI_clamp (by omega), ((Q.out _).thr 0).ce hq]
  · refine Okc.no hInv (k := 1) (by decide) ?_ ?_
    · unfold m_L_cell m_X5_cell
      rw [e1]
      rfl
    · show m_X7_cell fu M 44 x y = _
      unfold m_X7_cell
      rw [mlet_s, e2, cb1_s, if_pos rfl, no_s, cb2_s]
end Calls

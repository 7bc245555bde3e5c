/-! ===== the calls: patrol, crowd, guard, sees, count, way, pass ===== -/
theorem four_dec : ∀ ln < 13, ln = 0 ∨ (1 : Int32) <<< ((2 * nI ln) &&& 31) = nI (4 ^ ln) := by decide +kernel
theorem dig_dec {w t : Nat} (hw : w < 2 ^ 24) (ht : t < 12) : (nI w >>> ((2 * nI t) &&& 31)) &&& 3 = nI (w / 4 ^ t % 4) := dir_n hw ht
theorem four_le : ∀ ln < 13, 4 ^ ln ≤ 2 ^ 24 := by decide
section CallsC
variable {c p fu : Nat} {M N S : Mem}
theorem pat_L113 {p : Nat} (hp : p < 3) {ln w : Nat} (hln : ln ≤ 12) (hw : w < 2 ^ 24) : ∀ (d i g : Nat) (N : Mem), i + d = ln → d < g → N 44 2 = nI p → ∃ N1, m_X7_patrol_L113 fu 44 (nI ln) (nI w) g N (nI i) = some N1 ∧ (∀ t, i ≤ t → t < ln → N1 46 (12 * p + t) = nI (w / 4 ^ t % 4)) ∧ (∀ j, (j < 12 * p + i ∨ 12 * p + ln ≤ j) → N1 46 j = N 46 j) ∧ ∀ a, a ≠ 46 → N1 a = N a := by
  intro d
  induction d with
  | zero =>
    intro i g N hi hg hN
    obtain ⟨g, rfl⟩ := f1 hg
    rw [m_X7_patrol_L113, if_pos (nI_le (by omega) (by omega))]
    exact ⟨N, rfl, fun t h1 h2 => by omega, fun _ _ => rfl, fun _ _ => rfl⟩
  | succ d ih =>
    intro i g N hi hg hN
    obtain ⟨g, rfl⟩ := f1 hg
    have e46 : alen (44 + 2) = 36 := by decide
    rw [m_X7_patrol_L113, if_neg (nI_ge (by omega) (by omega)), hN, show (12 : Int32) * nI p = nI (12 * p) from pk_mul 12 p, nI_add, e46, chk_t (inb_nI (by omega) (by decide)), nI_clamp (n := 12 * p + i) (by omega), dig_dec hw (by omega), mlet_s, mlet_s, nI_1]
    obtain ⟨N1, e1, h1, h2, h3⟩ := ih (i + 1) g (mst N (44 + 2) (12 * p + i) (nI (w / 4 ^ i % 4))) (by omega) (by omega) (by rw [mst_ne (by decide)]; exact hN)
    refine ⟨N1, e1, fun t t1 t2 => ?_, fun j hj => ?_, fun a ha => (h3 a ha).trans (mst_ne ha)⟩
    · by_cases e : t = i
      · subst e
        rw [h2 _ (by omega)]
        exact mst_s _ _ _ _
      · exact h1 t (by omega) t2
    · rw [h2 j (by omega)]
      exact mst_o (fun z => by omega)
theorem WF.pat (W : WF c p S) (h : p < 3) {q ln : Nat} (hq : q < 108) (h1 : 1 ≤ ln) (h2 : ln ≤ 12) (x : Int32) : WF c (p + 1) (mst (mst (mst (mst S 7 p (nI q)) 12 p (nI ln)) 13 p x) 11 0 (nI (p + 1))) := by
  obtain ⟨h0, h1', h2', h3, h4, h5, h6, h7, h8, h9, h10, h11⟩ := W.w7 (j := p) ⟨q, hq, rfl⟩
  refine ⟨h0, by omega, ?_, mst_s _ _ _ _, ?_, ?_, ?_, ?_, ?_, ?_, ?_, ?_⟩
  · rw [mst_ne (by decide), mst_ne (by decide), mst_ne (by decide)]; exact h2'
  · rw [mst_ne (by decide), mst_ne (by decide), mst_ne (by decide)]; exact h4
  · rw [mst_ne (by decide), mst_ne (by decide), mst_ne (by decide)]; exact h5
  · rw [mst_ne (by decide), mst_ne (by decide), mst_ne (by decide)]; exact h6
  · rw [mst_ne (by decide), mst_ne (by decide), mst_ne (by decide)]; exact h7
  · rw [mst_ne (by decide), mst_ne (by decide), mst_ne (by decide)]; exact h8
  · rw [mst_ne (by decide), mst_ne (by decide), mst_ne (by decide)]; exact h9
  · rw [mst_ne (by decide), mst_ne (by decide), mst_ne (by decide)]; exact h10
  · rw [mst_ne (show (8 : Nat) ≠ 11 by decide), mst_ne (show (8 : Nat) ≠ 13 by decide), mst_ne (show (8 : Nat) ≠ 12 by decide), mst_ne (show (12 : Nat) ≠ 11 by decide), mst_ne (show (12 : Nat) ≠ 13 by decide)]
    intro i hi
    obtain ⟨z, l, g1, g2, g3, g4, g5, g6⟩ := h11 i hi
    by_cases e : i = p
    · subst e
      have z0 := g6 (Nat.le_refl i)
      subst z0
      refine ⟨0, ln, g1, mst_s _ _ _ _, Nat.zero_le ln, h2, fun _ => by omega, fun _ => rfl⟩
    · have h12e : mst (mst S 7 p (nI q)) 12 p (nI ln) 12 i = mst S 7 p (nI q) 12 i := mst_o (fun z => e z.2)
      rw [h12e]
      exact ⟨z, l, g1, g2, g3, g4, fun h => g5 (by omega), fun h => g6 (by omega)⟩
theorem CR.wln {n : Nat} (hI : LInj 14 (LC n)) (R : CR n M S) {i : Nat} (h : i < 3) (x : Int32) : CR n (mst M (ptl n i) 1 x) (mst S 12 i x) := CR.wr hI R (f := 12) (by decide) h x
theorem CR.wrd {n : Nat} (hI : LInj 14 (LC n)) (R : CR n M S) {i : Nat} (h : i < 3) (x : Int32) : CR n (mst M (ptl n i) 2 x) (mst S 13 i x) := CR.wr hI R (f := 13) (by decide) h x
theorem RR.w13 {k i : Nat} {x : Int32} (Q : RR k N S) : RR k N (mst S 13 i x) := fun f hf j hj => by rw [mst_ne (by omega)]; exact Q f hf j hj
theorem call_patrol (hf : 30 < fu) (h : Inv M) (x y l v : Int32) : Okc (m_L_patrol fu M 40 x y l v 69) (fun N => m_X7_patrol fu N 44 x y l v) := by
  have hInv := h
  obtain ⟨S, c, p, R, Q, D, W⟩ := h
  have h3 := W.p3
  rcases cell_c (fu := fu) x y with ⟨q, hq, e1, e2, e3⟩ | ⟨e1, e2⟩
  · have hfr : m_X3_isFree fu M (0 + 1) (nI q) = some (bI (decide (S 0 q = 0))) := isFree_s (o := some q) R SN_0 (fun z hz => by cases hz; exact hq)
    rcases rng_c (fu := fu) l (m := 12) (by decide) with ⟨ln, hl1, hl, rfl, e5⟩ | ⟨hv, e5⟩
    · have e5 : ∀ N, m_X7_isIn fu N (nI ln) 1 12 = some 1 := e5
      have c1 : ¬ nI ln < 1 := nI_nlt (b := 1) hl1 (by omega)
      have c2 : ¬ 12 < nI ln := nI_nlt (a := 12) (by omega) (by omega)
      have k4 : (1 : Int32) <<< ((2 * nI ln) &&& 31) = nI (4 ^ ln) := (four_dec ln (by omega)).resolve_left (by omega)
      have k4b := four_le ln (by omega)
      rcases pk_ix v (n := 4 ^ ln) (by omega) with hv | hv | ⟨w, hw, rfl⟩
      · refine Okc.no hInv (k := 2) (by decide) ?_ ?_
        · unfold m_L_patrol m_X5_patrol
          rw [e1, xb_r, if_neg c1, if_neg c2, if_pos hv]
          rfl
        · show m_X7_patrol fu M 44 x y (nI ln) v = _
          unfold m_X7_patrol
          rw [mlet_s, e2, cb1_s, if_neg (by decide), e5, cb1_s, if_neg (by decide), isIn_lo hv, cb1_s, if_pos rfl, no_s, cb2_s]
      · have e6 := fun N => pr_no (fu := fu) (N := N) (n := 4 ^ ln) (by omega) (Or.inr hv)
        refine Okc.no hInv (k := 2) (by decide) ?_ ?_
        · unfold m_L_patrol m_X5_patrol
          rw [e1, xb_r, if_neg c1, if_neg c2, k4, if_neg (show ¬ v < nI (4 ^ ln) from Int32.not_lt.mpr hv), ite_self]
          rfl
        · show m_X7_patrol fu M 44 x y (nI ln) v = _
          unfold m_X7_patrol
          rw [mlet_s, e2, cb1_s, if_neg (by decide), e5, cb1_s, if_neg (by decide), k4, e6, cb1_s, if_pos rfl, no_s, cb2_s]
      · have e6 := fun N => pr_is (fu := fu) (N := N) hw (show 4 ^ ln < 2 ^ 30 by omega)
        have c3 : ¬ nI w < 0 := nI_pos (by omega)
        have c4 : nI w < nI (4 ^ ln) := nI_lt hw (by omega)
        by_cases hp : p = 3
        · refine Okc.no hInv (k := 3) (by decide) ?_ ?_
          · unfold m_L_patrol m_X5_patrol
            rw [e1, xb_r, if_neg c1, if_neg c2, if_neg c3, k4, if_pos c4, R.np, W.np, if_pos (show (3 : Int32) ≤ nI p from nI_le (a := 3) (by omega) (by omega))]
            rfl
          · show m_X7_patrol fu M 44 x y (nI ln) (nI w) = _
            unfold m_X7_patrol
            rw [mlet_s, e2, cb1_s, if_neg (by decide), e5, cb1_s, if_neg (by decide), k4, e6, cb1_s, if_neg (by decide), (Q.thr 0).np, W.np, if_pos (show nI p = 3 by rw [hp]; rfl), no_s, cb2_s]
        · have k3 : ¬ nI p = 3 := fun z => hp ((nI_eq (a := p) (b := 3) (by omega) (by decide)).mp z)
          have hp3 : p < 3 := by omega
          by_cases h0 : S 0 q = 0
          · have R1 : CR 0 (mst (mst (mst (mst M (ptl 0 p) 0 (nI q)) (ptl 0 p) 1 (nI ln)) (ptl 0 p) 2 (nI w)) 0 4 (nI (p + 1))) (mst (mst (mst (mst S 7 p (nI q)) 12 p (nI ln)) 13 p (nI w)) 11 0 (nI (p + 1))) := CR.wr LI_0 (((R.wpo LI_0 hp3 (nI q)).wln LI_0 hp3 (nI ln)).wrd LI_0 hp3 (nI w)) (f := 11) (i := 0) (by decide) (by decide) (nI (p + 1))
            have hlo : ∀ a, 20 ≤ a → (mst (mst (mst (mst M (ptl 0 p) 0 (nI q)) (ptl 0 p) 1 (nI ln)) (ptl 0 p) 2 (nI w)) 0 4 (nI (p + 1))) a = M a := fun a ha => by
              have := ptl_in (n := 0) hp3
              rw [mst_ne (by omega), mst_ne (by omega), mst_ne (by omega), mst_ne (by omega)]
            have Q1 : RR 49 (mst (mst (mst (mst (mst M (ptl 0 p) 0 (nI q)) (ptl 0 p) 1 (nI ln)) (ptl 0 p) 2 (nI w)) 0 4 (nI (p + 1))) 69 0 (nI p)) S := Q.cl (fun a ha hb => (mst_ne hb).trans (hlo a (by omega)))
            have Q2 := Q1.thr 0
            have hcw : (0 : Nat) ≠ ptl 0 p := by unfold ptl; omega
            have n1 := Q2.np
            rw [W.np] at n1
            have n2 : mst (mst (mst (mst (mst (mst (mst (mst M (ptl 0 p) 0 (nI q)) (ptl 0 p) 1 (nI ln)) (ptl 0 p) 2 (nI w)) 0 4 (nI (p + 1))) 69 0 (nI p)) 44 0 0) (49 + 8) p (nI q)) (44 + 1) p (nI ln) 44 2 = nI p := by
              rw [mst_ne (by decide), mst_ne (by decide)]
              exact n1
            obtain ⟨N1, g1, g2, g3, g4⟩ := pat_L113 (fu := fu) hp3 (ln := ln) (w := w) hl (by omega) ln 0 fu _ (by omega) (by omega) n2
            rw [nI_0] at g1
            have Q3 : RR 49 N1 (mst (mst (mst S 7 p (nI q)) 12 p (nI ln)) 13 p (nI w)) := by
              have Q4 := RR.wr LI_49 (Q2.wpo LI_49 hp3 (nI q)) (f := 12) (i := p) (by decide) hp3 (nI ln)
              have Q5 : RR 49 N1 (mst (mst S 7 p (nI q)) 12 p (nI ln)) := Q4.fm (fun a h1 h2 => g4 a (by omega)) (by rw [g4 44 (by decide)]; rfl) (by rw [g4 44 (by decide)]; rfl) (g4 45 (by decide))
              exact Q5.w13
            have n3 : N1 44 2 = nI p := by rw [g4 44 (by decide)]; exact n2
            refine ⟨mst (mst (mst (mst (mst M (ptl 0 p) 0 (nI q)) (ptl 0 p) 1 (nI ln)) (ptl 0 p) 2 (nI w)) 0 4 (nI (p + 1))) 69 0 (nI p), 0, mst N1 44 2 (nI (p + 1)), nI p, ?_, ?_, ?_, fun _ => ?_, ?_⟩
            · unfold m_L_patrol m_X5_patrol m_X1_addPatrol
              rw [e1, xb_r, if_neg c1, if_neg c2, if_neg c3, k4, if_pos c4, R.np, W.np, if_neg (show ¬ (3 : Int32) ≤ nI p from nI_ge (b := 3) hp3 (by omega)), hfr, decide_eq_true h0, cb1_s, if_neg (show ¬ bI true = 0 by decide), mlet_s, if_neg (show ¬ (3 : Int32) ≤ nI p from nI_ge (b := 3) hp3 (by omega)), chk_t (inb_nI hp3 (by decide)), elP_nI 0 (by omega), mlet_s, chk_t (inb_nI hp3 (by decide)), mlet_s, chk_t (inb_nI hp3 (by decide)), mlet_s, mst_ne hcw, mst_ne hcw, mst_ne hcw, R.np, W.np, nI_1, mlet_s]
              rfl
            · show m_X7_patrol fu _ 44 x y (nI ln) (nI w) = _
              unfold m_X7_patrol
              rw [mlet_s, e2, cb1_s, if_neg (by decide), e5, cb1_s, if_neg (by decide), k4, e6, cb1_s, if_neg (by decide), n1, if_neg k3, e3, al50, chk_t (inb_nI hq (by decide)), nI_clamp (n := q) (by omega), Q2.ce hq, if_pos h0, al57, chk_t (inb_nI hp3 (by decide)), nI_clamp (n := p) (by omega), mlet_s, mst_ne (show (44 : Nat) ≠ 49 + 8 by decide), n1, show alen (44 + 1) = 3 by decide, chk_t (inb_nI hp3 (by decide)), nI_clamp (n := p) (by omega), mlet_s, g1, cb1_s, n3, nI_1, mlet_s, mst_s, nI_pred]
            · rw [mst_o (by omega), g4 44 (by decide), mst_ne (by decide), mst_ne (by decide), mst_s]
            · rw [mst_ne (by decide), g4 69 (by decide), mst_ne (by decide), mst_ne (by decide), mst_ne (by decide), mst_s]
            · have hlt20 : ∀ a, a < 20 → mst N1 44 2 (nI (p + 1)) a = mst (mst (mst (mst M (ptl 0 p) 0 (nI q)) (ptl 0 p) 1 (nI ln)) (ptl 0 p) 2 (nI w)) 0 4 (nI (p + 1)) a := fun a ha => by
                rw [mst_ne (by omega), g4 a (by omega), mst_ne (by omega), mst_ne (by omega), mst_ne (by omega), mst_ne (by omega)]
              refine Inv.mk1 R1 (RR.wr LI_49 Q3 (f := 11) (i := 0) (by decide) (by decide) (nI (p + 1))) ?_ (W.pat hp3 hq hl1 hl (nI w)) hlt20
              intro i hi
              have s13 : ∀ z : Mem, mst z 11 0 (nI (p + 1)) 13 = z 13 := fun z => mst_ne (by decide)
              have s12 : ∀ z : Mem, mst z 11 0 (nI (p + 1)) 12 = z 12 := fun z => mst_ne (by decide)
              have h46 : mst N1 44 2 (nI (p + 1)) 46 = N1 46 := mst_ne (by decide)
              rw [h46, s13, s12]
              by_cases e : i = p
              · subst e
                refine ⟨w, ln, by omega, hl, mst_s _ _ _ _, ?_, fun t ht => g2 t (Nat.zero_le t) ht⟩
                rw [mst_ne (by decide), mst_s]
              · obtain ⟨w2, l2, a1, a2, a3, a4, a5⟩ := D i (by omega)
                refine ⟨w2, l2, a1, a2, ?_, ?_, fun t ht => ?_⟩
                · rw [mst_o (fun z => e z.2), mst_ne (by decide), mst_ne (by decide)]; exact a3
                · rw [mst_ne (by decide), mst_o (fun z => e z.2), mst_ne (by decide)]; exact a4
                · rw [g3 _ (by omega), mst_ne (by decide), mst_ne (by decide), mst_ne (by decide), mst_ne (by decide), hlo 46 (by decide)]
                  exact a5 t ht
          · refine Okc.no hInv (k := 3) (by decide) ?_ ?_
            · unfold m_L_patrol m_X5_patrol
              rw [e1, xb_r, if_neg c1, if_neg c2, if_neg c3, k4, if_pos c4, R.np, W.np, if_neg (show ¬ (3 : Int32) ≤ nI p from nI_ge (b := 3) hp3 (by omega)), hfr, decide_eq_false h0, cb1_s, if_pos (show bI false = 0 by decide)]
              rfl
            · show m_X7_patrol fu M 44 x y (nI ln) (nI w) = _
              unfold m_X7_patrol
              rw [mlet_s, e2, cb1_s, if_neg (by decide), e5, cb1_s, if_neg (by decide), k4, e6, cb1_s, if_neg (by decide), (Q.thr 0).np, W.np, if_neg k3, e3, al50, chk_t (inb_nI hq (by decide)), nI_clamp (n := q) (by omega), (Q.thr 0).ce hq, if_neg h0, no_s, cb2_s]
    · have e5 : ∀ N, m_X7_isIn fu N l 1 12 = some 0 := e5
      refine Okc.no hInv (k := 2) (by decide) ?_ ?_
      · unfold m_L_patrol m_X5_patrol
        rw [e1, xb_r]
        rcases hv with h | ⟨h, h2⟩
        · rw [if_pos h]
          rfl
        · rw [if_neg h, if_pos (show (12 : Int32) < l from h2)]
          rfl
      · show m_X7_patrol fu M 44 x y l v = _
        unfold m_X7_patrol
        rw [mlet_s, e2, cb1_s, if_neg (by decide), e5, cb1_s, if_pos rfl, no_s, cb2_s]
  · refine Okc.no hInv (k := 1) (by decide) ?_ ?_
    · unfold m_L_patrol m_X5_patrol
      rw [e1]
      rfl
    · show m_X7_patrol fu M 44 x y l v = _
      unfold m_X7_patrol
      rw [mlet_s, e2, cb1_s, if_pos rfl, no_s, cb2_s]
theorem call_crowd (hf : 120 < fu) (h : Inv M) (x v : Int32) : Okc (m_L_crowd fu M 40 x v 69) (fun N => m_X7_crowd fu N 44 x v) := by
  have hInv := h
  obtain ⟨S, c, p, R, Q, D, W⟩ := h
  have h6 := W.c6
  rcases crowd_c (fu := fu) W x with ⟨i, hi, rfl, e1, e2⟩ | ⟨e1, e2⟩
  · rcases what_c (fu := fu) v (n := 8) (by decide) with ⟨w, hw, rfl, e3, e4⟩ | ⟨e3, e4⟩
    · have e3 : ∀ M, m_X5_needWhat fu M (nI w) 8 = some (Sum.inr ()) := e3
      have e4 : ∀ N, m_X7_isIn fu N (nI w) 0 7 = some 1 := e4
      have hn := crowdN_s (fu := fu) R W SN_0 (by omega) (j := i) (w := w) (by omega) hw
      have Q2 := (Q.out (crdS S p i w)).thr 0
      have ht := crowdT_s (fu := fu) Q2 W (by omega) (j := i) (w := w) (by omega) hw
      refine Okc.tell hInv (r := crdS S p i w) ?_ ?_
      · unfold m_L_crowd m_X5_crowd
        rw [e1 M R, xb_r, e3, xb_r, chk_t (inb_nI (by omega) (by decide)), elC_nI 0 (by omega), hn]
        rfl
      · show m_X7_crowd fu _ 44 (nI i) (nI w) = _
        unfold m_X7_crowd
        rw [mlet_s, e2 _ Q2, cb1_s, if_neg (by decide), e4, cb1_s, if_neg (by decide), ht, cb1_s]
    · have e3 : ∀ M, m_X5_needWhat fu M v 8 = some (Sum.inl 1) := e3
      have e4 : ∀ N, m_X7_isIn fu N v 0 7 = some 0 := e4
      refine Okc.no hInv (k := 1) (by decide) ?_ ?_
      · unfold m_L_crowd m_X5_crowd
        rw [e1 M R, xb_r, e3]
        rfl
      · show m_X7_crowd fu M 44 (nI i) v = _
        unfold m_X7_crowd
        rw [mlet_s, e2 _ (Q.thr 0), cb1_s, if_neg (by decide), e4, cb1_s, if_pos rfl, no_s, cb2_s]
  · refine Okc.no hInv (k := 1) (by decide) ?_ ?_
    · unfold m_L_crowd m_X5_crowd
      rw [e1 M R]
      rfl
    · show m_X7_crowd fu M 44 x v = _
      unfold m_X7_crowd
      rw [mlet_s, e2 _ (Q.thr 0), cb1_s, if_pos rfl, no_s, cb2_s]
theorem RD.out (D : RD p M S) (r : Int32) : RD p (mst M 69 0 r) S := D.cl (mst_ne (by decide))
theorem call_guard (hf : 120 < fu) (h : Inv M) (x v : Int32) : Okc (m_L_guard fu M 40 x v 69) (fun N => m_X7_guard fu N 44 x v) := by
  have hInv := h
  obtain ⟨S, c, p, R, Q, D, W⟩ := h
  have h3 := W.p3
  rcases patrol_c (fu := fu) W x with ⟨i, hi, rfl, e1, e2⟩ | ⟨e1, e2⟩
  · rcases what_c (fu := fu) v (n := 4) (by decide) with ⟨w, hw, rfl, e3, e4⟩ | ⟨e3, e4⟩
    · have e3 : ∀ M, m_X5_needWhat fu M (nI w) 4 = some (Sum.inr ()) := e3
      have e4 : ∀ N, m_X7_isIn fu N (nI w) 0 3 = some 1 := e4
      have hn := guardN_s (fu := fu) R W D SN_0 (by omega) (i := i) (w := w) hi hw
      have Q2 := (Q.out (grdS S c i w)).thr 0
      have ht := guardT_s (fu := fu) Q2 W ((D.out _).thr 0) (by omega) (i := i) (w := w) hi hw
      refine Okc.tell hInv (r := grdS S c i w) ?_ ?_
      · unfold m_L_guard m_X5_guard
        rw [e1 M R, xb_r, e3, xb_r, chk_t (inb_nI (by omega) (by decide)), elP_nI 0 (by omega), hn]
        rfl
      · show m_X7_guard fu _ 44 (nI i) (nI w) = _
        unfold m_X7_guard
        rw [mlet_s, e2 _ Q2, cb1_s, if_neg (by decide), e4, cb1_s, if_neg (by decide), ht, cb1_s]
    · have e3 : ∀ M, m_X5_needWhat fu M v 4 = some (Sum.inl 1) := e3
      have e4 : ∀ N, m_X7_isIn fu N v 0 3 = some 0 := e4
      refine Okc.no hInv (k := 1) (by decide) ?_ ?_
      · unfold m_L_guard m_X5_guard
        rw [e1 M R, xb_r, e3]
        rfl
      · show m_X7_guard fu M 44 (nI i) v = _
        unfold m_X7_guard
        rw [mlet_s, e2 _ (Q.thr 0), cb1_s, if_neg (by decide), e4, cb1_s, if_pos rfl, no_s, cb2_s]
  · refine Okc.no hInv (k := 1) (by decide) ?_ ?_
    · unfold m_L_guard m_X5_guard
      rw [e1 M R]
      rfl
    · show m_X7_guard fu M 44 x v = _
      unfold m_X7_guard
      rw [mlet_s, e2 _ (Q.thr 0), cb1_s, if_pos rfl, no_s, cb2_s]
theorem call_sees (hf : 120 < fu) (h : Inv M) (x v : Int32) : Okb (m_L_sees fu M 40 x v 69) (fun N => m_X7_sees fu N 44 x v) := by
  have hInv := h
  obtain ⟨S, c, p, R, Q, D, W⟩ := h
  have h3 := W.p3
  have h6 := W.c6
  rcases patrol_c (fu := fu) W x with ⟨i, hi, rfl, e1, e2⟩ | ⟨e1, e2⟩
  · rcases crowd_c (fu := fu) W v with ⟨j, hj, rfl, e3, e4⟩ | ⟨e3, e4⟩
    · have hn := isSeen_s (fu := fu) R W SN_0 (i := i) (j := j) (by omega) (by omega) (by omega)
      have Q2 := (Q.out (bI (seeS S i j))).thr 0
      have ht := sees_s (fu := fu) Q2 W SK_49 (i := i) (j := j) (by omega) (by omega) (by omega)
      refine Okb.tell hInv (r := bI (seeS S i j)) (isb_bI _) ?_ ?_
      · unfold m_L_sees m_X5_sees
        rw [e1 M R, xb_r, e3 M R, xb_r, chk_t (inb_nI (by omega) (by decide)), chk_t (inb_nI (by omega) (by decide)), elP_nI 0 (by omega), elC_nI 0 (by omega), hn, cb1_s, chk_t (isb_bI _)]
        cases seeS S i j <;> rfl
      · show m_X7_sees fu _ 44 (nI i) (nI j) = _
        unfold m_X7_sees
        rw [mlet_s, e2 _ Q2, cb1_s, if_neg (by decide), e4 _ Q2, cb1_s, if_neg (by decide), ht, cb1_s, chk_t (isb_bI _)]
    · refine Okb.no hInv (k := 1) (by decide) ?_ ?_
      · unfold m_L_sees m_X5_sees
        rw [e1 M R, xb_r, e3 M R]
        rfl
      · show m_X7_sees fu M 44 (nI i) v = _
        unfold m_X7_sees
        rw [mlet_s, e2 _ (Q.thr 0), cb1_s, if_neg (by decide), e4 _ (Q.thr 0), cb1_s, if_pos rfl, no_s, cb2_s, if_pos rfl]
  · refine Okb.no hInv (k := 1) (by decide) ?_ ?_
    · unfold m_L_sees m_X5_sees
      rw [e1 M R]
      rfl
    · show m_X7_sees fu M 44 x v = _
      unfold m_X7_sees
      rw [mlet_s, e2 _ (Q.thr 0), cb1_s, if_pos rfl, no_s, cb2_s, if_pos rfl]
theorem call_count (hf : 120 < fu) (h : Inv M) (v : Int32) : Okc (m_L_count fu M 40 v 69) (fun N => m_X7_count fu N 44 v) := by
  have hInv := h
  obtain ⟨S, c, p, R, Q, D, W⟩ := h
  rcases what_c (fu := fu) v (n := 8) (by decide) with ⟨w, hw, rfl, e3, e4⟩ | ⟨e3, e4⟩
  · have e3 : ∀ M, m_X5_needWhat fu M (nI w) 8 = some (Sum.inr ()) := e3
    have e4 : ∀ N, m_X7_isIn fu N (nI w) 0 7 = some 1 := e4
    have hn := total_s (fu := fu) R W SN_0 (by omega) (w := w) hw
    have Q2 := (Q.out (totS S c p w)).thr 0
    have ht := counted_s (fu := fu) Q2 W (by omega) (w := w) hw
    refine Okc.tell hInv (r := totS S c p w) ?_ ?_
    · unfold m_L_count m_X5_count
      rw [e3, xb_r, hn]
      rfl
    · show m_X7_count fu _ 44 (nI w) = _
      unfold m_X7_count
      rw [mlet_s, e4, cb1_s, if_neg (by decide), ht, cb1_s]
  · have e3 : ∀ M, m_X5_needWhat fu M v 8 = some (Sum.inl 1) := e3
    have e4 : ∀ N, m_X7_isIn fu N v 0 7 = some 0 := e4
    refine Okc.no hInv (k := 1) (by decide) ?_ ?_
    · unfold m_L_count m_X5_count
      rw [e3]
      rfl
    · show m_X7_count fu M 44 v = _
      unfold m_X7_count
      rw [mlet_s, e4, cb1_s, if_pos rfl, no_s, cb2_s]
end CallsC

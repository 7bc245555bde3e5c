/-! ===== the calls: advise ===== -/
def advS (S : Mem) (i code : Nat) : Mem := mst (mst S 4 i 1) 6 (24 * i) (nI code)
def advV (S : Mem) (c p i code : Nat) : Nat := shv (stepS (advS S i code) c p)
def advL (f : Nat → Nat) : Nat → Nat → Int32 → Nat → Int32
  | _, 0, b, _ => b
  | code, d + 1, b, l => if f code < l then advL f (code + 1) d (nI code) (f code) else advL f (code + 1) d b l
theorem advL_s {f : Nat → Nat} {code d l : Nat} {b : Int32} : advL f code (d + 1) b l = if f code < l then advL f (code + 1) d (nI code) (f code) else advL f (code + 1) d b l := by rw [advL]
theorem advL_0 {f : Nat → Nat} {code l : Nat} {b : Int32} : advL f code 0 b l = b := by rw [advL]
section CallsE
variable {n k c p fu : Nat} {M N S : Mem}
theorem WF.adv (W : WF c p S) {i code : Nat} (hi : i < 6) (hc : code < 12) : WF c p (advS S i code) := (W.w4 ⟨1, by decide, rfl⟩).w6 ⟨code, hc, rfl⟩
theorem Kp.adv {i code : Nat} : Kp S (advS S i code) := (Kp.wr (by decide)).tr (Kp.wr (by decide))
theorem adv_trial (hf : 120 < fu) (R : CR 0 M S) (W : WF c p S) (D : RD p N S) {i code : Nat} (hi : i < c) (hc : code < 12) : ∃ M1 M2, m_X5_shutsBehind fu M 40 (nI i) (nI code) = some (M2, nI (advV S c p i code)) ∧ advV S c p i code ≤ 9 ∧ CR 20 M1 (stepS (advS S i code) c p) ∧ ∀ a, (a < 20 ∨ 44 ≤ a) → M2 a = M a := by
  have h6 := W.c6
  have hi6 : i < 6 := by omega
  obtain ⟨M1, g1, R1, f1⟩ := become_s (fu := fu) R W (by omega)
  have R2 := R1.woc LI_20 hi6 0
  have R3 := R2.wor LI_20 hi6 (j := 0) (by decide) (nI code)
  have R4 := R3.woc LI_20 hi6 1
  have eS : mst (mst (mst S 4 i 0) 6 (24 * i + 0) (nI code)) 4 i 1 = advS S i code := by
    funext a b
    unfold advS
    by_cases h4 : a = 4 ∧ b = i
    · obtain ⟨rfl, rfl⟩ := h4
      rw [mst_s, mst_ne (by decide), mst_s]
    · rw [mst_o h4]
      by_cases h6 : a = 6 ∧ b = 24 * i
      · obtain ⟨rfl, rfl⟩ := h6
        rw [Nat.add_zero, mst_s, mst_s]
      · rw [Nat.add_zero, mst_o h6, mst_o h6, mst_o h4, mst_o h4]
  rw [eS] at R4
  have o0 : (mst M1 (cwd 20 i) 4 0) (cwd 20 i) 4 = 0 := mst_s _ _ _ _
  have e2 : m_X0_addOrder fu (mst M1 (cwd 20 i) 4 0) (cwd 20 i) (nI code) = some (mst (mst (mst M1 (cwd 20 i) 4 0) (cwd 20 i + 1) 0 (nI code)) (cwd 20 i) 4 1) := by
    unfold m_X0_addOrder
    rw [o0, if_neg (by decide), if_neg (by decide), SN_20.2 i hi6, chk_t (by decide), mlet_s, show (0 : Int32).toNatClampNeg = 0 from rfl, mst_ne (show cwd 20 i ≠ cwd 20 i + 1 by omega), o0, mlet_s]
    rfl
  obtain ⟨M2, g2, R5, f2⟩ := goOn_s (fu := fu) (m := 1) LI_20 SN_20 (by omega) (by decide) R4 (W.adv hi6 hc) (D.kp Kp.adv)
  have g2 : m_X1_goOn fu _ 20 1 = some M2 := g2
  have R5 : CR 20 M2 (stepS (advS S i code) c p) := R5
  obtain ⟨M3, g3, h9, f3⟩ := shut_c (fu := fu) (by decide) SN_20 (by omega) R5
  refine ⟨M2, M3, ?_, h9, R5, fun a ha => ?_⟩
  · unfold m_X5_shutsBehind
    rw [g1, cb1_s, chk_t (inb_nI hi6 (by decide)), elC_nI 20 (by omega), mlet_s, chk_t (inb_nI hi6 (by decide)), e2, cb1_s, g2, cb1_s, g3, cb2_s]
    rfl
  · have c1 := cwd_in (n := 20) hi6
    have c2 := cwd1_in (n := 20) hi6
    rw [f3 a (by omega), f2 a (by omega), mst_ne (by omega), mst_ne (by omega), mst_ne (by omega), f1 a (by omega)]
theorem adv_L30 (hf : 120 < fu) (W : WF c p S) (D : RD p N S) {i : Nat} (hi : i < c) : ∀ (d code g : Nat) (M : Mem) (b : Int32) (l : Nat), code + d = 12 → d < g → l < 2 ^ 30 → CR 0 M S → ∃ M1, m_X5_advise_L30 fu 40 (nI i) g M b (nI l) (nI code) = some (M1, advL (advV S c p i) code d b l) ∧ ∀ a, (a < 20 ∨ 44 ≤ a) → M1 a = M a := by
  intro d
  induction d with
  | zero =>
    intro code g M b l hc hg hl R
    obtain ⟨g, rfl⟩ := f1 hg
    rw [m_X5_advise_L30, if_pos (show (12 : Int32) ≤ nI code from nI_le (a := 12) (by omega) (by omega)), advL_0]
    exact ⟨M, rfl, fun _ _ => rfl⟩
  | succ d ih =>
    intro code g M b l hc hg hl R
    obtain ⟨g, rfl⟩ := f1 hg
    obtain ⟨-, M2, e1, h9, -, w2⟩ := adv_trial (fu := fu) hf R W D hi (code := code) (by omega)
    have R2 : CR 0 M2 S := R.lo (fun a ha => w2 a (Or.inl ha))
    rw [m_X5_advise_L30, if_neg (show ¬ (12 : Int32) ≤ nI code from nI_ge (b := 12) (by omega) (by omega)), e1, cb2_s, nI_1, advL_s]
    by_cases h : advV S c p i code < l
    · rw [if_neg (nI_ge h (by omega)), if_pos h, mlet_s]
      obtain ⟨M3, e3, w3⟩ := ih (code + 1) g M2 (nI code) (advV S c p i code) (by omega) (by omega) (by omega) R2
      exact ⟨M3, e3, fun a ha => (w3 a ha).trans (w2 a ha)⟩
    · rw [if_pos (nI_le (by omega) (by omega)), if_neg h, mlet_s]
      obtain ⟨M3, e3, w3⟩ := ih (code + 1) g M2 b l (by omega) (by omega) hl R2
      exact ⟨M3, e3, fun a ha => (w3 a ha).trans (w2 a ha)⟩
theorem radv_L42 (hf : 2000000 < fu) (R : CR 0 M S) (W : WF c p S) {i : Nat} (hi : i < c) : ∀ (d code g : Nat) (N : Mem) (b : Int32) (l : Nat), code + d = 12 → d < g → l < 2 ^ 30 → RR 49 N S → RD p N S → ∃ N1, m_X7_advise_L42 fu 44 (nI i) g N b (nI l) (nI code) = some (N1, advL (advV S c p i) code d b l) ∧ ∀ a, (a < 59 ∨ 69 ≤ a) → a ≠ 47 → N1 a = N a := by
  have h6 := W.c6
  have hi6 : i < 6 := by omega
  intro d
  induction d with
  | zero =>
    intro code g N b l hc hg hl Q D
    obtain ⟨g, rfl⟩ := f1 hg
    rw [m_X7_advise_L42, if_pos (show (12 : Int32) ≤ nI code from nI_le (a := 12) (by omega) (by omega)), advL_0]
    exact ⟨N, rfl, fun _ _ _ => rfl⟩
  | succ d ih =>
    intro code g N b l hc hg hl Q D
    obtain ⟨g, rfl⟩ := f1 hg
    obtain ⟨M1, -, -, h9, R1, -⟩ := adv_trial (fu := fu) (by omega) R W D hi (code := code) (by omega)
    obtain ⟨N1, b1, Q1, k1⟩ := rbecome_s (fu := fu) Q
    have Q2 : RR 59 (mst (mst N1 64 i 1) 65 (24 * i) (nI code)) (advS S i code) := (Q1.woc LI_59 hi6 1).wor LI_59 (by omega) (nI code)
    have D2 : RD p (mst (mst N1 64 i 1) 65 (24 * i) (nI code)) (advS S i code) := RD.kp (D.cl (by rw [mst_ne (by decide), mst_ne (by decide), k1 46 (by omega)])) Kp.adv
    obtain ⟨N2, b2, Q3, k2⟩ := pass_s (fu := fu) LI_59 SK_59 (by omega) Q2 (W.adv hi6 (by omega)) D2
    obtain ⟨N3, b3, k3⟩ := shut_r (fu := fu) (by decide) SN_20 R1 (by decide) SK_59 hf Q3
    have w3 : ∀ a, (a < 59 ∨ 69 ≤ a) → a ≠ 47 → N3 a = N a := fun a ha hb => by
      rw [k3 a hb, k2 a (by omega), mst_ne (by omega), mst_ne (by omega), k1 a (by omega)]
    have Q4 : RR 49 N3 S := Q.fm (fun a h1 h2 => w3 a (by omega) (by omega)) (by rw [w3 44 (by omega) (by decide)]) (by rw [w3 44 (by omega) (by decide)]) (w3 45 (by omega) (by decide))
    have D4 : RD p N3 S := D.cl (w3 46 (by omega) (by decide))
    have b2 : m_X6_pass fu (mst (mst N1 (59 + 5) i 1) (59 + 6) (24 * i) (nI code)) 59 = some N2 := b2
    rw [m_X7_advise_L42, if_neg (show ¬ (12 : Int32) ≤ nI code from nI_ge (b := 12) (by omega) (by omega)), b1, cb1_s, show alen (59 + 5) = 6 from SK_59.2.2.2.2.2.1, chk_t (inb_nI hi6 (by decide)), nI_clamp (n := i) (by omega), mlet_s, show (24 : Int32) * nI i = nI (24 * i) from pk_mul 24 i, show alen (59 + 6) = 144 from SK_59.2.2.2.2.2.2.1, chk_t (inb_nI (by omega) (by decide)), nI_clamp (n := 24 * i) (by omega), mlet_s, b2, cb1_s, b3, cb2_s, nI_1, advL_s]
    show ∃ N4, (if nI (advV S c p i code) < nI l then _ else _) = _ ∧ _
    have h9 : advV S c p i code ≤ 9 := h9
    by_cases h : advV S c p i code < l
    · rw [if_pos (nI_lt h (by omega)), if_pos h, mlet_s]
      obtain ⟨N4, e4, w4⟩ := ih (code + 1) g N3 (nI code) (advV S c p i code) (by omega) (by omega) (by omega) Q4 D4
      exact ⟨N4, e4, fun a ha hb => (w4 a ha hb).trans (w3 a ha hb)⟩
    · rw [if_neg (nI_nlt (by omega) (by omega)), if_neg h, mlet_s]
      obtain ⟨N4, e4, w4⟩ := ih (code + 1) g N3 b l (by omega) (by omega) hl Q4 D4
      exact ⟨N4, e4, fun a ha hb => (w4 a ha hb).trans (w3 a ha hb)⟩
theorem call_advise (hf : 2000000 < fu) (h : Inv M) (x : Int32) : Okc (m_L_advise fu M 40 x 69) (fun N => m_X7_advise fu N 44 x) := by
  have hInv := h
  obtain ⟨S, c, p, R, Q, D, W⟩ := h
  have h6 := W.c6
  rcases crowd_c (fu := fu) W x with ⟨i, hi, rfl, e1, e2⟩ | ⟨e1, e2⟩
  · have hi6 : i < 6 := by omega
    have hsc := scat_s (fu := fu) R hi6
    by_cases h2 : S 2 i = 0
    · have Q2 := (Q.out (-1)).thr 0
      refine Okc.tell hInv (r := -1) ?_ ?_
      · unfold m_L_advise m_X5_advise
        rw [e1 M R, xb_r, chk_t (inb_nI hi6 (by decide)), elC_nI 0 (by omega), hsc, decide_eq_true h2, cb1_s, if_neg (show ¬ bI true = 0 by decide)]
        rfl
      · show m_X7_advise fu _ 44 (nI i) = _
        unfold m_X7_advise
        rw [mlet_s, e2 _ Q2, cb1_s, if_neg (by decide), al52, chk_t (inb_nI hi6 (by decide)), nI_clamp (n := i) (by omega), Q2.pe hi6, if_pos h2]
    · obtain ⟨M1, g1, w1⟩ := adv_L30 (fu := fu) (by omega) W D hi 12 0 fu M (-1) 108 (by omega) (by omega) (by omega) R
      rw [nI_0] at g1
      have g1 : m_X5_advise_L30 fu 40 (nI i) fu M (-1) 108 0 = some (M1, advL (advV S c p i) 0 12 (-1) 108) := g1
      have hr : advL (advV S c p i) 0 12 (-1) 9999 = advL (advV S c p i) 0 12 (-1) 108 := by
        obtain ⟨-, -, -, h9, -, -⟩ := adv_trial (fu := fu) (by omega) R W D hi (code := 0) (by omega)
        have a1 : advL (advV S c p i) 0 12 (-1) 9999 = advL (advV S c p i) 1 11 (nI 0) (advV S c p i 0) := by
          rw [show (12 : Nat) = 11 + 1 from rfl, advL_s, if_pos (by omega)]
        have a2 : advL (advV S c p i) 0 12 (-1) 108 = advL (advV S c p i) 1 11 (nI 0) (advV S c p i 0) := by
          rw [show (12 : Nat) = 11 + 1 from rfl, advL_s, if_pos (by omega)]
        rw [a1, a2]
      obtain ⟨r, er⟩ : ∃ r, r = advL (advV S c p i) 0 12 (-1) 108 := ⟨_, rfl⟩
      rw [← er] at g1 hr
      have Q1 : RR 49 (mst (mst M1 69 0 r) 44 0 0) S := ((Q.cl (fun a ha _ => w1 a (by omega))).out _).thr 0
      have D1 : RD p (mst (mst M1 69 0 r) 44 0 0) S := ((D.cl (w1 46 (by omega))).out _).thr 0
      obtain ⟨N1, g2, w2⟩ := radv_L42 (fu := fu) hf R W hi 12 0 fu (mst (mst M1 69 0 r) 44 0 0) (-1) 9999 (by omega) (by omega) (by omega) Q1 D1
      rw [nI_0, hr] at g2
      have g2 : m_X7_advise_L42 fu 44 (nI i) fu (mst (mst M1 69 0 r) 44 0 0) (-1) 9999 0 = some (N1, r) := g2
      refine ⟨mst M1 69 0 r, 0, N1, r, ?_, ?_, ?_, fun _ => ?_, ?_⟩
      · unfold m_L_advise m_X5_advise
        rw [e1 M R, xb_r, chk_t (inb_nI hi6 (by decide)), elC_nI 0 (by omega), hsc, decide_eq_false h2, cb1_s, if_pos (show bI false = 0 by decide), g1, cb1_s]
        rfl
      · show m_X7_advise fu _ 44 (nI i) = _
        unfold m_X7_advise
        rw [mlet_s, e2 _ Q1, cb1_s, if_neg (by decide), al52, chk_t (inb_nI hi6 (by decide)), nI_clamp (n := i) (by omega), Q1.pe hi6, if_neg h2, g2, cb1_s]
        rfl
      · rw [w2 44 (by omega) (by decide), mst_s]
      · rw [w2 69 (by omega) (by decide), mst_ne (by decide), mst_s]
      · refine Inv.mk1 (R.lo (N := M1) (fun a ha => w1 a (Or.inl ha))) (Q1.fm (fun a h1 h2 => w2 a (by omega) (by omega)) (by rw [w2 44 (by omega) (by decide)]) (by rw [w2 44 (by omega) (by decide)]) (w2 45 (by omega) (by decide))) (D1.cl (w2 46 (by omega) (by decide))) W (fun a ha => ?_)
        rw [w2 a (by omega) (by omega), mst_ne (by omega), mst_ne (by omega)]
  · refine Okc.no hInv (k := 1) (by decide) ?_ ?_
    · unfold m_L_advise m_X5_advise
      rw [e1 M R]
      rfl
    · show m_X7_advise fu M 44 x = _
      unfold m_X7_advise
      rw [mlet_s, e2 _ (Q.thr 0), cb1_s, if_pos rfl, no_s, cb2_s]
end CallsE

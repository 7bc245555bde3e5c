/-! ===== the calls: way, pass, foresee, advise, shuts, mean, digest ===== -/
/-- a memory that holds a state, for the number that shuts tells of it -/
def Nw (k : Nat) (S : Mem) : Mem := fun a b => if a = k then S 9 0 else if a = k + 1 then S 0 b else if a = k + 2 then S 1 b else if a = k + 3 then S 2 b else if a = k + 4 then S 3 b else if a = k + 5 then S 4 b else if a = k + 6 then S 6 b else if a = k + 7 then S 5 b else if a = k + 8 then S 7 b else if a = k + 9 then S 8 b else if a = 44 then (if b = 1 then S 10 0 else S 11 0) else S 12 b
theorem Nw_s (S : Mem) : RR 59 (Nw 59 S) S := by
  intro f hf i hi
  rcases (show f = 0 ∨ f = 1 ∨ f = 2 ∨ f = 3 ∨ f = 4 ∨ f = 5 ∨ f = 6 ∨ f = 7 ∨ f = 8 ∨ f = 9 ∨ f = 10 ∨ f = 11 ∨ f = 12 by omega) with rfl | rfl | rfl | rfl | rfl | rfl | rfl | rfl | rfl | rfl | rfl | rfl | rfl
  · rfl
  · rfl
  · rfl
  · rfl
  · rfl
  · rfl
  · rfl
  · rfl
  · rfl
  · have hi : i < 1 := hi
    have e : i = 0 := by omega
    subst e
    rfl
  · have hi : i < 1 := hi
    have e : i = 0 := by omega
    subst e
    rfl
  · have hi : i < 1 := hi
    have e : i = 0 := by omega
    subst e
    rfl
  · rfl
def shv (S : Mem) : Nat := match m_X6_shuts 2000001 (Nw 59 S) 59 with
  | some (_, r) => r.toNatClampNeg
  | none => 0
theorem minL_s {F : Nat → Nat} {i d a : Nat} : minL F i (d + 1) a = minL F (i + 1) d (min a (F i)) := by rw [minL]
theorem minL_hd {F : Nat → Nat} {i d a b : Nat} (ha : F i ≤ a) (hb : F i ≤ b) : minL F i (d + 1) a = minL F i (d + 1) b := by
  rw [minL_s, minL_s, Nat.min_eq_right ha, Nat.min_eq_right hb]
theorem shuts_eq2 {n k fu fv : Nat} {M N S : Mem} (hn : n + 20 ≤ 41) (hN : SN n) (hk : 47 < k) (K : SK k) (hf : 120 < fu) (hf2 : 2000000 < fv) (R : CR n M S) (Q : RR k N S) : ∃ M1 N1 r, m_X4_fewestToShut fu M 41 (n + 1) = some (M1, nI r) ∧ m_X6_shuts fv N k = some (N1, nI r) ∧ r ≤ 9 ∧ Ws M M1 ∧ Wr N N1 := by
  obtain ⟨N1, G, e2, fG, mx, w2⟩ := rshut_s (fu := fv) hk K hf2 Q
  obtain ⟨M1, F, e1, fF, le, w1⟩ := shut_s (fu := fu) hn hN (by omega) fG R
  have hFG : ∀ v, v < 108 → F v = G v := fun v hv => Nat.le_antisymm (mx F fF (fun u hu => (le u hu).2) v hv) (le v hv).1
  have h96 : F 96 ≤ 9 := feas_col fF 8 (by decide)
  have e : minL G 96 12 9999 = minL F 96 12 9 := by
    rw [minL_cg 12 96 9999 (fun t h1 h2 => (hFG t (by omega)).symm)]
    exact minL_hd (d := 11) (by omega) h96
  refine ⟨M1, N1, minL F 96 12 9, e1, ?_, minL_le _ _ _, w1, w2⟩
  rw [e2, e]
section CallsD
variable {n k c p fu : Nat} {M N S : Mem}
theorem shut_c (hn : n + 20 ≤ 41) (hN : SN n) (hf : 120 < fu) (R : CR n M S) : ∃ M1, m_X4_fewestToShut fu M 41 (n + 1) = some (M1, nI (shv S)) ∧ shv S ≤ 9 ∧ Ws M M1 := by
  obtain ⟨M1, N1, r, e1, e2, h9, w1, -⟩ := shuts_eq2 (fu := fu) (fv := 2000001) hn hN (by decide) SK_59 hf (by omega) R (Nw_s S)
  have er : shv S = r := by
    unfold shv
    rw [e2]
    exact nI_clamp (by omega)
  exact ⟨M1, by rw [er]; exact e1, by rw [er]; exact h9, w1⟩
theorem shut_r (hn : n + 20 ≤ 41) (hN : SN n) (R : CR n M S) (hk : 47 < k) (K : SK k) (hf : 2000000 < fu) (Q : RR k N S) : ∃ N1, m_X6_shuts fu N k = some (N1, nI (shv S)) ∧ Wr N N1 := by
  obtain ⟨M1, N1, r, e1, e2, h9, w1, w2⟩ := shuts_eq2 (fu := 121) (fv := fu) hn hN hk K (by omega) hf R Q
  obtain ⟨M2, e3, -, -⟩ := shut_c (fu := 121) hn hN (by omega) R
  rw [e1] at e3
  have er : nI r = nI (shv S) := congrArg Prod.snd (Option.some.inj e3)
  exact ⟨N1, by rw [← er]; exact e2, w2⟩
theorem call_shuts (hf : 2000000 < fu) (h : Inv M) : ∃ M1 M2 r, m_X5_shuts fu M 40 = some (M1, r) ∧ m_X7_shuts fu M1 44 = some (M2, r) ∧ Inv M2 := by
  obtain ⟨S, c, p, R, Q, D, W⟩ := h
  obtain ⟨M1, e1, -, w1⟩ := shut_c (fu := fu) (by decide) SN_0 (by omega) R
  have Q1 : RR 49 (mst M1 44 0 0) S := (Q.cl (fun a ha _ => w1 a (by omega))).thr 0
  obtain ⟨N1, e2, w2⟩ := shut_r (fu := fu) (by decide) SN_0 R (by decide) SK_49 hf Q1
  refine ⟨M1, N1, nI (shv S), ?_, ?_, ?_⟩
  · rw [m_X5_shuts, e1, cb2_s]
  · rw [m_X7_shuts, mlet_s, e2, cb2_s]
  · refine Inv.mk1 (R.ws (by decide) w1) (Q1.wf (by decide) w2) ?_ W (fun a ha => ?_)
    · exact D.cl (by rw [w2 46 (by decide), mst_ne (by decide), w1 46 (by omega)])
    · rw [w2 a (by omega), mst_ne (by omega)]
theorem call_mean (hf : 120 < fu) (h : Inv M) : ∃ d, m_X5_mean fu M 40 = some d ∧ m_X7_mean fu M 44 = some (mst M 44 0 0, d) ∧ Inv (mst M 44 0 0) := by
  have hInv := h.thr 0
  obtain ⟨S, c, p, R, Q, D, W⟩ := h
  exact ⟨meanS S c, mean_s R W (by omega) 40, rmean_s (Q.thr 0) W (by omega), hInv⟩
theorem call_digest (hf : 120 < fu) (h : Inv M) : ∃ d, m_X5_digest fu M 40 = some d ∧ m_X7_digest fu M 44 = some (mst M 44 0 0, d) ∧ Inv (mst M 44 0 0) := by
  have hInv := h.thr 0
  obtain ⟨S, c, p, R, Q, D, W⟩ := h
  exact ⟨digS S c p, digest_s R W D (by omega) 40, rdigest_s (Q.thr 0) W (D.thr 0) (by omega), hInv⟩
theorem rway_s (hf : 500 < fu) (Q : RR 49 (mst N 44 0 0) S) {x y z t : Int32} {u v : Nat} (hu : u < 108) (hv : v < 108) (e1 : ∀ N, m_X7_isCell fu N x y = some 1) (e2 : ∀ N, m_X7_isCell fu N z t = some 1) (e3 : 12 * y + x = nI u) (e4 : 12 * t + z = nI v) : ∃ N1, m_X7_way fu N 44 x y z t = some (N1, wayS S u v) ∧ Wq (mst N 44 0 0) N1 := by
  unfold m_X7_way wayS
  rw [mlet_s, e1, cb1_s, if_neg (by decide), e2, cb1_s, if_neg (by decide), mlet_s, mlet_s, e3, e4, al50, chk_t (inb_nI hu (by decide)), chk_t (inb_nI hv (by decide)), nI_clamp (n := u) (by omega), nI_clamp (n := v) (by omega), Q.ce hu, Q.ce hv]
  by_cases h1 : S 0 u = 0
  · rw [if_pos h1, if_pos h1]
    by_cases h2 : S 0 v = 0
    · rw [if_pos h2, if_pos h2]
      obtain ⟨N1, g1, w1, l1⟩ := rway_L76 (fu := fu) (nI u) (nI v) 108 0 fu (mst N 44 0 0) (by omega) (by omega)
      rw [nI_0] at g1
      have w2 : Wq N1 (mst (mst N1 47 u 0) 48 0 (nI u)) := (Wq.wr (Or.inl rfl)).tr (Wq.wr (Or.inr rfl))
      have L2 : RN (mst (mst N1 47 u 0) 48 0 (nI u)) (st0 u) := by
        refine ⟨fun w hw => ?_, fun i hi => ?_⟩
        · show _ = fewN (un (fun _ => 0) u 1 w)
          rw [mst_ne (by decide)]
          by_cases e : w = u
          · subst e
            rw [mst_s, un_s]
            rfl
          · rw [mst_o (fun z => e z.2), un_o e, l1 w hw, if_pos (Nat.zero_le w)]
            rfl
        · have hi : i < 1 := hi
          have e : i = 0 := by omega
          subst e
          rw [mst_s]
          rfl
      obtain ⟨N2, g2, l2, w3⟩ := rway_L121 (fu := fu) (S := S) (nI v) 108 0 fu (mst (mst N1 47 u 0) 48 0 (nI u)) (st0 u) (by omega) (by omega) ((Q.wq (by decide) w1).wq (by decide) w2) L2 (BI.ini hu)
      have g2 : m_X7_way_L121 fu 44 (nI v) fu (mst (mst N1 (44 + 3) u 0) (44 + 4) (0 : Int32).toNatClampNeg (nI u)) 1 0 = some N2 := g2
      rw [g1, cb1_s, al47, chk_t (inb_nI hu (by decide)), mlet_s, al48, chk_t (by decide), mlet_s, g2, cb1_s, chk_t (inb_nI hv (by decide)), show N2 (44 + 3) v = fewN ((bfsA S (st0 u) 0 108).1 v) from l2 v hv, chk_t (inb_nI hv (by decide))]
      refine ⟨N2, ?_, (w1.tr w2).tr w3⟩
      have hB : BI (bfsA S (st0 u) 0 108) := by
        have hb : ∀ (e j : Nat) (st : (Nat → Nat) × (Nat → Nat) × Nat), BI st → BI (bfsA S st j e) := by
          intro e
          induction e with
          | zero => intro j st B; rw [bfsA_0]; exact B
          | succ e ih =>
            intro j st B
            rw [bfsA_s]
            by_cases h : st.2.2 ≤ j
            · rw [if_pos h]; exact B
            · rw [if_neg h]
              exact ih (j + 1) _ (BI.dirs (B.2.1 j (by omega)).1 4 0 st B)
        exact hb 108 0 (st0 u) (BI.ini hu)
      have hm := hB.m
      have hb := hB.2.2 v
      unfold fewN
      by_cases e : (bfsA S (st0 u) 0 108).1 v = 0
      · rw [if_pos e, if_pos rfl, e]
        rfl
      · obtain ⟨q, hq⟩ : ∃ q, (bfsA S (st0 u) 0 108).1 v = q + 1 := ⟨(bfsA S (st0 u) 0 108).1 v - 1, by omega⟩
        have hne : ¬ nI q = 9999 := fun z => by
          have := (nI_eq (a := q) (b := 9999) (by omega) (by decide)).mp z
          omega
        rw [if_neg e, hq, show q + 1 - 1 = q by omega, if_neg hne, nI_pred]
    · rw [if_neg h2, if_neg h2]
      exact ⟨_, rfl, Wq.rf⟩
  · rw [if_neg h1, if_neg h1]
    exact ⟨_, rfl, Wq.rf⟩
theorem call_way (hf : 500 < fu) (h : Inv M) (x y z t : Int32) : Okc (m_L_way fu M 40 x y z t 69) (fun N => m_X7_way fu N 44 x y z t) := by
  have hInv := h
  obtain ⟨S, c, p, R, Q, D, W⟩ := h
  rcases cell_c (fu := fu) x y with ⟨u, hu, e1, e2, e3⟩ | ⟨e1, e2⟩
  · rcases cell_c (fu := fu) z t with ⟨v, hv, e4, e5, e6⟩ | ⟨e4, e5⟩
    · obtain ⟨M1, g1, w1⟩ := way_s (fu := fu) (by decide) SN_0 (by omega) R hu hv
      have Q1 : RR 49 (mst (mst M1 69 0 (wayS S u v)) 44 0 0) S := ((Q.cl (fun a ha _ => w1 a (by omega))).out _).thr 0
      obtain ⟨N1, g2, w2⟩ := rway_s (fu := fu) hf Q1 hu hv e2 e5 e3 e6
      refine ⟨mst M1 69 0 (wayS S u v), 0, N1, wayS S u v, ?_, g2, ?_, fun _ => ?_, ?_⟩
      · unfold m_L_way m_X5_way
        rw [e1, xb_r, e4, xb_r, g1]
        rfl
      · rw [w2 44 (by decide) (by decide), mst_s]
      · rw [w2 69 (by decide) (by decide), mst_ne (by decide), mst_s]
      · refine Inv.mk1 (R.ws (by decide) w1) (Q1.wq (by decide) w2) ?_ W (fun a ha => ?_)
        · exact D.cl (by rw [w2 46 (by decide) (by decide), mst_ne (by decide), mst_ne (by decide), w1 46 (by omega)])
        · rw [w2 a (by omega) (by omega), mst_ne (by omega), mst_ne (by omega)]
    · refine Okc.no hInv (k := 1) (by decide) ?_ ?_
      · unfold m_L_way m_X5_way
        rw [e1, xb_r, e4]
        rfl
      · show m_X7_way fu M 44 x y z t = _
        unfold m_X7_way
        rw [mlet_s, e2, cb1_s, if_neg (by decide), e5, cb1_s, if_pos rfl, no_s, cb2_s]
  · refine Okc.no hInv (k := 1) (by decide) ?_ ?_
    · unfold m_L_way m_X5_way
      rw [e1]
      rfl
    · show m_X7_way fu M 44 x y z t = _
      unfold m_X7_way
      rw [mlet_s, e2, cb1_s, if_pos rfl, no_s, cb2_s]
theorem call_pass (hf : 120 < fu) (h : Inv M) (x : Int32) : Okc (m_L_pass fu M 40 x 69) (fun N => m_X7_pass fu N 44 x) := by
  have hInv := h
  obtain ⟨S, c, p, R, Q, D, W⟩ := h
  rcases rng_c (fu := fu) x (m := 60) (by decide) with ⟨m, hm1, hm, rfl, e5⟩ | ⟨hv, e5⟩
  · have e5 : ∀ N, m_X7_isIn fu N (nI m) 1 60 = some 1 := e5
    obtain ⟨M1, g1, R1, fr1⟩ := goOn_s (fu := fu) LI_0 SN_0 (by omega) hm R W D
    have W1 := WF.stN (N := M) m S W D
    have p1 := ppl_s (fu := fu) R W (by omega)
    have p2 := ppl_s (fu := fu) R1 W1 (by omega)
    have Q1 : RR 49 (mst (mst M1 69 0 (pplS S c - pplS (stN S c p m) c)) 44 0 0) S := ((Q.cl (fun a ha _ => fr1 a (by omega))).out _).thr 0
    have D1 : RD p (mst (mst M1 69 0 (pplS S c - pplS (stN S c p m) c)) 44 0 0) S := ((D.cl (fr1 46 (by omega))).out _).thr 0
    obtain ⟨N1, g2, Q2, fr2⟩ := xpass_L31 (fu := fu) (c := c) (p := p) (by omega) 44 (pplS S c) (m := m) (by omega) m 0 fu _ S Q1 W D1 (by omega) (by omega)
    rw [nI_0] at g2
    have p3 := rppl_s (fu := fu) Q1 W SK_49 (by omega)
    have p4 := rppl_s (fu := fu) Q2 W1 SK_49 (by omega)
    refine ⟨mst M1 69 0 (pplS S c - pplS (stN S c p m) c), 0, N1, pplS S c - pplS (stN S c p m) c, ?_, ?_, ?_, fun _ => ?_, ?_⟩
    · unfold m_L_pass m_X5_pass m_X5_needSteps
      rw [if_neg (show ¬ nI m < 1 from nI_nlt (b := 1) hm1 (by omega)), if_pos (show nI m ≤ 60 from nI_le (b := 60) hm (by omega)), xb_r, p1, cb1_s, g1, cb1_s, p2, cb1_s]
      rfl
    · show m_X7_pass fu _ 44 (nI m) = _
      unfold m_X7_pass
      rw [mlet_s, e5, cb1_s, if_neg (by decide), p3, cb1_s, g2, cb1_s, p4, cb1_s]
    · rw [fr2 44 (by omega), mst_s]
    · rw [fr2 69 (by omega), mst_ne (by decide), mst_s]
    · refine Inv.mk1 R1 Q2 (D1.keep (by decide) fr2 (Kp.stN m S)) W1 (fun a ha => ?_)
      rw [fr2 a (by omega), mst_ne (by omega), mst_ne (by omega)]
  · have e5 : ∀ N, m_X7_isIn fu N x 1 60 = some 0 := e5
    refine Okc.no hInv (k := 1) (by decide) ?_ ?_
    · unfold m_L_pass m_X5_pass m_X5_needSteps
      rcases hv with h | ⟨h, h2⟩
      · rw [if_pos h]
        rfl
      · rw [if_neg h, if_neg (show ¬ x ≤ 60 from Int32.not_le.mpr h2)]
        rfl
    · show m_X7_pass fu M 44 x = _
      unfold m_X7_pass
      rw [mlet_s, e5, cb1_s, if_pos rfl, no_s, cb2_s]
def foreS (S : Mem) (c p m w : Nat) : Int32 := match w with
  | 0 => pplS (stN S c p m) c
  | 1 => barS (stN S c p m)
  | _ => nI (shv (stN S c p m))
theorem call_foresee (hf : 2000000 < fu) (h : Inv M) (x v : Int32) : Okc (m_L_foresee fu M 40 x v 69) (fun N => m_X7_foresee fu N 44 x v) := by
  have hInv := h
  obtain ⟨S, c, p, R, Q, D, W⟩ := h
  rcases rng_c (fu := fu) x (m := 60) (by decide) with ⟨m, hm1, hm, rfl, e5⟩ | ⟨hv, e5⟩
  · have e5 : ∀ N, m_X7_isIn fu N (nI m) 1 60 = some 1 := e5
    have ens : m_X5_needSteps fu M (nI m) = some (Sum.inr ()) := by
      unfold m_X5_needSteps
      rw [if_neg (show ¬ nI m < 1 from nI_nlt (b := 1) hm1 (by omega)), if_pos (show nI m ≤ 60 from nI_le (b := 60) hm (by omega))]
    rcases what_c (fu := fu) v (n := 3) (by decide) with ⟨w, hw, rfl, e3, e4⟩ | ⟨e3, e4⟩
    · have e3 : ∀ M, m_X5_needWhat fu M (nI w) 3 = some (Sum.inr ()) := e3
      have e4 : ∀ N, m_X7_isIn fu N (nI w) 0 2 = some 1 := e4
      obtain ⟨M1, g1, R1, f1⟩ := become_s (fu := fu) R W (by omega)
      obtain ⟨M2, g2, R2, f2⟩ := goOn_s (fu := fu) LI_20 SN_20 (by omega) hm R1 W D
      have W2 := WF.stN (N := M) m S W D
      have p1 := ppl_s (fu := fu) R2 W2 (by omega)
      have p2 := bars_s (fu := fu) R2 W2 SN_20 (by omega)
      obtain ⟨M3, g3, -, f3⟩ := shut_c (fu := fu) (by decide) SN_20 (by omega) R2
      have hcls : ∃ M4, m_L_foresee fu M 40 (nI m) (nI w) 69 = some (mst M4 69 0 (foreS S c p m w), 0) ∧ ∀ a, (a < 20 ∨ 44 ≤ a) → M4 a = M a := by
        unfold m_L_foresee m_X5_foresee
        rw [ens, xb_r, e3, xb_r, g1, cb1_s, g2, cb1_s, p1, cb1_s, p2, cb1_s, g3, cb2_s]
        rcases (show w = 0 ∨ w = 1 ∨ w = 2 by omega) with rfl | rfl | rfl
        · exact ⟨M2, rfl, fun a ha => (f2 a (by omega)).trans (f1 a (by omega))⟩
        · exact ⟨M2, rfl, fun a ha => (f2 a (by omega)).trans (f1 a (by omega))⟩
        · exact ⟨M3, rfl, fun a ha => (f3 a (by omega)).trans ((f2 a (by omega)).trans (f1 a (by omega)))⟩
      obtain ⟨M4, hc, h4⟩ := hcls
      have Q1 : RR 49 (mst (mst M4 69 0 (foreS S c p m w)) 44 0 0) S := ((Q.cl (fun a ha _ => h4 a (by omega))).out _).thr 0
      have D1 : RD p (mst (mst M4 69 0 (foreS S c p m w)) 44 0 0) S := ((D.cl (h4 46 (by omega))).out _).thr 0
      obtain ⟨N1, b1, Q2, k1⟩ := rbecome_s (fu := fu) Q1
      obtain ⟨N2, b2, Q3, k2⟩ := xfore_L49 (fu := fu) (c := c) (p := p) (by omega) 44 (nI w) (m := m) (by omega) m 0 fu _ S Q2 W (D1.keep (by decide) k1 Kp.rf) (by omega) (by omega)
      rw [nI_0] at b2
      have p3 := rppl_s (fu := fu) Q3 W2 SK_59 (by omega)
      have p4 := rbars_s (fu := fu) Q3 SK_59 (by omega)
      obtain ⟨N3, b3, k3⟩ := shut_r (fu := fu) (by decide) SN_20 R2 (by decide) SK_59 hf Q3
      have href : ∃ N4, m_X7_foresee fu (mst M4 69 0 (foreS S c p m w)) 44 (nI m) (nI w) = some (N4, foreS S c p m w) ∧ ∀ a, (a < 59 ∨ 69 ≤ a) → a ≠ 47 → N4 a = mst (mst M4 69 0 (foreS S c p m w)) 44 0 0 a := by
        unfold m_X7_foresee
        rw [mlet_s, e5, cb1_s, if_neg (by decide), e4, cb1_s, if_neg (by decide), b1, cb1_s, b2, cb1_s, p3, cb1_s, p4, cb1_s, b3, cb2_s]
        rcases (show w = 0 ∨ w = 1 ∨ w = 2 by omega) with rfl | rfl | rfl
        · exact ⟨N2, rfl, fun a ha _ => (k2 a (by omega)).trans (k1 a (by omega))⟩
        · exact ⟨N2, rfl, fun a ha _ => (k2 a (by omega)).trans (k1 a (by omega))⟩
        · exact ⟨N3, rfl, fun a ha hb => (k3 a hb).trans ((k2 a (by omega)).trans (k1 a (by omega)))⟩
      obtain ⟨N4, hr, n4⟩ := href
      refine ⟨_, 0, N4, foreS S c p m w, hc, hr, ?_, fun _ => ?_, ?_⟩
      · rw [n4 44 (by omega) (by decide), mst_s]
      · rw [n4 69 (by omega) (by decide), mst_ne (by decide), mst_s]
      · have e45 : N4 45 = mst (mst M4 69 0 (foreS S c p m w)) 44 0 0 45 := n4 45 (by omega) (by decide)
        have e44 : N4 44 = mst (mst M4 69 0 (foreS S c p m w)) 44 0 0 44 := n4 44 (by omega) (by decide)
        refine Inv.mk1 (R.lo (N := mst (mst M4 69 0 (foreS S c p m w)) 44 0 0) (fun a ha => ?_)) (Q1.fm (fun a h1 h2 => n4 a (by omega) (by omega)) (by rw [e44]) (by rw [e44]) e45) (D1.cl (n4 46 (by omega) (by decide))) W (fun a ha => n4 a (by omega) (by omega))
        rw [mst_ne (by omega), mst_ne (by omega), h4 a (by omega)]
    · have e3 : ∀ M, m_X5_needWhat fu M v 3 = some (Sum.inl 1) := e3
      have e4 : ∀ N, m_X7_isIn fu N v 0 2 = some 0 := e4
      refine Okc.no hInv (k := 2) (by decide) ?_ ?_
      · unfold m_L_foresee m_X5_foresee
        rw [ens, xb_r, e3]
        rfl
      · show m_X7_foresee fu M 44 (nI m) v = _
        unfold m_X7_foresee
        rw [mlet_s, e5, cb1_s, if_neg (by decide), e4, cb1_s, if_pos rfl, no_s, cb2_s]
  · have e5 : ∀ N, m_X7_isIn fu N x 1 60 = some 0 := e5
    refine Okc.no hInv (k := 1) (by decide) ?_ ?_
    · unfold m_L_foresee m_X5_foresee m_X5_needSteps
      rcases hv with h | ⟨h, h2⟩
      · rw [if_pos h]
        rfl
      · rw [if_neg h, if_neg (show ¬ x ≤ 60 from Int32.not_le.mpr h2)]
        rfl
    · show m_X7_foresee fu M 44 x v = _
      unfold m_X7_foresee
      rw [mlet_s, e5, cb1_s, if_pos rfl, no_s, cb2_s]
end CallsD

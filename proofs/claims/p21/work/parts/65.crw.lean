/-! ===== the law's check of the crowds ===== -/
theorem chk_tt {β : Type} (o : Option β) : chk true o = o := rfl
def msB (S : Mem) (ok : Nat → Bool) (j : Nat) : Bool := dzB S j && !ok j
theorem bI_n {b : Bool} : (bI b = 0) = (b = false) := by cases b <;> decide
section Crw
variable {c p fu k : Nat} {M S T X : Mem} {sc : Int32 → Int32} {ok : Nat → Bool}
theorem seen_L21 (hf : 120 < fu) (R : CR 0 M T) (W : WF c p T) {i : Nat} (hi : i < c) : ∀ (d k n : Nat) (a : Int32), k + d = p → d < n → m_L_seen_L21 fu M 40 (nI i) (nI p) n a (nI k) = some (sumI (fun t => bI (seeS T t i)) k d a) := by
  have h3 := W.p3
  intro d
  induction d with
  | zero =>
    intro k n a hk hn
    obtain ⟨n, rfl⟩ := f1 hn
    rw [m_L_seen_L21, if_pos (nI_le (by omega) (by omega))]
    rfl
  | succ d ih =>
    intro k n a hk hn
    obtain ⟨n, rfl⟩ := f1 hn
    rw [m_L_seen_L21, if_neg (nI_ge (by omega) (by omega)), sees_k hf R W (by omega) hi, nbd_r]
    show _ = some (sumI (fun t => bI (seeS T t i)) (k + 1) d (a + bI (seeS T k i)))
    cases seeS T k i with
    | false =>
      rw [if_pos (show bI false = 0 by decide), mlet_s, mlet_s, nI_1, ih (k + 1) n _ (by omega) (by omega)]
      rfl
    | true =>
      rw [if_neg (by decide), mlet_s, mlet_s, nI_1, ih (k + 1) n _ (by omega) (by omega)]
      rfl
theorem seen_s (hf : 120 < fu) (R : CR 0 M T) (W : WF c p T) {i : Nat} (hi : i < c) (v : Int32) : m_L_seen fu M 40 (nI i) (nI p) v = some (if v ≤ 0 then seenC T p i else if T 2 i = 0 then v else seenC T p i) := by
  have h3 := W.p3
  have e := seen_L21 (fu := fu) hf R W hi p 0 fu 0 (by omega) (by omega)
  rw [nI_0] at e
  have e2 : m_X5_crowd fu M 40 (nI i) 2 = some (Sum.inr (T 2 i)) := crowd_k (w := 2) hf R W hi (by decide)
  unfold m_L_seen
  by_cases h : v ≤ 0
  · rw [if_pos h, if_pos h, e, cb1_s]
    rfl
  · rw [if_neg h, if_neg h, e2, nbd_r]
    by_cases h2 : T 2 i = 0
    · rw [if_pos h2, if_pos h2]
    · rw [if_neg h2, if_neg h2, e, cb1_s]
      rfl
theorem ab_s {a b : Nat} (ha : a < 12) (hb : b < 12) : mabs (nI a - nI b) = nI ((a - b) + (b - a)) := (abs_dec a ha b hb).1
/-- what is known of a crowd ahead of the step and behind it -/
theorem crw_k (W : WF c p S) (E : STE c p S T ok) (H : MIS c k S) (hk : k ≤ 100) {i : Nat} (hi : i < c) : ∃ q q' far kq m, q < 108 ∧ S 1 i = nI q ∧ q' < 108 ∧ T 1 i = nI q' ∧ far = dX q q' + dY q q' ∧ far = (if (dzB S i && !msB S ok i && decide (kq = 0)) = true then 1 else 0) ∧
    crdS S p i 5 / 4 = nI kq ∧ kq < 3 ∧ S 4 i = nI m ∧ m < 25 ∧ T 4 i = S 4 i - bI (dzB S i) ∧ T 5 i = S 5 i + bI (msB S ok i) ∧ (∃ z, z ≤ 100 ∧ S 5 i = nI z) ∧ ((dzB S i && !msB S ok i && decide (kq = 1)) = true → ¬ S 2 i < 3) ∧
    (raB S ok 1 i = (dzB S i && !msB S ok i && decide (kq = 1))) ∧ (raB S ok 2 i = (dzB S i && !msB S ok i && decide (kq = 2))) := by
  have h6 := W.c6
  have hi6 : i < 6 := by omega
  obtain ⟨e3, eF, eT, -⟩ := E
  obtain ⟨m, hm, em⟩ := W.oc hi6
  obtain ⟨hp, ep⟩ := W.pn hi6
  obtain ⟨hc, ec⟩ := cdN_lt W hi6
  obtain ⟨z, hz, ez⟩ := H i hi
  have hkq : ∃ kq, kq < 3 ∧ crdS S p i 5 / 4 = nI kq ∧ (dzB S i = true → kq = cdN S i / 4) := by
    show ∃ kq, kq < 3 ∧ (if S 4 i = 0 then -1 else S 6 (24 * i)) / 4 = nI kq ∧ (dzB S i = true → kq = cdN S i / 4)
    by_cases h4 : S 4 i = 0
    · rw [if_pos h4]
      exact ⟨0, by decide, by decide, fun h => absurd h4 (dzB_t.mp h).2⟩
    · rw [if_neg h4, ec]
      exact ⟨cdN S i / 4, by omega, pk_div (a := cdN S i) (d := 4) (by omega) (by decide) (by decide), fun _ => rfl⟩
  obtain ⟨kq, hk3, ek, hkd⟩ := hkq
  have d0 : ∀ q, dX q q + dY q q = 0 := fun q => by unfold dX dY; omega
  cases hd : dzB S i with
  | false =>
    obtain ⟨a1, a4, a5⟩ := eF i hi hd
    have hms : msB S ok i = false := by unfold msB; rw [hd]; rfl
    have hra : ∀ k, raB S ok k i = false := fun k => by unfold raB; rw [hd]; rfl
    rw [hms, hra, hra]
    refine ⟨plN S i, plN S i, 0, kq, m, hp, ep, hp, by rw [a1]; exact ep, (d0 _).symm, by rw [if_neg (by simp)], ek, hk3, em, hm, ?_, ?_, ⟨z, by omega, ez⟩, fun h => by simp at h, by simp, by simp⟩
    · rw [a4]; exact (Int32.sub_zero _).symm
    · rw [a5]; exact (Int32.add_zero _).symm
  | true =>
    obtain ⟨a4, a5, ag, an, ar⟩ := eT i hi hd
    have hk2 := hkd hd
    cases ho : ok i with
    | false =>
      have hms : msB S ok i = true := by unfold msB; rw [hd, ho]; rfl
      have hra : ∀ k, raB S ok k i = false := fun k => by unfold raB; rw [hd, ho]; rfl
      have a1 := an (fun z => by rw [ho] at z; exact absurd z.1 (by decide))
      rw [ho, if_neg (by decide)] at a5
      rw [hms, hra, hra]
      refine ⟨plN S i, plN S i, 0, kq, m, hp, ep, hp, by rw [a1]; exact ep, (d0 _).symm, by rw [if_neg (by simp)], ek, hk3, em, hm, a4, a5, ⟨z, by omega, ez⟩, fun h => by simp at h, by simp, by simp⟩
    | true =>
      have hms : msB S ok i = false := by unfold msB; rw [hd, ho]; rfl
      have hra : ∀ k, raB S ok k i = decide (kq = k) := fun k => by unfold raB; rw [hd, ho, hk2]; rfl
      rw [ho, if_pos rfl] at a5
      have a5 : T 5 i = S 5 i + bI false := by rw [a5]; exact (Int32.add_zero _).symm
      have har : (true && !false && decide (kq = 1)) = true → ¬ S 2 i < 3 := fun h => ar ho (by rw [← hk2]; simpa using h)
      rw [hms, hra, hra]
      by_cases h0 : kq = 0
      · obtain ⟨t, et, e1⟩ := ag ho (by omega)
        have hcr := nb_cr et hp
        have ht : t < 108 := nb_ok hp t et
        refine ⟨plN S i, t, 1, kq, m, hp, ep, ht, e1, ?_, by rw [if_pos (by simp [h0])], ek, hk3, em, hm, a4, a5, ⟨z, by omega, ez⟩, har, by simp, by simp⟩
        unfold dX dY
        omega
      · have a1 := an (fun z => h0 (by omega))
        refine ⟨plN S i, plN S i, 0, kq, m, hp, ep, hp, by rw [a1]; exact ep, (d0 _).symm, by rw [if_neg (by simp [h0])], ek, hk3, em, hm, a4, a5, ⟨z, by omega, ez⟩, har, by simp, by simp⟩
theorem q_b01 (b : Bool) : (if bI b = 0 then some (0 : Int32) else some (1 : Int32)) = some (bI b) := by cases b <;> rfl
theorem q_gk (d s : Bool) {kq v : Nat} (hk : kq < 3) (hv : v < 3) : (if bI d = 0 then some (0 : Int32) else (if bI s = 0 then (if nI kq = nI v then some (1 : Int32) else some (0 : Int32)) else some (0 : Int32))) = some (bI (d && !s && decide (kq = v))) := by
  have e : nI kq = nI v ↔ kq = v := nI_eq (by omega) (by omega)
  cases d <;> cases s <;> by_cases h : kq = v
  all_goals first | rfl | (rw [if_neg (by decide), if_pos (by decide), if_pos (e.mpr h)]; simp [h]; rfl) | (rw [if_neg (by decide), if_pos (by decide), if_neg (fun z => h (e.mp z))]; simp [h]; rfl)
theorem q_un (d s : Bool) (h : s = true → d = true) : (if bI s = 0 then some () else (if bI d = 0 then (none : Option Unit) else some ())) = some () := by
  cases d <;> cases s <;> first | rfl | exact absurd (h rfl) (by decide)
theorem q_end (d s : Bool) {kq : Nat} (hk : kq < 3) {x : Int32} (h : (d && !s && decide (kq = 1)) = true → 3 ≤ x) : (if nI kq = 1 then (if bI d = 0 then some () else (if bI s = 0 then (if 3 ≤ x then some () else (none : Option Unit)) else some ())) else some ()) = some () := by
  have e : nI kq = 1 ↔ kq = 1 := nI_eq (a := kq) (b := 1) (by omega) (by decide)
  by_cases h1 : kq = 1
  · rw [if_pos (e.mpr h1)]
    cases d <;> cases s
    · rfl
    · rfl
    · rw [if_neg (by decide), if_pos (by decide), if_pos (h (by simp [h1]))]
    · rfl
  · rw [if_neg (fun z => h1 (e.mp z))]
theorem L489_s (hf : 120 < fu) {nc np : Nat} (hnc : nc = c) (R : CR 0 M T) (WT : WF c p T) (W : WF c p S) (hX : XH c p S X) (E : STE c p S T ok) (H : MIS c k S) (hk : k ≤ 100) (y4 y12 y13 y18 : Int32) : ∀ (d i n : Nat) (a b e : Int32), i + d = c → d < n → m_S5_L489 fu sc nc np M X (nI c) (nI p) y4 y12 y13 y18 n a b e (nI i) = some (sumI (fun j => bI (raB S ok 1 j)) i d a, sumI (fun j => bI (raB S ok 2 j)) i d b, sumI (fun j => bI (msB S ok j)) i d e) := by
  have h6 := W.c6
  have h3 := W.p3
  subst hnc
  intro d
  induction d with
  | zero =>
    intro i n a b e hi hn
    obtain ⟨n, rfl⟩ := f1 hn
    rw [m_S5_L489, if_pos (nI_le (by omega) (by omega))]
    rfl
  | succ d ih =>
    intro i n a b e hi hn
    obtain ⟨n, rfl⟩ := f1 hn
    have hic : i < nc := by omega
    have hi6 : i < 6 := by omega
    obtain ⟨q, q', far, kq, m, hq, eq1, hq', eq1', efar, efar2, e5, hkq, e4, hm, t4, t5, ⟨z, hz, ez⟩, har, hr1, hr2⟩ := crw_k (p := p) W E H hk hic
    have hI : inb (nI i) nc = true := inb_nI hic (by omega)
    have k0 : inb 0 8 = true := by decide
    have k1 : inb 1 8 = true := by decide
    have k2 : inb 2 8 = true := by decide
    have k3 : inb 3 8 = true := by decide
    have k4 : inb 4 8 = true := by decide
    have k5 : inb 5 8 = true := by decide
    have k6 : inb 6 8 = true := by decide
    have x0 : X (nI i).toNatClampNeg (0 : Int32).toNatClampNeg = nI (q % 12) := by
      rw [nI_clamp (by omega)]
      refine (hX.1 i 0 hic (by decide)).trans ?_
      show S 1 i - S 1 i / 12 * 12 = _
      rw [eq1, r12 hq]
    have x1 : X (nI i).toNatClampNeg (1 : Int32).toNatClampNeg = nI (q / 12) := by
      rw [nI_clamp (by omega)]
      refine (hX.1 i 1 hic (by decide)).trans ?_
      show S 1 i / 12 = _
      rw [eq1, d12 hq]
    have x2 : X (nI i).toNatClampNeg (2 : Int32).toNatClampNeg = S 2 i := by
      rw [nI_clamp (by omega)]
      exact hX.1 i 2 hic (by decide)
    have x3 : X (nI i).toNatClampNeg (3 : Int32).toNatClampNeg = S 3 i := by
      rw [nI_clamp (by omega)]
      exact hX.1 i 3 hic (by decide)
    have x4 : X (nI i).toNatClampNeg (4 : Int32).toNatClampNeg = S 4 i := by
      rw [nI_clamp (by omega)]
      exact hX.1 i 4 hic (by decide)
    have x5 : X (nI i).toNatClampNeg (5 : Int32).toNatClampNeg = crdS S p i 5 := by
      rw [nI_clamp (by omega)]
      exact hX.1 i 5 hic (by decide)
    have x6 : X (nI i).toNatClampNeg (6 : Int32).toNatClampNeg = S 5 i := by
      rw [nI_clamp (by omega)]
      exact hX.1 i 6 hic (by decide)
    have c0 : m_X5_crowd fu M 40 (nI i) 0 = some (Sum.inr (nI (q' % 12))) := (crowd_k (w := 0) hf R WT hic (by decide)).trans (by show some (Sum.inr (T 1 i - T 1 i / 12 * 12)) = _; rw [eq1', r12 hq'])
    have c1 : m_X5_crowd fu M 40 (nI i) 1 = some (Sum.inr (nI (q' / 12))) := (crowd_k (w := 1) hf R WT hic (by decide)).trans (by show some (Sum.inr (T 1 i / 12)) = _; rw [eq1', d12 hq'])
    have c2 : m_X5_crowd fu M 40 (nI i) 2 = some (Sum.inr (T 2 i)) := crowd_k (w := 2) hf R WT hic (by decide)
    have c3 : m_X5_crowd fu M 40 (nI i) 3 = some (Sum.inr (S 3 i)) := (crowd_k (w := 3) hf R WT hic (by decide)).trans (by show some (Sum.inr (T 3 i)) = _; rw [E.1])
    have c4 : m_X5_crowd fu M 40 (nI i) 4 = some (Sum.inr (S 4 i - bI (dzB S i))) := (crowd_k (w := 4) hf R WT hic (by decide)).trans (by show some (Sum.inr (T 4 i)) = _; rw [t4])
    have c6 : m_X5_crowd fu M 40 (nI i) 6 = some (Sum.inr (S 5 i + bI (msB S ok i))) := (crowd_k (w := 6) hf R WT hic (by decide)).trans (by show some (Sum.inr (T 5 i)) = _; rw [t5])
    have hsee := seen_s (fu := fu) hf R WT hic (S 2 i)
    have hcel := cell_k (fu := fu) R (a := q' % 12) (b := q' / 12) (by omega) (by omega)
    rw [show 12 * (q' / 12) + q' % 12 = q' by omega] at hcel
    have H69 : (if S 2 i ≤ 0 then some (0 : Int32) else (if S 4 i ≤ 0 then some (0 : Int32) else some (1 : Int32))) = some (bI (dzB S i)) := by
      have hs2 := W.sc hi6
      have hs4 : S 4 i ≤ 0 ↔ S 4 i = 0 := by
        rw [e4]
        exact (by decide : ∀ m < 25, (nI m ≤ 0 ↔ nI m = 0)) m hm
      by_cases h2 : S 2 i = 0
      · rw [if_pos (hs2.mpr h2), dzB_f.mpr (Or.inl h2)]
        rfl
      · rw [if_neg (fun z => h2 (hs2.mp z))]
        by_cases h4 : S 4 i = 0
        · rw [if_pos (hs4.mpr h4), dzB_f.mpr (Or.inr h4)]
          rfl
        · rw [if_neg (fun z => h4 (hs4.mp z)), dzB_t.mpr ⟨h2, h4⟩]
          rfl
    have H80 : (if S 5 i + bI (msB S ok i) ≤ S 5 i then some (0 : Int32) else some (1 : Int32)) = some (bI (msB S ok i)) := by
      rw [ez]
      cases msB S ok i with
      | false => rw [if_pos (by show nI z + 0 ≤ nI z; rw [Int32.add_zero]; exact Int32.le_refl _)]; rfl
      | true => rw [if_neg (by show ¬ nI z + 1 ≤ nI z; rw [nI_1]; exact nI_ge (by omega) (by omega))]; rfl
    have hmd : msB S ok i = true → dzB S i = true := fun h => by
      unfold msB at h
      rw [Bool.and_eq_true] at h
      exact h.1
    have H66 : ¬ (1 : Int32) < nI far := nI_nlt (a := 1) (by rw [efar2]; split <;> omega) (by decide)
    have H88 : (if nI far = 1 then some (1 : Int32) else some (0 : Int32)) = some (bI (dzB S i && !msB S ok i && decide (kq = 0))) := by
      rw [efar2]
      cases (dzB S i && !msB S ok i && decide (kq = 0)) <;> rfl
    have H119 : ¬ S 5 i + 1 < S 5 i + bI (msB S ok i) := by
      rw [ez]
      cases msB S ok i with
      | false => show ¬ nI z + 1 < nI z + 0; rw [Int32.add_zero, nI_1]; exact nI_nlt (by omega) (by omega)
      | true => show ¬ nI z + 1 < nI z + 1; rw [nI_1]; exact nI_nlt (by omega) (by omega)
    have H124 : T 2 i = mmax 0 (S 2 i - (if S 2 i ≤ 0 then seenC T p i else if T 2 i = 0 then S 2 i else seenC T p i)) := by
      rw [m0_r]
      have hs2 := W.sc hi6
      by_cases h2 : S 2 i = 0
      · have ht := E.2.2.2.1 i hic h2
        rw [if_pos (hs2.mpr h2), h2, seenC_0 ht, ht]
        decide
      · rw [if_neg (fun z => h2 (hs2.mp z))]
        by_cases ht : T 2 i = 0
        · rw [if_pos ht, Int32.sub_self, ht]
          decide
        · rw [if_neg ht]
          exact E.2.2.2.2.1 i hic ht
    have H141 : (if S 2 i ≤ 0 then some () else (if T 0 q' = 0 then some () else (none : Option Unit))) = some () := by
      by_cases h2 : S 2 i = 0
      · rw [if_pos ((W.sc hi6).mpr h2)]
      · rw [if_neg (fun z => h2 ((W.sc hi6).mp z))]
        have h9 := E.2.2.2.2.2.2.2.2.2 i hic h2
        unfold plN at h9
        rw [eq1', nI_clamp (by omega)] at h9
        rw [if_pos h9]
    have Hend := q_end (dzB S i) (msB S ok i) hkq (x := S 2 i) (fun h => Int32.not_lt.mp (har h))
    have G0 : (if bI (dzB S i) = 0 then some (0 : Int32) else if bI (msB S ok i) = 0 then if nI kq = 0 then some (1 : Int32) else some (0 : Int32) else some (0 : Int32)) = some (bI (dzB S i && !msB S ok i && decide (kq = 0))) := q_gk _ _ hkq (v := 0) (by decide)
    have G1 : (if bI (dzB S i) = 0 then some (0 : Int32) else if bI (msB S ok i) = 0 then if nI kq = 1 then some (1 : Int32) else some (0 : Int32) else some (0 : Int32)) = some (bI (dzB S i && !msB S ok i && decide (kq = 1))) := q_gk _ _ hkq (v := 1) (by decide)
    have G2 : (if bI (dzB S i) = 0 then some (0 : Int32) else if bI (msB S ok i) = 0 then if nI kq = 2 then some (1 : Int32) else some (0 : Int32) else some (0 : Int32)) = some (bI (dzB S i && !msB S ok i && decide (kq = 2))) := q_gk _ _ hkq (v := 2) (by decide)
    have efs : nI (q' % 12 - q % 12 + (q % 12 - q' % 12)) + nI (q' / 12 - q / 12 + (q / 12 - q' / 12)) = nI far := by
      rw [nI_add, efar]
      rfl
    rw [m_S5_L489, if_neg (nI_ge (by omega) (by omega))]
    simp only [hI, k0, k1, k2, k3, k4, k5, k6, chk_tt, x0, x1, x2, x3, x4, x5, x6, c0, c1, c2, c3, c4, c6, nbd_r, mlet_s]
    rw [ab_s (by omega) (by omega), ab_s (by omega) (by omega), efs, H69, cb1_s, H80, cb1_s, if_neg H66, H88, cb1_s, e5, G0, cb1_s, if_pos rfl, q_b01 (dzB S i), cb1_s, if_pos rfl, if_pos True.intro, q_un (dzB S i) (msB S ok i) hmd, cb1_s, if_neg H119, hsee, cb1_s, if_pos H124, hcel, nbd_r, H141, cb1_s, q_b01 (msB S ok i), cb1_s, G1, cb1_s, G2, cb1_s, Hend, cb1_s, nI_1, ← hr1, ← hr2]
    exact ih (i + 1) n _ _ _ (by omega) (by omega)
end Crw

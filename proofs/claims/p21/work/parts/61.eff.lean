/-! ===== what an order does ===== -/
theorem sumI_sh {f : Nat → Int32} : ∀ (d i : Nat) (a x : Int32), sumI f i d (a + x) = sumI f i d a + x
  | 0, _, _, _ => rfl
  | d + 1, i, a, x => by
    show sumI f (i + 1) d (a + x + f i) = sumI f (i + 1) d (a + f i) + x
    rw [← sumI_sh d (i + 1) (a + f i) x]
    congr 1
    rw [Int32.add_assoc, Int32.add_comm x (f i), ← Int32.add_assoc]
theorem sumI_z {f : Nat → Int32} (d i : Nat) (a : Int32) : sumI f i d a = a + sumI f i d 0 := by
  have h := sumI_sh (f := f) d i 0 a
  rw [Int32.zero_add] at h
  rw [h, Int32.add_comm]
theorem sumI_up {f g : Nat → Int32} {j : Nat} (hg : ∀ t, t ≠ j → g t = f t) : ∀ (d i : Nat) (a : Int32), i ≤ j → j < i + d → sumI g i d a = sumI f i d a + (g j - f j)
  | 0, i, a, h1, h2 => by omega
  | d + 1, i, a, h1, h2 => by
    show sumI g (i + 1) d (a + g i) = sumI f (i + 1) d (a + f i) + (g j - f j)
    by_cases e : i = j
    · subst e
      rw [sumI_congr (g := f) d (i + 1) (a + g i) (fun t h3 h4 => hg t (by omega)), ← sumI_sh]
      congr 1
      grind
    · rw [sumI_up hg d (i + 1) (a + g i) (by omega) (by omega), hg i e]
theorem bar_set {S : Mem} {j : Nat} {x : Int32} (hj : j < 108) : barS (mst S 0 j x) = barS S + (m0 x - m0 (S 0 j)) := by
  unfold barS
  have h := sumI_up (f := fun j => m0 (S 0 j)) (g := fun t => m0 (mst S 0 j x 0 t)) (j := j) (fun t ht => by
    show m0 (mst S 0 j x 0 t) = m0 (S 0 t)
    rw [mst_o (fun z => ht z.2)]) 108 0 0 (Nat.zero_le j) (by omega)
  rw [h]
  show _ + (m0 (mst S 0 j x 0 j) - m0 (S 0 j)) = _
  rw [mst_s]
theorem bar_o {S : Mem} {f j : Nat} {x : Int32} (hf : f ≠ 0) : barS (mst S f j x) = barS S := by
  unfold barS
  have e : mst S f j x 0 = S 0 := mst_ne (fun z => hf z.symm)
  rw [e]
section Eff
variable {c p : Nat} {S : Mem}
theorem busy_no (W : WF c p S) {u : Nat} (hu : u < 108) (h : ¬ busy S c p (nI u) = true) : (∀ j, j < c → S 2 j ≠ 0 → plN S j ≠ u) ∧ ∀ k, k < p → (S 7 k).toNatClampNeg ≠ u := by
  have h6 := W.c6
  have h3 := W.p3
  unfold busy at h
  refine ⟨fun j hj h2 e => h ?_, fun k hk e => h ?_⟩
  · rw [Bool.or_eq_true]
    refine Or.inl ((anyB_iff c 0).mpr ⟨j, Nat.zero_le j, by omega, ?_⟩)
    unfold busyC
    rw [Bool.and_eq_true, decide_eq_true_eq, decide_eq_true_eq]
    refine ⟨fun z => h2 ((W.sc (by omega)).mp z), ?_⟩
    rw [(W.pn (i := j) (by omega)).2, e]
  · rw [Bool.or_eq_true]
    refine Or.inr ((anyB_iff p 0).mpr ⟨k, Nat.zero_le k, by omega, ?_⟩)
    unfold busyP
    rw [decide_eq_true_eq]
    obtain ⟨q, hq, eq⟩ := W.po (i := k) (by omega)
    rw [eq, nI_clamp (by omega)] at e
    rw [eq, e]
theorem cv_dec1 : ∀ q < 5, ∀ r < 5, (q ≤ 1 ∨ r = 0) ∨ (m0 0 - m0 (cv q) + (m0 (cv r + cv q) - m0 (cv r)) = 0 ∧ ¬ cv r + cv q = -1) := by decide +kernel
theorem cv_dec2 : ∀ q < 5, q = 0 ∨ q = 4 ∨ (m0 (cv q + 1) - m0 (cv q) = 1 ∧ ¬ cv q + 1 = -1) := by decide +kernel
theorem cv_dec3 : ∀ q < 5, q ≤ 1 ∨ (m0 (cv q - 1) - m0 (cv q) = -1 ∧ ¬ cv q - 1 = -1 ∧ ¬ cv q = 0) := by decide +kernel
theorem cv_dec4 : ∀ q < 5, q = 0 ∨ (cv q ≤ 0 → cv q = 0) := by decide +kernel
/-- what an order's carrying out leaves; go: it was to go -/
def OE (c p i : Nat) (S S1 : Mem) (ok : Bool) (to : Option Nat) (go ra pu : Bool) : Prop :=
  (∀ f, f ≠ 0 → f ≠ 1 → S1 f = S f) ∧ (∀ j, j ≠ i → S1 1 j = S 1 j) ∧ (ok = true → go = true → ∃ t, to = some t ∧ S1 1 i = nI t) ∧ (¬ (ok = true ∧ go = true) → S1 1 i = S 1 i) ∧ (∀ j, j < 108 → (S1 0 j = -1 ↔ S 0 j = -1)) ∧
  barS S1 = barS S + (bI (ok && ra) - bI (ok && pu)) ∧ (ok = true → ra = true → ¬ S 2 i < 3) ∧ FRE c p S1
theorem OE.no {i : Nat} {to : Option Nat} {go ra pu : Bool} (F : FRE c p S) : OE c p i S S false to go ra pu :=
  ⟨fun _ _ _ => rfl, fun _ _ => rfl, fun h => (nomatch h), fun _ => rfl, fun _ _ => Iff.rfl, by show barS S = barS S + (0 - 0); grind, fun h => (nomatch h), F⟩
theorem FRE.cell (F : FRE c p S) {t : Nat} {x : Int32} (h : x = 0 ∨ ((∀ j, j < c → S 2 j ≠ 0 → plN S j ≠ t) ∧ ∀ k, k < p → (S 7 k).toNatClampNeg ≠ t)) : FRE c p (mst S 0 t x) := by
  refine ⟨fun j hj h2 => ?_, fun k hk => ?_⟩
  · have h2 : S 2 j ≠ 0 := h2
    show mst S 0 t x 0 (plN S j) = 0
    by_cases e : plN S j = t
    · rw [e, mst_s]
      exact h.resolve_right (fun z => z.1 j hj h2 e)
    · rw [mst_o (fun z => e z.2)]
      exact F.1 j hj h2
  · show mst S 0 t x 0 ((S 7 k).toNatClampNeg) = 0
    by_cases e : (S 7 k).toNatClampNeg = t
    · rw [e, mst_s]
      exact h.resolve_right (fun z => z.2 k hk e)
    · rw [mst_o (fun z => e z.2)]
      exact F.2 k hk
theorem FRE.mv (F : FRE c p S) {i t : Nat} (ht : t < 108) (h0 : S 0 t = 0) : FRE c p (mst S 1 i (nI t)) := by
  refine ⟨fun j hj h2 => ?_, fun k hk => F.2 k hk⟩
  have h2 : S 2 j ≠ 0 := h2
  show S 0 (plN (mst S 1 i (nI t)) j) = 0
  unfold plN
  by_cases e : j = i
  · subst e
    rw [mst_s, nI_clamp (by omega)]
    exact h0
  · rw [mst_o (fun z => e z.2)]
    exact F.1 j hj h2
theorem go_eff (W : WF c p S) (F : FRE c p S) {i : Nat} {to be : Option Nat} (ht : okO to) (hb : okO be) (hne : ∀ t u, to = some t → be = some u → u ≠ t) : OE c p i S (goS S c p i to be).1 (goS S c p i to be).2 to true false false := by
  unfold goS
  cases to with
  | none => exact OE.no F
  | some t =>
    have h0 := ht t rfl
    obtain ⟨q, hq, eq⟩ := W.ce h0
    simp only
    by_cases h1 : S 0 t = -1
    · rw [if_pos h1]; exact OE.no F
    rw [if_neg h1]
    by_cases h2 : S 0 t ≤ 0
    · rw [if_pos h2]
      have hz : S 0 t = 0 := by
        rw [eq] at h1 h2 ⊢
        exact (cv_dec4 q hq).resolve_left (fun z => h1 ((cv_h hq).mpr z)) h2
      show OE c p i S (mst S 1 i (nI t)) true (some t) true false false
      exact ⟨fun f _ h => mst_ne h, fun j hj => mst_o (fun z => hj z.2), fun _ _ => ⟨t, rfl, mst_s _ _ _ _⟩, fun h => absurd ⟨rfl, rfl⟩ h, fun j _ => by rw [show mst S 1 i (nI t) 0 = S 0 from mst_ne (by decide)], by rw [bar_o (by decide)]; show barS S = barS S + (0 - 0); grind, fun _ h => (nomatch h), F.mv h0 hz⟩
    rw [if_neg h2]
    by_cases h4 : S 2 i < 2 * S 0 t
    · rw [if_pos h4]; exact OE.no F
    rw [if_neg h4]
    cases be with
    | none => exact OE.no F
    | some u =>
      have hu := hb u rfl
      have hut := hne t u rfl rfl
      obtain ⟨r, hr, er⟩ := W.ce hu
      simp only
      by_cases h5 : S 0 u = -1
      · rw [if_pos h5]; exact OE.no F
      rw [if_neg h5]
      by_cases h6 : 3 - S 0 t < S 0 u
      · rw [if_pos h6]; exact OE.no F
      rw [if_neg h6]
      by_cases h7 : busy S c p (nI u) = true
      · rw [if_pos h7]; exact OE.no F
      rw [if_neg h7]
      have hk : m0 0 - m0 (S 0 t) + (m0 (S 0 u + S 0 t) - m0 (S 0 u)) = 0 ∧ ¬ S 0 u + S 0 t = -1 := by
        rw [eq, er]
        refine (cv_dec1 q hq r hr).resolve_left (fun z => ?_)
        rcases z with z | z
        · exact h2 (by rw [eq]; exact (cv_le hq).mpr z)
        · exact h5 (by rw [er]; exact (cv_h hr).mpr z)
      have hbz := busy_no W hu h7
      show OE c p i S (mst (mst (mst S 0 t 0) 0 u (S 0 u + S 0 t)) 1 i (nI t)) true (some t) true false false
      refine ⟨fun f hf h => ?_, fun j hj => ?_, fun _ _ => ⟨t, rfl, mst_s _ _ _ _⟩, fun h => absurd ⟨rfl, rfl⟩ h, fun j hj => ?_, ?_, fun _ h => (nomatch h), ?_⟩
      · show mst (mst (mst S 0 t 0) 0 u (S 0 u + S 0 t)) 1 i (nI t) f = S f
        rw [mst_ne h, mst_ne hf, mst_ne hf]
      · show mst (mst (mst S 0 t 0) 0 u (S 0 u + S 0 t)) 1 i (nI t) 1 j = S 1 j
        rw [mst_o (fun z => hj z.2), mst_ne (by decide), mst_ne (by decide)]
      · show mst (mst (mst S 0 t 0) 0 u (S 0 u + S 0 t)) 1 i (nI t) 0 j = -1 ↔ S 0 j = -1
        rw [show mst (mst (mst S 0 t 0) 0 u (S 0 u + S 0 t)) 1 i (nI t) 0 = mst (mst S 0 t 0) 0 u (S 0 u + S 0 t) 0 from mst_ne (by decide)]
        by_cases e1 : j = u
        · subst e1
          rw [mst_s]
          exact ⟨fun z => absurd z hk.2, fun z => absurd z h5⟩
        · rw [mst_o (fun z => e1 z.2)]
          by_cases e2 : j = t
          · subst e2
            rw [mst_s]
            exact ⟨fun z => absurd z (by decide), fun z => absurd z h1⟩
          · rw [mst_o (fun z => e2 z.2)]
      · show barS (mst (mst (mst S 0 t 0) 0 u (S 0 u + S 0 t)) 1 i (nI t)) = barS S + (0 - 0)
        rw [bar_o (by decide), bar_set hu, bar_set h0, show mst S 0 t 0 0 u = S 0 u from mst_o (fun z => hut z.2)]
        have := hk.1
        grind
      · show FRE c p (mst (mst (mst S 0 t 0) 0 u (S 0 u + S 0 t)) 1 i (nI t))
        have F1 : FRE c p (mst S 0 t 0) := F.cell (Or.inl rfl)
        have F2 : FRE c p (mst (mst S 0 t 0) 0 u (S 0 u + S 0 t)) := F1.cell (Or.inr hbz)
        exact F2.mv h0 (by rw [mst_o (fun z => hut z.2.symm), mst_s])
theorem raise_eff (W : WF c p S) (F : FRE c p S) {i : Nat} {to : Option Nat} (ht : okO to) : OE c p i S (raiseS S c p i to).1 (raiseS S c p i to).2 to false true false := by
  unfold raiseS
  cases to with
  | none => exact OE.no F
  | some t =>
    have h0 := ht t rfl
    obtain ⟨q, hq, eq⟩ := W.ce h0
    simp only
    by_cases h1 : S 2 i < 3
    · rw [if_pos h1]; exact OE.no F
    rw [if_neg h1]
    by_cases h2 : S 0 t = -1
    · rw [if_pos h2]; exact OE.no F
    rw [if_neg h2]
    by_cases h3 : S 0 t = 3
    · rw [if_pos h3]; exact OE.no F
    rw [if_neg h3]
    by_cases h7 : busy S c p (nI t) = true
    · rw [if_pos h7]; exact OE.no F
    rw [if_neg h7]
    have hk : m0 (S 0 t + 1) - m0 (S 0 t) = 1 ∧ ¬ S 0 t + 1 = -1 := by
      rw [eq] at h2 h3 ⊢
      rcases cv_dec2 q hq with z | z | z
      · exact absurd ((cv_h hq).mpr z) h2
      · exact absurd ((cv_3 hq).mpr z) h3
      · exact z
    show OE c p i S (mst S 0 t (S 0 t + 1)) true (some t) false true false
    refine ⟨fun f hf _ => mst_ne hf, fun j _ => by rw [show mst S 0 t (S 0 t + 1) 1 = S 1 from mst_ne (by decide)], fun _ h => (nomatch h), fun _ => by rw [show mst S 0 t (S 0 t + 1) 1 = S 1 from mst_ne (by decide)], fun j hj => ?_, ?_, fun _ _ => h1, F.cell (Or.inr (busy_no W h0 h7))⟩
    · show mst S 0 t (S 0 t + 1) 0 j = -1 ↔ S 0 j = -1
      by_cases e1 : j = t
      · subst e1
        rw [mst_s]
        exact ⟨fun z => absurd z hk.2, fun z => absurd z h2⟩
      · rw [mst_o (fun z => e1 z.2)]
    · rw [bar_set h0]
      show _ = barS S + (1 - 0)
      rw [hk.1]
      grind
theorem pull_eff (W : WF c p S) (F : FRE c p S) {i : Nat} {to : Option Nat} (ht : okO to) : OE c p i S (pullS S to).1 (pullS S to).2 to false false true := by
  unfold pullS
  cases to with
  | none => exact OE.no F
  | some t =>
    have h0 := ht t rfl
    obtain ⟨q, hq, eq⟩ := W.ce h0
    simp only
    by_cases h2 : S 0 t ≤ 0
    · rw [if_pos h2]; exact OE.no F
    rw [if_neg h2]
    have hk : m0 (S 0 t - 1) - m0 (S 0 t) = -1 ∧ ¬ S 0 t - 1 = -1 ∧ ¬ S 0 t = 0 := by
      rw [eq] at h2 ⊢
      exact (cv_dec3 q hq).resolve_left (fun z => h2 ((cv_le hq).mpr z))
    have hm : ¬ S 0 t = -1 := fun z => h2 (by rw [z]; decide)
    show OE c p i S (mst S 0 t (S 0 t - 1)) true (some t) false false true
    refine ⟨fun f hf _ => mst_ne hf, fun j _ => by rw [show mst S 0 t (S 0 t - 1) 1 = S 1 from mst_ne (by decide)], fun _ h => (nomatch h), fun _ => by rw [show mst S 0 t (S 0 t - 1) 1 = S 1 from mst_ne (by decide)], fun j hj => ?_, ?_, fun _ h => (nomatch h), F.cell (Or.inr ⟨fun j hj h9 e => hk.2.2 (by rw [← e]; exact F.1 j hj h9), fun k hk9 e => hk.2.2 (by rw [← e]; exact F.2 k hk9)⟩)⟩
    · show mst S 0 t (S 0 t - 1) 0 j = -1 ↔ S 0 j = -1
      by_cases e1 : j = t
      · subst e1
        rw [mst_s]
        exact ⟨fun z => absurd z hk.2.1, fun z => absurd z hm⟩
      · rw [mst_o (fun z => e1 z.2)]
    · rw [bar_set h0]
      show _ = barS S + (0 - 1)
      rw [hk.1]
      grind
theorem ord_eff (W : WF c p S) (F : FRE c p S) {i code : Nat} (hi : i < 6) (hc : code < 12) : OE c p i S (ordS S c p i code).1 (ordS S c p i code).2 (nb (plN S i) (code % 4)) (decide (code / 4 = 0)) (decide (code / 4 = 1)) (decide (code / 4 = 2)) := by
  have hp := (W.pn hi).1
  unfold ordS
  by_cases h1 : code < 4
  · rw [if_pos h1, decide_eq_true (show code / 4 = 0 by omega), decide_eq_false (show ¬ code / 4 = 1 by omega), decide_eq_false (show ¬ code / 4 = 2 by omega)]
    exact go_eff W F (nb_ok hp) (nb2_ok (nb_ok hp)) (nb2_ne hp)
  · rw [if_neg h1]
    by_cases h2 : code < 8
    · rw [if_pos h2, decide_eq_false (show ¬ code / 4 = 0 by omega), decide_eq_true (show code / 4 = 1 by omega), decide_eq_false (show ¬ code / 4 = 2 by omega)]
      exact raise_eff W F (nb_ok hp)
    · rw [if_neg h2, decide_eq_false (show ¬ code / 4 = 0 by omega), decide_eq_false (show ¬ code / 4 = 1 by omega), decide_eq_true (show code / 4 = 2 by omega)]
      exact pull_eff W F (nb_ok hp)
end Eff

/-! ===== the crowds act ===== -/
def dzB (S : Mem) (j : Nat) : Bool := decide (¬ S 2 j = 0) && decide (¬ S 4 j = 0)
def cdN (S : Mem) (j : Nat) : Nat := (S 6 (24 * j)).toNatClampNeg
section Acts
variable {c p : Nat} {S S1 : Mem}
theorem FRE.cg (F : FRE c p S) (h0 : S1 0 = S 0) (h1 : S1 1 = S 1) (h2 : S1 2 = S 2) (h7 : S1 7 = S 7) : FRE c p S1 := by
  refine ⟨fun j hj h => ?_, fun k hk => by rw [h0, h7]; exact F.2 k hk⟩
  rw [h2] at h
  unfold plN
  rw [h0, h1]
  exact F.1 j hj h
theorem drop_f (S : Mem) (i f : Nat) (h4 : f ≠ 4) (h6 : f ≠ 6) : dropS S i f = S f := by
  funext b
  unfold dropS shS
  rw [if_neg (fun z => h6 z.1)]
  exact mst_o (fun z => h4 z.1)
theorem drop_4 (S : Mem) (i j : Nat) : dropS S i 4 j = if j = i then S 4 i - 1 else S 4 j := by
  unfold dropS shS
  rw [if_neg (fun z => by omega)]
  by_cases e : j = i
  · subst e
    rw [if_pos rfl, mst_s]
  · rw [if_neg e, mst_o (fun z => e z.2)]
theorem drop_6 (S : Mem) {i j : Nat} (h : j ≠ i) (hm : (S 4 i).toNatClampNeg ≤ 24) : dropS S i 6 (24 * j) = S 6 (24 * j) := by
  unfold dropS shS
  rw [if_neg (fun z => by omega)]
  exact mst_o (fun z => absurd z.1 (by decide))
theorem cdN_lt (W : WF c p S) {i : Nat} (hi : i < 6) : cdN S i < 12 ∧ S 6 (24 * i) = nI (cdN S i) := by
  obtain ⟨q, hq, eq⟩ := W.or (j := 24 * i) (by omega)
  unfold cdN
  rw [eq, nI_clamp (by omega)]
  exact ⟨hq, rfl⟩
theorem dzB_t {j : Nat} : dzB S j = true ↔ (¬ S 2 j = 0 ∧ ¬ S 4 j = 0) := by
  unfold dzB
  rw [Bool.and_eq_true, decide_eq_true_eq, decide_eq_true_eq]
theorem dzB_f {j : Nat} : dzB S j = false ↔ (S 2 j = 0 ∨ S 4 j = 0) := by
  by_cases h2 : S 2 j = 0 <;> by_cases h4 : S 4 j = 0 <;> simp [dzB, h2, h4]
theorem act_no {i : Nat} (h : dzB S i = false) : actS S c p i = S := by
  unfold actS
  rcases dzB_f.mp h with h | h
  · rw [if_pos h]
  · by_cases h2 : S 2 i = 0
    · rw [if_pos h2]
    · rw [if_neg h2, if_pos h]
theorem act_eff (W : WF c p S) (F : FRE c p S) {i : Nat} (hi : i < 6) (h : dzB S i = true) : ∃ ok : Bool,
    (∀ f, f ≠ 0 → f ≠ 1 → f ≠ 4 → f ≠ 5 → f ≠ 6 → actS S c p i f = S f) ∧
    (∀ j, j ≠ i → actS S c p i 1 j = S 1 j ∧ actS S c p i 4 j = S 4 j ∧ actS S c p i 5 j = S 5 j ∧ actS S c p i 6 (24 * j) = S 6 (24 * j)) ∧
    actS S c p i 4 i = S 4 i - 1 ∧ actS S c p i 5 i = (if ok = true then S 5 i else S 5 i + 1) ∧
    (ok = true → cdN S i / 4 = 0 → ∃ t, nb (plN S i) (cdN S i % 4) = some t ∧ actS S c p i 1 i = nI t) ∧ (¬ (ok = true ∧ cdN S i / 4 = 0) → actS S c p i 1 i = S 1 i) ∧ (ok = true → cdN S i / 4 = 1 → ¬ S 2 i < 3) ∧
    (∀ q, q < 108 → (actS S c p i 0 q = -1 ↔ S 0 q = -1)) ∧ barS (actS S c p i) = barS S + (bI (ok && decide (cdN S i / 4 = 1)) - bI (ok && decide (cdN S i / 4 = 2))) ∧ FRE c p (actS S c p i) := by
  obtain ⟨h2, h4⟩ := dzB_t.mp h
  obtain ⟨m, hm, em⟩ := W.oc hi
  have hm24 : (S 4 i).toNatClampNeg ≤ 24 := by rw [em, nI_clamp (by omega)]; omega
  have W1 := (W.drop hi h4).1
  have F1 : FRE c p (dropS S i) := F.cg (drop_f S i 0 (by decide) (by decide)) (drop_f S i 1 (by decide) (by decide)) (drop_f S i 2 (by decide) (by decide)) (drop_f S i 7 (by decide) (by decide))
  have hpl : plN (dropS S i) i = plN S i := by
    unfold plN
    rw [drop_f S i 1 (by decide) (by decide)]
  have hE := ord_eff W1 F1 hi (cdN_lt W hi).1
  rw [hpl] at hE
  have ea : actS S c p i = missS (ordS (dropS S i) c p i (cdN S i)) i := by
    unfold actS cdN
    rw [if_neg h2, if_neg h4]
  have hbd : barS (dropS S i) = barS S := by
    unfold barS
    rw [drop_f S i 0 (by decide) (by decide)]
  generalize ordS (dropS S i) c p i (cdN S i) = r at hE ea
  obtain ⟨T, ok⟩ := r
  obtain ⟨e1, e2, e3, e4, e5, e6, e7, e8⟩ := hE
  have e1 : ∀ f, f ≠ 0 → f ≠ 1 → T f = dropS S i f := e1
  have e2 : ∀ j, j ≠ i → T 1 j = dropS S i 1 j := e2
  have e4 : ¬ (ok = true ∧ decide (cdN S i / 4 = 0) = true) → T 1 i = dropS S i 1 i := e4
  have e5 : ∀ j, j < 108 → (T 0 j = -1 ↔ dropS S i 0 j = -1) := e5
  have hM : ∀ f, f ≠ 5 → actS S c p i f = T f := fun f hf => by
    rw [ea]
    unfold missS
    by_cases ho : ok = true
    · rw [if_pos ho]
    · rw [if_neg ho]
      exact mst_ne hf
  have h5 : ∀ j, actS S c p i 5 j = if j = i ∧ ¬ ok = true then S 5 j + 1 else S 5 j := fun j => by
    rw [ea]
    unfold missS
    have t5 : T 5 = S 5 := by rw [e1 5 (by decide) (by decide), drop_f S i 5 (by decide) (by decide)]
    by_cases ho : ok = true
    · rw [if_pos ho, if_neg (fun z => z.2 ho)]
      show T 5 j = S 5 j
      rw [t5]
    · rw [if_neg ho]
      show mst T 5 i (T 5 i + 1) 5 j = _
      by_cases e : j = i
      · subst e
        rw [mst_s, if_pos ⟨rfl, ho⟩, t5]
      · rw [mst_o (fun z => e z.2), if_neg (fun z => e z.1), t5]
  have hb : barS (actS S c p i) = barS T := by
    unfold barS
    rw [hM 0 (by decide)]
  refine ⟨ok, fun f f0 f1 f4 f5 f6 => ?_, fun j hj => ⟨?_, ?_, ?_, ?_⟩, ?_, ?_, fun ho hc => ?_, fun hn => ?_, fun ho hc => ?_, fun q hq => ?_, ?_, ?_⟩
  · rw [hM f f5, e1 f f0 f1, drop_f S i f f4 f6]
  · rw [hM 1 (by decide), e2 j hj, drop_f S i 1 (by decide) (by decide)]
  · rw [hM 4 (by decide), e1 4 (by decide) (by decide), drop_4, if_neg hj]
  · rw [h5, if_neg (fun z => hj z.1)]
  · rw [hM 6 (by decide), e1 6 (by decide) (by decide), drop_6 S hj hm24]
  · rw [hM 4 (by decide), e1 4 (by decide) (by decide), drop_4, if_pos rfl]
  · rw [h5]
    by_cases ho : ok = true
    · rw [if_pos ho, if_neg (fun z => z.2 ho)]
    · rw [if_neg ho, if_pos ⟨rfl, ho⟩]
  · rw [hM 1 (by decide)]
    exact e3 ho (decide_eq_true hc)
  · rw [hM 1 (by decide)]
    have := e4 (fun z => hn ⟨z.1, of_decide_eq_true z.2⟩)
    rw [this, drop_f S i 1 (by decide) (by decide)]
  · have := e7 ho (decide_eq_true hc)
    rw [drop_f S i 2 (by decide) (by decide)] at this
    exact this
  · rw [hM 0 (by decide)]
    have := e5 q hq
    rw [drop_f S i 0 (by decide) (by decide)] at this
    exact this
  · rw [hb]
    have := e6
    rw [hbd] at this
    exact this
  · exact FRE.cg e8 (hM 0 (by decide)) (hM 1 (by decide)) (hM 2 (by decide)) (hM 7 (by decide))
def raB (S : Mem) (ok : Nat → Bool) (k j : Nat) : Bool := dzB S j && ok j && decide (cdN S j / 4 = k)
/-- what the crowds' acting leaves -/
def ANE (c p i d : Nat) (S A : Mem) (ok : Nat → Bool) : Prop :=
  (∀ f, f ≠ 0 → f ≠ 1 → f ≠ 4 → f ≠ 5 → f ≠ 6 → A f = S f) ∧
  (∀ j, (j < i ∨ i + d ≤ j ∨ dzB S j = false) → A 1 j = S 1 j ∧ A 4 j = S 4 j ∧ A 5 j = S 5 j) ∧
  (∀ j, i ≤ j → j < i + d → dzB S j = true → A 4 j = S 4 j - 1 ∧ A 5 j = (if ok j = true then S 5 j else S 5 j + 1) ∧ (ok j = true → cdN S j / 4 = 0 → ∃ t, nb (plN S j) (cdN S j % 4) = some t ∧ A 1 j = nI t) ∧ (¬ (ok j = true ∧ cdN S j / 4 = 0) → A 1 j = S 1 j) ∧ (ok j = true → cdN S j / 4 = 1 → ¬ S 2 j < 3)) ∧
  (∀ q, q < 108 → (A 0 q = -1 ↔ S 0 q = -1)) ∧ barS A = barS S + (sumI (fun j => bI (raB S ok 1 j)) i d 0 - sumI (fun j => bI (raB S ok 2 j)) i d 0) ∧ FRE c p A
theorem actN_eff (hc6 : c ≤ 6) : ∀ (d i : Nat) (S : Mem), WF c p S → FRE c p S → i + d ≤ c → ∃ ok : Nat → Bool, ANE c p i d S (actN S c p i d) ok := by
  intro d
  induction d with
  | zero =>
    intro i S W F h
    refine ⟨fun _ => false, fun _ _ _ _ _ _ => rfl, fun _ _ => ⟨rfl, rfl, rfl⟩, fun j h1 h2 => by omega, fun _ _ => Iff.rfl, ?_, F⟩
    show barS S = barS S + (0 - 0)
    grind
  | succ d ih =>
    intro i S W F h
    show ∃ ok : Nat → Bool, ANE c p i (d + 1) S (actN (actS S c p i) c p (i + 1) d) ok
    have hi6 : i < 6 := by omega
    by_cases hz : dzB S i = true
    · obtain ⟨o, a1, a2, a3, a4, a5, a6, a7, a8, a9, a10⟩ := act_eff W F hi6 hz
      obtain ⟨ok, b1, b2, b3, b4, b5, b6⟩ := ih (i + 1) (actS S c p i) (W.act hi6) a10 (by omega)
      have hdz : ∀ j, j ≠ i → dzB (actS S c p i) j = dzB S j := fun j hj => by
        unfold dzB
        rw [a1 2 (by decide) (by decide) (by decide) (by decide) (by decide), (a2 j hj).2.1]
      have hcd : ∀ j, j ≠ i → cdN (actS S c p i) j = cdN S j := fun j hj => by
        unfold cdN
        rw [(a2 j hj).2.2.2]
      have hpl : ∀ j, j ≠ i → plN (actS S c p i) j = plN S j := fun j hj => by
        unfold plN
        rw [(a2 j hj).1]
      have hra : ∀ k t, i + 1 ≤ t → t < i + 1 + d → bI (raB (actS S c p i) ok k t) = bI (raB S (fun j => if j = i then o else ok j) k t) := fun k t h1 h2 => by
        unfold raB
        rw [hdz t (by omega), hcd t (by omega)]
        show _ = bI (dzB S t && (if t = i then o else ok t) && _)
        rw [if_neg (show ¬ t = i by omega)]
      refine ⟨fun j => if j = i then o else ok j, fun f f0 f1 f4 f5 f6 => ?_, fun j hj => ?_, fun j h1 h2 hdj => ?_, fun q hq => ?_, ?_, b6⟩
      · rw [b1 f f0 f1 f4 f5 f6, a1 f f0 f1 f4 f5 f6]
      · have hji : j ≠ i := fun z => by
          subst z
          rcases hj with hj | hj | hj
          · omega
          · omega
          · rw [hz] at hj; cases hj
        obtain ⟨c1, c2, c3⟩ := b2 j (by rw [hdz j hji]; rcases hj with hj | hj | hj; exact Or.inl (by omega); exact Or.inr (Or.inl (by omega)); exact Or.inr (Or.inr hj))
        obtain ⟨d1, d2, d3, -⟩ := a2 j hji
        exact ⟨c1.trans d1, c2.trans d2, c3.trans d3⟩
      · by_cases e : j = i
        · subst e
          obtain ⟨c1, c2, c3⟩ := b2 j (Or.inl (by omega))
          show _ ∧ _ = (if (if j = j then o else ok j) = true then _ else _) ∧ ((if j = j then o else ok j) = true → _) ∧ (¬ ((if j = j then o else ok j) = true ∧ _) → _) ∧ ((if j = j then o else ok j) = true → _)
          rw [if_pos rfl, c1, c2, c3]
          exact ⟨a3, a4, a5, a6, a7⟩
        · obtain ⟨c1, c2, c3, c4, c5⟩ := b3 j (by omega) (by omega) (by rw [hdz j e]; exact hdj)
          obtain ⟨d1, d2, d3, -⟩ := a2 j e
          rw [hcd j e, hpl j e] at c3
          rw [hcd j e, d1] at c4
          rw [hcd j e, a1 2 (by decide) (by decide) (by decide) (by decide) (by decide)] at c5
          rw [d2] at c1
          rw [d3] at c2
          show _ ∧ _ = (if (if j = i then o else ok j) = true then _ else _) ∧ ((if j = i then o else ok j) = true → _) ∧ (¬ ((if j = i then o else ok j) = true ∧ _) → _) ∧ ((if j = i then o else ok j) = true → _)
          rw [if_neg e]
          exact ⟨c1, c2, c3, c4, c5⟩
      · rw [b4 q hq, a8 q hq]
      · have s1 := sumI_congr d (i + 1) 0 (hra 1)
        have s2 := sumI_congr d (i + 1) 0 (hra 2)
        rw [s1, s2, a9] at b5
        have t1 : sumI (fun j => bI (raB S (fun j => if j = i then o else ok j) 1 j)) i (d + 1) 0 = bI (o && decide (cdN S i / 4 = 1)) + sumI (fun j => bI (raB S (fun j => if j = i then o else ok j) 1 j)) (i + 1) d 0 := by
          show sumI _ (i + 1) d (0 + bI (raB S (fun j => if j = i then o else ok j) 1 i)) = _
          rw [sumI_z]
          unfold raB
          rw [hz]
          show 0 + bI (true && (if i = i then o else ok i) && _) + _ = _
          rw [if_pos rfl, Bool.true_and, Int32.zero_add]
        have t2 : sumI (fun j => bI (raB S (fun j => if j = i then o else ok j) 2 j)) i (d + 1) 0 = bI (o && decide (cdN S i / 4 = 2)) + sumI (fun j => bI (raB S (fun j => if j = i then o else ok j) 2 j)) (i + 1) d 0 := by
          show sumI _ (i + 1) d (0 + bI (raB S (fun j => if j = i then o else ok j) 2 i)) = _
          rw [sumI_z]
          unfold raB
          rw [hz]
          show 0 + bI (true && (if i = i then o else ok i) && _) + _ = _
          rw [if_pos rfl, Bool.true_and, Int32.zero_add]
        rw [t1, t2, b5]
        grind
    · have hz : dzB S i = false := by
        cases h9 : dzB S i with
        | true => exact absurd h9 hz
        | false => rfl
      rw [act_no hz]
      obtain ⟨ok, b1, b2, b3, b4, b5, b6⟩ := ih (i + 1) S W F (by omega)
      refine ⟨ok, b1, fun j hj => b2 j ?_, fun j h1 h2 hdj => b3 j ?_ (by omega) hdj, b4, ?_, b6⟩
      · rcases hj with hj | hj | hj
        · exact Or.inl (by omega)
        · exact Or.inr (Or.inl (by omega))
        · exact Or.inr (Or.inr hj)
      · by_cases e : j = i
        · subst e
          rw [hz] at hdj
          cases hdj
        · omega
      · have t : ∀ k, sumI (fun j => bI (raB S ok k j)) i (d + 1) 0 = sumI (fun j => bI (raB S ok k j)) (i + 1) d 0 := fun k => by
          show sumI _ (i + 1) d (0 + bI (raB S ok k i)) = _
          have e : raB S ok k i = false := by
            unfold raB
            rw [hz]
            rfl
          rw [e]
          rfl
        rw [t 1, t 2]
        exact b5
end Acts

/-! ===== a step, field by field ===== -/
section Step
variable {c p : Nat} {S T : Mem}
theorem mv_f (S : Mem) (i f : Nat) (h7 : f ≠ 7) (h8 : f ≠ 8) : moveS S i f = S f := by
  unfold moveS turnS
  rw [mst_ne h8, stepTo_f S i _ h7]
theorem mv_7 (S : Mem) (i j : Nat) : moveS S i 7 j = if j = i ∧ cellv S (nb (S 7 i).toNatClampNeg (dirS S i)) = 0 then oI (nb (S 7 i).toNatClampNeg (dirS S i)) else S 7 j := by
  unfold moveS turnS
  rw [mst_ne (show (7 : Nat) ≠ 8 by decide)]
  unfold stepTo
  by_cases h : cellv S (nb (S 7 i).toNatClampNeg (dirS S i)) = 0
  · rw [if_pos h]
    by_cases e : j = i
    · subst e
      rw [mst_s, if_pos ⟨rfl, h⟩]
    · rw [mst_o (fun z => e z.2), if_neg (fun z => e z.1)]
  · rw [if_neg h, if_neg (fun z => h z.2)]
theorem mv_8 (S : Mem) {i j : Nat} (h : j ≠ i) : moveS S i 8 j = S 8 j := by
  unfold moveS turnS
  rw [mst_o (fun z => h z.2), stepTo_f S i _ (by decide)]
theorem cellv_cg {o : Option Nat} (h : T 0 = S 0) : cellv T o = cellv S o := by
  cases o with
  | none => rfl
  | some q => exact congrFun h q
theorem mvN_eff : ∀ (d i : Nat) (S : Mem), (∀ f, f ≠ 7 → f ≠ 8 → mvN S i d f = S f) ∧ (∀ j, (j < i ∨ i + d ≤ j) → mvN S i d 7 j = S 7 j) ∧ ∀ j, i ≤ j → j < i + d → mvN S i d 7 j = if cellv S (nb (S 7 j).toNatClampNeg (dirS S j)) = 0 then oI (nb (S 7 j).toNatClampNeg (dirS S j)) else S 7 j := by
  intro d
  induction d with
  | zero => intro i S; exact ⟨fun _ _ _ => rfl, fun _ _ => rfl, fun j h1 h2 => by omega⟩
  | succ d ih =>
    intro i S
    obtain ⟨a1, a2, a3⟩ := ih (i + 1) (moveS S i)
    show (∀ f, f ≠ 7 → f ≠ 8 → mvN (moveS S i) (i + 1) d f = S f) ∧ (∀ j, (j < i ∨ i + (d + 1) ≤ j) → mvN (moveS S i) (i + 1) d 7 j = S 7 j) ∧ ∀ j, i ≤ j → j < i + (d + 1) → mvN (moveS S i) (i + 1) d 7 j = if cellv S (nb (S 7 j).toNatClampNeg (dirS S j)) = 0 then oI (nb (S 7 j).toNatClampNeg (dirS S j)) else S 7 j
    refine ⟨fun f h7 h8 => (a1 f h7 h8).trans (mv_f S i f h7 h8), fun j hj => ?_, fun j h1 h2 => ?_⟩
    · rw [a2 j (by omega), mv_7, if_neg (fun z => by omega)]
    · by_cases e : j = i
      · subst e
        rw [a2 j (Or.inl (by omega)), mv_7]
        by_cases h : cellv S (nb (S 7 j).toNatClampNeg (dirS S j)) = 0
        · rw [if_pos ⟨rfl, h⟩, if_pos h]
        · rw [if_neg (fun z => h z.2), if_neg h]
      · have e7 : moveS S i 7 j = S 7 j := by rw [mv_7, if_neg (fun z => e z.1)]
        have ed : dirS (moveS S i) j = dirS S j := by
          unfold dirS
          rw [mv_f S i 13 (by decide) (by decide), mv_8 S e]
        rw [a3 j (by omega) (by omega), e7, ed, cellv_cg (mv_f S i 0 (by decide) (by decide))]
theorem sumI_0 {f : Nat → Int32} : ∀ (d i : Nat) (a : Int32), (∀ t, i ≤ t → t < i + d → f t = 0) → sumI f i d a = a
  | 0, _, _, _ => rfl
  | d + 1, i, a, h => by
    show sumI f (i + 1) d (a + f i) = a
    rw [h i (Nat.le_refl i) (by omega), Int32.add_zero]
    exact sumI_0 d (i + 1) a (fun t h1 h2 => h t (by omega) (by omega))
theorem seeS_cg {i j : Nat} (h0 : T 0 = S 0) (h1 : T 1 j = S 1 j) (h3 : T 3 j = S 3 j) (h7 : T 7 = S 7) (h2 : T 2 j = 0 ↔ S 2 j = 0) : seeS T i j = seeS S i j := by
  unfold seeS seeN
  have hb : ∀ t q, btw T t q = btw S t q := fun t q => by
    unfold btw nz
    rw [h0]
  rw [h1, h3, h7, hb]
  by_cases e : S 2 j = 0
  · rw [if_pos e, if_pos (h2.mpr e)]
  · rw [if_neg e, if_neg (fun z => e (h2.mp z))]
theorem seenC_cg {j : Nat} (h0 : T 0 = S 0) (h1 : T 1 j = S 1 j) (h3 : T 3 j = S 3 j) (h7 : T 7 = S 7) (h2 : T 2 j = 0 ↔ S 2 j = 0) : seenC T p j = seenC S p j := by
  unfold seenC
  exact sumI_congr p 0 0 (fun t _ _ => by rw [seeS_cg h0 h1 h3 h7 h2])
theorem seeS_0 {i j : Nat} (h : S 2 j = 0) : seeS S i j = false := by
  unfold seeS seeN
  rw [if_pos h]
theorem seenC_0 {j : Nat} (h : S 2 j = 0) : seenC S p j = 0 := by
  unfold seenC
  exact sumI_0 p 0 0 (fun t _ _ => by rw [seeS_0 h]; rfl)
theorem scN_eff : ∀ (d i : Nat) (S : Mem), (∀ f, f ≠ 2 → scN S p i d f = S f) ∧ (∀ j, (j < i ∨ i + d ≤ j) → scN S p i d 2 j = S 2 j) ∧ ∀ j, i ≤ j → j < i + d → scN S p i d 2 j = m0 (S 2 j - seenC S p j) := by
  intro d
  induction d with
  | zero => intro i S; exact ⟨fun _ _ => rfl, fun _ _ => rfl, fun j h1 h2 => by omega⟩
  | succ d ih =>
    intro i S
    obtain ⟨a1, a2, a3⟩ := ih (i + 1) (scatS S p i)
    have hf : ∀ f, f ≠ 2 → scatS S p i f = S f := fun f h => mst_ne h
    have ho : ∀ j, j ≠ i → scatS S p i 2 j = S 2 j := fun j h => mst_o (fun z => h z.2)
    show (∀ f, f ≠ 2 → scN (scatS S p i) p (i + 1) d f = S f) ∧ (∀ j, (j < i ∨ i + (d + 1) ≤ j) → scN (scatS S p i) p (i + 1) d 2 j = S 2 j) ∧ ∀ j, i ≤ j → j < i + (d + 1) → scN (scatS S p i) p (i + 1) d 2 j = m0 (S 2 j - seenC S p j)
    refine ⟨fun f h => (a1 f h).trans (hf f h), fun j hj => ?_, fun j h1 h2 => ?_⟩
    · rw [a2 j (by omega), ho j (by omega)]
    · by_cases e : j = i
      · subst e
        rw [a2 j (Or.inl (by omega))]
        exact mst_s _ _ _ _
      · rw [a3 j (by omega) (by omega), ho j e, seenC_cg (hf 0 (by decide)) (by rw [hf 1 (by decide)]) (by rw [hf 3 (by decide)]) (hf 7 (by decide)) (by rw [ho j e])]
theorem m0_0 : m0 0 = 0 := by decide
/-- what a step leaves -/
def STE (c p : Nat) (S T : Mem) (ok : Nat → Bool) : Prop :=
  T 3 = S 3 ∧
  (∀ j, j < c → dzB S j = false → T 1 j = S 1 j ∧ T 4 j = S 4 j ∧ T 5 j = S 5 j) ∧
  (∀ j, j < c → dzB S j = true → T 4 j = S 4 j - 1 ∧ T 5 j = (if ok j = true then S 5 j else S 5 j + 1) ∧ (ok j = true → cdN S j / 4 = 0 → ∃ t, nb (plN S j) (cdN S j % 4) = some t ∧ T 1 j = nI t) ∧ (¬ (ok j = true ∧ cdN S j / 4 = 0) → T 1 j = S 1 j) ∧ (ok j = true → cdN S j / 4 = 1 → ¬ S 2 j < 3)) ∧
  (∀ j, j < c → S 2 j = 0 → T 2 j = 0) ∧ (∀ j, j < c → ¬ T 2 j = 0 → T 2 j = m0 (S 2 j - seenC T p j)) ∧
  (∀ q, q < 108 → (T 0 q = -1 ↔ S 0 q = -1)) ∧ barS T = barS S + (sumI (fun j => bI (raB S ok 1 j)) 0 c 0 - sumI (fun j => bI (raB S ok 2 j)) 0 c 0) ∧ FRE c p T ∧
  (∀ k, k < p → T 7 k = if cellv T (nb (S 7 k).toNatClampNeg (dirS S k)) = 0 then oI (nb (S 7 k).toNatClampNeg (dirS S k)) else S 7 k) ∧
  (∀ j, j < c → ¬ S 2 j = 0 → T 0 (plN T j) = 0)
theorem step_eff (W : WF c p S) (F : FRE c p S) : ∃ ok, STE c p S (stepS S c p) ok := by
  have h6 := W.c6
  have h3 := W.p3
  obtain ⟨ok, a1, a2, a3, a4, a5, a6⟩ := actN_eff h6 c 0 S W F (by omega)
  obtain ⟨b1, b2, b3⟩ := mvN_eff p 0 (actN S c p 0 c)
  obtain ⟨d1, d2, d3⟩ := scN_eff (p := p) c 0 (mvN (actN S c p 0 c) 0 p)
  unfold stepS
  generalize actN S c p 0 c = A at a1 a2 a3 a4 a5 a6 b1 b2 b3 d1 d2 d3 ⊢
  generalize mvN A 0 p = B at b1 b2 b3 d1 d2 d3 ⊢
  generalize scN B p 0 c = C at d1 d2 d3 ⊢
  have t : ∀ f, f ≠ 9 → mst C 9 0 (S 9 0 + 1) f = C f := fun f h => mst_ne h
  generalize mst C 9 0 (S 9 0 + 1) = T at t ⊢
  have t0 : T 0 = A 0 := by rw [t 0 (by decide), d1 0 (by decide), b1 0 (by decide) (by decide)]
  have t1 : T 1 = A 1 := by rw [t 1 (by decide), d1 1 (by decide), b1 1 (by decide) (by decide)]
  have t3 : T 3 = S 3 := by rw [t 3 (by decide), d1 3 (by decide), b1 3 (by decide) (by decide), a1 3 (by decide) (by decide) (by decide) (by decide) (by decide)]
  have t4 : T 4 = A 4 := by rw [t 4 (by decide), d1 4 (by decide), b1 4 (by decide) (by decide)]
  have t5 : T 5 = A 5 := by rw [t 5 (by decide), d1 5 (by decide), b1 5 (by decide) (by decide)]
  have t7 : T 7 = B 7 := by rw [t 7 (by decide), d1 7 (by decide)]
  have B2 : B 2 = S 2 := by rw [b1 2 (by decide) (by decide), a1 2 (by decide) (by decide) (by decide) (by decide) (by decide)]
  have A7 : A 7 = S 7 := a1 7 (by decide) (by decide) (by decide) (by decide) (by decide)
  have t2 : ∀ j, j < c → T 2 j = m0 (S 2 j - seenC B p j) := fun j hj => by
    rw [t 2 (by decide), d3 j (Nat.zero_le j) (by omega), B2]
  have z2 : ∀ j, j < c → S 2 j = 0 → T 2 j = 0 := fun j hj h => by
    rw [t2 j hj, h, seenC_0 (by rw [B2]; exact h)]
    decide
  have hdir : ∀ k, dirS A k = dirS S k := fun k => by
    unfold dirS
    rw [a1 13 (by decide) (by decide) (by decide) (by decide) (by decide), a1 8 (by decide) (by decide) (by decide) (by decide) (by decide)]
  have h7 : ∀ k, k < p → T 7 k = if cellv T (nb (S 7 k).toNatClampNeg (dirS S k)) = 0 then oI (nb (S 7 k).toNatClampNeg (dirS S k)) else S 7 k := fun k hk => by
    rw [t7, b3 k (Nat.zero_le k) (by omega), A7, hdir, cellv_cg (S := A) (T := T) t0]
  refine ⟨ok, t3, fun j hj hz => ?_, fun j hj hz => ?_, z2, fun j hj hne => ?_, fun q hq => by rw [t0]; exact a4 q hq, ?_, ⟨fun j hj hne => ?_, fun k hk => ?_⟩, h7, fun j hj hs => ?_⟩
  · rw [t1, t4, t5]
    exact a2 j (Or.inr (Or.inr hz))
  · rw [t1, t4, t5]
    exact a3 j (Nat.zero_le j) (by omega) hz
  · have hs : ¬ S 2 j = 0 := fun z => hne (z2 j hj z)
    have e : seenC T p j = seenC B p j := seenC_cg (by rw [t0, b1 0 (by decide) (by decide)]) (by rw [t1, b1 1 (by decide) (by decide)]) (by rw [t 3 (by decide), d1 3 (by decide)]) t7 (by rw [B2]; exact ⟨fun z => absurd z hne, fun z => absurd z hs⟩)
    rw [e]
    exact t2 j hj
  · have e : barS T = barS A := by
      unfold barS
      rw [t0]
    rw [e]
    exact a5
  · have hs : ¬ S 2 j = 0 := fun z => hne (z2 j hj z)
    unfold plN
    rw [t0, t1]
    exact a6.1 j hj (by rw [a1 2 (by decide) (by decide) (by decide) (by decide) (by decide)]; exact hs)
  · rw [h7 k hk]
    by_cases h : cellv T (nb (S 7 k).toNatClampNeg (dirS S k)) = 0
    · rw [if_pos h]
      cases e : nb (S 7 k).toNatClampNeg (dirS S k) with
      | none => rw [e] at h; exact absurd h (show ¬ (-1 : Int32) = 0 by decide)
      | some q =>
        rw [e] at h
        obtain ⟨z, hz, ez⟩ := W.po (i := k) (by omega)
        have hq : q < 108 := nb_ok (by rw [ez, nI_clamp (by omega)]; exact hz) q e
        show T 0 (nI q).toNatClampNeg = 0
        rw [nI_clamp (by omega)]
        exact h
    · rw [if_neg h, t0]
      have := a6.2 k hk
      rw [A7] at this
      exact this
  · unfold plN
    rw [t0, t1]
    exact a6.1 j hj (by rw [a1 2 (by decide) (by decide) (by decide) (by decide) (by decide)]; exact hs)
end Step

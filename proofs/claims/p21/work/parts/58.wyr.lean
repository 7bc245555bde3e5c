/-! ===== the fewest steps: there are some just if the one is reached from the other ===== -/
abbrev Bst : Type := (Nat → Nat) × (Nat → Nat) × Nat
def BQ (S : Mem) (u : Nat) (st : Bst) (j : Nat) : Prop := (∀ v, v < 108 → st.1 v ≠ 0 → ∃ i, i < st.2.2 ∧ st.2.1 i = v) ∧ (∀ v, v < 108 → st.1 v ≠ 0 → RS S u v ∧ v % 12 + 1 ≤ st.1 v + u % 12) ∧ ∀ i, i < j → ∀ d w, d < 4 → nb (st.2.1 i) d = some w → S 0 w = 0 → st.1 w ≠ 0
section Bfs
variable {S : Mem} {u a d j : Nat} {st : Bst}
theorem BQ.push (Q : BQ S u st j) (hj : j ≤ st.2.2) (ha : a < 108) (hn : st.1 a ≠ 0) (hd : d < 4) : BQ S u (pushA S st a d) j ∧ ∀ w, nb a d = some w → S 0 w = 0 → (pushA S st a d).1 w ≠ 0 := by
  unfold pushA
  cases h : nb a d with
  | none => exact ⟨Q, fun w e => by cases e⟩
  | some v =>
    have hv : v < 108 := nb_ok ha v h
    simp only
    by_cases h1 : S 0 v = 0
    · rw [if_pos h1]
      by_cases h2 : st.1 v = 0
      · rw [if_pos h2]
        obtain ⟨q1, q2, q3⟩ := Q
        refine ⟨⟨fun w hw hne => ?_, fun w hw hne => ?_, fun i hi d' w hd' e h0 => ?_⟩, fun w e h0 => ?_⟩
        · show ∃ i, i < st.2.2 + 1 ∧ un st.2.1 st.2.2 v i = w
          have hne : un st.1 v (st.1 a + 1) w ≠ 0 := hne
          by_cases e : w = v
          · subst e
            exact ⟨st.2.2, by omega, un_s _ _ _⟩
          · rw [un_o e] at hne
            obtain ⟨i, i1, i2⟩ := q1 w hw hne
            exact ⟨i, by omega, by rw [un_o (by omega), i2]⟩
        · show RS S u w ∧ w % 12 + 1 ≤ un st.1 v (st.1 a + 1) w + u % 12
          have hne : un st.1 v (st.1 a + 1) w ≠ 0 := hne
          by_cases e : w = v
          · subst e
            obtain ⟨r1, r2⟩ := q2 a ha hn
            rw [un_s]
            refine ⟨r1.st hd h h1, ?_⟩
            have := nb_cr h ha
            omega
          · rw [un_o e] at hne
            rw [un_o e]
            exact q2 w hw hne
        · have e : nb (un st.2.1 st.2.2 v i) d' = some w := e
          rw [un_o (by omega)] at e
          exact (Fm.un h2).ne (q3 i hi d' w hd' e h0)
        · cases e
          show un st.1 v (st.1 a + 1) v ≠ 0
          rw [un_s]
          omega
      · rw [if_neg h2]
        exact ⟨Q, fun w e h0 => by cases e; exact h2⟩
    · rw [if_neg h1]
      exact ⟨Q, fun w e h0 => by cases e; exact absurd h0 h1⟩
theorem BQ.dirs (ha : a < 108) : ∀ (d i : Nat) (st : Bst), i + d = 4 → BQ S u st j → BI st → st.1 a ≠ 0 → j ≤ st.2.2 → (∀ d', d' < i → ∀ w, nb a d' = some w → S 0 w = 0 → st.1 w ≠ 0) →
    BQ S u (dirsA S st a i d) j ∧ st.2.2 ≤ (dirsA S st a i d).2.2 ∧ (∀ q, q < st.2.2 → (dirsA S st a i d).2.1 q = st.2.1 q) ∧ Fm st.1 (dirsA S st a i d).1 ∧ ∀ d', d' < 4 → ∀ w, nb a d' = some w → S 0 w = 0 → (dirsA S st a i d).1 w ≠ 0 := by
  intro d
  induction d with
  | zero =>
    intro i st hi Q B hn hj hp
    rw [dirsA_0]
    exact ⟨Q, Nat.le_refl _, fun _ _ => rfl, Fm.rf, fun d' hd' => hp d' (by omega)⟩
  | succ d ih =>
    intro i st hi Q B hn hj hp
    rw [dirsA_s]
    obtain ⟨Q1, n1⟩ := Q.push (d := i) hj ha hn (by omega)
    obtain ⟨B1, c1, k1, m1⟩ := B.push (S := S) (u := a) (d := i) ha
    obtain ⟨Q2, c2, k2, m2, n2⟩ := ih (i + 1) (pushA S st a i) (by omega) Q1 B1 (m1.ne hn) (by omega) (fun d' hd' w e h0 => by
      by_cases e2 : d' = i
      · subst e2
        exact n1 w e h0
      · exact m1.ne (hp d' (by omega) w e h0))
    exact ⟨Q2, by omega, fun q hq => (k2 q (by omega)).trans (k1 q hq), m1.tr m2, n2⟩
theorem BQ.bfs : ∀ (e j : Nat) (st : Bst), j + e = 108 → BQ S u st j → BI st → j ≤ st.2.2 → BQ S u (bfsA S st j e) (bfsA S st j e).2.2 ∧ BI (bfsA S st j e) ∧ Fm st.1 (bfsA S st j e).1 := by
  intro e
  induction e with
  | zero =>
    intro j st hj Q B hjc
    rw [bfsA_0]
    have := B.m
    have h9 : st.2.2 = j := by omega
    exact ⟨by rw [h9]; exact Q, B, Fm.rf⟩
  | succ e ih =>
    intro j st hj Q B hjc
    rw [bfsA_s]
    by_cases h : st.2.2 ≤ j
    · rw [if_pos h]
      have h9 : st.2.2 = j := by omega
      exact ⟨by rw [h9]; exact Q, B, Fm.rf⟩
    · rw [if_neg h]
      obtain ⟨a1, a2⟩ := B.2.1 j (by omega)
      obtain ⟨Q1, c1, k1, m1, n1⟩ := BQ.dirs a1 4 0 st (by omega) Q B a2 hjc (fun d' hd' => by omega)
      have Q2 : BQ S u (dirsA S st (st.2.1 j) 0 4) (j + 1) := ⟨Q1.1, Q1.2.1, fun i hi d' w hd' e1 h0 => by
        by_cases e2 : i = j
        · subst e2
          rw [k1 i (by omega)] at e1
          exact n1 d' hd' w e1 h0
        · exact Q1.2.2 i (by omega) d' w hd' e1 h0⟩
      obtain ⟨Q3, B3, m3⟩ := ih (j + 1) _ (by omega) Q2 (BI.dirs a1 4 0 st B) (by omega)
      exact ⟨Q3, B3, m1.tr m3⟩
/-- from the left to the right -/
theorem way_11 {v : Nat} (hu : u < 108) (hv : v < 108) (h0 : u % 12 = 0) (h11 : v % 12 = 11) : (11 : Int32) ≤ wayS S u v ↔ (S 0 u = 0 ∧ RS S u v) := by
  have Q0 : BQ S u (st0 u) 0 := by
    refine ⟨fun w hw hne => ?_, fun w hw hne => ?_, fun i hi => by omega⟩
    · have hne : un (fun _ => 0) u 1 w ≠ 0 := hne
      by_cases e : w = u
      · subst e
        exact ⟨0, Nat.zero_lt_one, (show un (fun _ => 0) 0 w 0 = w from un_s _ _ _)⟩
      · rw [un_o e] at hne
        exact absurd rfl hne
    · have hne : un (fun _ => 0) u 1 w ≠ 0 := hne
      show RS S u w ∧ w % 12 + 1 ≤ un (fun _ => 0) u 1 w + u % 12
      by_cases e : w = u
      · subst e
        rw [un_s]
        exact ⟨RS.rf, by omega⟩
      · rw [un_o e] at hne
        exact absurd rfl hne
  obtain ⟨Q, B, m⟩ := BQ.bfs 108 0 (st0 u) (by omega) Q0 (BI.ini hu) (Nat.zero_le _)
  have n1 : ¬ (11 : Int32) ≤ -1 := by decide
  unfold wayS
  by_cases hf : S 0 u = 0
  · rw [if_pos hf]
    by_cases hg : S 0 v = 0
    · rw [if_pos hg]
      by_cases hz : (bfsA S (st0 u) 0 108).1 v = 0
      · rw [hz]
        constructor
        · intro h
          exact absurd h (by decide)
        · rintro ⟨-, hr⟩
          exfalso
          have key : v < 108 ∧ (bfsA S (st0 u) 0 108).1 v ≠ 0 := by
            refine hr (fun w => w < 108 ∧ (bfsA S (st0 u) 0 108).1 w ≠ 0) ⟨hu, m.ne (by show un (fun _ => 0) u 1 u ≠ 0; rw [un_s]; omega)⟩ (fun a b d ha hd e h9 => ⟨nb_ok ha.1 b e, ?_⟩)
            obtain ⟨i, i1, i2⟩ := Q.1 a ha.1 ha.2
            exact Q.2.2 i i1 d b hd (by rw [i2]; exact e) h9
          exact key.2 hz
      · obtain ⟨r1, r2⟩ := Q.2.1 v hv hz
        refine ⟨fun _ => ⟨hf, r1⟩, fun _ => ?_⟩
        have h1 := B.2.2 v
        have h2 := B.m
        obtain ⟨x, hx⟩ : ∃ x, (bfsA S (st0 u) 0 108).1 v = x + 1 := ⟨(bfsA S (st0 u) 0 108).1 v - 1, by omega⟩
        rw [hx, nI_pred]
        exact nI_le (a := 11) (by omega) (by omega)
    · rw [if_neg hg]
      exact ⟨fun h => absurd h n1, fun ⟨_, hr⟩ => absurd (hr.ok hu hf).2 hg⟩
  · rw [if_neg hf]
    exact ⟨fun h => absurd h n1, fun ⟨h, _⟩ => absurd h hf⟩
end Bfs

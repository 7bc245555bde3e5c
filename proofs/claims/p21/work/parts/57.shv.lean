/-! ===== how few shut the quarter, by the cells alone ===== -/
def ShV (S : Mem) (r : Nat) : Prop := (∃ F, Feas S F ∧ r = minL F 96 12 9) ∧ ∀ G, Feas S G → minL G 96 12 9 ≤ r
theorem minL_mono {F G : Nat → Nat} : ∀ (d i a b : Nat), a ≤ b → (∀ t, i ≤ t → t < i + d → F t ≤ G t) → minL F i d a ≤ minL G i d b
  | 0, _, _, _, h, _ => h
  | d + 1, i, a, b, h, hh => by
    have h1 := hh i (Nat.le_refl i) (by omega)
    exact minL_mono d (i + 1) (min a (F i)) (min b (G i)) (by omega) (fun t h2 h3 => hh t (by omega) (by omega))
theorem minL_0 {F : Nat → Nat} : ∀ (d i a : Nat), minL F i d a = 0 ↔ a = 0 ∨ ∃ t, i ≤ t ∧ t < i + d ∧ F t = 0
  | 0, i, a => by
    show a = 0 ↔ a = 0 ∨ ∃ t, i ≤ t ∧ t < i + 0 ∧ F t = 0
    constructor
    · exact Or.inl
    · rintro (h | ⟨t, h1, h2, -⟩)
      · exact h
      · omega
  | d + 1, i, a => by
    show minL F (i + 1) d (min a (F i)) = 0 ↔ _
    rw [minL_0 d (i + 1) (min a (F i))]
    constructor
    · rintro (h | ⟨t, h1, h2, h3⟩)
      · by_cases e : a = 0
        · exact Or.inl e
        · exact Or.inr ⟨i, Nat.le_refl i, by omega, by omega⟩
      · exact Or.inr ⟨t, by omega, by omega, h3⟩
    · rintro (h | ⟨t, h1, h2, h3⟩)
      · exact Or.inl (by omega)
      · by_cases e : t = i
        · subst e
          exact Or.inl (by omega)
        · exact Or.inr ⟨t, by omega, by omega, h3⟩
theorem shut_v {n fu : Nat} {M S : Mem} (hn : n + 20 ≤ 41) (hN : SN n) (hf : 120 < fu) (R : CR n M S) : ∃ M1 r, m_X4_fewestToShut fu M 41 (n + 1) = some (M1, nI r) ∧ ShV S r ∧ r ≤ 9 ∧ Ws M M1 := by
  obtain ⟨M1, F, e, hF, -, w⟩ := shut_s (fu := fu) (G := fun _ => 0) hn hN hf ⟨fun _ _ => Nat.zero_le _, fun _ _ _ _ _ => Nat.zero_le _⟩ R
  have l1 := minL_le (F := F) 12 96 9
  refine ⟨M1, minL F 96 12 9, e, ⟨⟨F, hF, rfl⟩, fun G hG => ?_⟩, l1, w⟩
  obtain ⟨M2, F2, e2, hF2, h2, -⟩ := shut_s (fu := fu) hn hN hf hG R
  have l2 := minL_le (F := F2) 12 96 9
  have e3 : minL F 96 12 9 = minL F2 96 12 9 := (nI_eq (by omega) (by omega)).mp (Prod.mk.inj (Option.some.inj (e.symm.trans e2))).2
  rw [e3]
  exact minL_mono 12 96 9 9 (Nat.le_refl 9) (fun t h1 h3 => (h2 t (by omega)).1)
section ShVs
variable {S : Mem} {r a b : Nat}
theorem ShV.uq (h1 : ShV S a) (h2 : ShV S b) : a = b := by
  obtain ⟨⟨F, f1, f2⟩, f3⟩ := h1
  obtain ⟨⟨G, g1, g2⟩, g3⟩ := h2
  have := f3 G g1
  have := g3 F f1
  omega
theorem ShV.zero (h : ShV S r) : r = 0 ↔ ∃ z, 96 ≤ z ∧ z < 108 ∧ ZS S z := by
  obtain ⟨⟨F, f1, f2⟩, f3⟩ := h
  constructor
  · intro h0
    have hc : ∀ v, ∃ k : Nat, (ZS S v ∧ k = 0) ∨ (¬ ZS S v ∧ k = 1) := fun v => by
      rcases Classical.em (ZS S v) with h | h
      · exact ⟨0, Or.inl ⟨h, rfl⟩⟩
      · exact ⟨1, Or.inr ⟨h, rfl⟩⟩
    obtain ⟨G, hG⟩ := Classical.axiomOfChoice hc
    have l1 : ∀ v, G v ≤ 1 := fun v => by
      rcases hG v with ⟨-, e⟩ | ⟨-, e⟩ <;> omega
    have gF : Feas S G := by
      refine ⟨fun v hv => ?_, fun u v hu hv ha => ?_⟩
      · unfold wS
        by_cases e : S 0 v = 0
        · rw [if_pos e]; exact l1 v
        · rw [if_neg e]
          rcases hG v with ⟨-, e1⟩ | ⟨e1, -⟩
          · omega
          · exact absurd (ZS.top hv e) e1
      · unfold wS
        by_cases e : S 0 v = 0
        · rw [if_pos e]
          have := l1 v
          omega
        · rw [if_neg e]
          rcases hG u with ⟨zu, e1⟩ | ⟨-, e1⟩
          · rcases hG v with ⟨-, e2⟩ | ⟨e2, -⟩
            · omega
            · exact absurd (zu.st hv ha e) e2
          · have := l1 v
            omega
    have h1 := f3 G gF
    rcases (minL_0 12 96 9).mp (show minL G 96 12 9 = 0 by omega) with h2 | ⟨t, t1, t2, t3⟩
    · omega
    · rcases hG t with ⟨zt, -⟩ | ⟨-, e⟩
      · exact ⟨t, t1, by omega, zt⟩
      · omega
  · rintro ⟨z, z1, z2, hz⟩
    have key : z < 108 ∧ F z = 0 := by
      refine hz (fun z => z < 108 ∧ F z = 0) (fun a ha h9 => ⟨by omega, ?_⟩) (fun a b ha hb j h9 => ⟨hb, ?_⟩)
      · have h1 := f1.1 a ha
        unfold wS at h1
        rw [if_neg h9] at h1
        omega
      · have h1 := f1.2 a b ha.1 hb j
        unfold wS at h1
        rw [if_neg h9] at h1
        omega
    rw [f2]
    exact (minL_0 12 96 9).mpr (Or.inr ⟨z, z1, by omega, key.2⟩)
/-- none must be shut just if no way leads across -/
theorem ShV.way (h : ShV S r) : r = 0 ↔ ∀ u v, u < 108 → u % 12 = 0 → S 0 u = 0 → RS S u v → v % 12 ≠ 11 := by
  rw [h.zero]
  constructor
  · rintro ⟨z, z1, z2, hz⟩ u v hu h0 hf hr h11
    exact dua2 hu h0 hf hr h11 hz z1
  · intro hno
    exact dua1 hno
end ShVs

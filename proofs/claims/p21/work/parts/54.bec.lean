/-! ===== both answers of shuts are one; a state becomes another ===== -/
theorem minL_cg {F G : Nat → Nat} : ∀ (d i a : Nat), (∀ t, i ≤ t → t < i + d → F t = G t) → minL F i d a = minL G i d a
  | 0, _, _, _ => rfl
  | d + 1, i, a, h => by
    show minL F (i + 1) d (min a (F i)) = minL G (i + 1) d (min a (G i))
    rw [h i (Nat.le_refl i) (by omega), minL_cg d (i + 1) _ (fun t h1 h2 => h t (by omega) (by omega))]
theorem minL_le {F : Nat → Nat} : ∀ (d i a : Nat), minL F i d a ≤ a
  | 0, _, a => Nat.le_refl a
  | d + 1, i, a => by
    have := minL_le (F := F) d (i + 1) (min a (F i))
    show minL F (i + 1) d (min a (F i)) ≤ a
    omega
theorem feas_col {S : Mem} {F : Nat → Nat} (h : Feas S F) : ∀ r, r < 9 → F (12 * r) ≤ r + 1
  | 0, _ => by
    have := h.1 0 (by decide)
    have := wS_le (S := S) (v := 0)
    show F 0 ≤ 1
    omega
  | r + 1, hr => by
    have h1 := feas_col h r (by omega)
    have h2 := h.2 (12 * r) (12 * (r + 1)) (by omega) (by omega) (by unfold adj; omega)
    have := wS_le (S := S) (v := 12 * (r + 1))
    omega
def CWD (M M1 : Mem) (i : Nat) : Prop := M1 (cwd 20 i) 0 = M (cwd 0 i) 0 ∧ M1 (cwd 20 i) 1 = M (cwd 0 i) 1 ∧ M1 (cwd 20 i) 2 = M (cwd 0 i) 2 ∧ M1 (cwd 20 i) 4 = M (cwd 0 i) 4 ∧ M1 (cwd 20 i) 5 = M (cwd 0 i) 5 ∧ ∀ j, j < 24 → M1 (cwd 20 i + 1) j = M (cwd 0 i + 1) j
def PTL (M M1 : Mem) (i : Nat) : Prop := M1 (ptl 20 i) 0 = M (ptl 0 i) 0 ∧ M1 (ptl 20 i) 1 = M (ptl 0 i) 1 ∧ M1 (ptl 20 i) 2 = M (ptl 0 i) 2 ∧ M1 (ptl 20 i) 3 = M (ptl 0 i) 3
section Bec
variable {n k c p fu : Nat} {M N S : Mem}
theorem cbec_s {i : Nat} (hi : i < 6) (hb : isb (M (cwd 0 i) 2) = true) : ∃ M1, m_X0_become fu M (cwd 20 i) (cwd 0 i) = some M1 ∧ CWD M M1 i ∧ ∀ a, a ≠ cwd 20 i → a ≠ cwd 20 i + 1 → M1 a = M a := by
  have hne : cwd 0 i ≠ cwd 20 i := by unfold cwd; omega
  have hne1 : cwd 0 i ≠ cwd 20 i + 1 := by unfold cwd; omega
  have hne2 : cwd 0 i + 1 ≠ cwd 20 i := by unfold cwd; omega
  have hne3 : cwd 0 i + 1 ≠ cwd 20 i + 1 := by unfold cwd; omega
  have hne4 : cwd 20 i ≠ cwd 20 i + 1 := by omega
  have hne5 : cwd 20 i + 1 ≠ cwd 20 i := by omega
  refine ⟨mst (mst (mcp (mst (mst (mst M (cwd 20 i) 0 (M (cwd 0 i) 0)) (cwd 20 i) 1 (M (cwd 0 i) 1)) (cwd 20 i) 2 (M (cwd 0 i) 2)) (cwd 0 i + 1) (cwd 20 i + 1) 0 0 24) (cwd 20 i) 4 (M (cwd 0 i) 4)) (cwd 20 i) 5 (M (cwd 0 i) 5), ?_, ⟨?_, ?_, ?_, ?_, ?_, ?_⟩, ?_⟩
  · unfold m_X0_become
    rw [mlet_s, mst_ne hne, mlet_s, mst_ne hne, mst_ne hne, chk_t hb, mlet_s, SN_0.2 i hi, SN_20.2 i hi, chk_t (by decide), mlet_s, mcp_ne hne1, mst_ne hne, mst_ne hne, mst_ne hne, mlet_s, mst_ne hne, mcp_ne hne1, mst_ne hne, mst_ne hne, mst_ne hne, mlet_s]
    rfl
  · rw [mst_o (by omega), mst_o (by omega), mcp_ne hne4, mst_o (by omega), mst_o (by omega), mst_s]
  · rw [mst_o (by omega), mst_o (by omega), mcp_ne hne4, mst_o (by omega), mst_s]
  · rw [mst_o (by omega), mst_o (by omega), mcp_ne hne4, mst_s]
  · rw [mst_o (by omega), mst_s]
  · rw [mst_s]
  · intro j hj
    rw [mst_ne hne5, mst_ne hne5, mcp_row, pk_cpy_in (by omega) (by omega), mst_ne hne2, mst_ne hne2, mst_ne hne2, Nat.sub_zero, Nat.zero_add]
  · intro a h1 h2
    rw [mst_ne h1, mst_ne h1, mcp_ne h2, mst_ne h1, mst_ne h1, mst_ne h1]
theorem pbec_s {i : Nat} (hi : i < 3) : ∃ M1, m_X2_become fu M (ptl 20 i) (ptl 0 i) = some M1 ∧ PTL M M1 i ∧ ∀ a, a ≠ ptl 20 i → M1 a = M a := by
  have hne : ptl 0 i ≠ ptl 20 i := by unfold ptl; omega
  refine ⟨mst (mst (mst (mst M (ptl 20 i) 0 (M (ptl 0 i) 0)) (ptl 20 i) 1 (M (ptl 0 i) 1)) (ptl 20 i) 2 (M (ptl 0 i) 2)) (ptl 20 i) 3 (M (ptl 0 i) 3), ?_, ⟨?_, ?_, ?_, ?_⟩, ?_⟩
  · unfold m_X2_become
    rw [mlet_s, mst_ne hne, mlet_s, mst_ne hne, mst_ne hne, mlet_s, mst_ne hne, mst_ne hne, mst_ne hne, mlet_s]
  · rw [mst_o (by omega), mst_o (by omega), mst_o (by omega), mst_s]
  · rw [mst_o (by omega), mst_o (by omega), mst_s]
  · rw [mst_o (by omega), mst_s]
  · rw [mst_s]
  · intro a h1
    rw [mst_ne h1, mst_ne h1, mst_ne h1, mst_ne h1]
theorem bec_L13 {M0 : Mem} (hb : ∀ i, i < 6 → isb (M0 (cwd 0 i) 2) = true) : ∀ (d i g : Nat) (M : Mem), i + d = 6 → d < g → (∀ a, a < 20 → M a = M0 a) → ∃ M1, m_X1_become_L13 fu 20 0 g M (nI i) = some M1 ∧ (∀ c, i ≤ c → c < 6 → CWD M0 M1 c) ∧ ∀ a, (∀ c, i ≤ c → c < 6 → a ≠ cwd 20 c ∧ a ≠ cwd 20 c + 1) → M1 a = M a := by
  intro d
  induction d with
  | zero =>
    intro i g M hi hg hM
    obtain ⟨g, rfl⟩ := f1 hg
    rw [m_X1_become_L13, if_pos (show (6 : Int32) ≤ nI i from nI_le (a := 6) (by omega) (by omega))]
    exact ⟨M, rfl, fun c h1 h2 => by omega, fun _ _ => rfl⟩
  | succ d ih =>
    intro i g M hi hg hM
    obtain ⟨g, rfl⟩ := f1 hg
    have hi6 : i < 6 := by omega
    have hlt : cwd 0 i < 20 ∧ cwd 0 i + 1 < 20 := by unfold cwd; omega
    have hb1 : isb (M (cwd 0 i) 2) = true := by rw [hM _ hlt.1]; exact hb i hi6
    obtain ⟨M1, e1, c1, f1⟩ := cbec_s (fu := fu) hi6 hb1
    have hM1 : ∀ a, a < 20 → M1 a = M0 a := fun a ha => (f1 a (by unfold cwd; omega) (by unfold cwd; omega)).trans (hM a ha)
    obtain ⟨M2, e2, c2, f2⟩ := ih (i + 1) g M1 (by omega) (by omega) hM1
    rw [m_X1_become_L13, if_neg (show ¬ (6 : Int32) ≤ nI i from nI_ge (b := 6) (by omega) (by omega)), chk_t (inb_nI hi6 (by decide)), chk_t (inb_nI hi6 (by decide)), elC_nI 20 (by omega), elC_nI 0 (by omega), e1, cb1_s, mlet_s, nI_1]
    refine ⟨M2, e2, fun c h1 h2 => ?_, fun a ha => ?_⟩
    · by_cases e : c = i
      · subst e
        have g1 : M2 (cwd 20 c) = M1 (cwd 20 c) := f2 _ (fun b h1 h2 => by unfold cwd; omega)
        have g2 : M2 (cwd 20 c + 1) = M1 (cwd 20 c + 1) := f2 _ (fun b h1 h2 => by unfold cwd; omega)
        have g3 : M (cwd 0 c) = M0 (cwd 0 c) := hM _ hlt.1
        have g4 : M (cwd 0 c + 1) = M0 (cwd 0 c + 1) := hM _ hlt.2
        unfold CWD at c1 ⊢
        rw [g1, g2, ← g3, ← g4]
        exact c1
      · exact c2 c (by omega) h2
    · rw [f2 a (fun b h1 h2 => ha b (by omega) h2)]
      have := ha i (Nat.le_refl i) hi6
      exact f1 a this.1 this.2
theorem bec_L50 {M0 : Mem} : ∀ (d i g : Nat) (M : Mem), i + d = 3 → d < g → (∀ a, a < 20 → M a = M0 a) → ∃ M1, m_X1_become_L50 fu 20 0 g M (nI i) = some M1 ∧ (∀ c, i ≤ c → c < 3 → PTL M0 M1 c) ∧ ∀ a, (∀ c, i ≤ c → c < 3 → a ≠ ptl 20 c) → M1 a = M a := by
  intro d
  induction d with
  | zero =>
    intro i g M hi hg hM
    obtain ⟨g, rfl⟩ := f1 hg
    rw [m_X1_become_L50, if_pos (show (3 : Int32) ≤ nI i from nI_le (a := 3) (by omega) (by omega))]
    exact ⟨M, rfl, fun c h1 h2 => by omega, fun _ _ => rfl⟩
  | succ d ih =>
    intro i g M hi hg hM
    obtain ⟨g, rfl⟩ := f1 hg
    have hi6 : i < 3 := by omega
    have hlt : ptl 0 i < 20 := by unfold ptl; omega
    obtain ⟨M1, e1, c1, f1⟩ := pbec_s (fu := fu) (M := M) hi6
    have hM1 : ∀ a, a < 20 → M1 a = M0 a := fun a ha => (f1 a (by unfold ptl; omega)).trans (hM a ha)
    obtain ⟨M2, e2, c2, f2⟩ := ih (i + 1) g M1 (by omega) (by omega) hM1
    rw [m_X1_become_L50, if_neg (show ¬ (3 : Int32) ≤ nI i from nI_ge (b := 3) (by omega) (by omega)), chk_t (inb_nI hi6 (by decide)), chk_t (inb_nI hi6 (by decide)), elP_nI 20 (by omega), elP_nI 0 (by omega), e1, cb1_s, mlet_s, nI_1]
    refine ⟨M2, e2, fun c h1 h2 => ?_, fun a ha => ?_⟩
    · by_cases e : c = i
      · subst e
        have g1 : M2 (ptl 20 c) = M1 (ptl 20 c) := f2 _ (fun b h1 h2 => by unfold ptl; omega)
        have g3 : M (ptl 0 c) = M0 (ptl 0 c) := hM _ hlt
        unfold PTL at c1 ⊢
        rw [g1, ← g3]
        exact c1
      · exact c2 c (by omega) h2
    · rw [f2 a (fun b h1 h2 => ha b (by omega) h2)]
      exact f1 a (ha i (Nat.le_refl i) hi6)
theorem become_s (R : CR 0 M S) (W : WF c p S) (hf : 30 < fu) : ∃ M1, m_X1_become fu M 20 0 = some M1 ∧ CR 20 M1 S ∧ Fr 20 M M1 := by
  have hb : ∀ i, i < 6 → isb (M (cwd 0 i) 2) = true := fun i hi => by
    obtain ⟨q, hq, eq⟩ := W.to hi
    rw [R.to hi, eq]
    exact (by decide : ∀ q < 2, isb (nI q) = true) q hq
  have e0 : m_X3_become fu M (20 + 1) (0 + 1) = some (mcp M 2 22 0 0 108) := by
    unfold m_X3_become
    rw [SN_0.1, SN_20.1, chk_t (by decide)]
    rfl
  obtain ⟨M1, e1, c1, f1⟩ := bec_L13 (fu := fu) hb 6 0 fu (mcp M 2 22 0 0 108) (by omega) (by omega) (fun a ha => mcp_ne (by omega))
  have hM1 : ∀ a, a < 20 → M1 a = M a := fun a ha => (f1 a (fun c h1 h2 => by unfold cwd; omega)).trans (mcp_ne (by omega))
  have hM2 : ∀ a, a < 20 → mst M1 20 2 (M1 0 2) a = M a := fun a ha => (mst_ne (by omega)).trans (hM1 a ha)
  obtain ⟨M3, e3, c3, f3⟩ := bec_L50 (fu := fu) (M0 := M) 3 0 fu (mst M1 20 2 (M1 0 2)) (by omega) (by omega) hM2
  have h30 : M3 0 = M 0 := (f3 0 (fun c h1 h2 => by unfold ptl; omega)).trans (hM2 0 (by decide))
  rw [nI_0] at e1 e3
  have hM : ∀ a, a ≠ 20 → mst (mst M3 20 4 (M 0 4)) 20 5 (M 0 5) a = M3 a := fun a ha => (mst_ne ha).trans (mst_ne ha)
  have hC : ∀ i, i < 6 → M3 (cwd 20 i) = M1 (cwd 20 i) ∧ M3 (cwd 20 i + 1) = M1 (cwd 20 i + 1) := fun i hi => ⟨(f3 _ (fun c h1 h2 => by unfold ptl cwd; omega)).trans (mst_ne (by unfold cwd; omega)), (f3 _ (fun c h1 h2 => by unfold ptl cwd; omega)).trans (mst_ne (by unfold cwd; omega))⟩
  have h22 : M3 22 = mcp M 2 22 0 0 108 22 := ((f3 22 (fun c h1 h2 => by unfold ptl; omega)).trans (mst_ne (by decide))).trans (f1 22 (fun c h1 h2 => by unfold cwd; omega))
  have h32 : M3 20 2 = M 0 2 := by
    rw [f3 20 (fun c h1 h2 => by unfold ptl; omega), mst_s, hM1 0 (by decide)]
  refine ⟨mst (mst M3 20 4 (M 0 4)) 20 5 (M 0 5), ?_, ?_, ?_⟩
  · rw [m_X1_become, e0, cb1_s, e1, cb1_s, mlet_s, e3, cb1_s, mlet_s, mlet_s, mst_ne (show (0 : Nat) ≠ 20 by decide), h30]
  · intro f hf i hi
    rw [← R f hf i hi]
    rcases (show f = 0 ∨ f = 1 ∨ f = 2 ∨ f = 3 ∨ f = 4 ∨ f = 5 ∨ f = 6 ∨ f = 7 ∨ f = 8 ∨ f = 9 ∨ f = 10 ∨ f = 11 ∨ f = 12 ∨ f = 13 by omega) with rfl | rfl | rfl | rfl | rfl | rfl | rfl | rfl | rfl | rfl | rfl | rfl | rfl | rfl
    · have hi : i < 108 := hi
      show mst (mst M3 20 4 (M 0 4)) 20 5 (M 0 5) 22 i = M 2 i
      rw [hM 22 (by decide), h22, mcp_row, pk_cpy_in (by omega) (by omega), Nat.sub_zero, Nat.zero_add]
    · have hi : i < 6 := hi
      show mst (mst M3 20 4 (M 0 4)) 20 5 (M 0 5) (cwd 20 i) 0 = M (cwd 0 i) 0
      rw [hM _ (by unfold cwd; omega), (hC i hi).1]
      exact (c1 i (Nat.zero_le i) hi).1
    · have hi : i < 6 := hi
      show mst (mst M3 20 4 (M 0 4)) 20 5 (M 0 5) (cwd 20 i) 1 = M (cwd 0 i) 1
      rw [hM _ (by unfold cwd; omega), (hC i hi).1]
      exact (c1 i (Nat.zero_le i) hi).2.1
    · have hi : i < 6 := hi
      show mst (mst M3 20 4 (M 0 4)) 20 5 (M 0 5) (cwd 20 i) 2 = M (cwd 0 i) 2
      rw [hM _ (by unfold cwd; omega), (hC i hi).1]
      exact (c1 i (Nat.zero_le i) hi).2.2.1
    · have hi : i < 6 := hi
      show mst (mst M3 20 4 (M 0 4)) 20 5 (M 0 5) (cwd 20 i) 4 = M (cwd 0 i) 4
      rw [hM _ (by unfold cwd; omega), (hC i hi).1]
      exact (c1 i (Nat.zero_le i) hi).2.2.2.1
    · have hi : i < 6 := hi
      show mst (mst M3 20 4 (M 0 4)) 20 5 (M 0 5) (cwd 20 i) 5 = M (cwd 0 i) 5
      rw [hM _ (by unfold cwd; omega), (hC i hi).1]
      exact (c1 i (Nat.zero_le i) hi).2.2.2.2.1
    · have hi : i < 144 := hi
      show mst (mst M3 20 4 (M 0 4)) 20 5 (M 0 5) (cwd 20 (i / 24) + 1) (i % 24) = M (cwd 0 (i / 24) + 1) (i % 24)
      rw [hM _ (by unfold cwd; omega), (hC (i / 24) (by omega)).2]
      exact (c1 (i / 24) (Nat.zero_le _) (by omega)).2.2.2.2.2 (i % 24) (by omega)
    · have hi : i < 3 := hi
      show mst (mst M3 20 4 (M 0 4)) 20 5 (M 0 5) (ptl 20 i) 0 = M (ptl 0 i) 0
      rw [hM _ (by unfold ptl; omega)]
      exact (c3 i (Nat.zero_le i) hi).1
    · have hi : i < 3 := hi
      show mst (mst M3 20 4 (M 0 4)) 20 5 (M 0 5) (ptl 20 i) 3 = M (ptl 0 i) 3
      rw [hM _ (by unfold ptl; omega)]
      exact (c3 i (Nat.zero_le i) hi).2.2.2
    · show mst (mst M3 20 4 (M 0 4)) 20 5 (M 0 5) 20 5 = M 0 5
      rw [mst_s]
    · show mst (mst M3 20 4 (M 0 4)) 20 5 (M 0 5) 20 2 = M 0 2
      rw [mst_o (by omega), mst_o (by omega), h32]
    · show mst (mst M3 20 4 (M 0 4)) 20 5 (M 0 5) 20 4 = M 0 4
      rw [mst_o (by omega), mst_s]
    · have hi : i < 3 := hi
      show mst (mst M3 20 4 (M 0 4)) 20 5 (M 0 5) (ptl 20 i) 1 = M (ptl 0 i) 1
      rw [hM _ (by unfold ptl; omega)]
      exact (c3 i (Nat.zero_le i) hi).2.1
    · have hi : i < 3 := hi
      show mst (mst M3 20 4 (M 0 4)) 20 5 (M 0 5) (ptl 20 i) 2 = M (ptl 0 i) 2
      rw [hM _ (by unfold ptl; omega)]
      exact (c3 i (Nat.zero_le i) hi).2.2.1
  · intro a ha
    rw [hM a (by omega), f3 a (fun c h1 h2 => by unfold ptl; omega), mst_ne (by omega), f1 a (fun c h1 h2 => by unfold cwd; omega), mcp_ne (by omega)]
/-! the reference's state becomes another -/
end Bec

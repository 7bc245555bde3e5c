/-! ===== how few shut the quarter: the class's search ===== -/
def wS (S : Mem) (v : Nat) : Nat := if S 0 v = 0 then 1 else 0
def adj (u v : Nat) : Prop := u % 12 ≤ v % 12 + 1 ∧ v % 12 ≤ u % 12 + 1 ∧ u / 12 ≤ v / 12 + 1 ∧ v / 12 ≤ u / 12 + 1
def Feas (S : Mem) (g : Nat → Nat) : Prop := (∀ v, v < 12 → g v ≤ wS S v) ∧ ∀ u v, u < 108 → v < 108 → adj u v → g v ≤ g u + wS S v
def Fm (f f1 : Nat → Nat) : Prop := ∀ v, f v ≠ 0 → f1 v = f v
theorem Fm.rf {f : Nat → Nat} : Fm f f := fun _ _ => rfl
theorem Fm.tr {f f1 f2 : Nat → Nat} (h : Fm f f1) (h2 : Fm f1 f2) : Fm f f2 := fun v hv => (h2 v (by rw [h v hv]; exact hv)).trans (h v hv)
theorem Fm.ne {f f1 : Nat → Nat} (h : Fm f f1) {v : Nat} (hv : f v ≠ 0) : f1 v ≠ 0 := by rw [h v hv]; exact hv
theorem Fm.un {f : Nat → Nat} {v x : Nat} (h : f v = 0) : Fm f (un f v x) := fun u hu => un_o (fun z => hu (by rw [z]; exact h))
/-- the search's invariant -/
def AI (S : Mem) (G : Nat → Nat) (P : Nat → Prop) (cur k : Nat) (f q : Nat → Nat) (h t : Nat) : Prop :=
  h ≤ t ∧ 108 ≤ h + cz f 108 ∧ t ≤ 108 + cz f 108 ∧ t + k = h + cz f 108 ∧
  (∀ i, h ≤ i → i < t → q i < 108 ∧ cur + 1 ≤ f (q i) ∧ f (q i) ≤ cur + 2) ∧
  (∀ i j, h ≤ i → i ≤ j → j < t → f (q i) ≤ f (q j)) ∧
  (∀ v, v < 108 → f v ≤ cur + 1 + wS S v) ∧
  (∀ v, v < 108 → f v ≠ 0 → G v + 1 ≤ f v) ∧
  (∀ u, u < 108 → f u ≠ 0 → P u ∨ ∃ i, h ≤ i ∧ i < t ∧ q i = u)
section Shut
variable {n fu cur k : Nat} {M S : Mem} {f q : Nat → Nat} {h t : Nat} {G : Nat → Nat} {P : Nat → Prop}
theorem lead_s (hn : n + 20 ≤ 41) (hN : SN n) (R : CR n M S) (L : SL M f q h t) (A : AI S G P cur k f q h t) (hc : cur ≤ 108) {v : Nat} (hv : v < 108) (hg : G v ≤ cur + wS S v) : ∃ M1 f1 q1 h1 t1, m_X4_lead fu M 41 (n + 1) (nI v) (nI cur) = some M1 ∧ SL M1 f1 q1 h1 t1 ∧ AI S G P cur k f1 q1 h1 t1 ∧ Fm f f1 ∧ f1 v ≠ 0 ∧ Ws M M1 := by
  obtain ⟨a1, a2, a3, a4, a5, a6, a7, a8, a9⟩ := A
  have hl := L.2.2.1 v hv
  have hw : wS S v ≤ 1 := by unfold wS; by_cases e : S 0 v = 0 <;> simp [e]
  have hb := a7 v hv
  unfold m_X4_lead
  rw [al42, chk_t (inb_nI hv (by decide)), nI_clamp (n := v) (by omega), hl]
  by_cases h0 : f v = 0
  · have hcz := cz_lt h0 hv
    have hfree : m_X3_isFree fu M (n + 1) (nI v) = some (bI (decide (S 0 v = 0))) := isFree_s (o := some v) R hN (fun z hz => by cases hz; exact hv)
    rw [if_pos ((seen_i (by omega)).mpr h0), hfree, cb1_s]
    have hqv : ∀ i, h ≤ i → i < t → q i ≠ v := fun i i1 i2 e => by
      have := (a5 i i1 i2).2.1
      rw [e, h0] at this
      omega
    by_cases e : S 0 v = 0
    · have ew : wS S v = 1 := if_pos e
      rw [decide_eq_true e, if_neg (show ¬ bI true = 0 by decide), nI_1]
      obtain ⟨M1, e1, L1, w1⟩ := putLast_s (fu := fu) L (v := v) (k := cur + 1) hv (by omega)
      rw [e1, cb1_s]
      refine ⟨M1, _, _, _, _, rfl, L1, ?_, Fm.un h0, by rw [un_s]; omega, w1⟩
      have hcu := cz_un (x := cur + 1 + 1) h0 (by omega) 108 hv
      refine ⟨by omega, by omega, by omega, by omega, ?_, ?_, ?_, ?_, ?_⟩
      · intro i i1 i2
        by_cases ei : i = t
        · subst ei
          rw [un_s, un_s]
          exact ⟨hv, by omega, by omega⟩
        · rw [un_o ei, un_o (hqv i i1 (by omega))]
          exact a5 i i1 (by omega)
      · intro i j i1 i2 i3
        by_cases ej : j = t
        · subst ej
          rw [un_s, un_s]
          by_cases ei : i = j
          · subst ei
            rw [un_s, un_s]
            exact Nat.le_refl _
          · rw [un_o ei, un_o (hqv i i1 (by omega))]
            exact (a5 i i1 (by omega)).2.2
        · rw [un_o ej, un_o (hqv j (by omega) (by omega)), un_o (show i ≠ t by omega), un_o (hqv i i1 (by omega))]
          exact a6 i j i1 i2 (by omega)
      · intro u hu
        by_cases eu : u = v
        · subst eu
          rw [un_s]
          omega
        · rw [un_o eu]
          exact a7 u hu
      · intro u hu hne
        by_cases eu : u = v
        · subst eu
          rw [un_s]
          omega
        · rw [un_o eu] at hne ⊢
          exact a8 u hu hne
      · intro u hu hne
        by_cases eu : u = v
        · exact Or.inr ⟨t, a1, by omega, by rw [un_s, eu]⟩
        · rw [un_o eu] at hne
          rcases a9 u hu hne with z | ⟨i, i1, i2, i3⟩
          · exact Or.inl z
          · exact Or.inr ⟨i, i1, by omega, by rw [un_o (show i ≠ t by omega)]; exact i3⟩
    · have ew : wS S v = 0 := if_neg e
      obtain ⟨h', rfl⟩ : ∃ h', h = h' + 1 := ⟨h - 1, by omega⟩
      rw [decide_eq_false e, if_pos (show bI false = 0 by decide)]
      obtain ⟨M1, e1, L1, w1⟩ := putFirst_s (fu := fu) L (v := v) (k := cur) hv (by omega)
      rw [e1, cb1_s]
      refine ⟨M1, _, _, _, _, rfl, L1, ?_, Fm.un h0, by rw [un_s]; omega, w1⟩
      have hcu := cz_un (x := cur + 1) h0 (by omega) 108 hv
      refine ⟨by omega, by omega, by omega, by omega, ?_, ?_, ?_, ?_, ?_⟩
      · intro i i1 i2
        by_cases ei : i = h'
        · subst ei
          rw [un_s, un_s]
          exact ⟨hv, by omega, by omega⟩
        · rw [un_o ei, un_o (hqv i (by omega) (by omega))]
          exact a5 i (by omega) (by omega)
      · intro i j i1 i2 i3
        by_cases ei : i = h'
        · subst ei
          rw [un_s, un_s]
          by_cases ej : j = i
          · subst ej
            rw [un_s, un_s]
            exact Nat.le_refl _
          · rw [un_o ej, un_o (hqv j (by omega) (by omega))]
            exact (a5 j (by omega) (by omega)).2.1
        · rw [un_o ei, un_o (hqv i (by omega) (by omega)), un_o (show j ≠ h' by omega), un_o (hqv j (by omega) (by omega))]
          exact a6 i j (by omega) i2 (by omega)
      · intro u hu
        by_cases eu : u = v
        · subst eu
          rw [un_s]
          omega
        · rw [un_o eu]
          exact a7 u hu
      · intro u hu hne
        by_cases eu : u = v
        · subst eu
          rw [un_s]
          omega
        · rw [un_o eu] at hne ⊢
          exact a8 u hu hne
      · intro u hu hne
        by_cases eu : u = v
        · exact Or.inr ⟨h', Nat.le_refl _, by omega, by rw [un_s, eu]⟩
        · rw [un_o eu] at hne
          rcases a9 u hu hne with z | ⟨i, i1, i2, i3⟩
          · exact Or.inl z
          · exact Or.inr ⟨i, by omega, i2, by rw [un_o (show i ≠ h' by omega)]; exact i3⟩
  · rw [if_neg (fun z => h0 ((seen_i (by omega)).mp z))]
    exact ⟨M, f, q, h, t, rfl, L, ⟨a1, a2, a3, a4, a5, a6, a7, a8, a9⟩, Fm.rf, h0, Ws.rf⟩
theorem far_s (L : SL M f q h t) {u : Nat} (hu : u < 108) (hf : f u = cur + 1) : M 42 u = nI cur := by
  rw [L.2.2.1 u hu, hf, nI_succ]
  exact Int32.add_sub_cancel _ _
/-- a row of three beside a cell -/
theorem lead_L46 (hn : n + 20 ≤ 41) (hN : SN n) (hc : cur ≤ 108) {u : Nat} (hu : u < 108) {y : Nat} (hy : y < 9) (hy1 : u / 12 ≤ y + 1) (hy2 : y ≤ u / 12 + 1) (y4 : Int32) (hg : ∀ v, v < 108 → adj u v → G v ≤ cur + wS S v) : ∀ (d z g : Nat) (M : Mem) (f q : Nat → Nat) (h t : Nat), CR n M S → SL M f q h t → AI S G P cur k f q h t → f u = cur + 1 → u % 12 ≤ z + 1 → u % 12 + 2 - z = d → z < 20 → d < g → ∃ M1 f1 q1 h1 t1, m_X4_leadAround_L46 fu 41 (n + 1) (nI u) (nI (u % 12)) y4 (nI y) g M (nI z) = some M1 ∧ SL M1 f1 q1 h1 t1 ∧ AI S G P cur k f1 q1 h1 t1 ∧ Fm f f1 ∧ Ws M M1 ∧ ∀ x, z ≤ x → x ≤ u % 12 + 1 → x < 12 → f1 (12 * y + x) ≠ 0 := by
  intro d
  induction d with
  | zero =>
    intro z g M f q h t R L A hf hz hd hz2 hg2
    obtain ⟨g, rfl⟩ := f1 hg2
    rw [m_X4_leadAround_L46, nI_1, if_pos (nI_lt (by omega) (by omega))]
    exact ⟨M, f, q, h, t, rfl, L, A, Fm.rf, Ws.rf, fun x h1 h2 h3 => by omega⟩
  | succ d ih =>
    intro z g M f q h t R L A hf hz hd hz2 hg2
    obtain ⟨g, rfl⟩ := f1 hg2
    rw [m_X4_leadAround_L46, nI_1, if_neg (nI_nlt (by omega) (by omega))]
    by_cases h12 : 12 ≤ z
    · rw [if_pos (show (12 : Int32) ≤ nI z from nI_le (a := 12) h12 (by omega))]
      exact ⟨M, f, q, h, t, rfl, L, A, Fm.rf, Ws.rf, fun x h1 h2 h3 => by omega⟩
    · have hv : 12 * y + z < 108 := by omega
      have ha : adj u (12 * y + z) := by unfold adj; omega
      obtain ⟨M1, f1, q1, h1, t1, e1, L1, A1, m1, n1, w1⟩ := lead_s (fu := fu) hn hN R L A hc hv (hg _ hv ha)
      rw [if_neg (show ¬ (12 : Int32) ≤ nI z from nI_ge (b := 12) (by omega) (by omega)), al42, chk_t (inb_nI hu (by decide)), nI_clamp (n := u) (by omega), show (12 : Int32) * nI y = nI (12 * y) from pk_mul 12 y, nI_add, show M (41 + 1) u = nI cur from far_s L hu hf, e1, cb1_s, mlet_s, nI_1]
      obtain ⟨M2, f2, q2, h2, t2, e2, L2, A2, m2, w2, n2⟩ := ih (z + 1) g M1 f1 q1 h1 t1 (R.ws hn w1) L1 A1 (by rw [m1 u (by omega)]; exact hf) (by omega) (by omega) (by omega) (by omega)
      refine ⟨M2, f2, q2, h2, t2, e2, L2, A2, m1.tr m2, w1.tr w2, fun x x1 x2 x3 => ?_⟩
      by_cases ex : x = z
      · subst ex
        exact m2.ne n1
      · exact n2 x (by omega) x2 x3
theorem lead_L21 (hn : n + 20 ≤ 41) (hN : SN n) (hf2 : 30 < fu) (hc : cur ≤ 108) {u : Nat} (hu : u < 108) (hg : ∀ v, v < 108 → adj u v → G v ≤ cur + wS S v) : ∀ (d y g : Nat) (M : Mem) (f q : Nat → Nat) (h t : Nat), CR n M S → SL M f q h t → AI S G P cur k f q h t → f u = cur + 1 → u / 12 ≤ y + 1 → u / 12 + 2 - y = d → y < 20 → d < g → ∃ M1 f1 q1 h1 t1, m_X4_leadAround_L21 fu 41 (n + 1) (nI u) (nI (u % 12)) (nI (u / 12)) g M (nI y) = some M1 ∧ SL M1 f1 q1 h1 t1 ∧ AI S G P cur k f1 q1 h1 t1 ∧ Fm f f1 ∧ Ws M M1 ∧ ∀ v, v < 108 → adj u v → y ≤ v / 12 → f1 v ≠ 0 := by
  intro d
  induction d with
  | zero =>
    intro y g M f q h t R L A hf hz hd hz2 hg2
    obtain ⟨g, rfl⟩ := f1 hg2
    rw [m_X4_leadAround_L21, nI_1, if_pos (nI_lt (by omega) (by omega))]
    exact ⟨M, f, q, h, t, rfl, L, A, Fm.rf, Ws.rf, fun v h1 h2 h3 => by unfold adj at h2; omega⟩
  | succ d ih =>
    intro y g M f q h t R L A hf hz hd hz2 hg2
    obtain ⟨g, rfl⟩ := f1 hg2
    rw [m_X4_leadAround_L21, nI_1, if_neg (nI_nlt (by omega) (by omega))]
    by_cases h9 : 9 ≤ y
    · rw [if_pos (show (9 : Int32) ≤ nI y from nI_le (a := 9) h9 (by omega))]
      exact ⟨M, f, q, h, t, rfl, L, A, Fm.rf, Ws.rf, fun v h1 h2 h3 => by omega⟩
    · have hx0 : mmax (nI (u % 12) - 1) 0 = nI (u % 12 - 1) := (by decide : ∀ a < 12, mmax (nI a - 1) 0 = nI (a - 1)) (u % 12) (by omega)
      obtain ⟨M1, f1, q1, h1, t1, e1, L1, A1, m1, w1, n1⟩ := lead_L46 (fu := fu) (P := P) (k := k) hn hN hc hu (y := y) (by omega) (by omega) (by omega) (nI (u / 12)) hg (u % 12 + 2 - (u % 12 - 1)) (u % 12 - 1) fu M f q h t R L A hf (by omega) rfl (by omega) (by omega)
      rw [if_neg (show ¬ (9 : Int32) ≤ nI y from nI_ge (b := 9) (by omega) (by omega)), mlet_s, mlet_s, hx0, e1, cb1_s, mlet_s, nI_1]
      obtain ⟨M2, f2, q2, h2, t2, e2, L2, A2, m2, w2, n2⟩ := ih (y + 1) g M1 f1 q1 h1 t1 (R.ws hn w1) L1 A1 (by rw [m1 u (by omega)]; exact hf) (by omega) (by omega) (by omega) (by omega)
      refine ⟨M2, f2, q2, h2, t2, e2, L2, A2, m1.tr m2, w1.tr w2, fun v v1 v2 v3 => ?_⟩
      by_cases ey : v / 12 = y
      · have := n1 (v % 12) (by unfold adj at v2; omega) (by unfold adj at v2; omega) (by omega)
        rw [show 12 * y + v % 12 = v by omega] at this
        exact m2.ne this
      · exact n2 v v1 v2 (by omega)
theorem around_s (hn : n + 20 ≤ 41) (hN : SN n) (hf2 : 30 < fu) (hc : cur ≤ 108) {u : Nat} (hu : u < 108) (hg : ∀ v, v < 108 → adj u v → G v ≤ cur + wS S v) (R : CR n M S) (L : SL M f q h t) (A : AI S G P cur k f q h t) (hf : f u = cur + 1) : ∃ M1 f1 q1 h1 t1, m_X4_leadAround fu M 41 (n + 1) (nI u) = some M1 ∧ SL M1 f1 q1 h1 t1 ∧ AI S G P cur k f1 q1 h1 t1 ∧ Fm f f1 ∧ Ws M M1 ∧ ∀ v, v < 108 → adj u v → f1 v ≠ 0 := by
  have hy0 : mmax (nI (u / 12) - 1) 0 = nI (u / 12 - 1) := (by decide : ∀ a < 12, mmax (nI a - 1) 0 = nI (a - 1)) (u / 12) (by omega)
  obtain ⟨M1, f1, q1, h1, t1, e1, L1, A1, m1, w1, n1⟩ := lead_L21 (fu := fu) (P := P) (k := k) hn hN hf2 hc hu hg (u / 12 + 2 - (u / 12 - 1)) (u / 12 - 1) fu M f q h t R L A hf (by omega) rfl (by omega) (by omega)
  refine ⟨M1, f1, q1, h1, t1, ?_, L1, A1, m1, w1, fun v v1 v2 => n1 v v1 v2 (by unfold adj at v2; omega)⟩
  rw [m_X4_leadAround, mlet_s, mlet_s, mlet_s, mlet_s, r12 hu, d12 hu, hy0, e1, cb1_s]
end Shut

/-! ===== how few shut the quarter: the class's answer ===== -/
def PF (S : Mem) (P : Nat → Prop) (f : Nat → Nat) : Prop := ∀ u, P u → f u ≠ 0 ∧ ∀ v, v < 108 → adj u v → f v ≠ 0 ∧ f v ≤ f u + wS S v
def TP (S : Mem) (f : Nat → Nat) : Prop := ∀ v, v < 12 → f v ≠ 0 ∧ f v ≤ 1 + wS S v
def FinS (S : Mem) (G f : Nat → Nat) : Prop := (∀ u, u < 108 → f u ≠ 0 → ∀ v, v < 108 → adj u v → f v ≠ 0 ∧ f v ≤ f u + wS S v) ∧ TP S f ∧ ∀ v, v < 108 → f v ≠ 0 → G v + 1 ≤ f v ∧ f v ≤ 111
def minL (F : Nat → Nat) : Nat → Nat → Nat → Nat
  | _, 0, a => a
  | i, d + 1, a => minL F (i + 1) d (min a (F i))
theorem wS_le {S : Mem} {v : Nat} : wS S v ≤ 1 := by unfold wS; by_cases e : S 0 v = 0 <;> simp [e]
theorem PF.fm {S : Mem} {P : Nat → Prop} {f f1 : Nat → Nat} (h : PF S P f) (m : Fm f f1) : PF S P f1 := fun u hu => by
  obtain ⟨h1, h2⟩ := h u hu
  refine ⟨m.ne h1, fun v hv ha => ?_⟩
  obtain ⟨h3, h4⟩ := h2 v hv ha
  exact ⟨m.ne h3, by rw [m v h3, m u h1]; exact h4⟩
theorem TP.fm {S : Mem} {f f1 : Nat → Nat} (h : TP S f) (m : Fm f f1) : TP S f1 := fun v hv => by
  obtain ⟨h1, h2⟩ := h v hv
  exact ⟨m.ne h1, by rw [m v h1]; exact h2⟩
section ShutB
variable {n fu cur k : Nat} {M S : Mem} {f q : Nat → Nat} {h t : Nat} {G : Nat → Nat} {P : Nat → Prop}
theorem AI.fin (A : AI S G P cur k f q h t) (hth : t ≤ h) (hc : cur ≤ 108) (F : PF S P f) (T : TP S f) : FinS S G f := by
  obtain ⟨a1, a2, a3, a4, a5, a6, a7, a8, a9⟩ := A
  refine ⟨fun u hu hne v hv ha => ?_, T, fun v hv hne => ⟨a8 v hv hne, ?_⟩⟩
  · rcases a9 u hu hne with z | ⟨i, i1, i2, -⟩
    · exact (F u z).2 v hv ha
    · omega
  · have := a7 v hv
    have := wS_le (S := S) (v := v)
    omega
theorem AI.pop (A : AI S G P cur k f q h t) (hth : h < t) : q h < 108 ∧ ∃ c1, f (q h) = c1 + 1 ∧ c1 ≤ cur + 1 ∧ AI S G (fun v => P v ∨ v = q h) c1 (k + 1) f q (h + 1) t := by
  obtain ⟨a1, a2, a3, a4, a5, a6, a7, a8, a9⟩ := A
  obtain ⟨b1, b2, b3⟩ := a5 h (Nat.le_refl h) hth
  refine ⟨b1, f (q h) - 1, by omega, by omega, by omega, by omega, a3, by omega, fun i i1 i2 => ?_, fun i j i1 i2 i3 => a6 i j (by omega) i2 i3, fun v hv => ?_, a8, fun u hu hne => ?_⟩
  · have c1 := a6 h i (Nat.le_refl h) (by omega) i2
    have c2 := a5 i (by omega) i2
    exact ⟨c2.1, by omega, by omega⟩
  · have := a7 v hv
    omega
  · rcases a9 u hu hne with z | ⟨i, i1, i2, i3⟩
    · exact Or.inl (Or.inl z)
    · by_cases e : i = h
      · subst e
        exact Or.inl (Or.inr i3.symm)
      · exact Or.inr ⟨i, by omega, i2, i3⟩
theorem pops_L27 (hn : n + 20 ≤ 41) (hN : SN n) (hf2 : 30 < fu) (hG : Feas S G) : ∀ (d k g : Nat) (M : Mem) (f q : Nat → Nat) (h t cur : Nat) (P : Nat → Prop), k + d = 108 → d < g → cur ≤ k → CR n M S → SL M f q h t → AI S G P cur k f q h t → PF S P f → TP S f → ∃ M1 f1, m_X4_fewestToShut_L27 fu 41 (n + 1) g M (nI k) = some M1 ∧ (∀ v, v < 108 → M1 42 v = nI (f1 v) - 1) ∧ FinS S G f1 ∧ Ws M M1 := by
  intro d
  induction d with
  | zero =>
    intro k g M f q h t cur P hk hg hc R L A F T
    obtain ⟨g, rfl⟩ := f1 hg
    rw [m_X4_fewestToShut_L27, if_pos (show (108 : Int32) ≤ nI k from nI_le (a := 108) (by omega) (by omega))]
    have := cz_le f 108
    have a4 := A.2.2.2.1
    exact ⟨M, f, rfl, L.2.2.1, A.fin (by omega) (by omega) F T, Ws.rf⟩
  | succ d ih =>
    intro k g M f q h t cur P hk hg hc R L A F T
    obtain ⟨g, rfl⟩ := f1 hg
    have hcz := cz_le f 108
    have a2 := A.2.1
    have a3 := A.2.2.1
    have a4 := A.2.2.2.1
    rw [m_X4_fewestToShut_L27, if_neg (show ¬ (108 : Int32) ≤ nI k from nI_ge (b := 108) (by omega) (by omega)), L.1, L.2.1]
    by_cases hth : t ≤ h
    · rw [if_pos (nI_le hth (by omega))]
      exact ⟨M, f, rfl, L.2.2.1, A.fin hth (by omega) F T, Ws.rf⟩
    · obtain ⟨hu, c1, e1, hc1, A1⟩ := A.pop (by omega)
      have hl := L.2.2.2 h (Nat.le_refl h) (by omega)
      rw [if_neg (nI_ge (by omega) (by omega)), al43, chk_t (inb_nI (by omega) (by decide)), nI_clamp (n := h) (by omega), mlet_s, mlet_s, nI_1, show M (41 + 2) h = nI (q h) from hl]
      have L1 : SL (mst M 41 2 (nI (h + 1))) f q (h + 1) t := by
        refine ⟨mst_s _ _ _ _, ?_, fun v hv => ?_, fun i i1 i2 => ?_⟩
        · rw [mst_o (by omega)]; exact L.2.1
        · rw [mst_ne (by decide)]; exact L.2.2.1 v hv
        · rw [mst_ne (by decide)]; exact L.2.2.2 i (by omega) i2
      have w1 : Ws M (mst M 41 2 (nI (h + 1))) := Ws.wr (by omega)
      have hGu := (A1.2.2.2.2.2.2.2.1) (q h) hu (by omega)
      obtain ⟨M2, f2, q2, h2, t2, e2, L2, A2, m2, w2, n2⟩ := around_s (fu := fu) hn hN hf2 (by omega) hu (fun v hv ha => by
        have := hG.2 (q h) v hu hv ha
        omega) (R.ws hn w1) L1 A1 e1
      rw [e2, cb1_s, mlet_s, nI_1]
      have F2 : PF S (fun v => P v ∨ v = q h) f2 := by
        intro u hu2
        rcases hu2 with z | z
        · exact F.fm m2 u z
        · subst z
          have e3 : f2 (q h) = c1 + 1 := by rw [m2 _ (by omega)]; exact e1
          refine ⟨by omega, fun v hv ha => ⟨n2 v hv ha, ?_⟩⟩
          have := A2.2.2.2.2.2.2.1 v hv
          omega
      obtain ⟨M3, f3, e3, l3, F3, w3⟩ := ih (k + 1) g M2 f2 q2 h2 t2 c1 _ (by omega) (by omega) (by omega) ((R.ws hn w1).ws hn w2) L2 A2 F2 (T.fm m2)
      exact ⟨M3, f3, e3, l3, F3, (w1.tr w2).tr w3⟩
theorem tops_L6 (hn : n + 20 ≤ 41) (hN : SN n) (hG : Feas S G) : ∀ (d z g : Nat) (M : Mem) (f q : Nat → Nat) (h t : Nat), z + d = 12 → d < g → CR n M S → SL M f q h t → AI S G P 0 k f q h t → ∃ M1 f1 q1 h1 t1, m_X4_fewestToShut_L6 fu 41 (n + 1) g M (nI z) = some M1 ∧ SL M1 f1 q1 h1 t1 ∧ AI S G P 0 k f1 q1 h1 t1 ∧ Fm f f1 ∧ Ws M M1 ∧ ∀ x, z ≤ x → x < 12 → f1 x ≠ 0 := by
  intro d
  induction d with
  | zero =>
    intro z g M f q h t hz hg R L A
    obtain ⟨g, rfl⟩ := f1 hg
    rw [m_X4_fewestToShut_L6, if_pos (show (12 : Int32) ≤ nI z from nI_le (a := 12) (by omega) (by omega))]
    exact ⟨M, f, q, h, t, rfl, L, A, Fm.rf, Ws.rf, fun x h1 h2 => by omega⟩
  | succ d ih =>
    intro z g M f q h t hz hg R L A
    obtain ⟨g, rfl⟩ := f1 hg
    obtain ⟨M1, f1, q1, h1, t1, e1, L1, A1, m1, n1, w1⟩ := lead_s (fu := fu) hn hN R L A (by omega) (v := z) (by omega) (by have := hG.1 z (by omega); omega)
    rw [nI_0] at e1
    rw [m_X4_fewestToShut_L6, if_neg (show ¬ (12 : Int32) ≤ nI z from nI_ge (b := 12) (by omega) (by omega)), e1, cb1_s, mlet_s, nI_1]
    obtain ⟨M2, f2, q2, h2, t2, e2, L2, A2, m2, w2, n2⟩ := ih (z + 1) g M1 f1 q1 h1 t1 (by omega) (by omega) (R.ws hn w1) L1 A1
    refine ⟨M2, f2, q2, h2, t2, e2, L2, A2, m1.tr m2, w1.tr w2, fun x x1 x2 => ?_⟩
    by_cases ex : x = z
    · subst ex
      exact m2.ne n1
    · exact n2 x (by omega) x2
theorem least_L82 {F : Nat → Nat} (hF : ∀ v, v < 108 → M 42 v = nI (F v) ∧ F v < 2 ^ 30) : ∀ (d i g a : Nat), i + d = 108 → d < g → a < 2 ^ 30 → m_X4_fewestToShut_L82 fu M 41 g (nI a) (nI i) = some (nI (minL F i d a)) := by
  intro d
  induction d with
  | zero =>
    intro i g a hi hg ha
    obtain ⟨g, rfl⟩ := f1 hg
    rw [m_X4_fewestToShut_L82, if_pos (show (108 : Int32) ≤ nI i from nI_le (a := 108) (by omega) (by omega))]
    rfl
  | succ d ih =>
    intro i g a hi hg ha
    obtain ⟨g, rfl⟩ := f1 hg
    obtain ⟨h1, h2⟩ := hF i (by omega)
    rw [m_X4_fewestToShut_L82, if_neg (show ¬ (108 : Int32) ≤ nI i from nI_ge (b := 108) (by omega) (by omega)), al42, chk_t (inb_nI (by omega) (by decide)), nI_clamp (n := i) (by omega), mlet_s, show M (41 + 1) i = nI (F i) from h1, min_nI (by omega) (by omega), mlet_s, mlet_s, nI_1, ih (i + 1) g _ (by omega) (by omega) (by omega)]
    rfl
theorem FinS.all (F : FinS S G f) : ∀ r, r < 9 → ∀ v, v < 108 → v / 12 = r → f v ≠ 0 := by
  intro r
  induction r with
  | zero =>
    intro _ v hv hr
    exact (F.2.1 v (by omega)).1
  | succ r ih =>
    intro hr9 v hv hr
    have h1 := ih (by omega) (v - 12) (by omega) (by omega)
    exact (F.1 (v - 12) (by omega) h1 v hv (by unfold adj; omega)).1
theorem shut_s (hn : n + 20 ≤ 41) (hN : SN n) (hf2 : 120 < fu) (hG : Feas S G) (R : CR n M S) : ∃ M1 F, m_X4_fewestToShut fu M 41 (n + 1) = some (M1, nI (minL F 96 12 9)) ∧ Feas S F ∧ (∀ v, v < 108 → G v ≤ F v ∧ F v ≤ 110) ∧ Ws M M1 := by
  obtain ⟨M1, e1, L1, w1⟩ := start_s (fu := fu) (M := M) (by omega)
  have A1 : AI S G (fun _ => False) 0 0 (fun _ => 0) (fun _ => 0) 108 108 := by
    have := cz_0 108
    refine ⟨by omega, by omega, by omega, by omega, fun i i1 i2 => by omega, fun i j i1 i2 i3 => by omega, fun v hv => Nat.zero_le _, fun v hv hne => absurd rfl hne, fun v hv hne => absurd rfl hne⟩
  obtain ⟨M2, f2, q2, h2, t2, e2, L2, A2, m2, w2, n2⟩ := tops_L6 (fu := fu) hn hN hG 12 0 fu M1 _ _ _ _ (by omega) (by omega) (R.ws hn w1) L1 A1
  have T2 : TP S f2 := fun v hv => ⟨n2 v (Nat.zero_le v) hv, by have := A2.2.2.2.2.2.2.1 v (by omega); omega⟩
  obtain ⟨M3, f3, e3, l3, F3, w3⟩ := pops_L27 (fu := fu) hn hN (by omega) hG 108 0 fu M2 f2 q2 h2 t2 0 _ (by omega) (by omega) (by omega) ((R.ws hn w1).ws hn w2) L2 A2 (fun u hu => hu.elim) T2
  have hall : ∀ v, v < 108 → f3 v ≠ 0 := fun v hv => F3.all (v / 12) (by omega) v hv rfl
  have hF : ∀ v, v < 108 → M3 42 v = nI (f3 v - 1) ∧ f3 v - 1 < 2 ^ 30 := fun v hv => by
    have h1 := hall v hv
    have h3 := (F3.2.2 v hv h1).2
    obtain ⟨x, hx⟩ : ∃ x, f3 v = x + 1 := ⟨f3 v - 1, by omega⟩
    refine ⟨?_, by omega⟩
    rw [l3 v hv, hx, nI_pred]
    rfl
  have e4 := least_L82 (fu := fu) (F := fun v => f3 v - 1) hF 12 96 fu 9 (by omega) (by omega) (by omega)
  rw [nI_0] at e2 e3
  refine ⟨M3, fun v => f3 v - 1, ?_, ⟨fun v hv => ?_, fun u v hu hv ha => ?_⟩, fun v hv => ?_, (w1.tr w2).tr w3⟩
  · rw [m_X4_fewestToShut, e1, cb1_s, e2, cb1_s, e3, cb1_s, show (9 : Int32) = nI 9 from rfl, show (96 : Int32) = nI 96 from rfl, e4, cb1_s]
  · have := (F3.2.1 v hv).2
    show f3 v - 1 ≤ wS S v
    omega
  · have h1 := hall u hu
    have := (F3.1 u hu h1 v hv ha).2
    show f3 v - 1 ≤ f3 u - 1 + wS S v
    omega
  · have h1 := hall v hv
    have := F3.2.2 v hv h1
    show G v ≤ f3 v - 1 ∧ f3 v - 1 ≤ 110
    omega
end ShutB

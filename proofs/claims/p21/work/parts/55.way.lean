/-! ===== the fewest steps ===== -/
def pushA (S : Mem) (st : (Nat → Nat) × (Nat → Nat) × Nat) (u d : Nat) : (Nat → Nat) × (Nat → Nat) × Nat := match nb u d with
  | none => st
  | some v => if S 0 v = 0 then (if st.1 v = 0 then (un st.1 v (st.1 u + 1), un st.2.1 st.2.2 v, st.2.2 + 1) else st) else st
def dirsA (S : Mem) (st : (Nat → Nat) × (Nat → Nat) × Nat) (u : Nat) : Nat → Nat → (Nat → Nat) × (Nat → Nat) × Nat
  | _, 0 => st
  | i, d + 1 => dirsA S (pushA S st u i) u (i + 1) d
def bfsA (S : Mem) (st : (Nat → Nat) × (Nat → Nat) × Nat) : Nat → Nat → (Nat → Nat) × (Nat → Nat) × Nat
  | _, 0 => st
  | j, e + 1 => if st.2.2 ≤ j then st else bfsA S (dirsA S st (st.2.1 j) 0 4) (j + 1) e
def st0 (u : Nat) : (Nat → Nat) × (Nat → Nat) × Nat := (un (fun _ => 0) u 1, un (fun _ => 0) 0 u, 1)
def wayS (S : Mem) (u v : Nat) : Int32 := if S 0 u = 0 then (if S 0 v = 0 then nI ((bfsA S (st0 u) 0 108).1 v) - 1 else -1) else -1
def BI (st : (Nat → Nat) × (Nat → Nat) × Nat) : Prop := cz st.1 108 = st.2.2 ∧ (∀ i, i < st.2.2 → st.2.1 i < 108 ∧ st.1 (st.2.1 i) ≠ 0) ∧ ∀ v, st.1 v ≤ st.2.2
theorem BI.m {st : (Nat → Nat) × (Nat → Nat) × Nat} (B : BI st) : st.2.2 ≤ 108 := by
  have := cz_le st.1 108
  have := B.1
  omega
theorem BI.push {S : Mem} {st : (Nat → Nat) × (Nat → Nat) × Nat} (B : BI st) {u d : Nat} (hu : u < 108) : BI (pushA S st u d) ∧ st.2.2 ≤ (pushA S st u d).2.2 ∧ (∀ i, i < st.2.2 → (pushA S st u d).2.1 i = st.2.1 i) ∧ Fm st.1 (pushA S st u d).1 := by
  unfold pushA
  cases h : nb u d with
  | none => exact ⟨B, Nat.le_refl _, fun _ _ => rfl, Fm.rf⟩
  | some v =>
    have hv : v < 108 := nb_ok hu v h
    simp only
    by_cases h1 : S 0 v = 0
    · rw [if_pos h1]
      by_cases h2 : st.1 v = 0
      · rw [if_pos h2]
        obtain ⟨b1, b2, b3⟩ := B
        refine ⟨⟨?_, fun i hi => ?_, fun w => ?_⟩, Nat.le_succ _, fun i hi => un_o (by omega), Fm.un h2⟩
        · show cz (un st.1 v (st.1 u + 1)) 108 = st.2.2 + 1
          rw [cz_un h2 (by omega) 108 hv, b1]
        · show un st.2.1 st.2.2 v i < 108 ∧ un st.1 v (st.1 u + 1) (un st.2.1 st.2.2 v i) ≠ 0
          have hi : i < st.2.2 + 1 := hi
          by_cases e : i = st.2.2
          · subst e
            rw [un_s, un_s]
            exact ⟨hv, by omega⟩
          · rw [un_o e]
            obtain ⟨c1, c2⟩ := b2 i (by omega)
            exact ⟨c1, (Fm.un h2).ne c2⟩
        · show un st.1 v (st.1 u + 1) w ≤ st.2.2 + 1
          by_cases e : w = v
          · subst e
            rw [un_s]
            have := b3 u
            omega
          · rw [un_o e]
            have := b3 w
            omega
      · rw [if_neg h2]
        exact ⟨B, Nat.le_refl _, fun _ _ => rfl, Fm.rf⟩
    · rw [if_neg h1]
      exact ⟨B, Nat.le_refl _, fun _ _ => rfl, Fm.rf⟩
theorem dirsA_s {S : Mem} {st : (Nat → Nat) × (Nat → Nat) × Nat} {u i d : Nat} : dirsA S st u i (d + 1) = dirsA S (pushA S st u i) u (i + 1) d := by rw [dirsA]
theorem dirsA_0 {S : Mem} {st : (Nat → Nat) × (Nat → Nat) × Nat} {u i : Nat} : dirsA S st u i 0 = st := by rw [dirsA]
theorem bfsA_s {S : Mem} {st : (Nat → Nat) × (Nat → Nat) × Nat} {j e : Nat} : bfsA S st j (e + 1) = if st.2.2 ≤ j then st else bfsA S (dirsA S st (st.2.1 j) 0 4) (j + 1) e := by rw [bfsA]
theorem bfsA_0 {S : Mem} {st : (Nat → Nat) × (Nat → Nat) × Nat} {j : Nat} : bfsA S st j 0 = st := by rw [bfsA]
theorem BI.dirs {S : Mem} {u : Nat} (hu : u < 108) : ∀ (d i : Nat) (st : (Nat → Nat) × (Nat → Nat) × Nat), BI st → BI (dirsA S st u i d) := by
  intro d
  induction d with
  | zero =>
    intro i st B
    rw [dirsA_0]
    exact B
  | succ d ih =>
    intro i st B
    rw [dirsA_s]
    exact ih (i + 1) _ (B.push hu).1
section WayC
variable {n fu : Nat} {M N S : Mem} {f q : Nat → Nat} {h t : Nat}
theorem SL.cq {q2 : Nat → Nat} (L : SL M f q h t) (e : ∀ i, h ≤ i → i < t → q i = q2 i) : SL M f q2 h t := ⟨L.1, L.2.1, L.2.2.1, fun i h1 h2 => by rw [← e i h1 h2]; exact L.2.2.2 i h1 h2⟩
/-- the class's search holds the state -/
def CL (M : Mem) (st : (Nat → Nat) × (Nat → Nat) × Nat) (j : Nat) : Prop := SL M st.1 (fun i => st.2.1 (i - 108)) (108 + j) (108 + st.2.2)
theorem steps_L73 (hn : n + 20 ≤ 41) (hN : SN n) (y3 y4 : Int32) {u : Nat} (hu : u < 108) {j : Nat} : ∀ (d i g : Nat) (M : Mem) (st : (Nat → Nat) × (Nat → Nat) × Nat), i + d = 4 → d < g → CR n M S → CL M st j → BI st → st.1 u ≠ 0 → ∃ M1, m_X4_fewestSteps_L73 fu 41 (n + 1) y3 y4 (nI u) g M (nI i) = some M1 ∧ CL M1 (dirsA S st u i d) j ∧ Ws M M1 := by
  intro d
  induction d with
  | zero =>
    intro i g M st hi hg R L B hf
    obtain ⟨g, rfl⟩ := f1 hg
    rw [m_X4_fewestSteps_L73, if_pos (show (4 : Int32) ≤ nI i from nI_le (a := 4) (by omega) (by omega))]
    rw [dirsA_0]
    exact ⟨M, rfl, L, Ws.rf⟩
  | succ d ih =>
    intro i g M st hi hg R L B hf
    obtain ⟨g, rfl⟩ := f1 hg
    have ho : okO (nb u i) := nb_ok hu
    obtain ⟨B1, m1, q1, fm1⟩ := B.push (S := S) (d := i) hu
    have hm := B.m
    rw [m_X4_fewestSteps_L73, if_neg (show ¬ (4 : Int32) ≤ nI i from nI_ge (b := 4) (by omega) (by omega)), next_s fu M hu (by omega), cb1_s, isFree_s R hN ho, cb1_s, nI_1]
    rw [dirsA_s]
    have hf1 : (pushA S st u i).1 u ≠ 0 := fm1.ne hf
    have same : pushA S st u i = st → ∃ M1, m_X4_fewestSteps_L73 fu 41 (n + 1) y3 y4 (nI u) g M (nI (i + 1)) = some M1 ∧ CL M1 (dirsA S (pushA S st u i) u (i + 1) d) j ∧ Ws M M1 := fun e => by
      rw [e]
      exact ih (i + 1) g M st (by omega) (by omega) R L B hf
    cases hnb : nb u i with
    | none =>
      rw [decide_eq_false (show ¬ cellv S none = 0 from by show ¬ (-1 : Int32) = 0; decide), if_pos (show bI false = 0 by decide), mlet_s]
      exact same (by unfold pushA; rw [hnb])
    | some v =>
      have hv : v < 108 := ho v hnb
      by_cases h1 : S 0 v = 0
      · rw [decide_eq_true (show cellv S (some v) = 0 from h1), if_neg (show ¬ bI true = 0 by decide)]
        show ∃ M1, chk (inb (nI v) (alen (41 + 1))) _ = some M1 ∧ _
        have hfv := B.2.2 v
        have e42 : M (41 + 1) v = nI (st.1 v) - 1 := L.2.2.1 v hv
        rw [al42, chk_t (inb_nI hv (by decide)), show (oI (some v)).toNatClampNeg = v from nI_clamp (by omega), e42]
        by_cases h2 : st.1 v = 0
        · have hcz := cz_lt h2 hv
          have hlt : st.2.2 < 108 := by have := B.1; omega
          have e43 : M (41 + 1) u = nI (st.1 u) - 1 := L.2.2.1 u hu
          rw [if_pos ((seen_i (by omega)).mpr h2), chk_t (inb_nI hu (by decide)), nI_clamp (n := u) (by omega), e43, Int32.sub_add_cancel]
          obtain ⟨M1, e1, L1, w1⟩ := putLast_s (fu := fu) L (v := v) (k := st.1 u) hv (by omega)
          rw [show oI (some v) = nI v from rfl, e1, cb1_s, mlet_s]
          have ep : pushA S st u i = (un st.1 v (st.1 u + 1), un st.2.1 st.2.2 v, st.2.2 + 1) := by
            unfold pushA
            rw [hnb]
            simp only [if_pos h1, if_pos h2]
          have L2 : CL M1 (pushA S st u i) j := by
            rw [ep]
            refine SL.cq L1 (fun z z1 z2 => ?_)
            show un (fun i => st.2.1 (i - 108)) (108 + st.2.2) v z = un st.2.1 st.2.2 v (z - 108)
            by_cases ez : z = 108 + st.2.2
            · subst ez
              rw [un_s, show 108 + st.2.2 - 108 = st.2.2 by omega, un_s]
            · rw [un_o ez, un_o (show z - 108 ≠ st.2.2 by omega)]
          obtain ⟨M2, e2, L3, w2⟩ := ih (i + 1) g M1 (pushA S st u i) (by omega) (by omega) (R.ws hn w1) L2 B1 hf1
          exact ⟨M2, e2, L3, w1.tr w2⟩
        · rw [if_neg (fun z => h2 ((seen_i (by omega)).mp z)), mlet_s]
          exact same (by unfold pushA; rw [hnb]; simp only [if_pos h1, if_neg h2])
      · rw [decide_eq_false (show ¬ cellv S (some v) = 0 from h1), if_pos (show bI false = 0 by decide), mlet_s]
        exact same (by unfold pushA; rw [hnb]; simp only [if_neg h1])
theorem steps_L31 (hn : n + 20 ≤ 41) (hN : SN n) (hf2 : 30 < fu) (y3 : Int32) : ∀ (e j g : Nat) (M : Mem) (st : (Nat → Nat) × (Nat → Nat) × Nat), j + e = 108 → e < g → CR n M S → CL M st j → BI st → ∃ M1 f1, m_X4_fewestSteps_L31 fu 41 (n + 1) y3 g M (nI j) = some M1 ∧ f1 = (bfsA S st j e).1 ∧ (∀ v, v < 108 → M1 42 v = nI (f1 v) - 1) ∧ Ws M M1 := by
  intro e
  induction e with
  | zero =>
    intro j g M st hj hg R L B
    obtain ⟨g, rfl⟩ := f1 hg
    rw [m_X4_fewestSteps_L31, if_pos (show (108 : Int32) ≤ nI j from nI_le (a := 108) (by omega) (by omega))]
    rw [bfsA_0]
    exact ⟨M, _, rfl, rfl, L.2.2.1, Ws.rf⟩
  | succ e ih =>
    intro j g M st hj hg R L B
    obtain ⟨g, rfl⟩ := f1 hg
    have hm := B.m
    rw [m_X4_fewestSteps_L31, if_neg (show ¬ (108 : Int32) ≤ nI j from nI_ge (b := 108) (by omega) (by omega)), L.1, L.2.1]
    rw [bfsA_s]
    by_cases h : st.2.2 ≤ j
    · rw [if_pos (nI_le (by omega) (by omega)), if_pos h]
      exact ⟨M, _, rfl, rfl, L.2.2.1, Ws.rf⟩
    · obtain ⟨hu, hne⟩ := B.2.1 j (by omega)
      have hl := L.2.2.2 (108 + j) (Nat.le_refl _) (by omega)
      have hl : M 43 (108 + j) = nI (st.2.1 j) := by
        have h9 : M 43 (108 + j) = nI (st.2.1 (108 + j - 108)) := hl
        rw [show 108 + j - 108 = j by omega] at h9
        exact h9
      rw [if_neg (nI_ge (by omega) (by omega)), if_neg h, al43, chk_t (inb_nI (by omega) (by decide)), nI_clamp (n := 108 + j) (by omega), mlet_s, mlet_s, nI_1, show M (41 + 2) (108 + j) = nI (st.2.1 j) from hl]
      have L1 : CL (mst M 41 2 (nI (108 + j + 1))) st (j + 1) := by
        refine ⟨mst_s _ _ _ _, ?_, fun v hv => ?_, fun i i1 i2 => ?_⟩
        · rw [mst_o (by omega)]; exact L.2.1
        · rw [mst_ne (by decide)]; exact L.2.2.1 v hv
        · rw [mst_ne (by decide)]; exact L.2.2.2 i (by omega) i2
      have w1 : Ws M (mst M 41 2 (nI (108 + j + 1))) := Ws.wr (by omega)
      obtain ⟨M2, e2, L2, w2⟩ := steps_L73 (fu := fu) hn hN y3 (nI j) hu 4 0 fu _ st (by omega) (by omega) (R.ws hn w1) L1 B hne
      rw [nI_0] at e2
      rw [e2, cb1_s, mlet_s, nI_1]
      obtain ⟨M3, f3, e3, ef, l3, w3⟩ := ih (j + 1) g M2 _ (by omega) (by omega) ((R.ws hn w1).ws hn w2) L2 (BI.dirs hu 4 0 st B)
      exact ⟨M3, f3, e3, ef, l3, (w1.tr w2).tr w3⟩
theorem BI.ini {u : Nat} (hu : u < 108) : BI (st0 u) := by
  refine ⟨?_, fun i hi => ?_, fun v => ?_⟩
  · show cz (un (fun _ => 0) u 1) 108 = 1
    rw [cz_un rfl (by decide) 108 hu, cz_0]
  · have hi : i < 1 := hi
    have e : i = 0 := by omega
    subst e
    show un (fun _ => 0) 0 u 0 < 108 ∧ un (fun _ => 0) u 1 (un (fun _ => 0) 0 u 0) ≠ 0
    rw [un_s, un_s]
    exact ⟨hu, by decide⟩
  · show un (fun _ => 0) u 1 v ≤ 1
    by_cases e : v = u
    · subst e; rw [un_s]; exact Nat.le_refl 1
    · rw [un_o e]; exact Nat.zero_le 1
theorem way_s (hn : n + 20 ≤ 41) (hN : SN n) (hf : 120 < fu) (R : CR n M S) {u v : Nat} (hu : u < 108) (hv : v < 108) : ∃ M1, m_X4_fewestSteps fu M 41 (n + 1) (nI u) (nI v) = some (M1, wayS S u v) ∧ Ws M M1 := by
  have e1 : m_X3_isFree fu M (n + 1) (nI u) = some (bI (decide (S 0 u = 0))) := isFree_s (o := some u) R hN (fun z hz => by cases hz; exact hu)
  have e2 : m_X3_isFree fu M (n + 1) (nI v) = some (bI (decide (S 0 v = 0))) := isFree_s (o := some v) R hN (fun z hz => by cases hz; exact hv)
  unfold m_X4_fewestSteps wayS
  rw [e1, cb1_s, e2, cb1_s]
  by_cases h1 : S 0 u = 0
  · rw [decide_eq_true h1, if_neg (show ¬ bI true = 0 by decide), if_pos h1]
    by_cases h2 : S 0 v = 0
    · rw [decide_eq_true h2, if_neg (show ¬ bI true = 0 by decide), if_pos h2]
      obtain ⟨M1, e3, L1, w1⟩ := start_s (fu := fu) (M := M) (by omega)
      obtain ⟨M2, e4, L2, w2⟩ := putLast_s (fu := fu) L1 (v := u) (k := 0) hu (by omega)
      rw [nI_0] at e4
      have L3 : CL M2 (st0 u) 0 := by
        refine SL.cq L2 (fun i i1 i2 => ?_)
        have i2 : i < 108 + 1 := i2
        have e : i = 108 := by omega
        subst e
        rfl
      obtain ⟨M3, f3, e5, ef, l3, w3⟩ := steps_L31 (fu := fu) hn hN (by omega) (nI v) 108 0 fu M2 (st0 u) (by omega) (by omega) ((R.ws hn w1).ws hn w2) L3 (BI.ini hu)
      rw [nI_0] at e5
      refine ⟨M3, ?_, (w1.tr w2).tr w3⟩
      have e6 : M3 (41 + 1) v = nI (f3 v) - 1 := l3 v hv
      rw [e3, cb1_s, e4, cb1_s, e5, cb1_s, al42, chk_t (inb_nI hv (by decide)), nI_clamp (by omega), e6, ef]
    · rw [decide_eq_false h2, if_pos (show bI false = 0 by decide), if_neg h2]
      exact ⟨M, rfl, Ws.rf⟩
  · rw [decide_eq_false h1, if_pos (show bI false = 0 by decide), if_neg h1]
    exact ⟨M, rfl, Ws.rf⟩
/-! the reference's way -/
theorem rem4 : ∀ k < 432, nI k / 4 = nI (k / 4) ∧ nI k - nI k / 4 * 4 = nI (k % 4) := by
  intro k hk
  exact ⟨pk_div (a := k) (d := 4) (by omega) (by decide) (by decide), pk_rem (a := k) (d := 4) (by omega) (by decide) (by decide)⟩
end WayC

/-! ===== patrols move ===== -/
def Kp (S S1 : Mem) : Prop := S1 10 = S 10 ∧ S1 11 = S 11 ∧ S1 12 = S 12 ∧ S1 13 = S 13
theorem Kp.rf {S : Mem} : Kp S S := ⟨rfl, rfl, rfl, rfl⟩
theorem Kp.tr {S S1 S2 : Mem} (h : Kp S S1) (h2 : Kp S1 S2) : Kp S S2 := ⟨h2.1.trans h.1, h2.2.1.trans h.2.1, h2.2.2.1.trans h.2.2.1, h2.2.2.2.trans h.2.2.2⟩
theorem Kp.wr {S : Mem} {f i : Nat} {x : Int32} (h : f < 10) : Kp S (mst S f i x) := ⟨mst_ne (by omega), mst_ne (by omega), mst_ne (by omega), mst_ne (by omega)⟩
section KpS
variable {c p : Nat} {S : Mem}
theorem Kp.go {i : Nat} {to be : Option Nat} : Kp S (goS S c p i to be).1 := by
  unfold goS
  cases to with
  | none => exact Kp.rf
  | some t =>
    simp only
    by_cases h1 : S 0 t = -1
    · rw [if_pos h1]; exact Kp.rf
    rw [if_neg h1]
    by_cases h2 : S 0 t ≤ 0
    · rw [if_pos h2]; exact Kp.wr (by decide)
    rw [if_neg h2]
    by_cases h4 : S 2 i < 2 * S 0 t
    · rw [if_pos h4]; exact Kp.rf
    rw [if_neg h4]
    cases be with
    | none => exact Kp.rf
    | some u =>
      simp only
      by_cases h5 : S 0 u = -1
      · rw [if_pos h5]; exact Kp.rf
      rw [if_neg h5]
      by_cases h6 : 3 - S 0 t < S 0 u
      · rw [if_pos h6]; exact Kp.rf
      rw [if_neg h6]
      by_cases h7 : busy S c p (nI u) = true
      · rw [if_pos h7]; exact Kp.rf
      rw [if_neg h7]
      exact ((Kp.wr (by decide)).tr (Kp.wr (by decide))).tr (Kp.wr (by decide))
theorem Kp.raise {i : Nat} {to : Option Nat} : Kp S (raiseS S c p i to).1 := by
  unfold raiseS
  cases to with
  | none => exact Kp.rf
  | some t =>
    simp only
    by_cases h : S 2 i < 3
    · rw [if_pos h]; exact Kp.rf
    rw [if_neg h]
    by_cases h1 : S 0 t = -1
    · rw [if_pos h1]; exact Kp.rf
    rw [if_neg h1]
    by_cases h2 : S 0 t = 3
    · rw [if_pos h2]; exact Kp.rf
    rw [if_neg h2]
    by_cases h7 : busy S c p (nI t) = true
    · rw [if_pos h7]; exact Kp.rf
    rw [if_neg h7]
    exact Kp.wr (by decide)
theorem Kp.pull {to : Option Nat} : Kp S (pullS S to).1 := by
  unfold pullS
  cases to with
  | none => exact Kp.rf
  | some t =>
    simp only
    by_cases h : S 0 t ≤ 0
    · rw [if_pos h]; exact Kp.rf
    rw [if_neg h]
    exact Kp.wr (by decide)
theorem Kp.ord {i code : Nat} : Kp S (ordS S c p i code).1 := by
  unfold ordS
  by_cases h : code < 4
  · rw [if_pos h]; exact Kp.go
  rw [if_neg h]
  by_cases h : code < 8
  · rw [if_pos h]; exact Kp.raise
  rw [if_neg h]
  exact Kp.pull
theorem Kp.sh {i m : Nat} : Kp S (shS S i m) := by
  have e : ∀ f, f ≠ 6 → shS S i m f = S f := fun f hf => by
    funext b
    exact if_neg (fun z => hf z.1)
  exact ⟨e 10 (by decide), e 11 (by decide), e 12 (by decide), e 13 (by decide)⟩
theorem Kp.act {i : Nat} : Kp S (actS S c p i) := by
  unfold actS
  by_cases h : S 2 i = 0
  · rw [if_pos h]; exact Kp.rf
  rw [if_neg h]
  by_cases h4 : S 4 i = 0
  · rw [if_pos h4]; exact Kp.rf
  rw [if_neg h4]
  have k1 : Kp S (dropS S i) := (Kp.wr (by decide)).tr Kp.sh
  unfold missS
  by_cases hb : (ordS (dropS S i) c p i (S 6 (24 * i)).toNatClampNeg).2 = true
  · rw [if_pos hb]; exact k1.tr Kp.ord
  · rw [if_neg hb]; exact (k1.tr Kp.ord).tr (Kp.wr (by decide))
theorem Kp.actN : ∀ (d i : Nat) (S : Mem), Kp S (actN S c p i d) := by
  intro d
  induction d with
  | zero => intro i S; exact Kp.rf
  | succ d ih => intro i S; exact Kp.act.tr (ih (i + 1) _)
end KpS
theorem RD.keep {p : Nat} {S S1 : Mem} (D : RD p S) (h : Kp S S1) : RD p S1 := by
  intro i hi
  obtain ⟨w, ln, h1, h0, h2, h3⟩ := D i hi
  exact ⟨w, ln, h1, h0, by rw [h.2.2.2]; exact h2, by rw [h.2.2.1]; exact h3⟩
/-- the next direction of a round -/
def dirS (S : Mem) (i : Nat) : Nat := (S 13 i).toNatClampNeg / 4 ^ (S 8 i).toNatClampNeg % 4
def stepTo (S : Mem) (i : Nat) (o : Option Nat) : Mem := if cellv S o = 0 then mst S 7 i (oI o) else S
def turnS (S : Mem) (i : Nat) : Mem := mst S 8 i (if S 12 i ≤ S 8 i + 1 then 0 else S 8 i + 1)
def moveS (S : Mem) (i : Nat) : Mem := turnS (stepTo S i (nb (S 7 i).toNatClampNeg (dirS S i))) i
theorem sh_dir : ∀ q < 12, (((nI (2 * q) &&& 31).toBitVec.smod 32).toNat = 2 * q ∧ 2 ^ (2 * q) = 4 ^ q) := by decide +kernel
theorem dir_n {w q : Nat} (hw : w < 2 ^ 24) (hq : q < 12) : (nI w >>> ((2 * nI q) &&& 31)) &&& 3 = nI (w / 4 ^ q % 4) := by
  obtain ⟨e1, e2⟩ := sh_dir q hq
  rw [show (2 : Int32) * nI q = nI (2 * q) from pk_mul 2 q, pk_shrN (by omega) _ (2 * q) e1, e2]
  exact pk_andN (n := w / 4 ^ q) (by have := Nat.div_le_self w (4 ^ q); omega) (m := 3) 2 (by decide)
section Mv
variable {n k c p fu : Nat} {M N S : Mem}
/-- what is known of a patrol that is there -/
theorem pat_k (W : WF c p S) (D : RD p S) {i : Nat} (hi : i < p) : ∃ w ln q t, w < 2 ^ 24 ∧ S 13 i = nI w ∧ S 12 i = nI ln ∧ S 8 i = nI q ∧ q < ln ∧ ln ≤ 12 ∧ True ∧ S 7 i = nI t ∧ t < 108 ∧ dirS S i = w / 4 ^ q % 4 := by
  have h3 := W.p3
  obtain ⟨w, ln, h1, h12, h2, h4⟩ := D i hi
  obtain ⟨q, ln', g1, g2, g3, g4, g5, -⟩ := W.ne (i := i) (by omega)
  have hh := g5 hi
  have e : ln' = ln := (nI_eq (by omega) (by omega)).mp (g2.symm.trans h4)
  subst e
  obtain ⟨t, ht, et⟩ := W.po (i := i) (by omega)
  refine ⟨w, ln', q, t, h1, h2, h4, g1, hh, g4, True.intro, et, ht, ?_⟩
  unfold dirS
  rw [h2, g1, nI_clamp (by omega), nI_clamp (by omega)]
theorem dir_lt {i : Nat} : dirS S i < 4 := Nat.mod_lt _ (by decide)
theorem turn_le {q ln : Nat} (h : q < ln) (hl : ln ≤ 12) : (if nI ln ≤ nI q + 1 then (0 : Int32) else nI q + 1) = nI ((q + 1) % ln) := by
  rw [nI_1]
  by_cases e : q + 1 = ln
  · rw [if_pos (nI_le (by omega) (by omega)), e, Nat.mod_self]
    rfl
  · rw [if_neg (nI_ge (by omega) (by omega)), Nat.mod_eq_of_lt (by omega)]
theorem stepTo_f (S : Mem) (i : Nat) (o : Option Nat) {f : Nat} (hf : f ≠ 7) : stepTo S i o f = S f := by
  unfold stepTo
  by_cases h : cellv S o = 0
  · rw [if_pos h]; exact mst_ne hf
  · rw [if_neg h]
theorem WF.move (W : WF c p S) (D : RD p S) {i : Nat} (hi : i < p) : WF c p (moveS S i) := by
  have h3 := W.p3
  obtain ⟨w, ln, q, t, hw, e13, e12, e8, hq, hl, -, e7, ht, -⟩ := pat_k W D hi
  have ho : okO (nb (S 7 i).toNatClampNeg (dirS S i)) := nb_ok (by rw [e7, nI_clamp (by omega)]; exact ht)
  have W1 : WF c p (stepTo S i (nb (S 7 i).toNatClampNeg (dirS S i))) := by
    unfold stepTo
    cases h : nb (S 7 i).toNatClampNeg (dirS S i) with
    | none => rw [if_neg (show ¬ cellv S none = 0 from by show ¬ (-1 : Int32) = 0; decide)]; exact W
    | some u =>
      by_cases hc : cellv S (some u) = 0
      · rw [if_pos hc]; exact W.w7 ⟨u, ho u h, rfl⟩
      · rw [if_neg hc]; exact W
  unfold moveS turnS
  rw [stepTo_f S i _ (by decide), stepTo_f S i _ (by decide), e12, e8, turn_le hq hl]
  exact W1.w8 (q := (q + 1) % ln) (ln := ln) hi rfl (by rw [stepTo_f S i _ (by decide)]; exact e12) hl (Nat.mod_lt _ (by omega))
theorem Kp.move {i : Nat} : Kp S (moveS S i) := by
  unfold moveS turnS stepTo
  by_cases h : cellv S (nb (S 7 i).toNatClampNeg (dirS S i)) = 0
  · simp only [if_pos h]; exact (Kp.wr (by decide)).tr (Kp.wr (by decide))
  · simp only [if_neg h]; exact Kp.wr (by decide)
theorem isFree_s (R : CR n M S) (hN : SN n) {o : Option Nat} (ho : okO o) : m_X3_isFree fu M (n + 1) (oI o) = some (bI (decide (cellv S o = 0))) := by
  unfold m_X3_isFree
  rw [at_s R hN ho, cb1_s]
  by_cases h : cellv S o = 0
  · rw [if_pos h, decide_eq_true h]
    rfl
  · rw [if_neg h, decide_eq_false h]
    rfl
theorem moveOn_s (hI : LInj 14 (LC n)) (R : CR n M S) (W : WF c p S) (D : RD p S) (hN : SN n) {i : Nat} (hi : i < p) : ∃ M1, m_X2_moveOn fu M (ptl n i) (n + 1) = some M1 ∧ CR n M1 (moveS S i) ∧ Fr n M M1 := by
  have h3 := W.p3
  have hi3 : i < 3 := by omega
  obtain ⟨w, ln, q, t, hw, e13, e12, e8, hq, hl, -, e7, ht, ed⟩ := pat_k W D hi
  have ho : okO (nb (S 7 i).toNatClampNeg (dirS S i)) := nb_ok (by rw [e7, nI_clamp (by omega)]; exact ht)
  have e1 : m_X2_nextDirection fu M (ptl n i) = some (nI (dirS S i)) := by
    unfold m_X2_nextDirection
    rw [R.rd hi3, R.ne hi3, e13, e8, dir_n hw (by omega), ed]
  have e2 : m_X3_next fu M (S 7 i) (nI (dirS S i)) = some (oI (nb (S 7 i).toNatClampNeg (dirS S i))) := by
    rw [e7, nI_clamp (by omega)]
    exact next_s fu M ht dir_lt
  unfold m_X2_moveOn moveS turnS
  rw [e1, cb1_s, R.po hi3, e2, cb1_s, isFree_s R hN ho, cb1_s, stepTo_f S i _ (by decide), stepTo_f S i _ (by decide)]
  unfold stepTo
  by_cases h : cellv S (nb (S 7 i).toNatClampNeg (dirS S i)) = 0
  · rw [decide_eq_true h, if_neg (show ¬ bI true = 0 by decide), if_pos h, mlet_s]
    have R1 := R.wpo hI hi3 (oI (nb (S 7 i).toNatClampNeg (dirS S i)))
    have f1 : Fr n M (mst M (ptl n i) 0 (oI (nb (S 7 i).toNatClampNeg (dirS S i)))) := Fr.wr (ptl_in hi3)
    rw [R1.ln hi3, R1.ne hi3, mst_ne (show (12 : Nat) ≠ 7 by decide), mst_ne (show (8 : Nat) ≠ 7 by decide)]
    by_cases hh : S 12 i ≤ S 8 i + 1
    · rw [if_pos hh, if_pos hh, mlet_s]
      exact ⟨_, rfl, R1.wne hI hi3 _, f1.tr (Fr.wr (ptl_in hi3))⟩
    · rw [if_neg hh, if_neg hh, mlet_s]
      exact ⟨_, rfl, R1.wne hI hi3 _, f1.tr (Fr.wr (ptl_in hi3))⟩
  · rw [decide_eq_false h, if_pos (show bI false = 0 by decide), if_neg h, R.ln hi3, R.ne hi3]
    by_cases hh : S 12 i ≤ S 8 i + 1
    · rw [if_pos hh, if_pos hh, mlet_s]
      exact ⟨_, rfl, R.wne hI hi3 _, Fr.wr (ptl_in hi3)⟩
    · rw [if_neg hh, if_neg hh, mlet_s]
      exact ⟨_, rfl, R.wne hI hi3 _, Fr.wr (ptl_in hi3)⟩
end Mv

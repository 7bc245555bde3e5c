/-! ===== numbers stay as they should be ===== -/
section WFw
variable {c p : Nat} {S : Mem}
theorem WF.w0 (W : WF c p S) {j : Nat} {x : Int32} (hx : ∃ q, q < 5 ∧ x = cv q) : WF c p (mst S 0 j x) := by
  obtain ⟨h0, h1, h2, h3, h4, h5, h6, h7, h8, h9, h10, h11⟩ := W
  unfold WF
  simp only [mst_ne (show (1 : Nat) ≠ 0 by decide), mst_ne (show (2 : Nat) ≠ 0 by decide), mst_ne (show (3 : Nat) ≠ 0 by decide), mst_ne (show (4 : Nat) ≠ 0 by decide), mst_ne (show (6 : Nat) ≠ 0 by decide), mst_ne (show (7 : Nat) ≠ 0 by decide), mst_ne (show (8 : Nat) ≠ 0 by decide), mst_ne (show (10 : Nat) ≠ 0 by decide), mst_ne (show (11 : Nat) ≠ 0 by decide), mst_ne (show (12 : Nat) ≠ 0 by decide)]
  refine ⟨h0, h1, h2, h3, ?_, h5, h6, h7, h8, h9, h10, h11⟩
  intro i hi
  by_cases h : i = j
  · subst h
    rw [mst_s]
    exact hx
  · rw [mst_o (fun z => h z.2)]
    exact h4 i hi
theorem WF.w1 (W : WF c p S) {j : Nat} {x : Int32} (hx : ∃ q, q < 108 ∧ x = nI q) : WF c p (mst S 1 j x) := by
  obtain ⟨h0, h1, h2, h3, h4, h5, h6, h7, h8, h9, h10, h11⟩ := W
  unfold WF
  simp only [mst_ne (show (0 : Nat) ≠ 1 by decide), mst_ne (show (2 : Nat) ≠ 1 by decide), mst_ne (show (3 : Nat) ≠ 1 by decide), mst_ne (show (4 : Nat) ≠ 1 by decide), mst_ne (show (6 : Nat) ≠ 1 by decide), mst_ne (show (7 : Nat) ≠ 1 by decide), mst_ne (show (8 : Nat) ≠ 1 by decide), mst_ne (show (10 : Nat) ≠ 1 by decide), mst_ne (show (11 : Nat) ≠ 1 by decide), mst_ne (show (12 : Nat) ≠ 1 by decide)]
  refine ⟨h0, h1, h2, h3, h4, ?_, h6, h7, h8, h9, h10, h11⟩
  intro i hi
  by_cases h : i = j
  · subst h
    rw [mst_s]
    exact hx
  · rw [mst_o (fun z => h z.2)]
    exact h5 i hi
theorem WF.w2 (W : WF c p S) {j : Nat} {x : Int32} (hx : ∃ q, q < 10 ∧ x = nI q) : WF c p (mst S 2 j x) := by
  obtain ⟨h0, h1, h2, h3, h4, h5, h6, h7, h8, h9, h10, h11⟩ := W
  unfold WF
  simp only [mst_ne (show (0 : Nat) ≠ 2 by decide), mst_ne (show (1 : Nat) ≠ 2 by decide), mst_ne (show (3 : Nat) ≠ 2 by decide), mst_ne (show (4 : Nat) ≠ 2 by decide), mst_ne (show (6 : Nat) ≠ 2 by decide), mst_ne (show (7 : Nat) ≠ 2 by decide), mst_ne (show (8 : Nat) ≠ 2 by decide), mst_ne (show (10 : Nat) ≠ 2 by decide), mst_ne (show (11 : Nat) ≠ 2 by decide), mst_ne (show (12 : Nat) ≠ 2 by decide)]
  refine ⟨h0, h1, h2, h3, h4, h5, ?_, h7, h8, h9, h10, h11⟩
  intro i hi
  by_cases h : i = j
  · subst h
    rw [mst_s]
    exact hx
  · rw [mst_o (fun z => h z.2)]
    exact h6 i hi
theorem WF.w3 (W : WF c p S) {j : Nat} {x : Int32} (hx : ∃ q, q < 2 ∧ x = nI q) : WF c p (mst S 3 j x) := by
  obtain ⟨h0, h1, h2, h3, h4, h5, h6, h7, h8, h9, h10, h11⟩ := W
  unfold WF
  simp only [mst_ne (show (0 : Nat) ≠ 3 by decide), mst_ne (show (1 : Nat) ≠ 3 by decide), mst_ne (show (2 : Nat) ≠ 3 by decide), mst_ne (show (4 : Nat) ≠ 3 by decide), mst_ne (show (6 : Nat) ≠ 3 by decide), mst_ne (show (7 : Nat) ≠ 3 by decide), mst_ne (show (8 : Nat) ≠ 3 by decide), mst_ne (show (10 : Nat) ≠ 3 by decide), mst_ne (show (11 : Nat) ≠ 3 by decide), mst_ne (show (12 : Nat) ≠ 3 by decide)]
  refine ⟨h0, h1, h2, h3, h4, h5, h6, ?_, h8, h9, h10, h11⟩
  intro i hi
  by_cases h : i = j
  · subst h
    rw [mst_s]
    exact hx
  · rw [mst_o (fun z => h z.2)]
    exact h7 i hi
theorem WF.w4 (W : WF c p S) {j : Nat} {x : Int32} (hx : ∃ q, q < 25 ∧ x = nI q) : WF c p (mst S 4 j x) := by
  obtain ⟨h0, h1, h2, h3, h4, h5, h6, h7, h8, h9, h10, h11⟩ := W
  unfold WF
  simp only [mst_ne (show (0 : Nat) ≠ 4 by decide), mst_ne (show (1 : Nat) ≠ 4 by decide), mst_ne (show (2 : Nat) ≠ 4 by decide), mst_ne (show (3 : Nat) ≠ 4 by decide), mst_ne (show (6 : Nat) ≠ 4 by decide), mst_ne (show (7 : Nat) ≠ 4 by decide), mst_ne (show (8 : Nat) ≠ 4 by decide), mst_ne (show (10 : Nat) ≠ 4 by decide), mst_ne (show (11 : Nat) ≠ 4 by decide), mst_ne (show (12 : Nat) ≠ 4 by decide)]
  refine ⟨h0, h1, h2, h3, h4, h5, h6, h7, ?_, h9, h10, h11⟩
  intro i hi
  by_cases h : i = j
  · subst h
    rw [mst_s]
    exact hx
  · rw [mst_o (fun z => h z.2)]
    exact h8 i hi
theorem WF.w6 (W : WF c p S) {j : Nat} {x : Int32} (hx : ∃ q, q < 12 ∧ x = nI q) : WF c p (mst S 6 j x) := by
  obtain ⟨h0, h1, h2, h3, h4, h5, h6, h7, h8, h9, h10, h11⟩ := W
  unfold WF
  simp only [mst_ne (show (0 : Nat) ≠ 6 by decide), mst_ne (show (1 : Nat) ≠ 6 by decide), mst_ne (show (2 : Nat) ≠ 6 by decide), mst_ne (show (3 : Nat) ≠ 6 by decide), mst_ne (show (4 : Nat) ≠ 6 by decide), mst_ne (show (7 : Nat) ≠ 6 by decide), mst_ne (show (8 : Nat) ≠ 6 by decide), mst_ne (show (10 : Nat) ≠ 6 by decide), mst_ne (show (11 : Nat) ≠ 6 by decide), mst_ne (show (12 : Nat) ≠ 6 by decide)]
  refine ⟨h0, h1, h2, h3, h4, h5, h6, h7, h8, ?_, h10, h11⟩
  intro i hi
  by_cases h : i = j
  · subst h
    rw [mst_s]
    exact hx
  · rw [mst_o (fun z => h z.2)]
    exact h9 i hi
theorem WF.w7 (W : WF c p S) {j : Nat} {x : Int32} (hx : ∃ q, q < 108 ∧ x = nI q) : WF c p (mst S 7 j x) := by
  obtain ⟨h0, h1, h2, h3, h4, h5, h6, h7, h8, h9, h10, h11⟩ := W
  unfold WF
  simp only [mst_ne (show (0 : Nat) ≠ 7 by decide), mst_ne (show (1 : Nat) ≠ 7 by decide), mst_ne (show (2 : Nat) ≠ 7 by decide), mst_ne (show (3 : Nat) ≠ 7 by decide), mst_ne (show (4 : Nat) ≠ 7 by decide), mst_ne (show (6 : Nat) ≠ 7 by decide), mst_ne (show (8 : Nat) ≠ 7 by decide), mst_ne (show (10 : Nat) ≠ 7 by decide), mst_ne (show (11 : Nat) ≠ 7 by decide), mst_ne (show (12 : Nat) ≠ 7 by decide)]
  refine ⟨h0, h1, h2, h3, h4, h5, h6, h7, h8, h9, ?_, h11⟩
  intro i hi
  by_cases h : i = j
  · subst h
    rw [mst_s]
    exact hx
  · rw [mst_o (fun z => h z.2)]
    exact h10 i hi
theorem WF.w5 (W : WF c p S) {j : Nat} {x : Int32} : WF c p (mst S 5 j x) := by
  unfold WF
  simp only [mst_ne (show (0 : Nat) ≠ 5 by decide), mst_ne (show (1 : Nat) ≠ 5 by decide), mst_ne (show (2 : Nat) ≠ 5 by decide), mst_ne (show (3 : Nat) ≠ 5 by decide), mst_ne (show (4 : Nat) ≠ 5 by decide), mst_ne (show (6 : Nat) ≠ 5 by decide), mst_ne (show (7 : Nat) ≠ 5 by decide), mst_ne (show (8 : Nat) ≠ 5 by decide), mst_ne (show (10 : Nat) ≠ 5 by decide), mst_ne (show (11 : Nat) ≠ 5 by decide), mst_ne (show (12 : Nat) ≠ 5 by decide)]
  exact W
theorem WF.w9 (W : WF c p S) {j : Nat} {x : Int32} : WF c p (mst S 9 j x) := by
  unfold WF
  simp only [mst_ne (show (0 : Nat) ≠ 9 by decide), mst_ne (show (1 : Nat) ≠ 9 by decide), mst_ne (show (2 : Nat) ≠ 9 by decide), mst_ne (show (3 : Nat) ≠ 9 by decide), mst_ne (show (4 : Nat) ≠ 9 by decide), mst_ne (show (6 : Nat) ≠ 9 by decide), mst_ne (show (7 : Nat) ≠ 9 by decide), mst_ne (show (8 : Nat) ≠ 9 by decide), mst_ne (show (10 : Nat) ≠ 9 by decide), mst_ne (show (11 : Nat) ≠ 9 by decide), mst_ne (show (12 : Nat) ≠ 9 by decide)]
  exact W
theorem WF.w8 (W : WF c p S) {j q ln : Nat} {x : Int32} (hj : j < p) (hx : x = nI q) (hl : S 12 j = nI ln) (hln : ln ≤ 12) (hq : q < ln) : WF c p (mst S 8 j x) := by
  obtain ⟨h0, h1, h2, h3, h4, h5, h6, h7, h8, h9, h10, h11⟩ := W
  unfold WF
  simp only [mst_ne (show (0 : Nat) ≠ 8 by decide), mst_ne (show (1 : Nat) ≠ 8 by decide), mst_ne (show (2 : Nat) ≠ 8 by decide), mst_ne (show (3 : Nat) ≠ 8 by decide), mst_ne (show (4 : Nat) ≠ 8 by decide), mst_ne (show (6 : Nat) ≠ 8 by decide), mst_ne (show (7 : Nat) ≠ 8 by decide), mst_ne (show (10 : Nat) ≠ 8 by decide), mst_ne (show (11 : Nat) ≠ 8 by decide), mst_ne (show (12 : Nat) ≠ 8 by decide)]
  refine ⟨h0, h1, h2, h3, h4, h5, h6, h7, h8, h9, h10, ?_⟩
  intro i hi
  by_cases h : i = j
  · subst h
    rw [mst_s]
    exact ⟨q, ln, hx, hl, by omega, hln, fun _ => hq, fun z => by omega⟩
  · rw [mst_o (fun z => h z.2)]
    exact h11 i hi
end WFw
/-! ===== an order carried out ===== -/
def plN (S : Mem) (i : Nat) : Nat := (S 1 i).toNatClampNeg
def ordS (S : Mem) (c p i code : Nat) : Mem × Bool := if code < 4 then goS S c p i (nb (plN S i) (code % 4)) (nb2 (nb (plN S i) (code % 4)) (code % 4)) else if code < 8 then raiseS S c p i (nb (plN S i) (code % 4)) else pullS S (nb (plN S i) (code % 4))
def shS (S : Mem) (i m : Nat) : Mem := fun a b => if a = 6 ∧ 24 * i ≤ b ∧ b < 24 * i + m then S 6 (b + 1) else S a b
def dropS (S : Mem) (i : Nat) : Mem := shS (mst S 4 i (S 4 i - 1)) i ((S 4 i).toNatClampNeg - 1)
def missS (r : Mem × Bool) (i : Nat) : Mem := if r.2 = true then r.1 else mst r.1 5 i (r.1 5 i + 1)
def actS (S : Mem) (c p i : Nat) : Mem := if S 2 i = 0 then S else if S 4 i = 0 then S else missS (ordS (dropS S i) c p i (S 6 (24 * i)).toNatClampNeg) i
theorem sh2 : ∀ q < 12, nI q >>> ((2 : Int32) &&& 31) = nI (q / 4) := by decide +kernel
theorem an3 : ∀ q < 12, nI q &&& 3 = nI (q % 4) := by decide +kernel
theorem rm4 : ∀ q < 12, nI q - nI q / 4 * 4 = nI (q % 4) := by decide +kernel
theorem le7 : ∀ q < 12, (nI q ≤ 7 ↔ q < 8) := by decide +kernel
theorem le3 : ∀ q < 12, (nI q ≤ 3 ↔ q < 4) := by decide +kernel
theorem nb2_ok {o : Option Nat} {d : Nat} (h : okO o) : okO (nb2 o d) := by
  cases o with
  | none => intro q hq; cases hq
  | some q => exact nb_ok (h q rfl)
section WFo
variable {c p : Nat} {S : Mem}
theorem WF.go (W : WF c p S) {i : Nat} {to be : Option Nat} (ht : okO to) (hb : okO be) : WF c p (goS S c p i to be).1 := by
  unfold goS
  cases to with
  | none => exact W
  | some t =>
    have h0 := ht t rfl
    simp only
    by_cases h1 : S 0 t = -1
    · rw [if_pos h1]; exact W
    rw [if_neg h1]
    by_cases h2 : S 0 t ≤ 0
    · rw [if_pos h2]; exact W.w1 ⟨t, h0, rfl⟩
    rw [if_neg h2]
    by_cases h4 : S 2 i < 2 * S 0 t
    · rw [if_pos h4]; exact W
    rw [if_neg h4]
    cases be with
    | none => exact W
    | some u =>
      have hu := hb u rfl
      simp only
      by_cases h5 : S 0 u = -1
      · rw [if_pos h5]; exact W
      rw [if_neg h5]
      by_cases h6 : 3 - S 0 t < S 0 u
      · rw [if_pos h6]; exact W
      rw [if_neg h6]
      by_cases h7 : busy S c p (nI u) = true
      · rw [if_pos h7]; exact W
      rw [if_neg h7]
      obtain ⟨q, hq, eq⟩ := W.ce h0
      obtain ⟨r, hr, er⟩ := W.ce hu
      refine ((W.w0 ⟨1, by decide, by decide⟩).w0 ?_).w1 ⟨t, h0, rfl⟩
      rw [eq, cv_le hq] at h2
      rw [er, cv_h hr] at h5
      rw [eq, er] at h6
      rw [eq, er]
      have key : ∀ q < 5, ∀ r < 5, (q ≤ 1 ∨ r = 0 ∨ 3 - cv q < cv r) ∨ (q + r - 1 < 5 ∧ cv r + cv q = cv (q + r - 1)) := by decide +kernel
      obtain ⟨k1, k2⟩ := (key q hq r hr).resolve_left (fun z => z.elim h2 (fun z => z.elim h5 h6))
      exact ⟨q + r - 1, k1, k2⟩
theorem WF.raise (W : WF c p S) {i : Nat} {to : Option Nat} (ht : okO to) : WF c p (raiseS S c p i to).1 := by
  unfold raiseS
  cases to with
  | none => exact W
  | some t =>
    have h0 := ht t rfl
    simp only
    by_cases h : S 2 i < 3
    · rw [if_pos h]; exact W
    rw [if_neg h]
    by_cases h1 : S 0 t = -1
    · rw [if_pos h1]; exact W
    rw [if_neg h1]
    by_cases h2 : S 0 t = 3
    · rw [if_pos h2]; exact W
    rw [if_neg h2]
    by_cases h7 : busy S c p (nI t) = true
    · rw [if_pos h7]; exact W
    rw [if_neg h7]
    obtain ⟨q, hq, eq⟩ := W.ce h0
    rw [eq] at h2
    rw [cv_3 hq] at h2
    refine W.w0 ⟨q + 1, by omega, ?_⟩
    rw [eq]
    exact (by decide +kernel : ∀ q < 5, cv q + 1 = cv (q + 1)) q hq
theorem WF.pull (W : WF c p S) {to : Option Nat} (ht : okO to) : WF c p (pullS S to).1 := by
  unfold pullS
  cases to with
  | none => exact W
  | some t =>
    have h0 := ht t rfl
    simp only
    by_cases h : S 0 t ≤ 0
    · rw [if_pos h]; exact W
    rw [if_neg h]
    obtain ⟨q, hq, eq⟩ := W.ce h0
    rw [eq] at h
    rw [cv_le hq] at h
    refine W.w0 ⟨q - 1, by omega, ?_⟩
    rw [eq]
    exact (by decide +kernel : ∀ q < 5, ¬ q ≤ 1 → cv q - 1 = cv (q - 1)) q hq h
theorem WF.pn (W : WF c p S) {i : Nat} (hi : i < 6) : plN S i < 108 ∧ S 1 i = nI (plN S i) := by
  obtain ⟨q, hq, eq⟩ := W.pl hi
  unfold plN
  rw [eq, nI_clamp (by omega)]
  exact ⟨hq, rfl⟩
theorem WF.ord (W : WF c p S) {i code : Nat} (hi : i < 6) : WF c p (ordS S c p i code).1 := by
  have h1 := (W.pn hi).1
  unfold ordS
  by_cases h : code < 4
  · rw [if_pos h]; exact W.go (nb_ok h1) (nb2_ok (nb_ok h1))
  rw [if_neg h]
  by_cases h : code < 8
  · rw [if_pos h]; exact W.raise (nb_ok h1)
  rw [if_neg h]
  exact W.pull (nb_ok h1)
theorem WF.miss {r : Mem × Bool} (W : WF c p r.1) {i : Nat} : WF c p (missS r i) := by
  unfold missS
  by_cases h : r.2 = true
  · rw [if_pos h]; exact W
  · rw [if_neg h]; exact W.w5
theorem WF.sh (W : WF c p S) {i m : Nat} (hi : i < 6) (hm : m < 24) : WF c p (shS S i m) := by
  obtain ⟨h0, h1, h2, h3, h4, h5, h6, h7, h8, h9, h10, h11⟩ := W
  have e : ∀ f, f ≠ 6 → shS S i m f = S f := fun f hf => by
    funext b
    exact if_neg (fun z => hf z.1)
  unfold WF
  simp only [e 0 (by decide), e 1 (by decide), e 2 (by decide), e 3 (by decide), e 4 (by decide), e 7 (by decide), e 8 (by decide), e 10 (by decide), e 11 (by decide), e 12 (by decide)]
  refine ⟨h0, h1, h2, h3, h4, h5, h6, h7, h8, ?_, h10, h11⟩
  intro j hj
  by_cases h : 24 * i ≤ j ∧ j < 24 * i + m
  · rw [show shS S i m 6 j = S 6 (j + 1) from if_pos ⟨rfl, h⟩]
    exact h9 (j + 1) (by omega)
  · rw [show shS S i m 6 j = S 6 j from if_neg (fun z => h z.2)]
    exact h9 j hj
theorem WF.drop (W : WF c p S) {i : Nat} (hi : i < 6) (h4 : ¬ S 4 i = 0) : WF c p (dropS S i) ∧ ∃ q, q < 24 ∧ S 4 i - 1 = nI q ∧ S 4 i = nI (q + 1) ∧ (S 4 i).toNatClampNeg - 1 = q := by
  obtain ⟨q, hq, eq⟩ := W.oc hi
  have hq0 : q ≠ 0 := fun z => h4 (by rw [eq, z]; rfl)
  obtain ⟨r, rfl⟩ : ∃ r, q = r + 1 := ⟨q - 1, by omega⟩
  have e1 : S 4 i - 1 = nI r := by rw [eq, nI_pred]
  have e2 : (S 4 i).toNatClampNeg - 1 = r := by rw [eq, nI_clamp (by omega)]; rfl
  refine ⟨?_, r, by omega, e1, eq, e2⟩
  unfold dropS
  rw [e2]
  exact (W.w4 ⟨r, by omega, e1⟩).sh hi (by omega)
theorem WF.act (W : WF c p S) {i : Nat} (hi : i < 6) : WF c p (actS S c p i) := by
  unfold actS
  by_cases h : S 2 i = 0
  · rw [if_pos h]; exact W
  rw [if_neg h]
  by_cases h4 : S 4 i = 0
  · rw [if_pos h4]; exact W
  rw [if_neg h4]
  exact ((W.drop hi h4).1.ord hi).miss
end WFo

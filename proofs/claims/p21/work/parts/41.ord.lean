/-! ===== neighbours; what stands in a cell; the orders ===== -/
def nb (q d : Nat) : Option Nat := if d = 0 then (if q < 12 then none else some (q - 12)) else if d = 1 then (if q % 12 < 11 then some (q + 1) else none) else if d = 2 then (if q < 96 then some (q + 12) else none) else (if 0 < q % 12 then some (q - 1) else none)
def oI (o : Option Nat) : Int32 := match o with
  | none => -1
  | some q => nI q
def okO (o : Option Nat) : Prop := ∀ q, o = some q → q < 108
theorem nb_ok {q d : Nat} (h : q < 108) : okO (nb q d) := by
  intro r hr
  unfold nb at hr
  repeat' split at hr
  all_goals first | (obtain rfl := Option.some.inj hr; omega) | cases hr
theorem nb_ne {q d r : Nat} (hr : nb q d = some r) (h : q < 108) : r ≠ q := by
  unfold nb at hr
  repeat' split at hr
  all_goals first | (obtain rfl := Option.some.inj hr; omega) | cases hr
abbrev M00 : Mem := fun _ _ => 0
theorem next_dec : ∀ q < 108, ∀ d < 4, m_X3_next 0 M00 (nI q) (nI d) = some (oI (nb q d)) := by decide +kernel
theorem next_s (fu : Nat) (M : Mem) {q d : Nat} (hq : q < 108) (hd : d < 4) : m_X3_next fu M (nI q) (nI d) = some (oI (nb q d)) := next_dec q hq d hd
theorem next_n (fu : Nat) (M : Mem) (x : Int32) : m_X3_next fu M (-1) x = some (-1) := by
  unfold m_X3_next
  rw [if_pos (by decide)]
/-- the next but one, as the class and as the reference find it -/
def nb2 (o : Option Nat) (d : Nat) : Option Nat := match o with
  | none => none
  | some q => nb q d
theorem next_o (fu : Nat) (M : Mem) {o : Option Nat} {d : Nat} (ho : okO o) (hd : d < 4) : m_X3_next fu M (oI o) (nI d) = some (oI (nb2 o d)) := by
  cases o with
  | none => exact next_n fu M _
  | some q => exact next_s fu M (ho q rfl) hd
def cellv (S : Mem) (o : Option Nat) : Int32 := match o with
  | none => -1
  | some q => S 0 q
def putS (S : Mem) (o : Option Nat) (x : Int32) : Mem := match o with
  | none => S
  | some q => mst S 0 q x
theorem mst_comm {S : Mem} {a b a' b' : Nat} {x y : Int32} (h : ¬ (a = a' ∧ b = b')) : mst (mst S a b x) a' b' y = mst (mst S a' b' y) a b x := by
  funext u v
  simp only [mst]
  by_cases h1 : u = a ∧ v = b
  · by_cases h2 : u = a' ∧ v = b'
    · exact absurd ⟨h1.1.symm.trans h2.1, h1.2.symm.trans h2.2⟩ h
    · rw [if_neg h2, if_pos h1, if_pos h1]
  · by_cases h2 : u = a' ∧ v = b'
    · rw [if_pos h2, if_neg h1, if_pos h2]
    · rw [if_neg h2, if_neg h1, if_neg h1, if_neg h2]
/-- what changes at a night's cells alone, at a state's cells alone -/
def Fr (n : Nat) (M M1 : Mem) : Prop := ∀ a, (a < n ∨ n + 20 ≤ a) → M1 a = M a
theorem Fr.rf {n : Nat} {M : Mem} : Fr n M M := fun _ _ => rfl
theorem Fr.tr {n : Nat} {M M1 M2 : Mem} (h : Fr n M M1) (h2 : Fr n M1 M2) : Fr n M M2 := fun a ha => (h2 a ha).trans (h a ha)
theorem Fr.wr {n k j : Nat} {M : Mem} {x : Int32} (h : n ≤ k ∧ k < n + 20) : Fr n M (mst M k j x) := fun a ha => mst_ne (by omega)
section Ord
variable {n k c p fu : Nat} {M N S : Mem}
theorem CR.wce (hI : LInj 14 (LC n)) (R : CR n M S) {j : Nat} (h : j < 108) (x : Int32) : CR n (mst M (n + 1 + 1) j x) (mst S 0 j x) := CR.wr hI R (f := 0) (by decide) h x
theorem CR.wpl (hI : LInj 14 (LC n)) (R : CR n M S) {i : Nat} (h : i < 6) (x : Int32) : CR n (mst M (cwd n i) 0 x) (mst S 1 i x) := CR.wr hI R (f := 1) (by decide) h x
theorem CR.wpe (hI : LInj 14 (LC n)) (R : CR n M S) {i : Nat} (h : i < 6) (x : Int32) : CR n (mst M (cwd n i) 1 x) (mst S 2 i x) := CR.wr hI R (f := 2) (by decide) h x
theorem CR.wto (hI : LInj 14 (LC n)) (R : CR n M S) {i : Nat} (h : i < 6) (x : Int32) : CR n (mst M (cwd n i) 2 x) (mst S 3 i x) := CR.wr hI R (f := 3) (by decide) h x
theorem CR.woc (hI : LInj 14 (LC n)) (R : CR n M S) {i : Nat} (h : i < 6) (x : Int32) : CR n (mst M (cwd n i) 4 x) (mst S 4 i x) := CR.wr hI R (f := 4) (by decide) h x
theorem CR.wmi (hI : LInj 14 (LC n)) (R : CR n M S) {i : Nat} (h : i < 6) (x : Int32) : CR n (mst M (cwd n i) 5 x) (mst S 5 i x) := CR.wr hI R (f := 5) (by decide) h x
theorem CR.wpo (hI : LInj 14 (LC n)) (R : CR n M S) {i : Nat} (h : i < 3) (x : Int32) : CR n (mst M (ptl n i) 0 x) (mst S 7 i x) := CR.wr hI R (f := 7) (by decide) h x
theorem CR.wne (hI : LInj 14 (LC n)) (R : CR n M S) {i : Nat} (h : i < 3) (x : Int32) : CR n (mst M (ptl n i) 3 x) (mst S 8 i x) := CR.wr hI R (f := 8) (by decide) h x
theorem CR.wst (hI : LInj 14 (LC n)) (R : CR n M S) (x : Int32) : CR n (mst M n 5 x) (mst S 9 0 x) := CR.wr hI R (f := 9) (i := 0) (by decide) (by decide) x
theorem cwd_in {n i : Nat} (h : i < 6) : n ≤ cwd n i ∧ cwd n i < n + 20 := by unfold cwd; omega
theorem ptl_in {n i : Nat} (h : i < 3) : n ≤ ptl n i ∧ ptl n i < n + 20 := by unfold ptl; omega
theorem at_s (R : CR n M S) (hN : SN n) {o : Option Nat} (ho : okO o) : m_X3_at fu M (n + 1) (oI o) = some (cellv S o) := by
  cases o with
  | none =>
    unfold m_X3_at oI
    rw [if_pos (by decide)]
    rfl
  | some q =>
    have hq := ho q rfl
    show m_X3_at fu M (n + 1) (nI q) = some (S 0 q)
    unfold m_X3_at
    rw [if_neg (nI_pos (by omega)), if_neg (show ¬ (108 : Int32) ≤ nI q from nI_ge (a := q) (b := 108) hq (by omega)), hN.1, chk_t (inb_nI hq (by decide)), nI_clamp (by omega), R.ce hq]
theorem at_1 (R : CR n M S) (hN : SN n) {q : Nat} (h : okO (some q)) : m_X3_at fu M (n + 1) (oI (some q)) = some (S 0 q) := at_s R hN h
theorem at_0 (R : CR n M S) (hN : SN n) : m_X3_at fu M (n + 1) (oI none) = some (-1) := at_s (S := S) R hN (fun q h => by cases h)
theorem put_s (hI : LInj 14 (LC n)) (R : CR n M S) (hN : SN n) {o : Option Nat} (ho : okO o) (x : Int32) : ∃ M1, m_X3_put fu M (n + 1) (oI o) x = some M1 ∧ CR n M1 (putS S o x) ∧ Fr n M M1 := by
  cases o with
  | none =>
    refine ⟨M, ?_, R, Fr.rf⟩
    unfold m_X3_put oI
    rw [if_pos (by decide)]
  | some q =>
    have hq := ho q rfl
    refine ⟨mst M (n + 1 + 1) q x, ?_, R.wce hI hq x, Fr.wr (by omega)⟩
    show m_X3_put fu M (n + 1) (nI q) x = some _
    unfold m_X3_put
    rw [if_neg (nI_pos (by omega)), if_neg (show ¬ (108 : Int32) ≤ nI q from nI_ge (a := q) (b := 108) hq (by omega)), hN.1, chk_t (inb_nI hq (by decide)), nI_clamp (by omega)]
    rfl
/-- go: the crowd i to 'to', what lies there to 'be' -/
def goS (S : Mem) (c p i : Nat) (to be : Option Nat) : Mem × Bool := match to with
  | none => (S, false)
  | some t => if S 0 t = -1 then (S, false) else if S 0 t ≤ 0 then (mst S 1 i (nI t), true) else if S 2 i < 2 * S 0 t then (S, false) else match be with
    | none => (S, false)
    | some u => if S 0 u = -1 then (S, false) else if 3 - S 0 t < S 0 u then (S, false) else if busy S c p (nI u) = true then (S, false) else (mst (mst (mst S 0 t 0) 0 u (S 0 u + S 0 t)) 1 i (nI t), true)
def raiseS (S : Mem) (c p i : Nat) (to : Option Nat) : Mem × Bool := match to with
  | none => (S, false)
  | some t => if S 2 i < 3 then (S, false) else if S 0 t = -1 then (S, false) else if S 0 t = 3 then (S, false) else if busy S c p (nI t) = true then (S, false) else (mst S 0 t (S 0 t + 1), true)
def pullS (S : Mem) (to : Option Nat) : Mem × Bool := match to with
  | none => (S, false)
  | some t => if S 0 t ≤ 0 then (S, false) else (mst S 0 t (S 0 t - 1), true)
theorem bI_0 {b : Bool} : bI b = 0 ↔ b = false := by cases b <;> decide
theorem isb_bI (b : Bool) : isb (bI b) = true := by cases b <;> decide
theorem tryGo_s (hI : LInj 14 (LC n)) (R : CR n M S) (W : WF c p S) (hN : SN n) {i : Nat} (hi : i < 6) {to be : Option Nat} (ht : okO to) (hb : okO be) (hf : 10 < fu) : ∃ M1, m_X1_tryGo fu M n (cwd n i) (oI to) (oI be) = some (M1, bI (goS S c p i to be).2) ∧ CR n M1 (goS S c p i to be).1 ∧ Fr n M M1 := by
  unfold m_X1_tryGo
  cases to with
  | none =>
    obtain ⟨r, er⟩ : ∃ r, m_X3_at fu M (n + 1) (oI be) = some r := ⟨_, at_s R hN hb⟩
    refine ⟨M, ?_, R, Fr.rf⟩
    rw [at_0 R hN, cb1_s, er, cb1_s, if_pos (by decide), if_neg (by decide)]
    rfl
  | some t =>
    have h0 : t < 108 := ht t rfl
    obtain ⟨q, hq, eq⟩ := W.ce h0
    obtain ⟨r, er, err⟩ : ∃ r, m_X3_at fu M (n + 1) (oI be) = some r ∧ r = cellv S be := ⟨_, at_s R hN hb, rfl⟩
    rw [at_1 R hN ht, cb1_s, er, cb1_s, R.pe hi]
    unfold goS
    by_cases h1 : S 0 t = -1
    · simp only [if_pos h1]
      rw [if_pos (by rw [h1]; decide), if_neg (by rw [h1]; decide)]
      exact ⟨M, rfl, R, Fr.rf⟩
    simp only [if_neg h1]
    by_cases h2 : S 0 t ≤ 0
    · have h3 : S 0 t = 0 := by
        rw [eq] at h1 h2 ⊢
        rw [cv_h hq] at h1
        rw [cv_le hq] at h2
        rw [cv_0 hq]
        omega
      simp only [if_pos h2]
      rw [if_pos h3, mlet_s]
      exact ⟨_, rfl, R.wpl hI hi _, Fr.wr (cwd_in hi)⟩
    have h3 : ¬ S 0 t = 0 := fun q => h2 (by rw [q]; decide)
    simp only [if_neg h2, if_neg h3]
    by_cases h4 : S 2 i < 2 * S 0 t
    · simp only [if_pos h4]
      exact ⟨M, rfl, R, Fr.rf⟩
    simp only [if_neg h4]
    cases be with
    | none =>
      have err : r = -1 := err
      subst err
      exact ⟨M, rfl, R, Fr.rf⟩
    | some u =>
      have hu : u < 108 := hb u rfl
      have err : r = S 0 u := err
      subst err
      by_cases h5 : S 0 u = -1
      · simp only [if_pos h5]
        exact ⟨M, rfl, R, Fr.rf⟩
      simp only [if_neg h5]
      by_cases h6 : 3 - S 0 t < S 0 u
      · simp only [if_pos h6]
        exact ⟨M, rfl, R, Fr.rf⟩
      simp only [if_neg h6]
      have eb : m_X1_isTaken fu M n (oI (some u)) = some (bI (busy S c p (nI u))) := isTaken_s R W (nI u) hf
      rw [eb, cb1_s]
      cases h7 : busy S c p (nI u) with
      | true => exact ⟨M, rfl, R, Fr.rf⟩
      | false =>
        simp only [show bI false = 0 from rfl, if_true, Bool.false_eq_true, if_false]
        obtain ⟨M1, e1, R1, f1⟩ := put_s (fu := fu) hI R hN ht 0
        obtain ⟨M2, e2, R2, f2⟩ := put_s (fu := fu) hI R1 hN hb (S 0 u + S 0 t)
        rw [e1, cb1_s, e2, cb1_s, mlet_s]
        exact ⟨_, rfl, R2.wpl hI hi _, (f1.tr f2).tr (Fr.wr (cwd_in hi))⟩
theorem tryRaise_s (hI : LInj 14 (LC n)) (R : CR n M S) (W : WF c p S) (hN : SN n) {i : Nat} (hi : i < 6) {to : Option Nat} (ht : okO to) (hf : 10 < fu) : ∃ M1, m_X1_tryRaise fu M n (cwd n i) (oI to) = some (M1, bI (raiseS S c p i to).2) ∧ CR n M1 (raiseS S c p i to).1 ∧ Fr n M M1 := by
  unfold m_X1_tryRaise raiseS
  cases to with
  | none =>
    refine ⟨M, ?_, R, Fr.rf⟩
    rw [at_0 R hN, cb1_s, if_pos rfl]
    by_cases h : M (cwd n i) 1 < 3
    · rw [if_pos h]
      rfl
    · rw [if_neg h]
      rfl
  | some t =>
    have h0 : t < 108 := ht t rfl
    obtain ⟨q, hq, eq⟩ := W.ce h0
    rw [at_1 R hN ht, cb1_s, R.pe hi]
    by_cases h : S 2 i < 3
    · simp only [if_pos h]
      exact ⟨M, rfl, R, Fr.rf⟩
    simp only [if_neg h]
    by_cases h1 : S 0 t = -1
    · simp only [if_pos h1]
      exact ⟨M, rfl, R, Fr.rf⟩
    simp only [if_neg h1]
    have e3 : 3 ≤ S 0 t ↔ S 0 t = 3 := by
      rw [eq]
      exact (by decide +kernel : ∀ q < 5, (3 ≤ cv q ↔ cv q = 3)) q hq
    by_cases h2 : S 0 t = 3
    · simp only [if_pos (e3.mpr h2), if_pos h2]
      exact ⟨M, rfl, R, Fr.rf⟩
    simp only [if_neg (fun z => h2 (e3.mp z)), if_neg h2]
    have eb : m_X1_isTaken fu M n (oI (some t)) = some (bI (busy S c p (nI t))) := isTaken_s R W (nI t) hf
    rw [eb, cb1_s]
    cases h7 : busy S c p (nI t) with
    | true => exact ⟨M, rfl, R, Fr.rf⟩
    | false =>
      simp only [show bI false = 0 from rfl, if_true, Bool.false_eq_true, if_false]
      obtain ⟨M1, e1, R1, f1⟩ := put_s (fu := fu) hI R hN ht (S 0 t + 1)
      rw [e1, cb1_s]
      exact ⟨M1, rfl, R1, f1⟩
theorem tryPull_s (hI : LInj 14 (LC n)) (R : CR n M S) (hN : SN n) {to : Option Nat} (ht : okO to) : ∃ M1, m_X1_tryPullDown fu M n (oI to) = some (M1, bI (pullS S to).2) ∧ CR n M1 (pullS S to).1 ∧ Fr n M M1 := by
  unfold m_X1_tryPullDown pullS
  cases to with
  | none =>
    rw [at_0 R hN, cb1_s]
    exact ⟨M, rfl, R, Fr.rf⟩
  | some t =>
    rw [at_1 R hN ht, cb1_s]
    by_cases h : S 0 t ≤ 0
    · simp only [if_pos h, if_neg (Int32.not_lt.mpr h)]
      exact ⟨M, rfl, R, Fr.rf⟩
    simp only [if_neg h, if_pos (Int32.not_le.mp h)]
    obtain ⟨M1, e1, R1, f1⟩ := put_s (fu := fu) hI R hN ht (S 0 t - 1)
    rw [e1, cb1_s]
    exact ⟨M1, rfl, R1, f1⟩
end Ord

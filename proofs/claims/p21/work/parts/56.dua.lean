/-! ===== a way leads across, or those that are not free join top and bottom ===== -/
/-- reached from u through free cells -/
def RS (S : Mem) (u v : Nat) : Prop := ∀ P : Nat → Prop, P u → (∀ a b d, P a → d < 4 → nb a d = some b → S 0 b = 0 → P b) → P v
/-- joined to the top by cells that are not free -/
def ZS (S : Mem) (v : Nat) : Prop := ∀ P : Nat → Prop, (∀ a, a < 12 → S 0 a ≠ 0 → P a) → (∀ a b, P a → b < 108 → adj a b → S 0 b ≠ 0 → P b) → P v
section Dua
variable {S : Mem} {u v a b d : Nat}
theorem RS.rf : RS S u u := fun P h _ => h
theorem RS.st (h : RS S u a) (hd : d < 4) (e : nb a d = some b) (h0 : S 0 b = 0) : RS S u b := fun P p0 ps => ps a b d (h P p0 ps) hd e h0
theorem ZS.top (h : a < 12) (h0 : S 0 a ≠ 0) : ZS S a := fun P p0 _ => p0 a h h0
theorem ZS.st (h : ZS S a) (hb : b < 108) (e : adj a b) (h0 : S 0 b ≠ 0) : ZS S b := fun P p0 ps => ps a b (h P p0 ps) hb e h0
theorem RS.ok (h : RS S u v) (hu : u < 108) (h0 : S 0 u = 0) : v < 108 ∧ S 0 v = 0 :=
  h (fun w => w < 108 ∧ S 0 w = 0) ⟨hu, h0⟩ (fun a b d ha hd e h0 => ⟨nb_ok ha.1 b e, h0⟩)
theorem nb_cr (h : nb a d = some b) (ha : a < 108) : (b % 12 = a % 12 + 1 ∧ b / 12 = a / 12) ∨ (a % 12 = b % 12 + 1 ∧ b / 12 = a / 12) ∨ (b % 12 = a % 12 ∧ b / 12 = a / 12 + 1) ∨ (b % 12 = a % 12 ∧ a / 12 = b / 12 + 1) := by
  unfold nb at h
  split at h
  · split at h
    · cases h
    · cases h; omega
  · split at h
    · split at h
      · cases h; omega
      · cases h
    · split at h
      · split at h
        · cases h; omega
        · cases h
      · split at h
        · cases h; omega
        · cases h
end Dua
/-! one of both: turning round the quarter -/
def dd (a b : Nat) : Int := if b = a then 0 else if b = (a + 1) % 4 then 1 else -1
def sdd (f : Nat → Int) : Nat → Int
  | 0 => 0
  | n + 1 => sdd f n + f n
theorem sdd_w {f : Nat → Int} {w : Nat → Int} : ∀ n, (∀ i, i < n → f i = w (i + 1) - w i) → sdd f n = w n - w 0
  | 0, _ => by
    show (0 : Int) = w 0 - w 0
    omega
  | n + 1, h => by
    have h1 := sdd_w n (fun i hi => h i (by omega))
    have h2 := h n (by omega)
    show sdd f n + f n = w (n + 1) - w 0
    omega
def sqB (a b c d : Nat) : Bool := (decide (b = (a + 2) % 4) || decide (c = (b + 2) % 4) || decide (c = (d + 2) % 4) || decide (d = (a + 2) % 4)) || (decide (a % 2 = 1) && decide (c % 2 = 1) && !decide (a = c)) || (decide (b % 2 = 1) && decide (d % 2 = 1) && !decide (b = d)) || decide (dd a b + dd b c = dd a d + dd d c)
theorem sq_dec0 : ∀ x < 256, sqB (x / 64) (x / 16 % 4) (x / 4 % 4) (x % 4) = true := by decide +kernel
theorem sq_dec (a : Nat) (ha : a < 4) (b : Nat) (hb : b < 4) (c : Nat) (hc : c < 4) (d : Nat) (hd : d < 4) (h1 : b ≠ (a + 2) % 4) (h2 : c ≠ (b + 2) % 4) (h3 : c ≠ (d + 2) % 4) (h4 : d ≠ (a + 2) % 4) (h5 : ¬ (a % 2 = 1 ∧ c % 2 = 1 ∧ a ≠ c)) (h6 : ¬ (b % 2 = 1 ∧ d % 2 = 1 ∧ b ≠ d)) : dd a b + dd b c = dd a d + dd d c := by
  have h := sq_dec0 (64 * a + 16 * b + 4 * c + d) (by omega)
  rw [show (64 * a + 16 * b + 4 * c + d) / 64 = a by omega, show (64 * a + 16 * b + 4 * c + d) / 16 % 4 = b by omega, show (64 * a + 16 * b + 4 * c + d) / 4 % 4 = c by omega, show (64 * a + 16 * b + 4 * c + d) % 4 = d by omega] at h
  simp only [sqB, Bool.or_eq_true, Bool.and_eq_true, Bool.not_eq_true', decide_eq_true_eq, decide_eq_false_iff_not] at h
  omega
def wb4 (a : Nat) : Int := if a = 0 then 4 else a
def wl4 (a : Nat) : Int := if a = 0 then 4 else if a = 1 then 5 else a
theorem wt_dec : ∀ a < 4, ∀ b < 4, a ≠ 3 → b ≠ 3 → b ≠ (a + 2) % 4 → dd a b = (b : Int) - (a : Int) := by decide +kernel
theorem wr_dec : ∀ a < 4, ∀ b < 4, a ≠ 0 → b ≠ 0 → b ≠ (a + 2) % 4 → dd a b = (b : Int) - (a : Int) := by decide +kernel
theorem wb_dec : ∀ a < 4, ∀ b < 4, a ≠ 1 → b ≠ 1 → b ≠ (a + 2) % 4 → dd a b = wb4 b - wb4 a := by decide +kernel
theorem wl_dec : ∀ a < 4, ∀ b < 4, a ≠ 2 → b ≠ 2 → b ≠ (a + 2) % 4 → dd a b = wl4 b - wl4 a := by decide +kernel
theorem wc_dec : ∀ a < 4, (a ≠ 0 → wb4 a = (a : Int)) ∧ (a ≠ 1 → a ≠ 2 → wb4 a = wl4 a) ∧ (a ≠ 2 → a ≠ 3 → wl4 a = (a : Int) + 4) := by decide +kernel
theorem wind (lab : Nat → Nat → Nat) (h4 : ∀ x y, x < 12 → y < 9 → lab x y < 4)
    (hh : ∀ x y, x < 11 → y < 9 → lab (x + 1) y ≠ (lab x y + 2) % 4) (hv : ∀ x y, x < 12 → y < 8 → lab x (y + 1) ≠ (lab x y + 2) % 4)
    (hd1 : ∀ x y, x < 11 → y < 8 → ¬ (lab x y % 2 = 1 ∧ lab (x + 1) (y + 1) % 2 = 1 ∧ lab x y ≠ lab (x + 1) (y + 1)))
    (hd2 : ∀ x y, x < 11 → y < 8 → ¬ (lab (x + 1) y % 2 = 1 ∧ lab x (y + 1) % 2 = 1 ∧ lab (x + 1) y ≠ lab x (y + 1)))
    (ht : ∀ x, x < 12 → lab x 0 ≠ 3) (hb : ∀ x, x < 12 → lab x 8 ≠ 1) (hl : ∀ y, y < 9 → lab 0 y ≠ 2) (hr : ∀ y, y < 9 → lab 11 y ≠ 0) : False := by
  have c1 : ∀ y, y < 8 → ∀ n, n ≤ 11 → sdd (fun x => dd (lab x y) (lab (x + 1) y)) n + dd (lab n y) (lab n (y + 1)) = dd (lab 0 y) (lab 0 (y + 1)) + sdd (fun x => dd (lab x (y + 1)) (lab (x + 1) (y + 1))) n := by
    intro y hy n
    induction n with
    | zero =>
      intro _
      show (0 : Int) + dd (lab 0 y) (lab 0 (y + 1)) = dd (lab 0 y) (lab 0 (y + 1)) + 0
      omega
    | succ n ih =>
      intro hn
      have h1 := ih (by omega)
      have h2 := sq_dec (lab n y) (h4 _ _ (by omega) (by omega)) (lab (n + 1) y) (h4 _ _ (by omega) (by omega)) (lab (n + 1) (y + 1)) (h4 _ _ (by omega) (by omega)) (lab n (y + 1)) (h4 _ _ (by omega) (by omega)) (hh n y (by omega) (by omega)) (hv (n + 1) y (by omega) (by omega)) (hh n (y + 1) (by omega) (by omega)) (hv n y (by omega) (by omega)) (hd1 n y (by omega) (by omega)) (hd2 n y (by omega) (by omega))
      show sdd (fun x => dd (lab x y) (lab (x + 1) y)) n + dd (lab n y) (lab (n + 1) y) + dd (lab (n + 1) y) (lab (n + 1) (y + 1)) = dd (lab 0 y) (lab 0 (y + 1)) + (sdd (fun x => dd (lab x (y + 1)) (lab (x + 1) (y + 1))) n + dd (lab n (y + 1)) (lab (n + 1) (y + 1)))
      omega
  have c2 : ∀ m, m ≤ 8 → sdd (fun x => dd (lab x 0) (lab (x + 1) 0)) 11 + sdd (fun y => dd (lab 11 y) (lab 11 (y + 1))) m = sdd (fun y => dd (lab 0 y) (lab 0 (y + 1))) m + sdd (fun x => dd (lab x m) (lab (x + 1) m)) 11 := by
    intro m
    induction m with
    | zero =>
      intro _
      show sdd (fun x => dd (lab x 0) (lab (x + 1) 0)) 11 + 0 = 0 + sdd (fun x => dd (lab x 0) (lab (x + 1) 0)) 11
      omega
    | succ m ih =>
      intro hm
      have h1 := ih (by omega)
      have h2 := c1 m (by omega) 11 (Nat.le_refl 11)
      show sdd (fun x => dd (lab x 0) (lab (x + 1) 0)) 11 + (sdd (fun y => dd (lab 11 y) (lab 11 (y + 1))) m + dd (lab 11 m) (lab 11 (m + 1))) = (sdd (fun y => dd (lab 0 y) (lab 0 (y + 1))) m + dd (lab 0 m) (lab 0 (m + 1))) + sdd (fun x => dd (lab x (m + 1)) (lab (x + 1) (m + 1))) 11
      omega
  have e := c2 8 (Nat.le_refl 8)
  have t1 := sdd_w (f := fun x => dd (lab x 0) (lab (x + 1) 0)) (w := fun x => (lab x 0 : Int)) 11 (fun i hi => wt_dec _ (h4 _ _ (by omega) (by omega)) _ (h4 _ _ (by omega) (by omega)) (ht i (by omega)) (ht (i + 1) (by omega)) (hh i 0 hi (by omega)))
  have t2 := sdd_w (f := fun y => dd (lab 11 y) (lab 11 (y + 1))) (w := fun y => (lab 11 y : Int)) 8 (fun i hi => wr_dec _ (h4 _ _ (by omega) (by omega)) _ (h4 _ _ (by omega) (by omega)) (hr i (by omega)) (hr (i + 1) (by omega)) (hv 11 i (by omega) hi))
  have t3 := sdd_w (f := fun x => dd (lab x 8) (lab (x + 1) 8)) (w := fun x => wb4 (lab x 8)) 11 (fun i hi => wb_dec _ (h4 _ _ (by omega) (by omega)) _ (h4 _ _ (by omega) (by omega)) (hb i (by omega)) (hb (i + 1) (by omega)) (hh i 8 hi (by omega)))
  have t4 := sdd_w (f := fun y => dd (lab 0 y) (lab 0 (y + 1))) (w := fun y => wl4 (lab 0 y)) 8 (fun i hi => wl_dec _ (h4 _ _ (by omega) (by omega)) _ (h4 _ _ (by omega) (by omega)) (hl i (by omega)) (hl (i + 1) (by omega)) (hv 0 i (by omega) hi))
  have k1 := (wc_dec (lab 11 8) (h4 _ _ (by omega) (by omega))).1 (hr 8 (by omega))
  have k2 := (wc_dec (lab 0 8) (h4 _ _ (by omega) (by omega))).2.1 (hb 0 (by omega)) (hl 8 (by omega))
  have k3 := (wc_dec (lab 0 0) (h4 _ _ (by omega) (by omega))).2.2 (hl 0 (by omega)) (ht 0 (by omega))
  rw [t1, t2, t3, t4] at e
  omega
theorem dua1 {S : Mem} (hno : ∀ u v, u < 108 → u % 12 = 0 → S 0 u = 0 → RS S u v → v % 12 ≠ 11) : ∃ v, 96 ≤ v ∧ v < 108 ∧ ZS S v := by
  refine Classical.byContradiction (fun hz => ?_)
  have hc : ∀ v, ∃ k : Nat, k < 4 ∧ (S 0 v = 0 → (k = 0 ∧ ∃ u, u < 108 ∧ u % 12 = 0 ∧ S 0 u = 0 ∧ RS S u v) ∨ (k = 2 ∧ ¬ ∃ u, u < 108 ∧ u % 12 = 0 ∧ S 0 u = 0 ∧ RS S u v)) ∧ (S 0 v ≠ 0 → (k = 1 ∧ ZS S v) ∨ (k = 3 ∧ ¬ ZS S v)) := by
    intro v
    by_cases h0 : S 0 v = 0
    · rcases Classical.em (∃ u, u < 108 ∧ u % 12 = 0 ∧ S 0 u = 0 ∧ RS S u v) with h | h
      · exact ⟨0, by omega, fun _ => Or.inl ⟨rfl, h⟩, fun z => absurd h0 z⟩
      · exact ⟨2, by omega, fun _ => Or.inr ⟨rfl, h⟩, fun z => absurd h0 z⟩
    · rcases Classical.em (ZS S v) with h | h
      · exact ⟨1, by omega, fun z => absurd z h0, fun _ => Or.inl ⟨rfl, h⟩⟩
      · exact ⟨3, by omega, fun z => absurd z h0, fun _ => Or.inr ⟨rfl, h⟩⟩
  obtain ⟨lb, hlb⟩ := Classical.axiomOfChoice hc
  have opp : ∀ a b d d', a < 108 → b < 108 → d < 4 → d' < 4 → nb a d = some b → nb b d' = some a → adj a b → adj b a → lb b ≠ (lb a + 2) % 4 := by
    intro a b d d' ha hb hd hd' e1 e2 j1 j2 z
    obtain ⟨-, fa, ga⟩ := hlb a
    obtain ⟨-, fb, gb⟩ := hlb b
    by_cases h1 : S 0 a = 0 <;> by_cases h2 : S 0 b = 0
    · rcases fa h1 with ⟨ka, u, u1, u2, u3, u4⟩ | ⟨ka, na⟩ <;> rcases fb h2 with ⟨kb, w, w1, w2, w3, w4⟩ | ⟨kb, nb'⟩
      · omega
      · exact nb' ⟨u, u1, u2, u3, u4.st hd e1 h2⟩
      · exact na ⟨w, w1, w2, w3, w4.st hd' e2 h1⟩
      · omega
    · rcases fa h1 with ⟨ka, -⟩ | ⟨ka, -⟩ <;> rcases gb h2 with ⟨kb, -⟩ | ⟨kb, -⟩ <;> omega
    · rcases ga h1 with ⟨ka, -⟩ | ⟨ka, -⟩ <;> rcases fb h2 with ⟨kb, -⟩ | ⟨kb, -⟩ <;> omega
    · rcases ga h1 with ⟨ka, za⟩ | ⟨ka, na⟩ <;> rcases gb h2 with ⟨kb, zb⟩ | ⟨kb, nb'⟩
      · omega
      · exact nb' (za.st hb j1 h2)
      · exact na (zb.st ha j2 h1)
      · omega
  have dia : ∀ a b, a < 108 → b < 108 → adj a b → adj b a → ¬ (lb a % 2 = 1 ∧ lb b % 2 = 1 ∧ lb a ≠ lb b) := by
    intro a b ha hb j1 j2 z
    obtain ⟨z1, z2, z3⟩ := z
    obtain ⟨-, fa, ga⟩ := hlb a
    obtain ⟨-, fb, gb⟩ := hlb b
    have h1 : S 0 a ≠ 0 := fun h => by
      rcases fa h with ⟨k, -⟩ | ⟨k, -⟩ <;> omega
    have h2 : S 0 b ≠ 0 := fun h => by
      rcases fb h with ⟨k, -⟩ | ⟨k, -⟩ <;> omega
    rcases ga h1 with ⟨ka, za⟩ | ⟨ka, na⟩ <;> rcases gb h2 with ⟨kb, zb⟩ | ⟨kb, nb'⟩
    · omega
    · exact nb' (za.st hb j1 h2)
    · exact na (zb.st ha j2 h1)
    · omega
  have n1 : ∀ x y, x < 11 → y < 9 → nb (12 * y + x) 1 = some (12 * y + (x + 1)) ∧ nb (12 * y + (x + 1)) 3 = some (12 * y + x) := by
    intro x y hx hy
    constructor
    · unfold nb
      rw [if_neg (by decide), if_pos rfl, if_pos (by omega)]
      exact congrArg some (by omega)
    · unfold nb
      rw [if_neg (by decide), if_neg (by decide), if_neg (by decide), if_pos (by omega)]
      exact congrArg some (by omega)
  have n2 : ∀ x y, x < 12 → y < 8 → nb (12 * y + x) 2 = some (12 * (y + 1) + x) ∧ nb (12 * (y + 1) + x) 0 = some (12 * y + x) := by
    intro x y hx hy
    constructor
    · unfold nb
      rw [if_neg (by decide), if_neg (by decide), if_pos rfl, if_pos (by omega)]
      exact congrArg some (by omega)
    · unfold nb
      rw [if_pos rfl, if_neg (by omega)]
      exact congrArg some (by omega)
  refine wind (fun x y => lb (12 * y + x)) (fun x y _ _ => (hlb _).1) (fun x y hx hy => ?_) (fun x y hx hy => ?_) (fun x y hx hy => ?_) (fun x y hx hy => ?_) (fun x hx z => ?_) (fun x hx z => ?_) (fun y hy z => ?_) (fun y hy z => ?_)
  · exact opp _ _ 1 3 (by omega) (by omega) (by decide) (by decide) (n1 x y hx hy).1 (n1 x y hx hy).2 (by unfold adj; omega) (by unfold adj; omega)
  · exact opp _ _ 2 0 (by omega) (by omega) (by decide) (by decide) (n2 x y hx hy).1 (n2 x y hx hy).2 (by unfold adj; omega) (by unfold adj; omega)
  · exact dia _ _ (by omega) (by omega) (by unfold adj; omega) (by unfold adj; omega)
  · exact dia _ _ (by omega) (by omega) (by unfold adj; omega) (by unfold adj; omega)
  · have z : lb (12 * 0 + x) = 3 := z
    obtain ⟨-, f, g⟩ := hlb (12 * 0 + x)
    by_cases h0 : S 0 (12 * 0 + x) = 0
    · rcases f h0 with ⟨k, -⟩ | ⟨k, -⟩ <;> omega
    · rcases g h0 with ⟨k, -⟩ | ⟨k, n⟩
      · omega
      · exact n (ZS.top (by omega) h0)
  · have z : lb (12 * 8 + x) = 1 := z
    obtain ⟨-, f, g⟩ := hlb (12 * 8 + x)
    by_cases h0 : S 0 (12 * 8 + x) = 0
    · rcases f h0 with ⟨k, -⟩ | ⟨k, -⟩ <;> omega
    · rcases g h0 with ⟨k, n⟩ | ⟨k, -⟩
      · exact hz ⟨_, by omega, by omega, n⟩
      · omega
  · have z : lb (12 * y + 0) = 2 := z
    obtain ⟨-, f, g⟩ := hlb (12 * y + 0)
    by_cases h0 : S 0 (12 * y + 0) = 0
    · rcases f h0 with ⟨k, -⟩ | ⟨k, n⟩
      · omega
      · exact n ⟨12 * y + 0, by omega, by omega, h0, RS.rf⟩
    · rcases g h0 with ⟨k, -⟩ | ⟨k, -⟩ <;> omega
  · have z : lb (12 * y + 11) = 0 := z
    obtain ⟨-, f, g⟩ := hlb (12 * y + 11)
    by_cases h0 : S 0 (12 * y + 11) = 0
    · rcases f h0 with ⟨k, u, u1, u2, u3, u4⟩ | ⟨k, n⟩
      · exact hno u _ u1 u2 u3 u4 (by omega)
      · omega
    · rcases g h0 with ⟨k, -⟩ | ⟨k, -⟩ <;> omega
/-! not both: a way is crossed -/
def ind (p : Prop) [Decidable p] : Nat := if p then 1 else 0
theorem ind_c (p : Prop) [Decidable p] : (p ∧ ind p = 1) ∨ (¬ p ∧ ind p = 0) := by
  by_cases h : p
  · exact Or.inl ⟨h, if_pos h⟩
  · exact Or.inr ⟨h, if_neg h⟩
def ce (w : Nat → Nat) (x y i : Nat) : Nat := ind (w i / 12 = w (i + 1) / 12 ∧ w i / 12 < y ∧ ((w i % 12 = x ∧ w (i + 1) % 12 = x + 1) ∨ (w i % 12 = x + 1 ∧ w (i + 1) % 12 = x)))
def cr (w : Nat → Nat) (x y : Nat) : Nat → Nat
  | 0 => 0
  | m + 1 => cr w x y m + ce w x y m
def np (w : Nat → Nat) (m x y : Nat) : Prop := ∀ i, i ≤ m → ¬ (w i % 12 = x ∧ w i / 12 = y)
def wstep (w : Nat → Nat) (i : Nat) : Prop := (w (i + 1) % 12 = w i % 12 + 1 ∧ w (i + 1) / 12 = w i / 12) ∨ (w i % 12 = w (i + 1) % 12 + 1 ∧ w (i + 1) / 12 = w i / 12) ∨ (w (i + 1) % 12 = w i % 12 ∧ w (i + 1) / 12 = w i / 12 + 1) ∨ (w (i + 1) % 12 = w i % 12 ∧ w i / 12 = w (i + 1) / 12 + 1)
section Crs
variable {w : Nat → Nat} {x y : Nat}
theorem cr_H : ∀ m, (∀ i, i < m → wstep w i) → np w m (x + 1) y → (cr w x y m + cr w (x + 1) y m + ind (w 0 % 12 = x + 1 ∧ w 0 / 12 < y) + ind (w m % 12 = x + 1 ∧ w m / 12 < y)) % 2 = 0
  | 0, _, _ => by
    show (0 + 0 + ind (w 0 % 12 = x + 1 ∧ w 0 / 12 < y) + ind (w 0 % 12 = x + 1 ∧ w 0 / 12 < y)) % 2 = 0
    omega
  | m + 1, hs, hn => by
    have h1 := cr_H m (fun i hi => hs i (by omega)) (fun i hi => hn i (by omega))
    have h2 := hs m (by omega)
    have h3 := hn m (by omega)
    have h4 := hn (m + 1) (Nat.le_refl _)
    unfold wstep at h2
    show (cr w x y m + ce w x y m + (cr w (x + 1) y m + ce w (x + 1) y m) + ind (w 0 % 12 = x + 1 ∧ w 0 / 12 < y) + ind (w (m + 1) % 12 = x + 1 ∧ w (m + 1) / 12 < y)) % 2 = 0
    have h5 : (ce w x y m + ce w (x + 1) y m + ind (w m % 12 = x + 1 ∧ w m / 12 < y) + ind (w (m + 1) % 12 = x + 1 ∧ w (m + 1) / 12 < y)) % 2 = 0 := by
      unfold ce
      generalize w m % 12 = c at *
      generalize w m / 12 = r at *
      generalize w (m + 1) % 12 = c' at *
      generalize w (m + 1) / 12 = r' at *
      rcases ind_c (r = r' ∧ r < y ∧ ((c = x ∧ c' = x + 1) ∨ (c = x + 1 ∧ c' = x))) with ⟨p1, e1⟩ | ⟨p1, e1⟩ <;> rcases ind_c (r = r' ∧ r < y ∧ ((c = x + 1 ∧ c' = x + 1 + 1) ∨ (c = x + 1 + 1 ∧ c' = x + 1))) with ⟨p2, e2⟩ | ⟨p2, e2⟩ <;> rcases ind_c (c = x + 1 ∧ r < y) with ⟨p3, e3⟩ | ⟨p3, e3⟩ <;> rcases ind_c (c' = x + 1 ∧ r' < y) with ⟨p4, e4⟩ | ⟨p4, e4⟩ <;> rw [e1, e2, e3, e4] <;> omega
    omega
theorem cr_V : ∀ m, np w m x y → cr w x (y + 1) m = cr w x y m
  | 0, _ => rfl
  | m + 1, hn => by
    have h1 := cr_V m (fun i hi => hn i (by omega))
    have h3 := hn m (by omega)
    have h4 := hn (m + 1) (Nat.le_refl _)
    show cr w x (y + 1) m + ce w x (y + 1) m = cr w x y m + ce w x y m
    have h5 : ce w x (y + 1) m = ce w x y m := by
      unfold ce
      generalize w m % 12 = c at *
      generalize w m / 12 = r at *
      generalize w (m + 1) % 12 = c' at *
      generalize w (m + 1) / 12 = r' at *
      rcases ind_c (r = r' ∧ r < y + 1 ∧ ((c = x ∧ c' = x + 1) ∨ (c = x + 1 ∧ c' = x))) with ⟨p1, e1⟩ | ⟨p1, e1⟩ <;> rcases ind_c (r = r' ∧ r < y ∧ ((c = x ∧ c' = x + 1) ∨ (c = x + 1 ∧ c' = x))) with ⟨p2, e2⟩ | ⟨p2, e2⟩ <;> rw [e1, e2] <;> omega
    omega
theorem cr_W : ∀ m, np w m (x + 1) y → cr w x (y + 1) m = cr w x y m
  | 0, _ => rfl
  | m + 1, hn => by
    have h1 := cr_W m (fun i hi => hn i (by omega))
    have h3 := hn m (by omega)
    have h4 := hn (m + 1) (Nat.le_refl _)
    show cr w x (y + 1) m + ce w x (y + 1) m = cr w x y m + ce w x y m
    have h5 : ce w x (y + 1) m = ce w x y m := by
      unfold ce
      generalize w m % 12 = c at *
      generalize w m / 12 = r at *
      generalize w (m + 1) % 12 = c' at *
      generalize w (m + 1) / 12 = r' at *
      rcases ind_c (r = r' ∧ r < y + 1 ∧ ((c = x ∧ c' = x + 1) ∨ (c = x + 1 ∧ c' = x))) with ⟨p1, e1⟩ | ⟨p1, e1⟩ <;> rcases ind_c (r = r' ∧ r < y ∧ ((c = x ∧ c' = x + 1) ∨ (c = x + 1 ∧ c' = x))) with ⟨p2, e2⟩ | ⟨p2, e2⟩ <;> rw [e1, e2] <;> omega
    omega
theorem cr_0 : ∀ m, cr w x 0 m = 0
  | 0 => rfl
  | m + 1 => by
    show cr w x 0 m + ce w x 0 m = 0
    rw [cr_0 m]
    unfold ce
    rcases ind_c (w m / 12 = w (m + 1) / 12 ∧ w m / 12 < 0 ∧ ((w m % 12 = x ∧ w (m + 1) % 12 = x + 1) ∨ (w m % 12 = x + 1 ∧ w (m + 1) % 12 = x))) with ⟨p1, e1⟩ | ⟨p1, e1⟩ <;> rw [e1] <;> omega
theorem cr_11 : ∀ m, cr w 11 y m = 0
  | 0 => rfl
  | m + 1 => by
    show cr w 11 y m + ce w 11 y m = 0
    rw [cr_11 m]
    unfold ce
    rcases ind_c (w m / 12 = w (m + 1) / 12 ∧ w m / 12 < y ∧ ((w m % 12 = 11 ∧ w (m + 1) % 12 = 11 + 1) ∨ (w m % 12 = 11 + 1 ∧ w (m + 1) % 12 = 11))) with ⟨p1, e1⟩ | ⟨p1, e1⟩ <;> rw [e1] <;> omega
end Crs
/-- on which side of the way -/
def sid (w : Nat → Nat) (m x y : Nat) : Nat := if x < 11 then cr w x y m else ind (w m / 12 < y)
section Sid
variable {w : Nat → Nat} {m x y : Nat}
theorem sid_V (he : w m % 12 = 11) (hx : x < 12) (h : np w m x y) : sid w m x (y + 1) = sid w m x y := by
  unfold sid
  by_cases h1 : x < 11
  · rw [if_pos h1, if_pos h1, cr_V m h]
  · rw [if_neg h1, if_neg h1]
    have h2 := h m (Nat.le_refl m)
    rcases ind_c (w m / 12 < y + 1) with ⟨p1, e1⟩ | ⟨p1, e1⟩ <;> rcases ind_c (w m / 12 < y) with ⟨p2, e2⟩ | ⟨p2, e2⟩ <;> rw [e1, e2] <;> omega
theorem sid_W (hx : x < 11) (h : np w m (x + 1) y) : sid w m x (y + 1) = sid w m x y := by
  unfold sid
  rw [if_pos hx, if_pos hx, cr_W m h]
theorem sid_H (hs : ∀ i, i < m → wstep w i) (hb : w 0 % 12 = 0) (he : w m % 12 = 11) (hx : x < 11) (h : np w m (x + 1) y) : (sid w m x y + sid w m (x + 1) y) % 2 = 0 := by
  have h1 := cr_H m hs h
  unfold sid
  rw [if_pos hx]
  rcases ind_c (w 0 % 12 = x + 1 ∧ w 0 / 12 < y) with ⟨p1, e1⟩ | ⟨p1, e1⟩
  · omega
  · rw [e1] at h1
    by_cases h2 : x + 1 < 11
    · rw [if_pos h2]
      rcases ind_c (w m % 12 = x + 1 ∧ w m / 12 < y) with ⟨p2, e2⟩ | ⟨p2, e2⟩
      · omega
      · rw [e2] at h1
        omega
    · rw [if_neg h2]
      have h3 : x = 10 := by omega
      subst h3
      rw [cr_11 m] at h1
      rcases ind_c (w m % 12 = 10 + 1 ∧ w m / 12 < y) with ⟨p2, e2⟩ | ⟨p2, e2⟩ <;> rcases ind_c (w m / 12 < y) with ⟨p3, e3⟩ | ⟨p3, e3⟩ <;> rw [e2] at h1 <;> rw [e3] <;> omega
theorem sid_adj (hs : ∀ i, i < m → wstep w i) (hb : w 0 % 12 = 0) (he : w m % 12 = 11) {x' y' : Nat} (hx : x < 12) (hx' : x' < 12) (h1 : np w m x y) (h2 : np w m x' y') (jx : x' = x ∨ x' = x + 1 ∨ x = x' + 1) (jy : y' = y ∨ y' = y + 1 ∨ y = y' + 1) : sid w m x y % 2 = sid w m x' y' % 2 := by
  rcases jx with rfl | rfl | rfl
  · rcases jy with rfl | rfl | rfl
    · rfl
    · rw [sid_V he hx h1]
    · rw [sid_V he hx h2]
  · rcases jy with rfl | rfl | rfl
    · have := sid_H hs hb he (by omega) h2
      omega
    · have a1 := sid_V he hx h1
      have a2 := sid_H hs hb he (by omega) h2
      omega
    · have a1 := sid_W (by omega) h2
      have a2 := sid_H hs hb he (by omega) h2
      omega
  · rcases jy with rfl | rfl | rfl
    · have := sid_H hs hb he (by omega) h1
      omega
    · have a1 := sid_W (by omega) h1
      have a2 := sid_H hs hb he (by omega) h1
      omega
    · have a1 := sid_V he hx' h2
      have a2 := sid_H hs hb he (by omega) h1
      omega
end Sid
theorem RS.path {S : Mem} {u v : Nat} (h : RS S u v) : ∃ (m : Nat) (w : Nat → Nat), w 0 = u ∧ w m = v ∧ ∀ i, i < m → ∃ d, d < 4 ∧ nb (w i) d = some (w (i + 1)) ∧ S 0 (w (i + 1)) = 0 := by
  refine h (fun v => ∃ (m : Nat) (w : Nat → Nat), w 0 = u ∧ w m = v ∧ ∀ i, i < m → ∃ d, d < 4 ∧ nb (w i) d = some (w (i + 1)) ∧ S 0 (w (i + 1)) = 0) ⟨0, fun _ => u, rfl, rfl, fun i hi => by omega⟩ ?_
  intro a b d ha hd e h0
  obtain ⟨m, w, w0, wm, hw⟩ := ha
  refine ⟨m + 1, fun i => if i ≤ m then w i else b, ?_, ?_, fun i hi => ?_⟩
  · show (if 0 ≤ m then w 0 else b) = u
    rw [if_pos (Nat.zero_le m), w0]
  · show (if m + 1 ≤ m then w (m + 1) else b) = b
    rw [if_neg (by omega)]
  · show ∃ d, d < 4 ∧ nb (if i ≤ m then w i else b) d = some (if i + 1 ≤ m then w (i + 1) else b) ∧ S 0 (if i + 1 ≤ m then w (i + 1) else b) = 0
    rw [if_pos (by omega)]
    by_cases e2 : i + 1 ≤ m
    · rw [if_pos e2]
      exact hw i (by omega)
    · rw [if_neg e2, show i = m by omega, wm]
      exact ⟨d, hd, e, h0⟩
theorem dua2 {S : Mem} {u v : Nat} (hu : u < 108) (h0 : u % 12 = 0) (hf : S 0 u = 0) (hr : RS S u v) (h11 : v % 12 = 11) {z : Nat} (hz : ZS S z) : ¬ 96 ≤ z := by
  obtain ⟨m, w, w0, wm, hw⟩ := hr.path
  have hok : ∀ i, i ≤ m → w i < 108 ∧ S 0 (w i) = 0 := by
    intro i
    induction i with
    | zero => intro _; rw [w0]; exact ⟨hu, hf⟩
    | succ i ih =>
      intro hi
      obtain ⟨d, hd, e, h9⟩ := hw i (by omega)
      exact ⟨nb_ok (ih (by omega)).1 _ e, h9⟩
  have hs : ∀ i, i < m → wstep w i := fun i hi => by
    obtain ⟨d, hd, e, h9⟩ := hw i hi
    exact nb_cr e (hok i (by omega)).1
  have hb : w 0 % 12 = 0 := by rw [w0]; exact h0
  have he : w m % 12 = 11 := by rw [wm]; exact h11
  have hnp : ∀ q, S 0 q ≠ 0 → np w m (q % 12) (q / 12) := fun q hq i hi z => by
    have h1 := (hok i hi).2
    rw [show w i = q by omega] at h1
    exact hq h1
  have key : z < 108 ∧ S 0 z ≠ 0 ∧ sid w m (z % 12) (z / 12) % 2 = 0 := by
    refine hz (fun z => z < 108 ∧ S 0 z ≠ 0 ∧ sid w m (z % 12) (z / 12) % 2 = 0) (fun a ha h9 => ⟨by omega, h9, ?_⟩) (fun a b ha hb' j h9 => ⟨hb', h9, ?_⟩)
    · rw [show a / 12 = 0 by omega]
      unfold sid
      by_cases h1 : a % 12 < 11
      · rw [if_pos h1, cr_0]
      · rw [if_neg h1]
        rcases ind_c (w m / 12 < 0) with ⟨p1, e1⟩ | ⟨p1, e1⟩
        · omega
        · rw [e1]
    · obtain ⟨a1, a2, a3⟩ := ha
      unfold adj at j
      rw [← sid_adj hs hb he (by omega) (by omega) (hnp a a2) (hnp b h9) (by omega) (by omega)]
      exact a3
  obtain ⟨k1, k2, k3⟩ := key
  intro h96
  have all : ∀ d, d ≤ 11 → sid w m (11 - d) 9 % 2 = 1 := by
    intro d
    induction d with
    | zero =>
      intro _
      unfold sid
      rw [if_neg (by omega)]
      have := (hok m (Nat.le_refl m)).1
      rcases ind_c (w m / 12 < 9) with ⟨p1, e1⟩ | ⟨p1, e1⟩
      · rw [e1]
      · omega
    | succ d ih =>
      intro hd
      have h1 := ih (by omega)
      have h2 := sid_H (x := 11 - (d + 1)) (y := 9) hs hb he (by omega) (fun i hi z => by
        have := (hok i hi).1
        omega)
      rw [show 11 - (d + 1) + 1 = 11 - d by omega] at h2
      omega
  have h1 := all (11 - z % 12) (by omega)
  rw [show 11 - (11 - z % 12) = z % 12 by omega] at h1
  have h2 := sid_V he (by omega) (hnp z k2)
  rw [show z / 12 + 1 = 9 by omega] at h2
  omega

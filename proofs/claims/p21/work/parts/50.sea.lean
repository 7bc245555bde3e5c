/-! ===== ways: what the search holds ===== -/
theorem LC_in {n f i : Nat} (hf : f < 14) (hi : i < szf f) : n ≤ (LC n f i).1 ∧ (LC n f i).1 < n + 20 := by
  rcases (show f = 0 ∨ f = 1 ∨ f = 2 ∨ f = 3 ∨ f = 4 ∨ f = 5 ∨ f = 6 ∨ f = 7 ∨ f = 8 ∨ f = 9 ∨ f = 10 ∨ f = 11 ∨ f = 12 ∨ f = 13 by omega) with rfl | rfl | rfl | rfl | rfl | rfl | rfl | rfl | rfl | rfl | rfl | rfl | rfl | rfl
  · exact ⟨show n ≤ n + 1 + 1 by omega, show n + 1 + 1 < n + 20 by omega⟩
  · exact cwd_in hi
  · exact cwd_in hi
  · exact cwd_in hi
  · exact cwd_in hi
  · exact cwd_in hi
  · exact cwd1_in (show i / 24 < 6 by have : i < 144 := hi; omega)
  · exact ptl_in hi
  · exact ptl_in hi
  · exact ⟨Nat.le_refl n, show n < n + 20 by omega⟩
  · exact ⟨Nat.le_refl n, show n < n + 20 by omega⟩
  · exact ⟨Nat.le_refl n, show n < n + 20 by omega⟩
  · exact ptl_in hi
  · exact ptl_in hi
theorem CR.fm {n : Nat} {M M1 S : Mem} (R : CR n M S) (h : ∀ a, n ≤ a → a < n + 20 → M1 a = M a) : CR n M1 S := by
  intro f hf i hi
  have := LC_in (n := n) hf hi
  rw [h _ this.1 this.2]
  exact R f hf i hi
def un (f : Nat → Nat) (k x : Nat) : Nat → Nat := fun j => if j = k then x else f j
theorem un_s (f : Nat → Nat) (k x : Nat) : un f k x k = x := if_pos rfl
theorem un_o {f : Nat → Nat} {k x j : Nat} (h : j ≠ k) : un f k x j = f j := if_neg h
def cz (f : Nat → Nat) : Nat → Nat
  | 0 => 0
  | n + 1 => cz f n + (if f n = 0 then 0 else 1)
theorem cz_le (f : Nat → Nat) : ∀ n, cz f n ≤ n
  | 0 => Nat.le_refl 0
  | n + 1 => by
    have := cz_le f n
    show cz f n + (if f n = 0 then 0 else 1) ≤ n + 1
    by_cases h : f n = 0
    · rw [if_pos h]; omega
    · rw [if_neg h]; omega
theorem cz_un_o {f : Nat → Nat} {v x : Nat} : ∀ n, n ≤ v → cz (un f v x) n = cz f n
  | 0, _ => rfl
  | n + 1, h => by
    show cz (un f v x) n + (if un f v x n = 0 then 0 else 1) = cz f n + (if f n = 0 then 0 else 1)
    rw [cz_un_o n (by omega), un_o (by omega)]
theorem cz_un {f : Nat → Nat} {v x : Nat} (h0 : f v = 0) (hx : x ≠ 0) : ∀ n, v < n → cz (un f v x) n = cz f n + 1
  | 0, h => by omega
  | n + 1, h => by
    show cz (un f v x) n + (if un f v x n = 0 then 0 else 1) = cz f n + (if f n = 0 then 0 else 1) + 1
    by_cases e : v = n
    · subst e
      rw [cz_un_o v (Nat.le_refl v), un_s, if_neg hx, if_pos h0]
    · rw [cz_un h0 hx n (by omega), un_o (fun z => e z.symm)]
      omega
theorem cz_lt {f : Nat → Nat} {v n : Nat} (h0 : f v = 0) (h : v < n) : cz f n < n := by
  have h1 := cz_un (x := 1) h0 (by decide) n h
  have h2 := cz_le (un f v 1) n
  omega
theorem cz_full {f : Nat → Nat} {n : Nat} (h : n ≤ cz f n) : ∀ v, v < n → f v ≠ 0 := fun v hv h0 => by
  have := cz_lt h0 hv
  omega
theorem cz_0 : ∀ n, cz (fun _ => 0) n = 0
  | 0 => rfl
  | n + 1 => by
    show cz (fun _ => 0) n + (if (0 : Nat) = 0 then 0 else 1) = 0
    rw [cz_0 n, if_pos rfl]
/-- the search's numbers: far (0 not seen, q + 1 seen at q), the line, its head and its tail -/
def SL (M : Mem) (f q : Nat → Nat) (h t : Nat) : Prop := M 41 2 = nI h ∧ M 41 3 = nI t ∧ (∀ v, v < 108 → M 42 v = nI (f v) - 1) ∧ ∀ i, h ≤ i → i < t → M 43 i = nI (q i)
def Ws (M M1 : Mem) : Prop := ∀ a, (a < 41 ∨ 43 < a) → M1 a = M a
theorem Ws.rf {M : Mem} : Ws M M := fun _ _ => rfl
theorem Ws.tr {M M1 M2 : Mem} (h : Ws M M1) (h2 : Ws M1 M2) : Ws M M2 := fun a ha => (h2 a ha).trans (h a ha)
theorem Ws.wr {k j : Nat} {M : Mem} {x : Int32} (h : 41 ≤ k ∧ k < 44) : Ws M (mst M k j x) := fun a ha => mst_ne (by omega)
theorem CR.ws {n : Nat} {M M1 S : Mem} (R : CR n M S) (hn : n + 20 ≤ 41) (w : Ws M M1) : CR n M1 S := R.fm (fun a h1 h2 => w a (by omega))
theorem al42 : alen (41 + 1) = 108 := by decide
theorem al43 : alen (41 + 2) = 216 := by decide
section Sea
variable {n fu : Nat} {M S : Mem} {f q : Nat → Nat} {h t : Nat}
theorem fill_L5 (y1 : Int32) : ∀ (d i g : Nat) (M : Mem), i + d = 108 → d < g → ∃ M1, m_J7_fill_53178_L5 fu (41 + 1) y1 (Int32.ofNat 108) g M (nI i) = some M1 ∧ (∀ j, j < 108 → M1 42 j = if i ≤ j then y1 else M 42 j) ∧ ∀ a, a ≠ 42 → M1 a = M a := by
  intro d
  induction d with
  | zero =>
    intro i g M hi hg
    obtain ⟨g, rfl⟩ := f1 hg
    rw [m_J7_fill_53178_L5, if_pos (show Int32.ofNat 108 ≤ nI i from nI_le (a := 108) (by omega) (by omega))]
    exact ⟨M, rfl, fun j hj => by rw [if_neg (by omega)], fun _ _ => rfl⟩
  | succ d ih =>
    intro i g M hi hg
    obtain ⟨g, rfl⟩ := f1 hg
    rw [m_J7_fill_53178_L5, if_neg (show ¬ Int32.ofNat 108 ≤ nI i from nI_ge (b := 108) (by omega) (by omega)), al42, chk_t (inb_nI (by omega) (by decide)), nI_clamp (n := i) (by omega), mlet_s, mlet_s, nI_1]
    obtain ⟨M1, e1, h1, h2⟩ := ih (i + 1) g (mst M (41 + 1) i y1) (by omega) (by omega)
    refine ⟨M1, e1, fun j hj => ?_, fun a ha => (h2 a ha).trans (mst_ne ha)⟩
    rw [h1 j hj]
    by_cases e : i + 1 ≤ j
    · rw [if_pos e, if_pos (by omega)]
    · rw [if_neg e]
      by_cases e2 : j = i
      · subst e2
        rw [if_pos (Nat.le_refl j)]
        exact mst_s M 42 j y1
      · rw [if_neg (by omega)]
        exact mst_o (fun z => e2 z.2)
theorem start_s (hf : 110 < fu) : ∃ M1, m_X4_startAnew fu M 41 = some M1 ∧ SL M1 (fun _ => 0) (fun _ => 0) 108 108 ∧ Ws M M1 := by
  obtain ⟨M1, e1, h1, h2⟩ := fill_L5 (fu := fu) (-1) 108 0 fu M (by omega) (by omega)
  rw [nI_0] at e1
  have e : m_J7_fill_53178 fu M (41 + 1) (-1) = some M1 := by
    rw [m_J7_fill_53178, al42, mlet_s, e1]
    rfl
  refine ⟨mst (mst M1 41 2 108) 41 3 108, ?_, ⟨?_, ?_, ?_, ?_⟩, ?_⟩
  · rw [m_X4_startAnew, e, cb1_s, mlet_s, mlet_s]
  · rw [mst_o (by omega), mst_s]
    rfl
  · rw [mst_s]
    rfl
  · intro v hv
    rw [mst_o (by omega), mst_o (by omega), h1 v hv, if_pos (Nat.zero_le v)]
    rfl
  · intro i h1 h2
    omega
  · have w1 : Ws M M1 := fun a ha => h2 a (by omega)
    exact (w1.tr (Ws.wr (by omega))).tr (Ws.wr (by omega))
theorem putLast_s (L : SL M f q h t) {v k : Nat} (hv : v < 108) (ht : t < 216) : ∃ M1, m_X4_putLast fu M 41 (nI v) (nI k) = some M1 ∧ SL M1 (un f v (k + 1)) (un q t v) h (t + 1) ∧ Ws M M1 := by
  obtain ⟨l1, l2, l3, l4⟩ := L
  refine ⟨mst (mst (mst M 42 v (nI k)) 43 t (nI v)) 41 3 (nI (t + 1)), ?_, ⟨?_, ?_, ?_, ?_⟩, ?_⟩
  · unfold m_X4_putLast
    rw [al43, l2, if_neg (show ¬ Int32.ofNat 216 ≤ nI t from nI_ge (b := 216) ht (by omega)), al42, chk_t (inb_nI hv (by decide)), nI_clamp (n := v) (by omega), mlet_s, mst_ne (show (41 : Nat) ≠ 41 + 1 by decide), l2, chk_t (inb_nI ht (by decide)), nI_clamp (n := t) (by omega), mlet_s, mst_ne (show (41 : Nat) ≠ 41 + 2 by decide), mst_ne (show (41 : Nat) ≠ 41 + 1 by decide), l2, nI_1, mlet_s]
  · rw [mst_o (by omega), mst_ne (by decide), mst_ne (by decide), l1]
  · rw [mst_s]
  · intro u hu
    rw [mst_ne (by decide), mst_ne (by decide)]
    by_cases e : u = v
    · subst e
      rw [mst_s, un_s]
      rw [nI_succ]
      exact (Int32.add_sub_cancel _ _).symm
    · rw [mst_o (fun z => e z.2), un_o e, l3 u hu]
  · intro i h1 h2
    rw [mst_ne (by decide)]
    by_cases e : i = t
    · subst e
      rw [mst_s, un_s]
    · rw [mst_o (fun z => e z.2), mst_ne (by decide), un_o e, l4 i h1 (by omega)]
  · exact ((Ws.wr (by omega)).tr (Ws.wr (by omega))).tr (Ws.wr (by omega))
theorem putFirst_s (L : SL M f q (h + 1) t) {v k : Nat} (hv : v < 108) (ht : h < 216) : ∃ M1, m_X4_putFirst fu M 41 (nI v) (nI k) = some M1 ∧ SL M1 (un f v (k + 1)) (un q h v) h t ∧ Ws M M1 := by
  obtain ⟨l1, l2, l3, l4⟩ := L
  refine ⟨mst (mst (mst M 42 v (nI k)) 41 2 (nI h)) 43 h (nI v), ?_, ⟨?_, ?_, ?_, ?_⟩, ?_⟩
  · unfold m_X4_putFirst
    rw [al43, l1, if_neg (nI_nle (by omega) (by omega)), al42, chk_t (inb_nI hv (by decide)), nI_clamp (n := v) (by omega), mlet_s, mst_ne (show (41 : Nat) ≠ 41 + 1 by decide), l1, nI_pred, mlet_s, mst_s, chk_t (inb_nI ht (by decide)), nI_clamp (n := h) (by omega), mlet_s]
  · rw [mst_ne (by decide), mst_s]
  · rw [mst_ne (by decide), mst_o (by omega), mst_ne (by decide), l2]
  · intro u hu
    rw [mst_ne (by decide), mst_ne (by decide)]
    by_cases e : u = v
    · subst e
      rw [mst_s, un_s]
      rw [nI_succ]
      exact (Int32.add_sub_cancel _ _).symm
    · rw [mst_o (fun z => e z.2), un_o e, l3 u hu]
  · intro i h1 h2
    by_cases e : i = h
    · subst e
      rw [mst_s, un_s]
    · rw [mst_o (fun z => e z.2), mst_ne (by decide), mst_ne (by decide), un_o e, l4 i (by omega) h2]
  · exact ((Ws.wr (by omega)).tr (Ws.wr (by omega))).tr (Ws.wr (by omega))
theorem seen_i {x : Nat} (hx : x < 2 ^ 30) : nI x - 1 = -1 ↔ x = 0 := by
  constructor
  · intro h
    have h1 : nI x = 0 := by
      have h2 : nI x - 1 + 1 = -1 + 1 := congrArg (· + 1) h
      rw [Int32.sub_add_cancel] at h2
      rw [h2]
      decide
    exact (nI_eq (a := x) (b := 0) (by omega) (by decide)).mp h1
  · intro h
    rw [h]
    decide
end Sea

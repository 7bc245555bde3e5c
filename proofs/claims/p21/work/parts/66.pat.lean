/-! ===== the law's checks of the cells, the patrols and the ways ===== -/
theorem dx_dec : ∀ t < 108, ∀ d < 4, (match nb t d with
  | some u => decide (nI (t % 12) + (if nI d = 1 then 1 else if nI d = 3 then -1 else 0) = nI (u % 12)) && decide (nI (t / 12) + (if nI d = 2 then 1 else if nI d = 0 then -1 else 0) = nI (u / 12))
  | none => decide (nI (t % 12) + (if nI d = 1 then 1 else if nI d = 3 then -1 else 0) < 0) || decide (nI (t / 12) + (if nI d = 2 then 1 else if nI d = 0 then -1 else 0) < 0) || decide (12 ≤ nI (t % 12) + (if nI d = 1 then 1 else if nI d = 3 then -1 else (0 : Int32))) || decide (9 ≤ nI (t / 12) + (if nI d = 2 then 1 else if nI d = 0 then -1 else (0 : Int32)))) = true := by decide +kernel
theorem cvp_dec : ∀ q < 5, ((0 : Int32) ≤ cv q ↔ ¬ cv q = -1) ∧ cv q ≤ 3 := by decide +kernel
section Pat
variable {c p fu k : Nat} {M S T X : Mem} {sc : Int32 → Int32} {ok : Nat → Bool}
theorem L923_s {nc np : Nat} (R : CR 0 M T) (WT : WF c p T) (W : WF c p S) (hX : XH c p S X) (E : STE c p S T ok) (y2 y3 y4 y18 : Int32) : ∀ (d q n : Nat) (a : Int32), q + d = 108 → d < n → m_S5_L923 fu sc nc np M X y2 y3 y4 y18 n a (nI q) = some (sumI (fun j => bI (decide (T 0 j = 0))) q d a) := by
  intro d
  induction d with
  | zero =>
    intro q n a hq hn
    obtain ⟨n, rfl⟩ := f1 hn
    rw [m_S5_L923, if_pos (show (108 : Int32) ≤ nI q from nI_le (a := 108) (by omega) (by omega))]
    rfl
  | succ d ih =>
    intro q n a hq hn
    obtain ⟨n, rfl⟩ := f1 hn
    have hq8 : q < 108 := by omega
    have e : m_X5_cell fu M 40 (nI q - nI q / 12 * 12) (nI q / 12) = some (Sum.inr (T 0 q)) := by
      rw [r12 (by omega), d12 (by omega), cell_k R (by omega) (by omega), show 12 * (q / 12) + q % 12 = q by omega]
    obtain ⟨x, hx, ex⟩ := WT.ce hq8
    obtain ⟨y, hy, ey⟩ := W.ce hq8
    have h9 := hX.2.2 q hq8
    have hh := E.2.2.2.2.2.1 q hq8
    have ht : (0 : Int32) ≤ T 0 q ↔ ¬ T 0 q = -1 := by rw [ex]; exact (cvp_dec x hx).1
    have hs : (0 : Int32) ≤ S 0 q ↔ ¬ S 0 q = -1 := by rw [ey]; exact (cvp_dec y hy).1
    have h3 : T 0 q ≤ 3 := by rw [ex]; exact (cvp_dec x hx).2
    have g1 : (if T 0 q = 0 then some (1 : Int32) else some (0 : Int32)) = some (bI (decide (T 0 q = 0))) := by
      by_cases h : T 0 q = 0
      · rw [if_pos h, decide_eq_true h]; rfl
      · rw [if_neg h, decide_eq_false h]; rfl
    have g2 : (if 0 ≤ T 0 q then some (0 : Int32) else some (1 : Int32)) = some (bI (decide (S 0 q = -1))) := by
      by_cases h : S 0 q = -1
      · rw [if_neg (fun z => ht.mp z (hh.mpr h)), decide_eq_true h]; rfl
      · rw [if_pos (ht.mpr (fun z => h (hh.mp z))), decide_eq_false h]; rfl
    have g3 : (if 0 ≤ S 0 q then some (0 : Int32) else some (1 : Int32)) = some (bI (decide (S 0 q = -1))) := by
      by_cases h : S 0 q = -1
      · rw [if_neg (fun z => hs.mp z h), decide_eq_true h]; rfl
      · rw [if_pos (hs.mpr h), decide_eq_false h]; rfl
    rw [m_S5_L923, if_neg (show ¬ (108 : Int32) ≤ nI q from nI_ge (b := 108) (by omega) (by omega)), e, nbd_r, g1, cb1_s, mlet_s, g2, cb1_s, chk_t (inb_nI hq8 (by decide)), nI_clamp (n := q) (by omega), h9, g3, cb1_s, if_pos rfl, if_pos h3, mlet_s, nI_1]
    exact ih (q + 1) n _ (by omega) (by omega)
theorem isFree_n (R : CR 0 M T) {x y : Int32} (h : x < 0 ∨ y < 0 ∨ 12 ≤ x ∨ 9 ≤ y) : m_L_isFree fu M 40 x y = some 0 := by
  unfold m_L_isFree
  by_cases h1 : x < 0
  · rw [if_pos h1]
  rw [if_neg h1]
  by_cases h2 : y < 0
  · rw [if_pos h2]
  rw [if_neg h2]
  by_cases h3 : (12 : Int32) ≤ x
  · rw [if_pos h3]
  rw [if_neg h3, if_pos (((h.resolve_left h1).resolve_left h2).resolve_left h3)]
theorem isFree_x (R : CR 0 M T) {u : Nat} (hu : u < 108) (h : ¬ T 0 u = 0) : m_L_isFree fu M 40 (nI (u % 12)) (nI (u / 12)) = some 0 := by
  unfold m_L_isFree
  rw [if_neg (nI_pos (by omega)), if_neg (nI_pos (by omega)), if_neg (show ¬ (12 : Int32) ≤ nI (u % 12) from nI_ge (b := 12) (by omega) (by omega)), if_neg (show ¬ (9 : Int32) ≤ nI (u / 12) from nI_ge (b := 9) (by omega) (by omega)), cell_k R (by omega) (by omega), show 12 * (u / 12) + u % 12 = u by omega, nbd_r, if_neg h]
theorem L1004_s (hf : 120 < fu) {nc np : Nat} (hnp : np = p) (R : CR 0 M T) (WT : WF c p T) (W : WF c p S) (DT : RD p T) (hX : XH c p S X) (E : STE c p S T ok) (y2 y4 y18 y24 : Int32) : ∀ (d i n : Nat), i + d = p → d < n → m_S5_L1004 fu sc nc np M X y2 (nI p) y4 y18 y24 n (nI i) = some () := by
  have h3 := W.p3
  subst hnp
  intro d
  induction d with
  | zero =>
    intro i n hi hn
    obtain ⟨n, rfl⟩ := f1 hn
    rw [m_S5_L1004, if_pos (nI_le (by omega) (by omega))]
  | succ d ih =>
    intro i n hi hn
    obtain ⟨n, rfl⟩ := f1 hn
    have hip : i < np := by omega
    obtain ⟨t, ht, et⟩ := W.po (i := i) (by omega)
    obtain ⟨t', ht', et'⟩ := WT.po (i := i) (by omega)
    have hI : inb (nI i) np = true := inb_nI hip (by omega)
    have k0 : inb 0 3 = true := by decide
    have k1 : inb 1 3 = true := by decide
    have k2 : inb 2 3 = true := by decide
    have x0 : X (6 + (nI i).toNatClampNeg) (0 : Int32).toNatClampNeg = nI (t % 12) := by
      rw [nI_clamp (by omega)]
      refine (hX.2.1 i 0 hip (by decide)).trans ?_
      show S 7 i - S 7 i / 12 * 12 = _
      rw [et, r12 ht]
    have x1 : X (6 + (nI i).toNatClampNeg) (1 : Int32).toNatClampNeg = nI (t / 12) := by
      rw [nI_clamp (by omega)]
      refine (hX.2.1 i 1 hip (by decide)).trans ?_
      show S 7 i / 12 = _
      rw [et, d12 ht]
    have x2 : X (6 + (nI i).toNatClampNeg) (2 : Int32).toNatClampNeg = nI (dirS S i) := by
      rw [nI_clamp (by omega)]
      exact hX.2.1 i 2 hip (by decide)
    have c0 : m_X5_guard fu M 40 (nI i) 0 = some (Sum.inr (nI (t' % 12))) := (guard_k (c := c) (w := 0) hf R WT DT hip (by decide)).trans (by show some (Sum.inr (T 7 i - T 7 i / 12 * 12)) = _; rw [et', r12 ht'])
    have c1 : m_X5_guard fu M 40 (nI i) 1 = some (Sum.inr (nI (t' / 12))) := (guard_k (c := c) (w := 1) hf R WT DT hip (by decide)).trans (by show some (Sum.inr (T 7 i / 12)) = _; rw [et', d12 ht'])
    have hcel := cell_k (fu := fu) R (a := t' % 12) (b := t' / 12) (by omega) (by omega)
    rw [show 12 * (t' / 12) + t' % 12 = t' by omega] at hcel
    have hfr : T 0 t' = 0 := by
      have := E.2.2.2.2.2.2.2.1.2 i hip
      rw [et', nI_clamp (by omega)] at this
      exact this
    have h7 := E.2.2.2.2.2.2.2.2.1 i hip
    rw [et, et', nI_clamp (n := t) (by omega)] at h7
    have hd : dirS S i < 4 := dir_lt
    have hdx := dx_dec t ht (dirS S i) hd
    generalize dirS S i = dr at x2 h7 hd hdx
    obtain ⟨ex, hex⟩ : ∃ ex : Int32, ex = (if nI dr = 1 then 1 else if nI dr = 3 then -1 else 0) := ⟨_, rfl⟩
    obtain ⟨ey, hey⟩ : ∃ ey : Int32, ey = (if nI dr = 2 then 1 else if nI dr = 0 then -1 else 0) := ⟨_, rfl⟩
    have gx : (if nI dr = 1 then some (1 : Int32) else (if nI dr = 3 then some (-1 : Int32) else some (0 : Int32))) = some ex := by
      rw [hex]
      by_cases h1 : nI dr = 1
      · rw [if_pos h1, if_pos h1]
      · rw [if_neg h1, if_neg h1]
        by_cases h2 : nI dr = 3
        · rw [if_pos h2, if_pos h2]
        · rw [if_neg h2, if_neg h2]
    have gy : (if nI dr = 2 then some (1 : Int32) else (if nI dr = 0 then some (-1 : Int32) else some (0 : Int32))) = some ey := by
      rw [hey]
      by_cases h1 : nI dr = 2
      · rw [if_pos h1, if_pos h1]
      · rw [if_neg h1, if_neg h1]
        by_cases h2 : nI dr = 0
        · rw [if_pos h2, if_pos h2]
        · rw [if_neg h2, if_neg h2]
    rw [← hex, ← hey] at hdx
    have hgo : ∀ (A : Option Int32), A = (if nI (t' % 12) = nI (t % 12) then (if nI (t' / 12) = nI (t / 12) then some (0 : Int32) else some (1 : Int32)) else some (1 : Int32)) → A = some (bI (decide (¬ t' = t))) := by
      intro A hA
      rw [hA]
      by_cases h : t' = t
      · rw [h, if_pos rfl, if_pos rfl, decide_eq_false (fun z => z rfl)]; rfl
      · rw [decide_eq_true h]
        by_cases h1 : nI (t' % 12) = nI (t % 12)
        · rw [if_pos h1]
          have h1 := (nI_eq (by omega) (by omega)).mp h1
          rw [if_neg (fun z => h (by have := (nI_eq (by omega) (by omega)).mp z; omega))]
          rfl
        · rw [if_neg h1]; rfl
    rw [m_S5_L1004, if_neg (nI_ge (by omega) (by omega))]
    simp only [hI, k0, k1, k2, chk_tt, x0, x1, x2, c0, c1, nbd_r, mlet_s]
    rw [hgo _ rfl, cb1_s, hcel, nbd_r, if_pos hfr, gx, gy]
    simp only [cb1_s]
    by_cases hm : cellv T (nb t dr) = 0
    · rw [if_pos hm] at h7
      cases hn9 : nb t dr with
      | none =>
        rw [hn9] at hm
        exact absurd hm (show ¬ (-1 : Int32) = 0 by decide)
      | some u =>
        have hu : u < 108 := nb_ok ht u hn9
        rw [hn9] at h7 hdx
        have h7 : nI t' = nI u := h7
        have eu : t' = u := (nI_eq (by omega) (by omega)).mp h7
        have hne : ¬ t' = t := by rw [eu]; exact nb_ne hn9 ht
        simp only [Bool.and_eq_true, decide_eq_true_eq] at hdx
        rw [decide_eq_true hne, if_neg (show ¬ bI true = 0 by decide), eu, if_pos hdx.1.symm, if_pos hdx.2.symm, cb1_s, if_neg (show ¬ bI true = 0 by decide), cb1_s, nI_1]
        exact ih (i + 1) n (by omega) (by omega)
    · rw [if_neg hm] at h7
      have eu : t' = t := (nI_eq (by omega) (by omega)).mp h7
      have hfree : m_L_isFree fu M 40 (nI (t % 12) + ex) (nI (t / 12) + ey) = some 0 := by
        cases hn9 : nb t dr with
        | none =>
          rw [hn9] at hdx
          simp only [Bool.or_eq_true, decide_eq_true_eq] at hdx
          exact isFree_n R (by
            rcases hdx with ((h | h) | h) | h
            · exact Or.inl h
            · exact Or.inr (Or.inl h)
            · exact Or.inr (Or.inr (Or.inl h))
            · exact Or.inr (Or.inr (Or.inr h)))
        | some u =>
          have hu : u < 108 := nb_ok ht u hn9
          rw [hn9] at hdx hm
          simp only [Bool.and_eq_true, decide_eq_true_eq] at hdx
          rw [hdx.1, hdx.2]
          exact isFree_x R hu hm
      rw [eu, decide_eq_false (fun z => z rfl), if_pos (show bI false = 0 by decide), cb1_s, if_pos (show bI false = 0 by decide), hfree, cb1_s, if_pos rfl, cb1_s, nI_1]
      exact ih (i + 1) n (by omega) (by omega)
/-! the ways -/
def gwB (T : Mem) (a b : Nat) : Bool := decide ((11 : Int32) ≤ wayS T (12 * a) (12 * b + 11))
theorem L1246_s (hf : 120 < fu) {nc np : Nat} (y2 y3 y4 y18 : Int32) {a : Nat} (ha : a < 9) : ∀ (d b n : Nat) (M : Mem) (z : Bool), CR 0 M T → b + d = 9 → d < n → ∃ M1, m_S5_L1246 fu sc nc np X y2 y3 y4 y18 (nI a) n M (bI z) (nI b) = some (M1, bI (z || anyB (gwB T a) b d)) ∧ ∀ x, x < 20 → M1 x = M x := by
  intro d
  induction d with
  | zero =>
    intro b n M z R hb hn
    obtain ⟨n, rfl⟩ := f1 hn
    rw [m_S5_L1246, if_pos (show (9 : Int32) ≤ nI b from nI_le (a := 9) (by omega) (by omega))]
    refine ⟨M, ?_, fun _ _ => rfl⟩
    show some (M, bI z) = some (M, bI (z || false))
    rw [Bool.or_false]
  | succ d ih =>
    intro b n M z R hb hn
    obtain ⟨n, rfl⟩ := f1 hn
    rw [m_S5_L1246, if_neg (show ¬ (9 : Int32) ≤ nI b from nI_ge (b := 9) (by omega) (by omega))]
    cases z with
    | true =>
      rw [if_neg (show ¬ bI true = 0 by decide)]
      exact ⟨M, rfl, fun _ _ => rfl⟩
    | false =>
      obtain ⟨M1, e1, w1⟩ := way_k (fu := fu) hf R (a := 0) (b := a) (a' := 11) (b' := b) (by omega) ha (by omega) (by omega)
      have e1 : m_X5_way fu M 40 0 (nI a) 11 (nI b) = some (Sum.inr (M1, wayS T (12 * a) (12 * b + 11))) := e1
      have g : (if wayS T (12 * a) (12 * b + 11) < 11 then some (0 : Int32) else some (1 : Int32)) = some (bI (gwB T a b)) := by
        unfold gwB
        by_cases h : wayS T (12 * a) (12 * b + 11) < 11
        · rw [if_pos h, decide_eq_false (Int32.not_le.mpr h)]; rfl
        · rw [if_neg h, decide_eq_true (Int32.not_lt.mp h)]; rfl
      obtain ⟨M2, e2, w2⟩ := ih (b + 1) n M1 (gwB T a b) (R.lo w1) (by omega) (by omega)
      rw [if_pos (show bI false = 0 by decide), e1, nbd_r, up2_s, g, cb1_s, mlet_s, nI_1, e2]
      exact ⟨M2, rfl, fun x hx => (w2 x hx).trans (w1 x hx)⟩
theorem L1236_s (hf : 120 < fu) {nc np : Nat} (y2 y3 y4 y18 : Int32) : ∀ (d a n : Nat) (M : Mem) (z : Bool), CR 0 M T → a + d = 9 → d < n → ∃ M1, m_S5_L1236 fu sc nc np X y2 y3 y4 y18 n M (bI z) (nI a) = some (M1, bI (z || anyB (fun a => anyB (gwB T a) 0 9) a d)) ∧ ∀ x, x < 20 → M1 x = M x := by
  intro d
  induction d with
  | zero =>
    intro a n M z R hb hn
    obtain ⟨n, rfl⟩ := f1 hn
    rw [m_S5_L1236, if_pos (show (9 : Int32) ≤ nI a from nI_le (a := 9) (by omega) (by omega))]
    refine ⟨M, ?_, fun _ _ => rfl⟩
    show some (M, bI z) = some (M, bI (z || false))
    rw [Bool.or_false]
  | succ d ih =>
    intro a n M z R hb hn
    obtain ⟨n, rfl⟩ := f1 hn
    obtain ⟨M1, e1, w1⟩ := L1246_s (fu := fu) (sc := sc) (X := X) (nc := nc) (np := np) hf y2 y3 y4 y18 (a := a) (by omega) 9 0 fu M z R (by omega) (by omega)
    rw [nI_0] at e1
    obtain ⟨M2, e2, w2⟩ := ih (a + 1) n M1 (z || anyB (gwB T a) 0 9) (R.lo w1) (by omega) (by omega)
    rw [m_S5_L1236, if_neg (show ¬ (9 : Int32) ≤ nI a from nI_ge (b := 9) (by omega) (by omega)), e1, cb1_s, up2_s, mlet_s, nI_1, e2, Bool.or_assoc]
    exact ⟨M2, rfl, fun x hx => (w2 x hx).trans (w1 x hx)⟩
theorem gw_iff {r : Nat} (h : ShV T r) : anyB (fun a => anyB (gwB T a) 0 9) 0 9 = true ↔ ¬ r = 0 := by
  rw [h.way, anyB_iff]
  constructor
  · rintro ⟨a, -, ha, h1⟩ hno
    obtain ⟨b, -, hb, h2⟩ := (anyB_iff 9 0).mp h1
    have h3 := (way_11 (S := T) (u := 12 * a) (v := 12 * b + 11) (by omega) (by omega) (by omega) (by omega)).mp (of_decide_eq_true h2)
    exact hno (12 * a) (12 * b + 11) (by omega) (by omega) h3.1 h3.2 (by omega)
  · intro hn
    refine Classical.byContradiction (fun hz => hn (fun u v hu h0 hf hr h11 => hz ?_))
    have hv := (hr.ok hu hf).1
    refine ⟨u / 12, Nat.zero_le _, by omega, (anyB_iff 9 0).mpr ⟨v / 12, Nat.zero_le _, by omega, ?_⟩⟩
    unfold gwB
    rw [show 12 * (u / 12) = u by omega, show 12 * (v / 12) + 11 = v by omega]
    exact decide_eq_true ((way_11 hu hv h0 h11).mpr ⟨hf, hr⟩)
end Pat

/-! ===== the law ahead of its checks: what it tells, what it keeps ===== -/
theorem up2_s {A B C : Type} (f : A → B → C) (a : A) (b : B) : up2 f (a, b) = f a b := rfl
theorem up3_s {A B C E : Type} (f : A → B → C → E) (a : A) (b : B) (c : C) : up3 f (a, b, c) = f a b c := rfl
section Tell
variable {c p fu k : Nat} {M S T X : Mem} {sc : Int32 → Int32}
theorem MIS.step (W : WF c p S) (F : FRE c p S) (h : MIS c k S) : MIS c (k + 1) (stepS S c p) := by
  obtain ⟨ok, -, e2, e3, -⟩ := step_eff W F
  intro j hj
  obtain ⟨q, hq, eq⟩ := h j hj
  by_cases hz : dzB S j = true
  · obtain ⟨-, e5, -⟩ := e3 j hj hz
    by_cases ho : ok j = true
    · rw [if_pos ho] at e5
      exact ⟨q, by omega, by rw [e5, eq]⟩
    · rw [if_neg ho] at e5
      exact ⟨q + 1, by omega, by rw [e5, eq, nI_1]⟩
  · have hz : dzB S j = false := by
      cases h9 : dzB S j with
      | true => exact absurd h9 hz
      | false => rfl
    obtain ⟨-, -, e5⟩ := e2 j hj hz
    exact ⟨q, by omega, by rw [e5, eq]⟩
theorem stN_inv : ∀ (d k : Nat) (S : Mem), WF c p S → RD p S → FRE c p S → MIS c k S → WF c p (stN S c p d) ∧ RD p (stN S c p d) ∧ FRE c p (stN S c p d) ∧ MIS c (k + d) (stN S c p d)
  | 0, _, _, W, D, F, H => ⟨W, D, F, H⟩
  | d + 1, k, S, W, D, F, H => by
    obtain ⟨ok, e⟩ := step_eff W F
    have h := stN_inv d (k + 1) (stepS S c p) (W.step D) (D.keep Kp.step) e.2.2.2.2.2.2.2.1 (H.step W F)
    rw [show k + (d + 1) = k + 1 + d by omega]
    exact h
theorem cel_s {j : Nat} (hj : j < 2 ^ 31) : m_L_cell sc (nI j) = some (sc (nI j)) := by
  unfold m_L_cell
  rw [if_neg (nI_pos hj)]
theorem bel_s (x : Int32) {n : Nat} (h0 : 0 < n) (hn : n < 2 ^ 30) : ∃ j, j < n ∧ m_L_below fu M x (nI n) = some (nI j) := by
  obtain ⟨z, hz, ez⟩ := pk_andE x (m := 2147483647) 31 (by decide)
  refine ⟨z % n, Nat.mod_lt _ h0, ?_⟩
  unfold m_L_below
  rw [chk_t (decide_eq_true (nI_ne0 h0 (by omega))), mlet_s, ez, pk_rem (by omega) h0 (by omega)]
theorem there_s (hf : 120 < fu) (R : CR 0 M S) (W : WF c p S) {i : Nat} (hi : i < c) : m_L_isThere fu M 40 (nI i) = some (M, 1) := by
  have h6 := W.c6
  have e := crowd_k (fu := fu) hf R W (w := 0) hi (by decide)
  have e : m_X5_crowd fu M 40 (nI i) 0 = some (Sum.inr (S 1 i - S 1 i / 12 * 12)) := e
  obtain ⟨q, hq, eq⟩ := W.pl (i := i) (by omega)
  unfold m_L_isThere
  rw [e, lb_r, eq, r12 hq, if_neg (nI_pos (by omega))]
theorem there_n (R : CR 0 M S) (W : WF c p S) : m_L_isThere fu M 40 (nI c) = some (M, 0) := by
  unfold m_L_isThere m_X5_crowd
  rw [needC_n R W]
  rfl
theorem S0_L7 (hf : 120 < fu) {nc np : Nat} (R : CR 0 M S) (W : WF c p S) : ∀ (d i n : Nat), i + d = c → d < n → m_S0_L7 fu sc nc np X n M (nI i) = some (M, nI c) := by
  have h6 := W.c6
  intro d
  induction d with
  | zero =>
    intro i n hi hn
    obtain ⟨n, rfl⟩ := f1 hn
    have hi : i = c := by omega
    subst hi
    rw [m_S0_L7]
    by_cases h : (6 : Int32) ≤ nI i
    · rw [if_pos h]
    · rw [if_neg h, there_n R W, cb2_s, if_pos rfl]
  | succ d ih =>
    intro i n hi hn
    obtain ⟨n, rfl⟩ := f1 hn
    rw [m_S0_L7, if_neg (show ¬ (6 : Int32) ≤ nI i from nI_ge (b := 6) (by omega) (by omega)), there_s hf R W (by omega), cb2_s, if_neg (by decide), mlet_s, nI_1]
    exact ih (i + 1) n (by omega) (by omega)
theorem S0_s (hf : 120 < fu) (nc np : Nat) (X : Mem) (R : CR 0 M S) (W : WF c p S) : m_S0 fu sc nc np M X = some (M, nI c, nI p) := by
  have h6 := W.c6
  unfold m_S0
  have e := S0_L7 (fu := fu) (sc := sc) (nc := nc) (np := np) (X := X) hf R W c 0 8 (by omega) (by omega)
  rw [nI_0] at e
  have e2 : m_X5_count fu M 40 6 = some (Sum.inr (nI p)) := count_k (w := 6) hf R W (by decide)
  rw [e, cb1_s, up2_s, e2, nbd_r]
theorem lorder_r {M1 : Mem} {x y r : Int32} (h : m_X5_order fu M 40 x y = some (Sum.inr (M1, r))) : m_L_order fu M 40 x y = some (M1, r) := by
  unfold m_L_order
  rw [h]
  rfl
theorem lorder_n {x y : Int32} (h : m_X5_order fu M 40 x y = some (Sum.inl 2)) : m_L_order fu M 40 x y = some (M, -1) := by
  unfold m_L_order
  rw [h]
  rfl
theorem WF.add (W : WF c p S) {i m j : Nat} (hm : m < 24) (hj : j < 12) : WF c p (addS S i m j) := (W.w6 ⟨j, hj, rfl⟩).w4 ⟨m + 1, by omega, rfl⟩
theorem S1_s (hf : 120 < fu) {t : Nat} (ht : t < 20) (R : CR 0 M S) (W : WF c p S) (D : RD p S) (F : FRE c p S) (H : MIS c k S) : ∃ M1 S1 w, m_S1 fu sc c p M X (nI c) (nI p) (nI t) = some (M1, nI w) ∧ w < 6 ∧ CR 0 M1 S1 ∧ WF c p S1 ∧ RD p S1 ∧ FRE c p S1 ∧ MIS c k S1 := by
  have h6 := W.c6
  unfold m_S1
  rw [show nI t - nI t / 16 * 16 = nI (t % 16) from pk_rem (a := t) (d := 16) (by omega) (by decide) (by decide), cel_s (by omega), cb1_s, mlet_s]
  generalize sc (nI (t % 16)) >>> (nI t / 16 * 5 &&& 31) = v
  obtain ⟨code, hc, e1⟩ := bel_s (fu := fu) (M := M) (v >>> (4 &&& 31)) (n := 12) (by decide) (by decide)
  obtain ⟨w, hw, e2⟩ := bel_s (fu := fu) (M := M) (v >>> (2 &&& 31)) (n := 6) (by decide) (by decide)
  have e1 : m_L_below fu M (v >>> (4 &&& 31)) 12 = some (nI code) := e1
  have e2 : m_L_below fu M (v >>> (2 &&& 31)) 6 = some (nI w) := e2
  rw [e1, cb1_s, e2, cb1_s]
  by_cases hwc : c ≤ w
  · rw [if_pos (nI_le hwc (by omega))]
    exact ⟨M, S, w, rfl, hw, R, W, D, F, H⟩
  · have hwc : w < c := by omega
    obtain ⟨m, hm, em⟩ := W.oc (i := w) (by omega)
    have e4 : m_X5_crowd fu M 40 (nI w) 4 = some (Sum.inr (nI m)) := (crowd_k (w := 4) hf R W hwc (by decide)).trans (by show some (Sum.inr (S 4 w)) = _; rw [em])
    rw [if_neg (nI_ge hwc (by omega)), e4, nbd_r]
    by_cases hn : S 2 w = 0 ∨ m = 24
    · have e5 := lorder_n (order_n (fu := fu) R W hwc hc em hm hn)
      have e6 : m_X5_crowd fu M 40 (nI w) 2 = some (Sum.inr (S 2 w)) := crowd_k (w := 2) hf R W hwc (by decide)
      rw [e5, cb2_s, e6, nbd_r]
      by_cases h2 : S 2 w = 0
      · rw [if_pos (by rw [h2]; decide), cb1_s, if_pos rfl]
        exact ⟨M, S, w, rfl, hw, R, W, D, F, H⟩
      · have h24 := hn.resolve_left h2
        subst h24
        rw [if_neg (fun z => h2 ((W.sc (by omega)).mp z)), if_pos (by decide), cb1_s, if_pos rfl]
        exact ⟨M, S, w, rfl, hw, R, W, D, F, H⟩
    · have h2 : ¬ S 2 w = 0 := fun z => hn (Or.inl z)
      have hm24 : m < 24 := by
        have : ¬ m = 24 := fun z => hn (Or.inr z)
        omega
      obtain ⟨M1, e5, R1⟩ := order_k (fu := fu) R W hwc hc h2 em hm24
      have W1 : WF c p (addS S w m code) := W.add hm24 hc
      have e6 : m_X5_crowd fu M1 40 (nI w) 2 = some (Sum.inr (S 2 w)) := crowd_k (w := 2) hf R1 W1 hwc (by decide)
      rw [lorder_r e5, cb2_s, e6, nbd_r, if_neg (fun z => h2 ((W.sc (by omega)).mp z)), if_neg (show ¬ (24 : Int32) ≤ nI m from nI_ge (b := 24) hm24 (by omega)), nI_1, cb1_s, if_pos rfl]
      exact ⟨M1, _, w, rfl, hw, R1, W1, D.keep ((Kp.wr (by decide)).tr (Kp.wr (by decide))), F.cg (mst_ne (by decide)) (mst_ne (by decide)) (mst_ne (by decide)) (mst_ne (by decide)), H⟩
/-! what it keeps -/
theorem S2_L163 (hf : 120 < fu) {nc np : Nat} (R : CR 0 M S) (W : WF c p S) (y2 y3 y4 y7 : Int32) {i : Nat} (hi : i < c) (hnc : nc = c) : ∀ (d w n : Nat) (X : Mem), w + d = 8 → d < n → ∃ X1, m_S2_L163 fu sc nc np M y2 y3 y4 y7 (nI i) n X (nI w) = some X1 ∧ ∀ a b, X1 a b = if a = i ∧ w ≤ b ∧ b < 8 then crdS S p i b else X a b := by
  have h6 := W.c6
  subst hnc
  intro d
  induction d with
  | zero =>
    intro w n X hw hn
    obtain ⟨n, rfl⟩ := f1 hn
    rw [m_S2_L163, if_pos (show (8 : Int32) ≤ nI w from nI_le (a := 8) (by omega) (by omega))]
    exact ⟨X, rfl, fun a b => by rw [if_neg (fun z => by omega)]⟩
  | succ d ih =>
    intro w n X hw hn
    obtain ⟨n, rfl⟩ := f1 hn
    rw [m_S2_L163, if_neg (show ¬ (8 : Int32) ≤ nI w from nI_ge (b := 8) (by omega) (by omega)), chk_t (inb_nI hi (by omega)), crowd_k hf R W hi (by omega), nbd_r, chk_t (inb_nI (by omega) (by decide)), nI_clamp (n := i) (by omega), nI_clamp (n := w) (by omega), mlet_s, mlet_s, nI_1]
    obtain ⟨X1, e1, h1⟩ := ih (w + 1) n (mst X i w (crdS S p i w)) (by omega) (by omega)
    refine ⟨X1, e1, fun a b => ?_⟩
    rw [h1]
    by_cases e : a = i ∧ w + 1 ≤ b ∧ b < 8
    · rw [if_pos e, if_pos ⟨e.1, by omega, e.2.2⟩]
    · rw [if_neg e]
      by_cases e2 : a = i ∧ b = w
      · obtain ⟨rfl, rfl⟩ := e2
        rw [mst_s, if_pos ⟨rfl, by omega, by omega⟩]
      · rw [mst_o e2, if_neg (fun z => by
          have : ¬ (a = i ∧ b = w) := e2
          omega)]
theorem S2_L154 (hf : 120 < fu) {nc np : Nat} (R : CR 0 M S) (W : WF c p S) (y3 y4 y7 : Int32) (hnc : nc = c) : ∀ (d i n : Nat) (X : Mem), i + d = c → d < n → ∃ X1, m_S2_L154 fu sc nc np M (nI c) y3 y4 y7 n X (nI i) = some X1 ∧ ∀ a b, X1 a b = if i ≤ a ∧ a < c ∧ b < 8 then crdS S p a b else X a b := by
  have h6 := W.c6
  intro d
  induction d with
  | zero =>
    intro i n X hi hn
    obtain ⟨n, rfl⟩ := f1 hn
    rw [m_S2_L154, if_pos (nI_le (by omega) (by omega))]
    exact ⟨X, rfl, fun a b => by rw [if_neg (fun z => by omega)]⟩
  | succ d ih =>
    intro i n X hi hn
    obtain ⟨n, rfl⟩ := f1 hn
    obtain ⟨X0, e0, h0⟩ := S2_L163 (fu := fu) (sc := sc) (np := np) hf R W (nI c) y3 y4 y7 (i := i) (by omega) hnc 8 0 fu X (by omega) (by omega)
    rw [nI_0] at e0
    rw [m_S2_L154, if_neg (nI_ge (by omega) (by omega)), e0, cb1_s, mlet_s, nI_1]
    obtain ⟨X1, e1, h1⟩ := ih (i + 1) n X0 (by omega) (by omega)
    refine ⟨X1, e1, fun a b => ?_⟩
    rw [h1]
    by_cases e : i + 1 ≤ a ∧ a < c ∧ b < 8
    · rw [if_pos e, if_pos ⟨by omega, e.2⟩]
    · rw [if_neg e, h0]
      by_cases e2 : a = i ∧ 0 ≤ b ∧ b < 8
      · obtain ⟨rfl, -, h8⟩ := e2
        rw [if_pos ⟨rfl, by omega, h8⟩, if_pos ⟨Nat.le_refl a, by omega, h8⟩]
      · rw [if_neg e2, if_neg (fun z => by omega)]
theorem S3_L218 (hf : 120 < fu) {nc np : Nat} (R : CR 0 M S) (W : WF c p S) (D : RD p S) (y2 y3 y4 y7 : Int32) {i : Nat} (hi : i < p) (hnp : np = p) : ∀ (d w n : Nat) (X : Mem), w + d = 3 → d < n → ∃ X1, m_S3_L218 fu sc nc np M y2 y3 y4 y7 (nI i) n X (nI w) = some X1 ∧ ∀ a b, X1 a b = if a = 6 + i ∧ w ≤ b ∧ b < 3 then grdS S c i b else X a b := by
  have h3 := W.p3
  subst hnp
  intro d
  induction d with
  | zero =>
    intro w n X hw hn
    obtain ⟨n, rfl⟩ := f1 hn
    rw [m_S3_L218, if_pos (show (3 : Int32) ≤ nI w from nI_le (a := 3) (by omega) (by omega))]
    exact ⟨X, rfl, fun a b => by rw [if_neg (fun z => by omega)]⟩
  | succ d ih =>
    intro w n X hw hn
    obtain ⟨n, rfl⟩ := f1 hn
    rw [m_S3_L218, if_neg (show ¬ (3 : Int32) ≤ nI w from nI_ge (b := 3) (by omega) (by omega)), chk_t (inb_nI hi (by omega)), guard_k (c := c) hf R W D hi (by omega), nbd_r, chk_t (inb_nI (by omega) (by decide)), nI_clamp (n := i) (by omega), nI_clamp (n := w) (by omega), mlet_s, mlet_s, nI_1]
    obtain ⟨X1, e1, h1⟩ := ih (w + 1) n (mst X (6 + i) w (grdS S c i w)) (by omega) (by omega)
    refine ⟨X1, e1, fun a b => ?_⟩
    rw [h1]
    by_cases e : a = 6 + i ∧ w + 1 ≤ b ∧ b < 3
    · rw [if_pos e, if_pos ⟨e.1, by omega, e.2.2⟩]
    · rw [if_neg e]
      by_cases e2 : a = 6 + i ∧ b = w
      · obtain ⟨rfl, rfl⟩ := e2
        rw [mst_s, if_pos ⟨rfl, by omega, by omega⟩]
      · rw [mst_o e2, if_neg (fun z => by
          have : ¬ (a = 6 + i ∧ b = w) := e2
          omega)]
theorem S3_L209 (hf : 120 < fu) {nc np : Nat} (R : CR 0 M S) (W : WF c p S) (D : RD p S) (y2 y4 y7 : Int32) (hnp : np = p) : ∀ (d i n : Nat) (X : Mem), i + d = p → d < n → ∃ X1, m_S3_L209 fu sc nc np M y2 (nI p) y4 y7 n X (nI i) = some X1 ∧ ∀ a b, X1 a b = if 6 + i ≤ a ∧ a < 6 + p ∧ b < 3 then grdS S c (a - 6) b else X a b := by
  have h3 := W.p3
  intro d
  induction d with
  | zero =>
    intro i n X hi hn
    obtain ⟨n, rfl⟩ := f1 hn
    rw [m_S3_L209, if_pos (nI_le (by omega) (by omega))]
    exact ⟨X, rfl, fun a b => by rw [if_neg (fun z => by omega)]⟩
  | succ d ih =>
    intro i n X hi hn
    obtain ⟨n, rfl⟩ := f1 hn
    obtain ⟨X0, e0, h0⟩ := S3_L218 (fu := fu) (sc := sc) (nc := nc) hf R W D y2 (nI p) y4 y7 (i := i) (by omega) hnp 3 0 fu X (by omega) (by omega)
    rw [nI_0] at e0
    rw [m_S3_L209, if_neg (nI_ge (by omega) (by omega)), e0, cb1_s, mlet_s, nI_1]
    obtain ⟨X1, e1, h1⟩ := ih (i + 1) n X0 (by omega) (by omega)
    refine ⟨X1, e1, fun a b => ?_⟩
    rw [h1]
    by_cases e : 6 + (i + 1) ≤ a ∧ a < 6 + p ∧ b < 3
    · rw [if_pos e, if_pos ⟨by omega, e.2⟩]
    · rw [if_neg e, h0]
      by_cases e2 : a = 6 + i ∧ 0 ≤ b ∧ b < 3
      · obtain ⟨rfl, -, h8⟩ := e2
        rw [if_pos ⟨rfl, by omega, h8⟩, if_pos ⟨Nat.le_refl _, by omega, h8⟩, show 6 + i - 6 = i by omega]
      · rw [if_neg e2, if_neg (fun z => by omega)]
theorem S4_L261 {nc np : Nat} (R : CR 0 M S) (y2 y3 y4 y7 : Int32) : ∀ (d q n : Nat) (X : Mem), q + d = 108 → d < n → ∃ X1, m_S4_L261 fu sc nc np M y2 y3 y4 y7 n X (nI q) = some X1 ∧ ∀ a b, X1 a b = if a = 9 ∧ q ≤ b ∧ b < 108 then S 0 b else X a b := by
  intro d
  induction d with
  | zero =>
    intro q n X hq hn
    obtain ⟨n, rfl⟩ := f1 hn
    rw [m_S4_L261, if_pos (show (108 : Int32) ≤ nI q from nI_le (a := 108) (by omega) (by omega))]
    exact ⟨X, rfl, fun a b => by rw [if_neg (fun z => by omega)]⟩
  | succ d ih =>
    intro q n X hq hn
    obtain ⟨n, rfl⟩ := f1 hn
    have e : m_X5_cell fu M 40 (nI q - nI q / 12 * 12) (nI q / 12) = some (Sum.inr (S 0 q)) := by
      rw [r12 (by omega), d12 (by omega), cell_k R (by omega) (by omega), show 12 * (q / 12) + q % 12 = q by omega]
    rw [m_S4_L261, if_neg (show ¬ (108 : Int32) ≤ nI q from nI_ge (b := 108) (by omega) (by omega)), e, nbd_r, chk_t (inb_nI (by omega) (by decide)), nI_clamp (n := q) (by omega), mlet_s, mlet_s, nI_1]
    obtain ⟨X1, e1, h1⟩ := ih (q + 1) n (mst X 9 q (S 0 q)) (by omega) (by omega)
    refine ⟨X1, e1, fun a b => ?_⟩
    rw [h1]
    by_cases e : a = 9 ∧ q + 1 ≤ b ∧ b < 108
    · rw [if_pos e, if_pos ⟨e.1, by omega, e.2.2⟩]
    · rw [if_neg e]
      by_cases e2 : a = 9 ∧ b = q
      · obtain ⟨rfl, rfl⟩ := e2
        rw [mst_s, if_pos ⟨rfl, by omega, by omega⟩]
      · rw [mst_o e2, if_neg (fun z => by
          have : ¬ (a = 9 ∧ b = q) := e2
          omega)]
/-- the arrays hold what stood ahead of the step -/
def XH (c p : Nat) (S X : Mem) : Prop := (∀ i w, i < c → w < 8 → X i w = crdS S p i w) ∧ (∀ i w, i < p → w < 3 → X (6 + i) w = grdS S c i w) ∧ ∀ q, q < 108 → X 9 q = S 0 q
theorem keep_s (hf : 120 < fu) (R : CR 0 M S) (W : WF c p S) (D : RD p S) (t x7 : Int32) : ∃ X1 X2 X3, m_S2 fu sc c p M (fun _ _ => 0) (nI c) (nI p) t x7 = some X1 ∧ m_S3 fu sc c p M (zr 6 9 X1) (nI c) (nI p) t x7 = some X2 ∧ m_S4 fu sc c p M (zr 9 10 X2) (nI c) (nI p) t x7 = some X3 ∧ XH c p S X3 := by
  have h6 := W.c6
  have h3 := W.p3
  obtain ⟨X1, e1, h1⟩ := S2_L154 (fu := fu) (sc := sc) (nc := c) (np := p) hf R W (nI p) t x7 rfl c 0 fu (fun _ _ => 0) (by omega) (by omega)
  obtain ⟨X2, e2, h2⟩ := S3_L209 (fu := fu) (sc := sc) (nc := c) (np := p) hf R W D (nI c) t x7 rfl p 0 fu (zr 6 9 X1) (by omega) (by omega)
  obtain ⟨X3, e3, h3'⟩ := S4_L261 (fu := fu) (sc := sc) (nc := c) (np := p) R (nI c) (nI p) t x7 108 0 fu (zr 9 10 X2) (by omega) (by omega)
  rw [nI_0] at e1 e2 e3
  refine ⟨X1, X2, X3, ?_, ?_, ?_, fun i w hi hw => ?_, fun i w hi hw => ?_, fun q hq => ?_⟩
  · unfold m_S2
    rw [e1]
    rfl
  · unfold m_S3
    rw [e2]
    rfl
  · unfold m_S4
    rw [e3]
    rfl
  · rw [h3', if_neg (fun z => by omega), zr_out (by omega), h2, if_neg (fun z => by omega), zr_out (by omega), h1, if_pos ⟨by omega, hi, hw⟩]
  · rw [h3', if_neg (fun z => by omega), zr_out (by omega), h2, if_pos ⟨by omega, by omega, hw⟩, show 6 + i - 6 = i by omega]
  · rw [h3', if_pos ⟨rfl, by omega, hq⟩]
end Tell

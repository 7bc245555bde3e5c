/-! ===== the quarter is chosen ===== -/
/-- while it is chosen: nobody is scattered, no order missed; the crowds from k on have no orders -/
def QI (c p k : Nat) (M S : Mem) : Prop := CR 0 M S ∧ WF c p S ∧ RD p S ∧ FRE c p S ∧ (∀ i, i < 6 → S 5 i = 0) ∧ (∀ i, i < c → ¬ S 2 i = 0) ∧ ∀ i, k ≤ i → i < 6 → S 4 i = 0
theorem msk_dec : ∀ ln < 13, ln = 0 ∨ (((1 : Int32) <<< ((2 * nI ln) &&& 31)) - 1).toBitVec.toNat = 2 ^ (2 * ln) - 1 := by decide +kernel
theorem pw_dec : ∀ ln < 13, 2 ^ (2 * ln) = 4 ^ ln := by decide
theorem cv_j (j : Nat) : nI j = cv (j + 1) := by
  unfold cv
  rw [nI_pred]
section Qua
variable {c p fu k : Nat} {M S X : Mem} {sc : Int32 → Int32}
theorem QI.cell (h : QI 0 0 k M S) {M1 : Mem} {q : Nat} {x : Int32} (hx : ∃ r, r < 5 ∧ x = cv r) (R : CR 0 M1 (mst S 0 q x)) : QI 0 0 k M1 (mst S 0 q x) := by
  obtain ⟨-, W, -, -, h5, -, h4⟩ := h
  refine ⟨R, W.w0 hx, fun i hi => by omega, ⟨fun i hi => by omega, fun i hi => by omega⟩, fun i hi => ?_, fun i hi => by omega, fun i h1 h2 => ?_⟩
  · rw [mst_ne (show (5 : Nat) ≠ 0 by decide)]
    exact h5 i hi
  · rw [mst_ne (show (4 : Nat) ≠ 0 by decide)]
    exact h4 i h1 h2
theorem idx_s (a i : Nat) (hi : i < 2 ^ 20) (ha : a < 2 ^ 20) : nI a + (nI i - nI i / 3 * 3) = nI (a + i % 3) := by
  rw [show nI i - nI i / 3 * 3 = nI (i % 3) from pk_rem (a := i) (d := 3) (by omega) (by decide) (by decide), nI_add]
theorem Q_L21 (hf : 30 < fu) {nc np h : Nat} (hh : h < 40) : ∀ (d i n : Nat) (M S : Mem), QI 0 0 0 M S → i + d = h → d < n → ∃ M1 S1, m_Q0_L21 fu sc nc np X (nI h) n M (nI i) = some M1 ∧ QI 0 0 0 M1 S1 := by
  intro d
  induction d with
  | zero =>
    intro i n M S hQ hi hn
    obtain ⟨n, rfl⟩ := f1 hn
    rw [m_Q0_L21, if_pos (nI_le (by omega) (by omega))]
    exact ⟨M, S, rfl, hQ⟩
  | succ d ih =>
    intro i n M S hQ hi hn
    obtain ⟨n, rfl⟩ := f1 hn
    obtain ⟨R, W, -⟩ := id hQ
    rw [m_Q0_L21, if_neg (nI_ge (by omega) (by omega)), show (1 : Int32) + (nI i - nI i / 3 * 3) = nI (1 + i % 3) from idx_s 1 i (by omega) (by decide), cel_s (by omega), cb1_s, mlet_s]
    generalize sc (nI (1 + i % 3)) >>> (nI i / 3 &&& 31) + 53 * nI i = v
    obtain ⟨a, ha, e1⟩ := bel_s (fu := fu) (M := M) v (n := 12) (by decide) (by decide)
    obtain ⟨b, hb, e2⟩ := bel_s (fu := fu) (M := M) (v >>> (4 &&& 31)) (n := 9) (by decide) (by decide)
    have e1 : m_L_below fu M v 12 = some (nI a) := e1
    have e2 : m_L_below fu M (v >>> (4 &&& 31)) 9 = some (nI b) := e2
    simp only [e1, e2, cb1_s]
    rw [cell_k R ha hb, nbd_r]
    by_cases h0 : S 0 (12 * b + a) = 0
    · obtain ⟨M1, e3, R1⟩ := house_k (fu := fu) hf R W ha hb h0
      rw [if_pos h0, e3, nbd_r, up2_s, cb1_s, mlet_s, nI_1]
      exact ih (i + 1) n M1 _ (hQ.cell ⟨0, by decide, rfl⟩ R1) (by omega) (by omega)
    · rw [if_neg h0, cb1_s, mlet_s, nI_1]
      exact ih (i + 1) n M S hQ (by omega) (by omega)
theorem Q_L113 (hf : 30 < fu) {nc np h : Nat} (hh : h < 40) : ∀ (d i n : Nat) (M S : Mem), QI 0 0 0 M S → i + d = h → d < n → ∃ M1 S1, m_Q0_L113 fu sc nc np X (nI h) n M (nI i) = some M1 ∧ QI 0 0 0 M1 S1 := by
  intro d
  induction d with
  | zero =>
    intro i n M S hQ hi hn
    obtain ⟨n, rfl⟩ := f1 hn
    rw [m_Q0_L113, if_pos (nI_le (by omega) (by omega))]
    exact ⟨M, S, rfl, hQ⟩
  | succ d ih =>
    intro i n M S hQ hi hn
    obtain ⟨n, rfl⟩ := f1 hn
    obtain ⟨R, W, -⟩ := id hQ
    rw [m_Q0_L113, if_neg (nI_ge (by omega) (by omega)), show (4 : Int32) + (nI i - nI i / 3 * 3) = nI (4 + i % 3) from idx_s 4 i (by omega) (by decide), cel_s (by omega), cb1_s, mlet_s]
    generalize sc (nI (4 + i % 3)) >>> (nI i / 3 &&& 31) + 71 * nI i = v
    obtain ⟨a, ha, e1⟩ := bel_s (fu := fu) (M := M) v (n := 12) (by decide) (by decide)
    obtain ⟨b, hb, e2⟩ := bel_s (fu := fu) (M := M) (v >>> (4 &&& 31)) (n := 9) (by decide) (by decide)
    obtain ⟨j, hj, e4⟩ := bel_s (fu := fu) (M := M) (v >>> (3 &&& 31)) (n := 3) (by decide) (by decide)
    have e1 : m_L_below fu M v 12 = some (nI a) := e1
    have e2 : m_L_below fu M (v >>> (4 &&& 31)) 9 = some (nI b) := e2
    have e4 : m_L_below fu M (v >>> (3 &&& 31)) 3 = some (nI j) := e4
    simp only [e1, e2, e4, cb1_s]
    rw [cell_k R ha hb, nbd_r]
    by_cases h0 : S 0 (12 * b + a) < 0
    · rw [if_pos h0, cb1_s, mlet_s, nI_1]
      exact ih (i + 1) n M S hQ (by omega) (by omega)
    · obtain ⟨M1, e3, R1⟩ := block_k (fu := fu) (j := 1 + j) hf R W ha hb (by omega) (fun z => h0 (by rw [z]; decide))
      rw [if_neg h0, show (1 : Int32) + nI j = nI (1 + j) from nI_add 1 j, e3, nbd_r, up2_s, cb1_s, mlet_s, nI_1]
      exact ih (i + 1) n M1 _ (hQ.cell ⟨1 + j + 1, by omega, cv_j _⟩ R1) (by omega) (by omega)
theorem QI.gat (h : QI c p k M S) {M1 : Mem} {q v : Nat} (hc : c < 6) (hq : q < 108) (h0 : S 0 q = 0) (hv1 : 1 ≤ v) (hv : v ≤ 9) (R : CR 0 M1 (gatS S c q v)) : QI (c + 1) p k M1 (gatS S c q v) := by
  obtain ⟨-, W, D, F, h5, h2, h4⟩ := h
  have g0 : gatS S c q v 0 = S 0 := by
    unfold gatS
    rw [mst_ne (by decide), mst_ne (by decide), mst_ne (by decide), mst_ne (by decide)]
  have g7 : gatS S c q v 7 = S 7 := by
    unfold gatS
    rw [mst_ne (by decide), mst_ne (by decide), mst_ne (by decide), mst_ne (by decide)]
  have g1 : ∀ i, gatS S c q v 1 i = if i = c then nI q else S 1 i := fun i => by
    unfold gatS
    rw [mst_ne (by decide), mst_ne (by decide), mst_ne (by decide)]
    by_cases e : i = c
    · subst e
      rw [mst_s, if_pos rfl]
    · rw [mst_o (fun z => e z.2), if_neg e]
  have g2 : ∀ i, gatS S c q v 2 i = if i = c then nI v else S 2 i := fun i => by
    unfold gatS
    rw [mst_ne (by decide), mst_ne (by decide)]
    by_cases e : i = c
    · subst e
      rw [mst_s, if_pos rfl]
    · rw [mst_o (fun z => e z.2), if_neg e, mst_ne (by decide)]
  refine ⟨R, W.gat hc hq (by omega), fun i hi => ?_, ⟨fun i hi hne => ?_, fun i hi => ?_⟩, fun i hi => ?_, fun i hi => ?_, fun i h1 hi => ?_⟩
  · obtain ⟨a, b, d1, d2, d3, d4⟩ := D i hi
    refine ⟨a, b, d1, d2, ?_, ?_⟩
    · unfold gatS
      rw [mst_ne (by decide), mst_ne (by decide), mst_ne (by decide), mst_ne (by decide)]
      exact d3
    · unfold gatS
      rw [mst_ne (by decide), mst_ne (by decide), mst_ne (by decide), mst_ne (by decide)]
      exact d4
  · unfold plN
    rw [g0, g1]
    by_cases e : i = c
    · rw [if_pos e, nI_clamp (by omega)]
      exact h0
    · rw [if_neg e]
      rw [g2, if_neg e] at hne
      exact F.1 i (by omega) hne
  · rw [g0, g7]
    exact F.2 i hi
  · unfold gatS
    rw [mst_ne (by decide), mst_ne (by decide), mst_ne (by decide), mst_ne (by decide)]
    exact h5 i hi
  · rw [g2]
    by_cases e : i = c
    · rw [if_pos e]
      exact nI_ne0 (by omega) (by omega)
    · rw [if_neg e]
      exact h2 i (by omega)
  · unfold gatS
    rw [mst_ne (by decide), mst_ne (by decide), mst_ne (by decide), mst_ne (by decide)]
    exact h4 i h1 hi
theorem Q_L218 (hf : 120 < fu) {nc np h : Nat} (hh : h < 7) : ∀ (d i n c : Nat) (M S : Mem), QI c 0 0 M S → i + d = 3 * h → d < n → ∃ M1 S1 c1, m_Q0_L218 fu sc nc np X (nI h) n M (nI i) = some M1 ∧ QI c1 0 0 M1 S1 := by
  intro d
  induction d with
  | zero =>
    intro i n c M S hQ hi hn
    obtain ⟨n, rfl⟩ := f1 hn
    rw [m_Q0_L218, show (3 : Int32) * nI h = nI (3 * h) from pk_mul 3 h, if_pos (nI_le (by omega) (by omega))]
    exact ⟨M, S, c, rfl, hQ⟩
  | succ d ih =>
    intro i n c M S hQ hi hn
    obtain ⟨n, rfl⟩ := f1 hn
    obtain ⟨R, W, -⟩ := id hQ
    obtain ⟨l, hl, el⟩ := lft_n W
    have e0 : m_X5_count fu M 40 4 = some (Sum.inr (nI l)) := (count_k (w := 4) hf R W (by decide)).trans (by show some (Sum.inr (lftS S c)) = _; rw [el])
    rw [m_Q0_L218, show (3 : Int32) * nI h = nI (3 * h) from pk_mul 3 h, if_neg (nI_ge (by omega) (by omega)), e0, nbd_r]
    by_cases hl2 : h ≤ l
    · rw [if_pos (nI_le hl2 (by omega))]
      exact ⟨M, S, c, rfl, hQ⟩
    · rw [if_neg (nI_ge (by omega) (by omega)), show (8 : Int32) + (nI i - nI i / 3 * 3) = nI (8 + i % 3) from idx_s 8 i (by omega) (by decide), cel_s (by omega), cb1_s, mlet_s]
      generalize sc (nI (8 + i % 3)) >>> (nI i / 3 * 3 &&& 31) = v
      obtain ⟨a, ha, e1⟩ := bel_s (fu := fu) (M := M) v (n := 12) (by decide) (by decide)
      obtain ⟨b, hb, e2⟩ := bel_s (fu := fu) (M := M) (v >>> (4 &&& 31)) (n := 9) (by decide) (by decide)
      obtain ⟨j, hj, e4⟩ := bel_s (fu := fu) (M := M) (v >>> (2 &&& 31)) (n := 9) (by decide) (by decide)
      have e1 : m_L_below fu M v 12 = some (nI a) := e1
      have e2 : m_L_below fu M (v >>> (4 &&& 31)) 9 = some (nI b) := e2
      have e4 : m_L_below fu M (v >>> (2 &&& 31)) 9 = some (nI j) := e4
      obtain ⟨M1, r, e3, hc⟩ := gather_k (fu := fu) (v := 1 + j) (by omega) R W ha hb (by omega) (by omega)
      rw [e1, cb1_s, e2, cb1_s, e4, cb1_s, show (1 : Int32) + nI j = nI (1 + j) from nI_add 1 j, e3, cb2_s, mlet_s, nI_1]
      rcases hc with R1 | ⟨hc6, h0, R1⟩
      · exact ih (i + 1) n c M1 S ⟨R1, hQ.2⟩ (by omega) (by omega)
      · exact ih (i + 1) n (c + 1) M1 _ (hQ.gat hc6 (by omega) h0 (by omega) (by omega) R1) (by omega) (by omega)
theorem QI.pat (h : QI c p k M S) {M1 : Mem} {q ln w : Nat} (hp : p < 3) (hq : q < 108) (h0 : S 0 q = 0) (hl1 : 1 ≤ ln) (hl : ln ≤ 12) (hw : w < 2 ^ 24) (R : CR 0 M1 (patS S p q ln w)) : QI c (p + 1) k M1 (patS S p q ln w) := by
  obtain ⟨-, W, D, F, h5, h2, h4⟩ := h
  have g : ∀ f, f ≠ 7 → f ≠ 11 → f ≠ 12 → f ≠ 13 → patS S p q ln w f = S f := fun f f7 f11 f12 f13 => by
    unfold patS
    rw [mst_ne f11, mst_ne f13, mst_ne f12, mst_ne f7]
  refine ⟨R, W.pat hp hq hl1 hl w, D.pat hl hw, ⟨fun i hi hne => ?_, fun i hi => ?_⟩, fun i hi => ?_, fun i hi => ?_, fun i h1 hi => ?_⟩
  · rw [g 2 (by decide) (by decide) (by decide) (by decide)] at hne
    unfold plN
    rw [g 0 (by decide) (by decide) (by decide) (by decide), g 1 (by decide) (by decide) (by decide) (by decide)]
    exact F.1 i hi hne
  · rw [g 0 (by decide) (by decide) (by decide) (by decide)]
    have e7 : patS S p q ln w 7 i = if i = p then nI q else S 7 i := by
      unfold patS
      rw [mst_ne (by decide), mst_ne (by decide), mst_ne (by decide)]
      by_cases e : i = p
      · subst e
        rw [mst_s, if_pos rfl]
      · rw [mst_o (fun z => e z.2), if_neg e]
    rw [e7]
    by_cases e : i = p
    · rw [if_pos e, nI_clamp (by omega)]
      exact h0
    · rw [if_neg e]
      exact F.2 i (by omega)
  · rw [g 5 (by decide) (by decide) (by decide) (by decide)]
    exact h5 i hi
  · rw [g 2 (by decide) (by decide) (by decide) (by decide)]
    exact h2 i hi
  · rw [g 4 (by decide) (by decide) (by decide) (by decide)]
    exact h4 i h1 hi
theorem Q_L312 (hf : 120 < fu) {nc np h : Nat} (hh : h < 4) : ∀ (d i n p : Nat) (M S : Mem), QI c p 0 M S → i + d = h → d < n → ∃ M1 S1 p1, m_Q0_L312 fu sc nc np X (nI h) n M (nI i) = some M1 ∧ QI c p1 0 M1 S1 := by
  intro d
  induction d with
  | zero =>
    intro i n p M S hQ hi hn
    obtain ⟨n, rfl⟩ := f1 hn
    rw [m_Q0_L312, if_pos (nI_le (by omega) (by omega))]
    exact ⟨M, S, p, rfl, hQ⟩
  | succ d ih =>
    intro i n p M S hQ hi hn
    obtain ⟨n, rfl⟩ := f1 hn
    obtain ⟨R, W, -⟩ := id hQ
    have k11 : m_L_cell sc 11 = some (sc 11) := cel_s (j := 11) (by decide)
    have k12 : m_L_cell sc 12 = some (sc 12) := cel_s (j := 12) (by decide)
    rw [m_Q0_L312, if_neg (nI_ge (by omega) (by omega)), k11, cb1_s, mlet_s]
    generalize sc 11 >>> (4 * nI i &&& 31) = v
    obtain ⟨l0, hl0, e0⟩ := bel_s (fu := fu) (M := M) (v >>> (3 &&& 31)) (n := 12) (by decide) (by decide)
    obtain ⟨a, ha, e1⟩ := bel_s (fu := fu) (M := M) v (n := 12) (by decide) (by decide)
    obtain ⟨b, hb, e2⟩ := bel_s (fu := fu) (M := M) (v >>> (5 &&& 31)) (n := 9) (by decide) (by decide)
    have e0 : m_L_below fu M (v >>> (3 &&& 31)) 12 = some (nI l0) := e0
    have e1 : m_L_below fu M v 12 = some (nI a) := e1
    have e2 : m_L_below fu M (v >>> (5 &&& 31)) 9 = some (nI b) := e2
    rw [e0, cb1_s, mlet_s, e1, cb1_s, e2, cb1_s, k12, cb1_s, show (1 : Int32) + nI l0 = nI (1 + l0) from nI_add 1 l0]
    have hm := (msk_dec (1 + l0) (by omega)).resolve_left (by omega)
    have h4 := pw_dec (1 + l0) (by omega)
    have hle := four_le (1 + l0) (by omega)
    obtain ⟨w, hw, ew⟩ := pk_andE (sc 12 >>> (nI i &&& 31)) (2 * (1 + l0)) hm
    rw [h4] at hw
    rw [ew]
    obtain ⟨M1, r, e3, hc⟩ := patrol_k (fu := fu) (ln := 1 + l0) (w := w) (by omega) R W ha hb (by omega) (by omega) hw
    rw [e3, cb2_s, mlet_s, nI_1]
    rcases hc with R1 | ⟨hp3, h0, R1⟩
    · exact ih (i + 1) n p M1 S ⟨R1, hQ.2⟩ (by omega) (by omega)
    · exact ih (i + 1) n (p + 1) M1 _ (hQ.pat hp3 (by omega) h0 (by omega) (by omega) (by omega) R1) (by omega) (by omega)
theorem add_f {i m j f : Nat} (h4 : f ≠ 4) (h6 : f ≠ 6) : addS S i m j f = S f := by
  unfold addS
  rw [mst_ne h4, mst_ne h6]
theorem add_4 {i m j t : Nat} : addS S i m j 4 t = if t = i then nI (m + 1) else S 4 t := by
  unfold addS
  by_cases e : t = i
  · subst e
    rw [mst_s, if_pos rfl]
  · rw [mst_o (fun z => e z.2), if_neg e]
    exact mst_o (fun z => absurd z.1 (by decide))
theorem QI.add (h : QI c p (k + 1) M S) {M1 : Mem} {m j : Nat} (hm : m < 24) (hj : j < 12) (R : CR 0 M1 (addS S k m j)) : QI c p (k + 1) M1 (addS S k m j) := by
  obtain ⟨-, W, D, F, h5, h2, h4⟩ := h
  refine ⟨R, W.add hm hj, D.keep ((Kp.wr (by decide)).tr (Kp.wr (by decide))), F.cg (add_f (by decide) (by decide)) (add_f (by decide) (by decide)) (add_f (by decide) (by decide)) (add_f (by decide) (by decide)), fun i hi => ?_, fun i hi => ?_, fun i h1 hi => ?_⟩
  · rw [add_f (by decide) (by decide)]
    exact h5 i hi
  · rw [add_f (by decide) (by decide)]
    exact h2 i hi
  · rw [add_4, if_neg (by omega)]
    exact h4 i h1 hi
theorem Q_L432 {nc np : Nat} (v : Int32) (hk : k < c) : ∀ (d m n : Nat) (M S : Mem), QI c p (k + 1) M S → S 4 k = nI m → m + d ≤ 23 → d < n → ∃ M1 S1, m_Q0_L432 fu sc nc np X (nI k) v n M (nI d) = some M1 ∧ QI c p (k + 1) M1 S1 := by
  intro d
  induction d with
  | zero =>
    intro m n M S hQ h4 hm hn
    obtain ⟨n, rfl⟩ := f1 hn
    rw [m_Q0_L432, if_pos (by decide)]
    exact ⟨M, S, rfl, hQ⟩
  | succ d ih =>
    intro m n M S hQ h4 hm hn
    obtain ⟨n, rfl⟩ := f1 hn
    obtain ⟨R, W, D, F, h5, h2, h4'⟩ := id hQ
    obtain ⟨x, hx, e0⟩ := bel_s (fu := fu) (M := M) (v >>> (nI (d + 1) &&& 31)) (n := 3) (by decide) (by decide)
    obtain ⟨y, hy, e1⟩ := bel_s (fu := fu) (M := M) (v >>> ((1 + nI (d + 1)) &&& 31)) (n := 12) (by decide) (by decide)
    obtain ⟨z, hz, e2⟩ := bel_s (fu := fu) (M := M) (v >>> ((2 + nI (d + 1)) &&& 31)) (n := 4) (by decide) (by decide)
    have e0 : m_L_below fu M (v >>> (nI (d + 1) &&& 31)) 3 = some (nI x) := e0
    have e1 : m_L_below fu M (v >>> ((1 + nI (d + 1)) &&& 31)) 12 = some (nI y) := e1
    have e2 : m_L_below fu M (v >>> ((2 + nI (d + 1)) &&& 31)) 4 = some (nI z) := e2
    have hcode : ∃ code, code < 12 ∧ (if nI x = 0 then (cb1 (m_L_below fu M (v >>> ((1 + nI (d + 1)) &&& 31)) 12) fun r131 => some r131) else (cb1 (m_L_below fu M (v >>> ((2 + nI (d + 1)) &&& 31)) 4) fun r129 => some r129)) = some (nI code) := by
      by_cases hx0 : nI x = 0
      · rw [if_pos hx0, e1, cb1_s]
        exact ⟨y, hy, rfl⟩
      · rw [if_neg hx0, e2, cb1_s]
        exact ⟨z, by omega, rfl⟩
    obtain ⟨code, hc, e3⟩ := hcode
    obtain ⟨M1, e4, R1⟩ := order_k (fu := fu) R W hk hc (h2 k hk) h4 (by omega)
    have en : nI (d + 1) + (-1) = nI d := by
      have := nI_pred d
      grind
    rw [m_Q0_L432, if_neg (nI_nle (by omega) (by omega)), e0, cb1_s, e3, cb1_s, e4, nbd_r, up2_s, mlet_s, en]
    exact ih (m + 1) n M1 _ (hQ.add (by omega) hc R1) (by rw [add_4, if_pos rfl]) (by omega) (by omega)
theorem sumI_n {f : Nat → Int32} : ∀ (d i a : Nat), (∀ t, i ≤ t → t < i + d → f t = 1) → sumI f i d (nI a) = nI (a + d)
  | 0, _, _, _ => rfl
  | d + 1, i, a, h => by
    show sumI f (i + 1) d (nI a + f i) = nI (a + (d + 1))
    rw [h i (Nat.le_refl i) (by omega), nI_1, sumI_n d (i + 1) (a + 1) (fun t h1 h2 => h t (by omega) (by omega)), show a + 1 + d = a + (d + 1) by omega]
theorem lft_all (h : ∀ i, i < c → ¬ S 2 i = 0) : lftS S c = nI c := by
  unfold lftS
  have e := sumI_n (f := fun j => bI (decide (¬ S 2 j = 0))) c 0 0 (fun t _ h2 => by
    show bI (decide (¬ S 2 t = 0)) = 1
    rw [decide_eq_true (h t (by omega))]
    rfl)
  rw [nI_0, Nat.zero_add] at e
  exact e
theorem Q_L395 (hf : 120 < fu) {nc np : Nat} : ∀ (d k n : Nat) (M S : Mem), QI c p k M S → k + d = c → d < n → ∃ M1 S1, m_Q0_L395 fu sc nc np X n M (nI k) = some M1 ∧ QI c p c M1 S1 := by
  intro d
  induction d with
  | zero =>
    intro k n M S hQ hi hn
    obtain ⟨n, rfl⟩ := f1 hn
    obtain ⟨R, W, D, F, h5, h2, h4⟩ := id hQ
    have h6 := W.c6
    have e0 : m_X5_count fu M 40 4 = some (Sum.inr (nI c)) := (count_k (w := 4) hf R W (by decide)).trans (by show some (Sum.inr (lftS S c)) = _; rw [lft_all h2])
    have hk : k = c := by omega
    subst hk
    rw [m_Q0_L395, e0, nbd_r, if_pos (nI_le (Nat.le_refl k) (by omega))]
    exact ⟨M, S, rfl, hQ⟩
  | succ d ih =>
    intro k n M S hQ hi hn
    obtain ⟨n, rfl⟩ := f1 hn
    obtain ⟨R, W, D, F, h5, h2, h4⟩ := id hQ
    have h6 := W.c6
    have e0 : m_X5_count fu M 40 4 = some (Sum.inr (nI c)) := (count_k (w := 4) hf R W (by decide)).trans (by show some (Sum.inr (lftS S c)) = _; rw [lft_all h2])
    rw [m_Q0_L395, e0, nbd_r, if_neg (nI_ge (by omega) (by omega)), show (13 : Int32) + (nI k - nI k / 3 * 3) = nI (13 + k % 3) from idx_s 13 k (by omega) (by decide), cel_s (by omega), cb1_s, mlet_s]
    generalize sc (nI (13 + k % 3)) >>> (nI k / 3 &&& 31) = v
    obtain ⟨j, hj, e1⟩ := bel_s (fu := fu) (M := M) v (n := 16) (by decide) (by decide)
    have e1 : m_L_below fu M v 16 = some (nI j) := e1
    have hQ1 : QI c p (k + 1) M S := ⟨R, W, D, F, h5, h2, fun i h1 hi => h4 i (by omega) hi⟩
    obtain ⟨M1, S1, e2, hQ2⟩ := Q_L432 (fu := fu) (sc := sc) (X := X) (nc := nc) (np := np) v (show k < c by omega) j 0 fu M S hQ1 (by rw [h4 k (Nat.le_refl k) (by omega)]; rfl) (by omega) (by omega)
    obtain ⟨R2, W2, D2, F2, g5, g2, g4⟩ := id hQ2
    obtain ⟨x, hx, e3⟩ := bel_s (fu := fu) (M := M1) (v >>> (5 &&& 31)) (n := 3) (by decide) (by decide)
    have e3 : m_L_below fu M1 (v >>> (5 &&& 31)) 3 = some (nI x) := e3
    rw [e1, cb1_s, e2, cb1_s, e3, cb1_s]
    by_cases hx0 : nI x = 0
    · obtain ⟨M2, r, t, e4, ht, R3⟩ := torch_k (fu := fu) R2 W2 (show k < c by omega) (g2 k (by omega))
      rw [if_pos hx0, e4, nbd_r, up2_s, cb1_s, mlet_s, nI_1]
      refine ih (k + 1) n M2 _ ⟨R3, W2.w3 ⟨t, ht, rfl⟩, D2.keep (Kp.wr (by decide)), F2.cg (mst_ne (by decide)) (mst_ne (by decide)) (mst_ne (by decide)) (mst_ne (by decide)), fun i hi => ?_, fun i hi => ?_, fun i h1 hi => ?_⟩ (by omega) (by omega)
      · rw [mst_ne (show (5 : Nat) ≠ 3 by decide)]
        exact g5 i hi
      · rw [mst_ne (show (2 : Nat) ≠ 3 by decide)]
        exact g2 i hi
      · rw [mst_ne (show (4 : Nat) ≠ 3 by decide)]
        exact g4 i h1 hi
    · rw [if_neg hx0, cb1_s, mlet_s, nI_1]
      exact ih (k + 1) n M1 S1 hQ2 (by omega) (by omega)
theorem QI_0 : QI 0 0 0 (fun _ _ => 0) (fun _ _ => 0) := by
  refine ⟨fun _ _ _ _ => rfl, ?_, fun i hi => by omega, ⟨fun i hi => by omega, fun i hi => by omega⟩, fun _ _ => rfl, fun i hi => by omega, fun _ _ _ => rfl⟩
  exact ⟨by omega, by omega, rfl, rfl, fun _ _ => ⟨1, by omega, rfl⟩, fun _ _ => ⟨0, by omega, rfl⟩, fun _ _ => ⟨0, by omega, rfl⟩, fun _ _ => ⟨0, by omega, rfl⟩, fun _ _ => ⟨0, by omega, rfl⟩, fun _ _ => ⟨0, by omega, rfl⟩, fun _ _ => ⟨0, by omega, rfl⟩, fun i _ => ⟨0, 0, rfl, rfl, by omega, by omega, fun h => absurd h (by omega), fun _ => rfl⟩⟩
theorem MIS.le {a b : Nat} (h : MIS c a S) (hab : a ≤ b) : MIS c b S := fun i hi => by
  obtain ⟨q, hq, eq⟩ := h i hi
  exact ⟨q, by omega, eq⟩
theorem quarter_s (sc : Int32 → Int32) : ∃ M', m_Q0 1000 sc 0 0 (fun _ _ => 0) (fun _ _ => 0) = some M' ∧ PI0 M' := by
  have k0 : m_L_cell sc 0 = some (sc 0) := cel_s (j := 0) (by decide)
  have k7 : m_L_cell sc 7 = some (sc 7) := cel_s (j := 7) (by decide)
  have k15 : m_L_cell sc 15 = some (sc 15) := cel_s (j := 15) (by decide)
  obtain ⟨h, hh, e1⟩ := bel_s (fu := 1000) (M := fun _ _ => 0) (sc 0) (n := 40) (by decide) (by decide)
  obtain ⟨M1, S1, l1, Q1⟩ := Q_L21 (fu := 1000) (sc := sc) (X := fun _ _ => 0) (nc := 0) (np := 0) (by decide) hh h 0 1000 _ _ QI_0 (by omega) (by omega)
  obtain ⟨b, hb, e2⟩ := bel_s (fu := 1000) (M := M1) (sc 0 >>> (6 &&& 31)) (n := 30) (by decide) (by decide)
  obtain ⟨M2, S2, l2, Q2⟩ := Q_L113 (fu := 1000) (sc := sc) (X := fun _ _ => 0) (nc := 0) (np := 0) (h := b) (by decide) (by omega) b 0 1000 _ _ Q1 (by omega) (by omega)
  obtain ⟨g, hg, e3⟩ := bel_s (fu := 1000) (M := M2) (sc 7) (n := 7) (by decide) (by decide)
  obtain ⟨M3, S3, c, l3, Q3⟩ := Q_L218 (fu := 1000) (sc := sc) (X := fun _ _ => 0) (nc := 0) (np := 0) (h := g) (by decide) hg (3 * g) 0 20 0 _ _ Q2 (by omega) (by omega)
  obtain ⟨t, ht, e4⟩ := bel_s (fu := 1000) (M := M3) (sc 7 >>> (4 &&& 31)) (n := 4) (by decide) (by decide)
  obtain ⟨M4, S4, p, l4, Q4⟩ := Q_L312 (fu := 1000) (sc := sc) (X := fun _ _ => 0) (nc := 0) (np := 0) (h := t) (by decide) ht t 0 5 0 _ _ Q3 (by omega) (by omega)
  have hc6 := Q4.2.1.c6
  obtain ⟨M5, S5, l5, Q5⟩ := Q_L395 (fu := 1000) (sc := sc) (X := fun _ _ => 0) (nc := 0) (np := 0) (by decide) c 0 1000 _ _ Q4 (by omega) (by omega)
  rw [nI_0] at l1 l2 l3 l4 l5
  obtain ⟨R, W, D, F, h5, h2, -⟩ := Q5
  have H0 : MIS c 0 S5 := fun i hi => ⟨0, Nat.le_refl 0, h5 i (by omega)⟩
  obtain ⟨x, hx, e5⟩ := bel_s (fu := 1000) (M := M5) (sc 15) (n := 2) (by decide) (by decide)
  obtain ⟨y, hy, e6⟩ := bel_s (fu := 1000) (M := M5) (sc 15 >>> (2 &&& 31)) (n := 6) (by decide) (by decide)
  have e1 : m_L_below 1000 (fun _ _ => 0) (sc 0) 40 = some (nI h) := e1
  have e2 : m_L_below 1000 M1 (sc 0 >>> (6 &&& 31)) 30 = some (nI b) := e2
  have e3 : m_L_below 1000 M2 (sc 7) 7 = some (nI g) := e3
  have e4 : m_L_below 1000 M3 (sc 7 >>> (4 &&& 31)) 4 = some (nI t) := e4
  have e5 : m_L_below 1000 M5 (sc 15) 2 = some (nI x) := e5
  have e6 : m_L_below 1000 M5 (sc 15 >>> (2 &&& 31)) 6 = some (nI y) := e6
  unfold m_Q0
  rw [k0, cb1_s, e1, cb1_s, l1, cb1_s, cb1_s, e2, cb1_s, l2, cb1_s, k7, cb1_s, e3, cb1_s, l3, cb1_s, cb1_s, e4, cb1_s, l4, cb1_s, l5, cb1_s, k15, cb1_s, e5, cb1_s]
  by_cases hx0 : nI x = 0
  · obtain ⟨M6, e7, R6⟩ := pass_k (fu := 1000) (m := 1 + y) (by decide) R W D (by omega) (by omega)
    obtain ⟨W6, D6, F6, H6⟩ := stN_inv (c := c) (p := p) (1 + y) 0 S5 W D F H0
    rw [if_pos hx0, cb1_s, e6, cb1_s, show (1 : Int32) + nI y = nI (1 + y) from nI_add 1 y, e7, nbd_r, up2_s]
    exact ⟨M6, rfl, c, p, _, R6, W6, D6, F6, H6.le (by omega)⟩
  · rw [if_neg hx0]
    exact ⟨M5, rfl, c, p, _, R, W, D, F, H0.le (by omega)⟩
end Qua

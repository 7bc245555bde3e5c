/-! ===== the law's turn answers true ===== -/
theorem sumI_add {f g h : Nat → Int32} : ∀ (d i : Nat) (a b : Int32), (∀ t, i ≤ t → t < i + d → f t = g t + h t) → sumI f i d (a + b) = sumI g i d a + sumI h i d b
  | 0, _, _, _, _ => rfl
  | d + 1, i, a, b, hh => by
    show sumI f (i + 1) d (a + b + f i) = sumI g (i + 1) d (a + g i) + sumI h (i + 1) d (b + h i)
    rw [← sumI_add d (i + 1) (a + g i) (b + h i) (fun t h1 h2 => hh t (by omega) (by omega)), hh i (Nat.le_refl i) (by omega)]
    congr 1
    grind
theorem sub_sh (x y z : Int32) : x + (y - z) = x + y - z := by grind
theorem lg_self (x : Int64) : lg_cmp x x = 0 := by
  unfold lg_cmp
  rw [if_neg (show ¬ x > x from Int64.lt_irrefl), if_pos rfl]
section Trn
variable {c p fu k : Nat} {M S T X : Mem} {sc : Int32 → Int32} {ok : Nat → Bool}
theorem mis_T (W : WF c p S) (E : STE c p S T ok) (H : MIS c k S) (hk : k ≤ 100) : misS T c = misS S c + sumI (fun j => bI (msB S ok j)) 0 c 0 := by
  unfold misS
  have h := sumI_add (f := fun j => T 5 j) (g := fun j => S 5 j) (h := fun j => bI (msB S ok j)) c 0 0 0 (fun t _ h2 => by
    obtain ⟨_, _, _, _, _, -, -, -, -, -, -, -, -, -, -, -, t5, -⟩ := crw_k (p := p) W E H hk (i := t) (by omega)
    exact t5)
  rw [Int32.add_zero] at h
  exact h
theorem cnt_T (E : STE c p S T ok) : cntS T (-1) = cntS S (-1) := by
  unfold cntS
  refine sumI_congr 108 0 0 (fun t _ h2 => ?_)
  have hh := E.2.2.2.2.2.1 t (by omega)
  by_cases h : S 0 t = -1
  · rw [decide_eq_true h, decide_eq_true (hh.mpr h)]
  · rw [decide_eq_false h, decide_eq_false (fun z => h (hh.mp z))]
theorem S5_s (hf : 120 < fu) (R : CR 0 M S) (W : WF c p S) (D : RD p S) (F : FRE c p S) (H : MIS c k S) (hk : k ≤ 100) (hX : XH c p S X) (v4 : Int32) {w : Nat} (hw : w < 6) : ∃ M2, m_S5 fu sc c p M X (nI c) (nI p) v4 (nI w) = some M2 ∧ CR 0 M2 (stepS S c p) := by
  have h6 := W.c6
  have h3 := W.p3
  obtain ⟨ok, E⟩ := step_eff W F
  have WT : WF c p (stepS S c p) := W.step D
  have DT : RD p (stepS S c p) := D.keep Kp.step
  obtain ⟨M11, e11, w11⟩ := fore_k0 (fu := fu) hf R W D
  have R11 : CR 0 M11 S := R.lo w11
  obtain ⟨M14, r, e14, -, hr9, w14⟩ := shuts_k (fu := fu) hf R11
  have R14 : CR 0 M14 S := R11.lo w14
  obtain ⟨M17, r', e17, hv', hr9', w17⟩ := fore_k2 (fu := fu) hf R14 W D
  have R17 : CR 0 M17 S := R14.lo w17
  have hadv : ∃ M25 o, (if nI c ≤ nI w then (some (M17, (-1 : Int32))) else (nbd (m_X5_advise fu M17 40 (nI w)) <| up2 fun M24 r23 => some (M24, r23))) = some (M25, o) ∧ CR 0 M25 S ∧ ((c ≤ w ∧ o = -1) ∨ (w < c ∧ ((S 2 w = 0 ∧ o = -1) ∨ (¬ S 2 w = 0 ∧ ∃ j, j < 12 ∧ o = nI j)))) := by
    by_cases h : c ≤ w
    · rw [if_pos (nI_le h (by omega))]
      exact ⟨M17, -1, rfl, R17, Or.inl ⟨h, rfl⟩⟩
    · have h : w < c := by omega
      obtain ⟨M24, r23, e24, w24, h24⟩ := advise_k (fu := fu) hf R17 W D h
      rw [if_neg (nI_ge h (by omega)), e24, nbd_r, up2_s]
      exact ⟨M24, r23, rfl, R17.lo w24, Or.inr ⟨h, h24⟩⟩
  obtain ⟨M25, o, e25, R25, ho⟩ := hadv
  obtain ⟨M51, e51, R51⟩ := pass_k (fu := fu) (m := 1) hf R25 W D (by decide) (by decide)
  have e51 : m_X5_pass fu M25 40 1 = some (Sum.inr (M51, pplS S c - pplS (stepS S c p) c)) := e51
  have R51 : CR 0 M51 (stepS S c p) := R51
  obtain ⟨M58, r'', e58, hv'', -, w58⟩ := shuts_k (fu := fu) hf R51
  have R58 : CR 0 M58 (stepS S c p) := R51.lo w58
  have hrr : r'' = r' := hv''.uq hv'
  subst hrr
  have n1 : m_X5_count fu M 40 1 = some (Sum.inr (cntS S (-1))) := count_k (w := 1) hf R W (by decide)
  have n2 : m_X5_count fu M 40 2 = some (Sum.inr (barS S)) := count_k (w := 2) hf R W (by decide)
  have n7 : m_X5_count fu M 40 7 = some (Sum.inr (misS S c)) := count_k (w := 7) hf R W (by decide)
  have nd : m_X5_digest fu M 40 = some (digS S c p) := digest_s R W D (by omega) 40
  have nd2 : m_X5_digest fu M25 40 = some (digS S c p) := digest_s R25 W D (by omega) 40
  have n5 : m_X5_count fu M25 40 5 = some (Sum.inr (pplS S c)) := count_k (w := 5) hf R25 W (by decide)
  have m5 : m_X5_count fu M51 40 5 = some (Sum.inr (pplS (stepS S c p) c)) := count_k (w := 5) hf R51 WT (by decide)
  have m1 : m_X5_count fu M58 40 1 = some (Sum.inr (cntS S (-1))) := (count_k (w := 1) hf R58 WT (by decide)).trans (by show some (Sum.inr (cntS (stepS S c p) (-1))) = _; rw [cnt_T E])
  have m7 : m_X5_count fu M58 40 7 = some (Sum.inr (misS S c + sumI (fun j => bI (msB S ok j)) 0 c 0)) := (count_k (w := 7) hf R58 WT (by decide)).trans (by show some (Sum.inr (misS (stepS S c p) c)) = _; rw [mis_T W E H hk])
  have m2 : m_X5_count fu M58 40 2 = some (Sum.inr (barS S + sumI (fun j => bI (raB S ok 1 j)) 0 c 0 - sumI (fun j => bI (raB S ok 2 j)) 0 c 0)) := (count_k (w := 2) hf R58 WT (by decide)).trans (by
    show some (Sum.inr (barS (stepS S c p))) = _
    have hb := E.2.2.2.2.2.2.1
    rw [hb, sub_sh])
  have m3 : m_X5_count fu M58 40 3 = some (Sum.inr (sumI (fun j => bI (decide (stepS S c p 0 j = 0))) 0 108 0)) := count_k (w := 3) hf R58 WT (by decide)
  have l1 := L489_s (fu := fu) (sc := sc) (np := p) hf rfl R58 WT W hX E H hk v4 (barS S) (misS S c) (nI r'') c 0 fu 0 0 0 (by omega) (by omega)
  have l2 := L923_s (fu := fu) (sc := sc) (nc := c) (np := p) R58 WT W hX E (nI c) (nI p) v4 (nI r'') 108 0 fu 0 (by omega) (by omega)
  have l3 := L1004_s (fu := fu) (sc := sc) (nc := c) hf rfl R58 WT W DT hX E (nI c) v4 (nI r'') (sumI (fun j => bI (decide (stepS S c p 0 j = 0))) 0 108 0) p 0 fu (by omega) (by omega)
  obtain ⟨M2, l4, w2⟩ := L1236_s (fu := fu) (sc := sc) (X := X) (nc := c) (np := p) hf (nI c) (nI p) v4 (nI r'') 9 0 fu M58 false R58 (by omega) (by omega)
  rw [nI_0] at l1 l2 l3 l4
  have l4 : m_S5_L1236 fu sc c p X (nI c) (nI p) v4 (nI r'') fu M58 0 0 = some (M2, bI (anyB (fun a => anyB (gwB (stepS S c p) a) 0 9) 0 9)) := by rw [show (0 : Int32) = bI false from rfl]; exact l4
  have hG := gw_iff hv''
  have hlast : (if nI r'' ≤ 0 then some (0 : Int32) else some (1 : Int32)) = some (bI (anyB (fun a => anyB (gwB (stepS S c p) a) 0 9) 0 9)) := by
    by_cases h : r'' = 0
    · have e : anyB (fun a => anyB (gwB (stepS S c p) a) 0 9) 0 9 = false := by
        cases h9 : anyB (fun a => anyB (gwB (stepS S c p) a) 0 9) 0 9 with
        | true => exact absurd h (hG.mp h9)
        | false => rfl
      rw [e, h, if_pos (by decide)]
      rfl
    · rw [hG.mpr h, if_neg (nI_nle (by omega) (by omega))]
      rfl
  have ho11 : ¬ (11 : Int32) < o := by
    rcases ho with ⟨-, rfl⟩ | ⟨-, ⟨-, rfl⟩ | ⟨-, j, hj, rfl⟩⟩
    · decide
    · decide
    · exact nI_nlt (a := 11) (by omega) (by omega)
  have hblk : (if nI c ≤ nI w then some () else (cb1 (if 0 ≤ o then some (0 : Int32) else some (1 : Int32)) fun o36 => chk (inb (nI w) c) <| chk (inb 2 8) <| cb1 (if (X (nI w).toNatClampNeg (2 : Int32).toNatClampNeg) = 0 then some (1 : Int32) else some (0 : Int32)) fun o42 => if o36 = o42 then some () else (none : Option Unit))) = some () := by
    rcases ho with ⟨h, -⟩ | ⟨h, h2⟩
    · rw [if_pos (nI_le h (by omega))]
    · have x2 : X (nI w).toNatClampNeg (2 : Int32).toNatClampNeg = S 2 w := by
        rw [nI_clamp (by omega)]
        exact hX.1 w 2 h (by decide)
      rw [if_neg (nI_ge h (by omega)), x2]
      rcases h2 with ⟨h2, rfl⟩ | ⟨h2, j, hj, rfl⟩
      · rw [if_neg (by decide), cb1_s, chk_t (inb_nI h (by omega)), chk_t (by decide), if_pos h2, cb1_s, if_pos rfl]
      · rw [if_pos (nI_pos' (by omega)), cb1_s, chk_t (inb_nI h (by omega)), chk_t (by decide), if_neg h2, cb1_s, if_pos rfl]
  refine ⟨M2, ?_, R58.lo w2⟩
  unfold m_S5
  rw [n1, nbd_r, n2, nbd_r, n7, nbd_r, nd, cb1_s, e11, nbd_r, up2_s, e14, cb2_s, e17, nbd_r, up2_s, e25, cb1_s, up2_s, nd2, cb1_s, if_pos (lg_self _), if_neg (nI_pos (by omega)), if_neg (show ¬ (9 : Int32) < nI r from nI_nlt (a := 9) (by omega) (by omega)), if_neg ho11, hblk, cb1_s, n5, nbd_r, e51, nbd_r, up2_s, if_pos rfl, m5, nbd_r, if_pos rfl, e58, cb2_s, if_pos rfl, m1, nbd_r, if_pos rfl, l1, cb1_s, up3_s, m7, nbd_r, if_pos rfl, m2, nbd_r, if_pos rfl, l2, cb1_s, l3, cb1_s, m3, nbd_r, if_pos rfl, l4, cb1_s, up2_s, hlast, cb1_s, if_pos rfl]
theorem turn_s {t : Nat} (h : PInv c p t M) (ht : t < 20) (sc : Int32 → Int32) : ∃ M2, turnOk 1000 sc c p t M M2 ∧ PInv c p (t + 1) M2 := by
  obtain ⟨S, R, W, D, F, H⟩ := h
  obtain ⟨M1, S1, w, e1, hw, R1, W1, D1, F1, H1⟩ := S1_s (fu := 1000) (sc := sc) (X := fun _ _ => 0) (by decide) ht R W D F H
  obtain ⟨X1, X2, X3, e2, e3, e4, hX⟩ := keep_s (fu := 1000) (sc := sc) (by decide) R1 W1 D1 (nI t) (nI w)
  obtain ⟨M2, e5, R2⟩ := S5_s (fu := 1000) (sc := sc) (by decide) R1 W1 D1 F1 H1 (by omega) hX (nI t) hw
  obtain ⟨ok, E⟩ := step_eff W1 F1
  exact ⟨M2, ⟨M1, nI w, X1, X2, X3, e1, e2, e3, e4, e5⟩, stepS S1 c p, R2, W1.step D1, D1.keep Kp.step, E.2.2.2.2.2.2.2.1, H1.step W1 F1⟩
end Trn

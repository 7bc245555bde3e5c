/-! ===== what holds between the law's calls ===== -/
/-- crowds that are not scattered, and patrols, are in free cells -/
def FRE (c p : Nat) (S : Mem) : Prop := (∀ i, i < c → S 2 i ≠ 0 → S 0 (plN S i) = 0) ∧ ∀ i, i < p → S 0 (S 7 i).toNatClampNeg = 0
/-- missed orders, by the steps that went by -/
def MIS (c k : Nat) (S : Mem) : Prop := ∀ i, i < c → ∃ q, q ≤ k ∧ S 5 i = nI q
def PInv (c p t : Nat) (M : Mem) : Prop := ∃ S, CR 0 M S ∧ WF c p S ∧ RD p S ∧ FRE c p S ∧ MIS c (6 + t) S
theorem PInv.le {c p t : Nat} {M : Mem} (h : PInv c p t M) : c ≤ 6 ∧ p ≤ 3 := by
  obtain ⟨S, -, W, -⟩ := h
  exact ⟨W.c6, W.p3⟩
def PI0 (M : Mem) : Prop := ∃ c p, PInv c p 0 M
/-! the law's turn -/
def zr (lo hi : Nat) (X : Mem) : Mem := fun a b => if lo ≤ a ∧ a < hi then 0 else X a b
theorem zr_in {lo hi a : Nat} {X : Mem} (h : lo ≤ a ∧ a < hi) : zr lo hi X a = fun _ => 0 := by
  funext b
  exact if_pos h
theorem zr_out {lo hi a : Nat} {X : Mem} (h : ¬ (lo ≤ a ∧ a < hi)) : zr lo hi X a = X a := by
  funext b
  exact if_neg h
def turnOk (fu : Nat) (sc : Int32 → Int32) (nc np t : Nat) (M M2 : Mem) : Prop := ∃ M1 x7 X1 X2 X3, m_S1 fu sc nc np M (fun _ _ => 0) (nI nc) (nI np) (nI t) = some (M1, x7) ∧ m_S2 fu sc nc np M1 (fun _ _ => 0) (nI nc) (nI np) (nI t) x7 = some X1 ∧ m_S3 fu sc nc np M1 (zr 6 9 X1) (nI nc) (nI np) (nI t) x7 = some X2 ∧ m_S4 fu sc nc np M1 (zr 9 10 X2) (nI nc) (nI np) (nI t) x7 = some X3 ∧ m_S5 fu sc nc np M1 X3 (nI nc) (nI np) (nI t) x7 = some M2

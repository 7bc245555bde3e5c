/-! ===== what the law's methods do, in sum ===== -/
theorem pure_Q (sc : Int32 → Int32) : ∃ M', m_Q0 1000 sc 0 0 (fun _ _ => 0) (fun _ _ => 0) = some M' ∧ PI0 M' := quarter_s sc
theorem pure_S0 {M : Mem} (h : PI0 M) (sc : Int32 → Int32) (nc np : Nat) (X : Mem) : ∃ c p M1, m_S0 1000 sc nc np M X = some (M1, nI c, nI p) ∧ PInv c p 0 M1 := by
  obtain ⟨c, p, hI⟩ := h
  obtain ⟨S, R, W, -⟩ := id hI
  exact ⟨c, p, M, S0_s (by decide) nc np X R W, hI⟩
theorem pure_T {c p t : Nat} {M : Mem} (h : PInv c p t M) (ht : t < 20) (sc : Int32 → Int32) : ∃ M2, turnOk 1000 sc c p t M M2 ∧ PInv c p (t + 1) M2 := turn_s h ht sc

/-! ===== how few shut the quarter: the reference ===== -/
theorem al47 : alen (44 + 3) = 108 := by decide
def sm (F : Nat → Nat) : Nat → Nat
  | 0 => 0
  | n + 1 => sm F n + F n
theorem sm_o {F : Nat → Nat} {v x : Nat} : ∀ n, n ≤ v → sm (un F v x) n = sm F n
  | 0, _ => rfl
  | n + 1, h => by
    show sm (un F v x) n + un F v x n = sm F n + F n
    rw [sm_o n (by omega), un_o (by omega)]
theorem sm_un {F : Nat → Nat} {v x : Nat} : ∀ n, v < n → sm (un F v x) n + F v = sm F n + x
  | 0, h => by omega
  | n + 1, h => by
    show sm (un F v x) n + un F v x n + F v = sm F n + F n + x
    by_cases e : v = n
    · subst e
      rw [sm_o v (Nat.le_refl v), un_s]
      omega
    · have := sm_un (F := F) (v := v) (x := x) n (by omega)
      rw [un_o (fun z => e z.symm)]
      omega
theorem sm_le {F : Nat → Nat} {b : Nat} (h : ∀ v, F v ≤ b) : ∀ n, sm F n ≤ n * b
  | 0 => by
    show 0 ≤ 0 * b
    omega
  | n + 1 => by
    have h1 := sm_le h n
    have h2 := h n
    show sm F n + F n ≤ (n + 1) * b
    rw [Nat.succ_mul]
    omega
theorem sm_le2 {F : Nat → Nat} {b : Nat} : ∀ n, (∀ v, v < n → F v ≤ b) → sm F n ≤ n * b
  | 0, _ => by
    show 0 ≤ 0 * b
    omega
  | n + 1, h => by
    have h1 := sm_le2 n (fun v hv => h v (by omega))
    have h2 := h n (by omega)
    show sm F n + F n ≤ (n + 1) * b
    rw [Nat.succ_mul]
    omega
section RShut
variable {k fu : Nat} {N S : Mem} {F : Nat → Nat}
/-- what is below all that the steps find, stays below -/
def Below (S : Mem) (f F : Nat → Nat) : Prop := Feas S f → (∀ v, v < 108 → f v ≤ 110) → (∀ v, v < 108 → f v ≤ F v)
theorem or_0 (b : Bool) : bI b ||| 0 = bI b := by cases b <;> decide
theorem or_1 (b : Bool) : bI b ||| 1 = bI true := by cases b <;> decide
end RShut

/-! ===== how few shut the quarter: the reference ===== -/
def FW (N : Mem) (F : Nat → Nat) : Prop := ∀ v, v < 108 → N 47 v = nI (F v) ∧ F v ≤ 9999
def Wr (N N1 : Mem) : Prop := ∀ a, a ≠ 47 → N1 a = N a
theorem Wr.rf {N : Mem} : Wr N N := fun _ _ => rfl
theorem Wr.tr {N N1 N2 : Mem} (h : Wr N N1) (h2 : Wr N1 N2) : Wr N N2 := fun a ha => (h2 a ha).trans (h a ha)
theorem Wr.wr {N : Mem} {j : Nat} {x : Int32} : Wr N (mst N 47 j x) := fun a ha => mst_ne ha
theorem RR.wf {k : Nat} {N N1 S : Mem} (R : RR k N S) (hk : 47 < k) (w : Wr N N1) : RR k N1 S := by
  refine R.fm (fun a h1 h2 => w a (by omega)) ?_ ?_ ?_
  · rw [w 44 (by decide)]
  · rw [w 44 (by decide)]
  · rw [w 45 (by decide)]
theorem al47 : alen (44 + 3) = 108 := by decide
def sm (F : Nat → Nat) : Nat → Nat
  | 0 => 0
  | n + 1 => sm F n + F n
theorem sm_o {F : Nat → Nat} {v x : Nat} : ∀ n, n ≤ v → sm (un F v x) n = sm F n
  | 0, _ => rfl
  | n + 1, h => by
    show sm (un F v x) n + un F v x n = sm F n + F n
    rw [sm_o n (by omega), un_o (by omega)]
theorem sm_un {F : Nat → Nat} {v x : Nat} : ∀ n, v < n → sm (un F v x) n + F v = sm F n + x
  | 0, h => by omega
  | n + 1, h => by
    show sm (un F v x) n + un F v x n + F v = sm F n + F n + x
    by_cases e : v = n
    · subst e
      rw [sm_o v (Nat.le_refl v), un_s]
      omega
    · have := sm_un (F := F) (v := v) (x := x) n (by omega)
      rw [un_o (fun z => e z.symm)]
      omega
theorem sm_le {F : Nat → Nat} {b : Nat} (h : ∀ v, F v ≤ b) : ∀ n, sm F n ≤ n * b
  | 0 => by
    show 0 ≤ 0 * b
    omega
  | n + 1 => by
    have h1 := sm_le h n
    have h2 := h n
    show sm F n + F n ≤ (n + 1) * b
    rw [Nat.succ_mul]
    omega
theorem sm_le2 {F : Nat → Nat} {b : Nat} : ∀ n, (∀ v, v < n → F v ≤ b) → sm F n ≤ n * b
  | 0, _ => by
    show 0 ≤ 0 * b
    omega
  | n + 1, h => by
    have h1 := sm_le2 n (fun v hv => h v (by omega))
    have h2 := h n (by omega)
    show sm F n + F n ≤ (n + 1) * b
    rw [Nat.succ_mul]
    omega
section RShut
variable {k fu : Nat} {N S : Mem} {F : Nat → Nat}
theorem cost_s (R : RR k N S) (K : SK k) {v : Nat} (hv : v < 108) : m_X6_cost fu N k (nI v) = some (nI (wS S v)) := by
  unfold m_X6_cost wS
  rw [K.2.1, chk_t (inb_nI hv (by decide)), nI_clamp (by omega), R.ce hv]
  by_cases e : S 0 v = 0
  · rw [if_pos e, if_pos e]; rfl
  · rw [if_neg e, if_neg e]; rfl
theorem beside_L46 (H : FW N F) {x y xc : Nat} (hx : xc < 12) (hy : y < 9) : ∀ (d z g a : Nat), min 8 (y + 1) + 1 - z = d → z < 20 → d < g → a < 2 ^ 30 → ∃ r, m_X6_leastBeside_L46 fu N k (nI x) (nI y) (nI xc) g (nI a) (nI z) = some (nI r) ∧ r ≤ a ∧ (∀ b, z ≤ b → b ≤ min 8 (y + 1) → r ≤ F (12 * b + xc)) ∧ (r = a ∨ ∃ b, z ≤ b ∧ b ≤ min 8 (y + 1) ∧ r = F (12 * b + xc)) := by
  intro d
  induction d with
  | zero =>
    intro z g a hd hz hg ha
    obtain ⟨g, rfl⟩ := f1 hg
    rw [m_X6_leastBeside_L46, mlet_s, mlet_s, nI_1, show (8 : Int32) = nI 8 from rfl, min_nI (by omega) (by omega), if_pos (nI_lt (by omega) (by omega))]
    exact ⟨a, rfl, Nat.le_refl a, fun b h1 h2 => by omega, Or.inl rfl⟩
  | succ d ih =>
    intro z g a hd hz hg ha
    obtain ⟨g, rfl⟩ := f1 hg
    have hv : 12 * z + xc < 108 := by omega
    obtain ⟨h1, h2⟩ := H _ hv
    rw [m_X6_leastBeside_L46, mlet_s, mlet_s, nI_1, show (8 : Int32) = nI 8 from rfl, min_nI (by omega) (by omega), if_neg (nI_nlt (by omega) (by omega)), show (12 : Int32) * nI z = nI (12 * z) from pk_mul 12 z, nI_add, al47, chk_t (inb_nI hv (by decide)), nI_clamp (n := 12 * z + xc) (by omega), mlet_s, show N (44 + 3) (12 * z + xc) = nI (F (12 * z + xc)) from h1, min_nI (by omega) (by omega), mlet_s, mlet_s, nI_1]
    obtain ⟨r, e1, r1, r2, r3⟩ := ih (z + 1) g (min a (F (12 * z + xc))) (by omega) (by omega) (by omega) (by omega)
    refine ⟨r, e1, by omega, fun b b1 b2 => ?_, ?_⟩
    · by_cases e : b = z
      · subst e; omega
      · exact r2 b (by omega) b2
    · rcases r3 with e | ⟨b, b1, b2, b3⟩
      · by_cases c : a ≤ F (12 * z + xc)
        · exact Or.inl (by omega)
        · exact Or.inr ⟨z, Nat.le_refl z, by omega, by omega⟩
      · exact Or.inr ⟨b, by omega, b2, b3⟩
theorem beside_L24 (hf : 30 < fu) (H : FW N F) {x y : Nat} (hx : x < 12) (hy : y < 9) : ∀ (d z g a : Nat), min 11 (x + 1) + 1 - z = d → z < 20 → d < g → a < 2 ^ 30 → ∃ r, m_X6_leastBeside_L24 fu N k (nI x) (nI y) g (nI a) (nI z) = some (nI r) ∧ r ≤ a ∧ (∀ c b, z ≤ c → c ≤ min 11 (x + 1) → y - 1 ≤ b → b ≤ min 8 (y + 1) → r ≤ F (12 * b + c)) ∧ (r = a ∨ ∃ c b, z ≤ c ∧ c ≤ min 11 (x + 1) ∧ y - 1 ≤ b ∧ b ≤ min 8 (y + 1) ∧ r = F (12 * b + c)) := by
  intro d
  induction d with
  | zero =>
    intro z g a hd hz hg ha
    obtain ⟨g, rfl⟩ := f1 hg
    rw [m_X6_leastBeside_L24, mlet_s, mlet_s, nI_1, show (11 : Int32) = nI 11 from rfl, min_nI (by omega) (by omega), if_pos (nI_lt (by omega) (by omega))]
    exact ⟨a, rfl, Nat.le_refl a, fun b c h1 h2 => by omega, Or.inl rfl⟩
  | succ d ih =>
    intro z g a hd hz hg ha
    obtain ⟨g, rfl⟩ := f1 hg
    have hy0 : mmax 0 (nI y - 1) = nI (y - 1) := (by decide : ∀ a < 12, mmax 0 (nI a - 1) = nI (a - 1)) y (by omega)
    have k0 : mmin (nI 11) (nI (x + 1)) = nI (min 11 (x + 1)) := min_nI (by omega) (by omega)
    have k1 : ¬ nI (min 11 (x + 1)) < nI z := nI_nlt (by omega) (by omega)
    have k2 : min 11 (x + 1) + 1 - (z + 1) = d := by omega
    have k3 : z + 1 < 20 := by omega
    have k4 : d < g := by omega
    obtain ⟨r0, e0, p1, p2, p3⟩ := beside_L46 (fu := fu) (k := k) H (x := x) (y := y) (xc := z) (by omega) hy (min 8 (y + 1) + 1 - (y - 1)) (y - 1) fu a rfl (by omega) (by omega) ha
    rw [m_X6_leastBeside_L24, mlet_s, mlet_s, nI_1, show (11 : Int32) = nI 11 from rfl, k0, if_neg k1, mlet_s, mlet_s, hy0, e0, cb1_s, mlet_s, nI_1]
    obtain ⟨r, e1, r1, r2, r3⟩ := ih (z + 1) g r0 k2 k3 k4 (Nat.lt_of_le_of_lt p1 ha)
    refine ⟨r, e1, Nat.le_trans r1 p1, fun c b c1 c2 b1 b2 => ?_, ?_⟩
    · by_cases e : c = z
      · subst e
        have := p2 b b1 b2
        omega
      · exact r2 c b (by omega) c2 b1 b2
    · rcases r3 with e | ⟨c, b, c1, c2, b1, b2, b3⟩
      · rcases p3 with e2 | ⟨b, b1, b2, b3⟩
        · exact Or.inl (by omega)
        · exact Or.inr ⟨z, b, Nat.le_refl z, by omega, b1, b2, by omega⟩
      · exact Or.inr ⟨c, b, by omega, c2, b1, b2, b3⟩
theorem least_s (hf : 30 < fu) (H : FW N F) {v : Nat} (hv : v < 108) : ∃ r, m_X6_leastBeside fu N k (nI v) = some (nI r) ∧ r ≤ 9999 ∧ (∀ u, u < 108 → adj u v → r ≤ F u) ∧ (r = 9999 ∨ ∃ u, u < 108 ∧ adj u v ∧ r = F u) := by
  have hx0 : mmax 0 (nI (v % 12) - 1) = nI (v % 12 - 1) := (by decide : ∀ a < 12, mmax 0 (nI a - 1) = nI (a - 1)) (v % 12) (by omega)
  obtain ⟨r, e1, r1, r2, r3⟩ := beside_L24 (fu := fu) (k := k) hf H (x := v % 12) (y := v / 12) (by omega) (by omega) (min 11 (v % 12 + 1) + 1 - (v % 12 - 1)) (v % 12 - 1) fu 9999 rfl (by omega) (by omega) (by omega)
  refine ⟨r, ?_, r1, fun u hu ha => ?_, ?_⟩
  · rw [m_X6_leastBeside, mlet_s, mlet_s, mlet_s, mlet_s, r12 hv, d12 hv, hx0, show (9999 : Int32) = nI 9999 from rfl, e1, cb1_s]
  · unfold adj at ha
    have := r2 (u % 12) (u / 12) (by omega) (by omega) (by omega) (by omega)
    rw [show 12 * (u / 12) + u % 12 = u by omega] at this
    exact this
  · rcases r3 with e | ⟨c, b, c1, c2, b1, b2, b3⟩
    · exact Or.inl e
    · exact Or.inr ⟨12 * b + c, by omega, by unfold adj; omega, b3⟩
/-- what is below all that the steps find, stays below -/
def Below (S : Mem) (f F : Nat → Nat) : Prop := Feas S f → (∀ v, v < 108 → f v ≤ 110) → (∀ v, v < 108 → f v ≤ F v)
theorem or_0 (b : Bool) : bI b ||| 0 = bI b := by cases b <;> decide
theorem or_1 (b : Bool) : bI b ||| 1 = bI true := by cases b <;> decide
theorem round_L50 (hk : 47 < k) (K : SK k) (hf : 30 < fu) : ∀ (d i g : Nat) (N : Mem) (F : Nat → Nat) (b : Bool), i + d = 108 → d < g → RR k N S → FW N F → (∀ v, v < 12 → F v ≤ wS S v) → ∃ N1 F1 b1, m_X6_shuts_L50 fu k g N (bI b) (nI i) = some (N1, bI b1) ∧ FW N1 F1 ∧ Wr N N1 ∧ (∀ v, v < 12 → F1 v ≤ wS S v) ∧ (∀ f, Below S f F → Below S f F1) ∧ sm F1 108 ≤ sm F 108 ∧ (b = true → b1 = true) ∧ (b1 = true → b = true ∨ sm F1 108 < sm F 108) ∧ (b1 = false → F1 = F ∧ ∀ j, i ≤ j → j < 108 → ∀ u, u < 108 → adj u j → F j ≤ F u + wS S j) := by
  intro d
  induction d with
  | zero =>
    intro i g N F b hi hg R H T
    obtain ⟨g, rfl⟩ := f1 hg
    rw [m_X6_shuts_L50, if_pos (show (108 : Int32) ≤ nI i from nI_le (a := 108) (by omega) (by omega))]
    exact ⟨N, F, b, rfl, H, Wr.rf, T, fun f h => h, Nat.le_refl _, fun h => h, fun h => Or.inl h, fun _ => ⟨rfl, fun j h1 h2 => by omega⟩⟩
  | succ d ih =>
    intro i g N F b hi hg R H T
    obtain ⟨g, rfl⟩ := f1 hg
    have hi8 : i < 108 := by omega
    obtain ⟨h1, h2⟩ := H i hi8
    obtain ⟨r, e1, r1, r2, r3⟩ := least_s (fu := fu) (k := k) hf H hi8
    have hw := wS_le (S := S) (v := i)
    have hN : N (44 + 3) i = nI (F i) := h1
    rw [m_X6_shuts_L50, if_neg (show ¬ (108 : Int32) ≤ nI i from nI_ge (b := 108) (by omega) (by omega)), al47, chk_t (inb_nI hi8 (by decide)), e1, cb1_s, cost_s R K hi8, cb1_s, nI_clamp (n := i) (by omega), hN, mlet_s, mlet_s, nI_add, min_nI (by omega) (by omega), mlet_s, chk_t (inb_nI hi8 (by decide)), nI_1, or_0, or_1]
    have H1 : FW (mst N 47 i (nI (min (F i) (r + wS S i)))) (un F i (min (F i) (r + wS S i))) := by
      intro v hv
      by_cases e : v = i
      · subst e
        rw [mst_s, un_s]
        exact ⟨rfl, by omega⟩
      · rw [mst_o (fun z => e z.2), un_o e]
        exact H v hv
    have T1 : ∀ v, v < 12 → un F i (min (F i) (r + wS S i)) v ≤ wS S v := by
      intro v hv
      have := T v hv
      by_cases e : v = i
      · subst e
        rw [un_s]
        omega
      · rw [un_o e]
        exact this
    have B1 : ∀ f, Below S f F → Below S f (un F i (min (F i) (r + wS S i))) := by
      intro f hB fe fb v hv
      have hle := hB fe fb
      by_cases e : v = i
      · subst e
        rw [un_s]
        have q1 := hle v hv
        have q2 : f v ≤ r + wS S v := by
          rcases r3 with z | ⟨u, u1, u2, u3⟩
          · have := fb v hv
            omega
          · have := fe.2 u v u1 hv u2
            have := hle u u1
            omega
        omega
      · rw [un_o e]
        exact hle v hv
    have hsm := sm_un (F := F) (v := i) (x := min (F i) (r + wS S i)) 108 hi8
    by_cases c : F i ≤ r + wS S i
    · have em : min (F i) (r + wS S i) = F i := by omega
      have eF : un F i (F i) = F := by
        funext v
        by_cases e : v = i
        · subst e; exact un_s _ _ _
        · exact un_o e
      rw [em] at H1 T1 B1 ⊢
      rw [eF] at H1
      rw [if_pos (nI_le (Nat.le_refl _) (by omega)), mlet_s, chk_t (inb_nI hi8 (by decide)), mlet_s, mlet_s]
      obtain ⟨N1, F1, b1, g1, g2, g3, g4, g5, g6, g7, g8, g9⟩ := ih (i + 1) g (mst N 47 i (nI (F i))) F b (by omega) (by omega) (R.wf hk Wr.wr) H1 T
      refine ⟨N1, F1, b1, g1, g2, Wr.wr.tr g3, g4, g5, g6, g7, g8, fun hb => ?_⟩
      obtain ⟨k1, k2⟩ := g9 hb
      refine ⟨k1, fun j j1 j2 u u1 u2 => ?_⟩
      by_cases e : j = i
      · subst e
        have := r2 u u1 u2
        omega
      · exact k2 j (by omega) j2 u u1 u2
    · have em : min (F i) (r + wS S i) = r + wS S i := by omega
      rw [em] at H1 T1 B1 hsm ⊢
      rw [if_neg (nI_ge (by omega) (by omega)), mlet_s, chk_t (inb_nI hi8 (by decide)), mlet_s, mlet_s]
      obtain ⟨N1, F1, b1, g1, g2, g3, g4, g5, g6, g7, g8, g9⟩ := ih (i + 1) g (mst N 47 i (nI (r + wS S i))) (un F i (r + wS S i)) true (by omega) (by omega) (R.wf hk Wr.wr) H1 T1
      have g7 := g7 rfl
      refine ⟨N1, F1, b1, g1, g2, Wr.wr.tr g3, g4, fun f h => g5 f (B1 f h), by omega, fun _ => g7, fun _ => Or.inr (by omega), fun hb => ?_⟩
      rw [g7] at hb
      cases hb
theorem rounds_L42 (hk : 47 < k) (K : SK k) (hf : 120 < fu) : ∀ (B g : Nat) (N : Mem) (F : Nat → Nat), sm F 108 ≤ B → B + 1 < g → RR k N S → FW N F → (∀ v, v < 12 → F v ≤ wS S v) → ∃ N1 F1, m_X6_shuts_L42 fu k g N 1 = some N1 ∧ FW N1 F1 ∧ Wr N N1 ∧ Feas S F1 ∧ ∀ f, Below S f F → Below S f F1 := by
  intro B
  induction B with
  | zero =>
    intro g N F hB hg R H T
    obtain ⟨g, rfl⟩ := f1 (show 0 < g by omega)
    obtain ⟨N1, F1, b1, g1, g2, g3, g4, g5, g6, g7, g8, g9⟩ := round_L50 (fu := fu) hk K (by omega) 108 0 fu N F false (by omega) (by omega) R H T
    rw [nI_0, show bI false = 0 from rfl] at g1
    rw [m_X6_shuts_L42, if_neg (by decide), g1, cb1_s]
    cases b1 with
    | true =>
      rcases g8 rfl with z | z
      · cases z
      · omega
    | false =>
      obtain ⟨g, rfl⟩ := f1 (show 0 < g by omega)
      obtain ⟨k1, k2⟩ := g9 rfl
      refine ⟨N1, F1, ?_, g2, g3, ⟨g4, fun u v hu hv ha => ?_⟩, g5⟩
      · show m_X6_shuts_L42 fu k (g + 1) N1 (bI false) = some N1
        rw [m_X6_shuts_L42, if_pos (by decide)]
      · rw [k1]
        exact k2 v (Nat.zero_le v) hv u hu ha
  | succ B ih =>
    intro g N F hB hg R H T
    obtain ⟨g, rfl⟩ := f1 (show 0 < g by omega)
    obtain ⟨N1, F1, b1, g1, g2, g3, g4, g5, g6, g7, g8, g9⟩ := round_L50 (fu := fu) hk K (by omega) 108 0 fu N F false (by omega) (by omega) R H T
    rw [nI_0, show bI false = 0 from rfl] at g1
    rw [m_X6_shuts_L42, if_neg (by decide), g1, cb1_s]
    cases b1 with
    | true =>
      rcases g8 rfl with z | z
      · cases z
      · obtain ⟨N2, F2, q1, q2, q3, q4, q5⟩ := ih g N1 F1 (by omega) (by omega) (R.wf hk g3) g2 g4
        exact ⟨N2, F2, q1, q2, g3.tr q3, q4, fun f h => q5 f (g5 f h)⟩
    | false =>
      obtain ⟨g, rfl⟩ := f1 (show 0 < g by omega)
      obtain ⟨k1, k2⟩ := g9 rfl
      refine ⟨N1, F1, ?_, g2, g3, ⟨g4, fun u v hu hv ha => ?_⟩, g5⟩
      · show m_X6_shuts_L42 fu k (g + 1) N1 (bI false) = some N1
        rw [m_X6_shuts_L42, if_pos (by decide)]
      · rw [k1]
        exact k2 v (Nat.zero_le v) hv u hu ha
theorem first_L2 (hk : 47 < k) (K : SK k) : ∀ (d i g : Nat) (N : Mem), i + d = 108 → d < g → RR k N S → ∃ N1, m_X6_shuts_L2 fu k g N (nI i) = some N1 ∧ Wr N N1 ∧ ∀ j, j < 108 → N1 47 j = if i ≤ j then nI (if j < 12 then wS S j else 9999) else N 47 j := by
  intro d
  induction d with
  | zero =>
    intro i g N hi hg R
    obtain ⟨g, rfl⟩ := f1 hg
    rw [m_X6_shuts_L2, if_pos (show (108 : Int32) ≤ nI i from nI_le (a := 108) (by omega) (by omega))]
    exact ⟨N, rfl, Wr.rf, fun j hj => by rw [if_neg (by omega)]⟩
  | succ d ih =>
    intro i g N hi hg R
    obtain ⟨g, rfl⟩ := f1 hg
    have hi8 : i < 108 := by omega
    have hst : ∀ x : Nat, ∃ N1, m_X6_shuts_L2 fu k g (mst N 47 i (nI x)) (nI (i + 1)) = some N1 ∧ Wr N N1 ∧ ∀ j, j < 108 → N1 47 j = if i + 1 ≤ j then nI (if j < 12 then wS S j else 9999) else (if j = i then nI x else N 47 j) := by
      intro x
      obtain ⟨N1, e1, w1, h1⟩ := ih (i + 1) g (mst N 47 i (nI x)) (by omega) (by omega) (R.wf hk Wr.wr)
      refine ⟨N1, e1, Wr.wr.tr w1, fun j hj => ?_⟩
      rw [h1 j hj]
      by_cases e : i + 1 ≤ j
      · rw [if_pos e, if_pos e]
      · rw [if_neg e, if_neg e]
        by_cases e2 : j = i
        · subst e2
          rw [if_pos rfl, mst_s]
        · rw [if_neg e2, mst_o (fun z => e2 z.2)]
    rw [m_X6_shuts_L2, if_neg (show ¬ (108 : Int32) ≤ nI i from nI_ge (b := 108) (by omega) (by omega)), al47, chk_t (inb_nI hi8 (by decide)), cost_s R K hi8, cb1_s, chk_t (inb_nI hi8 (by decide)), nI_clamp (n := i) (by omega), mlet_s, mlet_s, mlet_s, mlet_s, nI_1]
    by_cases c : 12 ≤ i
    · rw [if_pos (show (12 : Int32) ≤ nI i from nI_le (a := 12) c (by omega))]
      obtain ⟨N1, e1, w1, h1⟩ := hst 9999
      refine ⟨N1, e1, w1, fun j hj => ?_⟩
      rw [h1 j hj]
      by_cases e : i + 1 ≤ j
      · rw [if_pos e, if_pos (show i ≤ j by omega)]
      · rw [if_neg e]
        by_cases e2 : j = i
        · subst e2
          rw [if_pos rfl, if_pos (Nat.le_refl j), if_neg (by omega)]
        · rw [if_neg e2, if_neg (by omega)]
    · rw [if_neg (show ¬ (12 : Int32) ≤ nI i from nI_ge (b := 12) (by omega) (by omega))]
      obtain ⟨N1, e1, w1, h1⟩ := hst (wS S i)
      refine ⟨N1, e1, w1, fun j hj => ?_⟩
      rw [h1 j hj]
      by_cases e : i + 1 ≤ j
      · rw [if_pos e, if_pos (show i ≤ j by omega)]
      · rw [if_neg e]
        by_cases e2 : j = i
        · subst e2
          rw [if_pos rfl, if_pos (Nat.le_refl j), if_pos (by omega)]
        · rw [if_neg e2, if_neg (by omega)]
theorem last_L127 (H : FW N F) : ∀ (d i g a : Nat), i + d = 108 → d < g → a < 2 ^ 30 → m_X6_shuts_L127 fu N k g (nI a) (nI i) = some (nI (minL F i d a)) := by
  intro d
  induction d with
  | zero =>
    intro i g a hi hg ha
    obtain ⟨g, rfl⟩ := f1 hg
    rw [m_X6_shuts_L127, if_pos (show (108 : Int32) ≤ nI i from nI_le (a := 108) (by omega) (by omega))]
    rfl
  | succ d ih =>
    intro i g a hi hg ha
    obtain ⟨g, rfl⟩ := f1 hg
    obtain ⟨h1, h2⟩ := H i (by omega)
    rw [m_X6_shuts_L127, if_neg (show ¬ (108 : Int32) ≤ nI i from nI_ge (b := 108) (by omega) (by omega)), al47, chk_t (inb_nI (by omega) (by decide)), nI_clamp (n := i) (by omega), mlet_s, show N (44 + 3) i = nI (F i) from h1, min_nI (by omega) (by omega), mlet_s, mlet_s, nI_1, ih (i + 1) g _ (by omega) (by omega) (by omega)]
    rfl
theorem rshut_s (hk : 47 < k) (K : SK k) (hf : 2000000 < fu) (R : RR k N S) : ∃ N1 F, m_X6_shuts fu N k = some (N1, nI (minL F 96 12 9999)) ∧ Feas S F ∧ (∀ f, Feas S f → (∀ v, v < 108 → f v ≤ 110) → ∀ v, v < 108 → f v ≤ F v) ∧ Wr N N1 := by
  obtain ⟨N1, e1, w1, h1⟩ := first_L2 (fu := fu) hk K 108 0 fu N (by omega) (by omega) R
  have H1 : FW N1 (fun j => if j < 12 then wS S j else 9999) := fun v hv => by
    refine ⟨by rw [h1 v hv, if_pos (Nat.zero_le v)], ?_⟩
    have := wS_le (S := S) (v := v)
    show (if v < 12 then wS S v else 9999) ≤ 9999
    by_cases e : v < 12
    · rw [if_pos e]; omega
    · rw [if_neg e]; omega
  have hsm : sm (fun j => if j < 12 then wS S j else 9999) 108 ≤ 108 * 9999 := sm_le2 108 (fun v hv => (H1 v hv).2)
  obtain ⟨N2, F2, e2, H2, w2, fe, bl⟩ := rounds_L42 (fu := fu) (S := S) hk K (by omega) (108 * 9999) fu N1 _ hsm (by omega) (R.wf hk w1) H1 (fun v hv => by
    show (if v < 12 then wS S v else 9999) ≤ wS S v
    rw [if_pos hv]; exact Nat.le_refl _)
  have e3 := last_L127 (fu := fu) (k := k) H2 12 96 fu 9999 (by omega) (by omega) (by omega)
  rw [nI_0] at e1
  refine ⟨N2, F2, ?_, fe, fun f f1 f2 => bl f (fun _ _ v hv => ?_) f1 f2, w1.tr w2⟩
  · rw [m_X6_shuts, e1, cb1_s, e2, cb1_s, show (9999 : Int32) = nI 9999 from rfl, show (96 : Int32) = nI 96 from rfl, e3, cb1_s]
  · show f v ≤ if v < 12 then wS S v else 9999
    by_cases e : v < 12
    · rw [if_pos e]; exact f1.1 v e
    · rw [if_neg e]
      have := f2 v hv
      omega
end RShut

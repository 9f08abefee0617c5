/-! rows of mine: net -/
def nt_cell (K : Int32) (m i j : Nat) : List (Nat × Nat) := if K = 97 then (if j = i then [] else [(i, j)]) else if K = 104 then (if i = 0 ∧ 0 < j then [(i, j), (j, i)] else []) else if K = 114 then (if j = i + 1 ∨ (i = m - 1 ∧ j = 0) then [(i, j)] else []) else (if j = i + 1 then [(i, j)] else [])
def nt_row (K : Int32) (m i : Nat) : Nat → Nat → List (Nat × Nat)
  | 0, _ => []
  | k + 1, j => nt_cell K m i j ++ nt_row K m i k (j + 1)
def nt_all (K : Int32) (m : Nat) : Nat → Nat → List (Nat × Nat)
  | 0, _ => []
  | k + 1, i => nt_row K m i m 0 ++ nt_all K m k (i + 1)
def nt_nx : Nat → Nat → List (Nat × Nat)
  | 0, _ => []
  | k + 1, i => (i, i + 1) :: nt_nx k (i + 1)
def nt_S (V : Nat → Nat) (d w : Nat) (P : List (Nat × Nat)) (n : Nat) (f t de st : Nat → Int32) : Prop := n = P.length ∧ ∀ k, k < n → f k = nI (V (P.getD k (0, 0)).1) ∧ t k = nI (V (P.getD k (0, 0)).2) ∧ de k = nI d ∧ st k = nI w
def nt_T (V : Nat → Nat) (d w : Nat) (P : List (Nat × Nat)) (s : Nat × (Nat → Int32) × (Nat → Int32) × (Nat → Int32) × (Nat → Int32)) : Prop := nt_S V d w P s.1 s.2.1 s.2.2.1 s.2.2.2.1 s.2.2.2.2
def nt_C (V : Nat → Nat) (d w : Nat) (P : List (Nat × Nat)) (o : Int32 × (Nat → Int32) × (Nat → Int32) × (Nat → Int32) × (Nat → Int32)) : Prop := ∃ n, o.1 = nI n ∧ nt_S V d w P n o.2.1 o.2.2.1 o.2.2.2.1 o.2.2.2.2
theorem nt_eL : ∀ m, m < 17 → 2 ≤ m → nt_all 108 m m 0 = nt_nx (m - 1) 0 ∧ (nt_all 108 m m 0).length = m - 1 := by decide +kernel
theorem nt_eR : ∀ m, m < 17 → 2 ≤ m → nt_all 114 m m 0 = nt_nx (m - 1) 0 ++ [(m - 1, 0)] ∧ (nt_all 114 m m 0).length = m := by decide +kernel
theorem nt_eH : ∀ m, m < 17 → 2 ≤ m → nt_all 104 m m 0 = nt_row 104 m 0 (m - 1) 1 ∧ (nt_all 104 m m 0).length = 2 * (m - 1) := by decide +kernel
theorem nt_eA : ∀ m, m < 17 → 2 ≤ m → (nt_all 97 m m 0).length = m * (m - 1) := by decide +kernel
theorem nt_q1 : ∀ m, m < 17 → ((nI m ≤ (60 : Int32)) ↔ m ≤ 60) ∧ ((nI m - (1 : Int32) ≤ (60 : Int32)) ↔ m - 1 ≤ 60) ∧ (2 ≤ m → (((2 : Int32) * (nI m - (1 : Int32)) ≤ (60 : Int32)) ↔ 2 * (m - 1) ≤ 60)) ∧ ((nI m * (nI m - (1 : Int32)) ≤ (60 : Int32)) ↔ m * (m - 1) ≤ 60) ∧ (nI m < (2 : Int32) ↔ m < 2) := by decide +kernel
theorem nt_e (V : Nat → Nat) (d w : Nat) (f t de st : Nat → Int32) : nt_C V d w [] ((0 : Int32), f, t, de, st) := ⟨0, rfl, rfl, fun k hk => absurd hk (Nat.not_lt_zero _)⟩
theorem nt_t (V : Nat → Nat) (d w : Nat) (f t de st : Nat → Int32) : nt_T V d w [] (0, f, t, de, st) := ⟨rfl, fun k hk => absurd hk (Nat.not_lt_zero _)⟩

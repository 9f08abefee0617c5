/-! rows of mine (pure): lots, and a tick of the reference -/
/-- the i-th lot from z on -/
def ma_z (z : Nat) : Nat → Nat
  | 0 => z
  | i + 1 => ma_z z i * 48271 % 2147483647
theorem ma_z_lt {z : Nat} (h : z < 2147483647) : ∀ i, ma_z z i < 2147483647
  | 0 => h
  | i + 1 => Nat.mod_lt _ (by omega)
theorem lg_ge0 (x y : Int64) : (0 ≤ lg_cmp x y) = (y ≤ x) := by
  unfold lg_cmp
  apply propext
  by_cases h1 : x > y
  · rw [if_pos h1]
    exact ⟨fun _ => Int64.le_of_lt h1, fun _ => by decide⟩
  · rw [if_neg h1]
    by_cases h2 : x = y
    · rw [if_pos h2]
      subst h2
      exact ⟨fun _ => Int64.le_refl _, fun _ => by decide⟩
    · rw [if_neg h2]
      constructor
      · intro h; exact absurd h (by decide)
      · intro h
        exact absurd (Int64.le_antisymm (Int64.not_lt.mp h1) h) h2
theorem vn0 : vp_nar .boolean (0 : Int32) = 0 := by decide
theorem vn1 : vp_nar .boolean (1 : Int32) = 1 := by decide
/-- the lots of the beaters that are there, in their places' order -/
def ma_b (x : Int32) (h z : Nat) (p : Nat) : Int32 := if 0 < h ∧ ma_z z ((ms_l x p).length + 1) % 100 < h then 1 else 0
def ma_ze (x : Int32) (h z : Nat) (p : Nat) : Nat := if h = 0 then z else ma_z z (ms_l x p).length

/-! rows of mine (pure): the flashes of a cycle in their order -/
theorem nI_m1 {n : Nat} (h : 0 < n) : nI n + (-1 : Int32) = nI (n - 1) := by
  obtain ⟨m, rfl⟩ : ∃ j, n = j + 1 := ⟨n - 1, by omega⟩
  rw [← nI_1, Int32.add_assoc, show (1 : Int32) + (-1 : Int32) = 0 from by decide, Int32.add_zero]
  rfl
theorem ms_drop {l : List Nat} {i : Nat} (h : i < l.length) : l.drop i = l.getD i 0 :: l.drop (i + 1) := by
  rw [ms_gd h, List.drop_eq_getElem_cons h]
theorem mx_flasherAt_neg {N l c : Nat} (hN : 1 ≤ N) (hc : 1 ≤ c) {fl places : Nat → Int32} {b v : Int32} (hcb : c < 2 ^ 31) (hv : v < 0) : f_X4_flasherAt N (nI l) (nI c) fl b places v = some (-1) := by
  obtain ⟨M, rfl⟩ : ∃ j, N = j + 1 := ⟨N - 1, by omega⟩
  have e : f_X4_flasherAt_5 (M + 1) (nI l) (nI c) fl b places (M + 1) v (0 : Int32) = some (.inr (v, 0)) := by
    rw [f_X4_flasherAt_5, if_neg (show ¬ nI c ≤ (0 : Int32) from nI_ge (a := 0) (by omega) hcb), if_pos hv]
  unfold f_X4_flasherAt
  rw [e]
  rfl

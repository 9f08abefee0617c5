/-! rows of mine (pure): one flash in a cycle -/
theorem one_cnt : ∀ P, P < 100 → ∀ a, a < P → (List.range P).countP (fun t => decide ((a + t + 1) % P = 0)) = 1 := by decide +kernel

/-! rows of mine (pure): the count of bits -/
def mb_8 (a : Nat) : Nat := (if a.testBit 0 then 1 else 0) + (if a.testBit 1 then 1 else 0) + (if a.testBit 2 then 1 else 0) + (if a.testBit 3 then 1 else 0) + (if a.testBit 4 then 1 else 0) + (if a.testBit 5 then 1 else 0) + (if a.testBit 6 then 1 else 0) + (if a.testBit 7 then 1 else 0)
theorem mb_t0 : ∀ a, a < 64 → ∀ b, b < 256 → f_J6_bitCount_0f7a4 0 (nI (a * 256 + b)) = some (nI (mb_8 a + mb_8 b)) := by decide +kernel
theorem mb_t1 : ∀ a, a < 64 → ∀ b, b < 256 → f_J6_bitCount_0f7a4 0 (nI ((64 + a) * 256 + b)) = some (nI (mb_8 (64 + a) + mb_8 b)) := by decide +kernel
theorem mb_t2 : ∀ a, a < 64 → ∀ b, b < 256 → f_J6_bitCount_0f7a4 0 (nI ((128 + a) * 256 + b)) = some (nI (mb_8 (128 + a) + mb_8 b)) := by decide +kernel
theorem mb_t3 : ∀ a, a < 64 → ∀ b, b < 256 → f_J6_bitCount_0f7a4 0 (nI ((192 + a) * 256 + b)) = some (nI (mb_8 (192 + a) + mb_8 b)) := by decide +kernel
theorem mb_t {a b : Nat} (ha : a < 256) (hb : b < 256) : f_J6_bitCount_0f7a4 0 (nI (a * 256 + b)) = some (nI (mb_8 a + mb_8 b)) := by
  rcases Nat.lt_or_ge a 64 with h | h
  · exact mb_t0 a h b hb
  · rcases Nat.lt_or_ge a 128 with h2 | h2
    · have := mb_t1 (a - 64) (by omega) b hb
      rwa [show 64 + (a - 64) = a by omega] at this
    · rcases Nat.lt_or_ge a 192 with h3 | h3
      · have := mb_t2 (a - 128) (by omega) b hb
        rwa [show 128 + (a - 128) = a by omega] at this
      · have := mb_t3 (a - 192) (by omega) b hb
        rwa [show 192 + (a - 192) = a by omega] at this

/-! rows of mine (pure): the reference's tick, whole -/
/-- a field of the reference, at its time -/
def ma_rm (t : Nat) (ph w : Nat → Int32) (S : ma_S) : Prop := (∀ p, p < 16 → ph p = S.1 p) ∧ (∀ p d, p < 16 → 1 ≤ d → d ≤ 30 → w (p * 31 + (t + d) % 31) = S.2 p d) ∧ ∀ p, p < 16 → w (p * 31 + t % 31) = 0

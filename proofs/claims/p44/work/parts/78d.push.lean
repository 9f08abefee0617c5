/-! rows of mine (pure): push agrees -/
theorem mx_checkRange {N : Nat} (v lo hi : Int32) : f_X5_checkRange N v lo hi = some (if lo.toInt ≤ v.toInt ∧ v.toInt ≤ hi.toInt then .inr () else .inl "java/lang/IllegalArgumentException") := by
  unfold f_X5_checkRange
  by_cases h1 : v < lo
  · rw [if_pos h1]
    rw [Int32.lt_iff_toInt_lt] at h1
    rw [if_neg (by omega)]
  · rw [if_neg h1]
    rw [Int32.lt_iff_toInt_lt] at h1
    by_cases h2 : v ≤ hi
    · rw [if_pos h2]
      rw [Int32.le_iff_toInt_le] at h2
      rw [if_pos (by omega)]
    · rw [if_neg h2]
      rw [Int32.le_iff_toInt_le] at h2
      rw [if_neg (by omega)]
def ma_pu (f c v : Int32) : Int32 := if (0 : Int32) < (if f + v < c - (1 : Int32) then f + v else c - (1 : Int32)) then (if f + v < c - (1 : Int32) then f + v else c - (1 : Int32)) else (0 : Int32)
theorem ma_pu_nI {d : Nat} (f v : Int32) (hd : 1 ≤ d) (hd2 : d < 2 ^ 31) : ∃ b, b < d ∧ ma_pu f (nI d) v = nI b := by
  unfold ma_pu
  rw [nI_p1 hd]
  generalize f + v = w
  by_cases h1 : w < nI (d - 1)
  · rw [if_pos h1]
    by_cases h2 : (0 : Int32) < w
    · rw [if_pos h2]
      rcases i32_cases w with hw | ⟨b, hb, rfl⟩
      · rw [Int32.lt_iff_toInt_lt] at hw h2
        omega
      · have := (nI_ltI hb (by omega)).mp h1
        exact ⟨b, by omega, rfl⟩
    · rw [if_neg h2]
      exact ⟨0, by omega, rfl⟩
  · rw [if_neg h1]
    by_cases h2 : (0 : Int32) < nI (d - 1)
    · rw [if_pos h2]
      exact ⟨d - 1, by omega, rfl⟩
    · rw [if_neg h2]
      exact ⟨0, by omega, rfl⟩

/-! rows of mine (pure): fields of the reference: taken over, and compared -/
theorem vnb {v : Int32} (h : v = 0 ∨ v = 1) : vp_nar .boolean v = v := by
  rcases h with rfl | rfl
  · exact vn0
  · exact vn1
/-- a field's beaters, as the setting has them -/
def ma_fd (x : Int32) (per qui isT perR quiR : Nat → Int32) : Prop := ∀ p, p < 16 → isT p = (if bt x p then 1 else 0) ∧ (bt x p = true → perR p = per p ∧ quiR p = qui p)

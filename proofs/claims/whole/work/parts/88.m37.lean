/-! rows of mine (pure): two beaters asked for -/
theorem mx_pair {N : Nat} (v1 v2 : Int32) {x : Int32} {isT : Nat → Int32} (hT : ∀ q, q < 16 → isT q = if bt x q then 1 else 0) : (f_X5_checkPair N x v1 v2 = some (.inl "java/lang/IndexOutOfBoundsException") ∧ f_X8_noTwo N isT v1 v2 1 = some (1, 1)) ∨ (f_X5_checkPair N x v1 v2 = some (.inl "java/lang/IllegalArgumentException") ∧ f_X8_noTwo N isT v1 v2 1 = some (1, 2)) ∨ (f_X5_checkPair N x v1 v2 = some (.inl "java/util/NoSuchElementException") ∧ f_X8_noTwo N isT v1 v2 1 = some (1, 3)) ∨ ∃ p q, p < 16 ∧ q < 16 ∧ p ≠ q ∧ v1 = nI p ∧ v2 = nI q ∧ bt x p = true ∧ bt x q = true ∧ f_X5_checkPair N x v1 v2 = some (.inr ()) ∧ f_X8_noTwo N isT v1 v2 1 = some (0, 0) := by
  rcases mx_place (N := N) v1 (x := x) (isT := isT) hT with ⟨p1, p2⟩ | ⟨p1, p2, h1⟩
  · refine Or.inl ⟨?_, ?_⟩
    · unfold f_X5_checkPair
      rw [p1]
      rfl
    · unfold f_X8_noTwo
      rw [p2]
      rfl
  rcases mx_place (N := N) v2 (x := x) (isT := isT) hT with ⟨p3, p4⟩ | ⟨p3, p4, h2⟩
  · refine Or.inl ⟨?_, ?_⟩
    · unfold f_X5_checkPair
      rw [p1, Option.bind_some]
      simp only [Sum.elim_inr]
      rw [p3]
      rfl
    · unfold f_X8_noTwo
      rw [p2, Option.bind_some, if_neg (show ¬ (1 : Int32) = 0 by decide)]
      rw [p4]
      rfl
  by_cases he : v1 = v2
  · have o1 : f_X5_checkOther N v1 v2 = some (.inl "java/lang/IllegalArgumentException") := by unfold f_X5_checkOther; rw [if_pos he]
    refine Or.inr (Or.inl ⟨?_, ?_⟩)
    · unfold f_X5_checkPair
      rw [p1, Option.bind_some]
      simp only [Sum.elim_inr]
      rw [p3, Option.bind_some]
      simp only [Sum.elim_inr]
      rw [o1]
      rfl
    · unfold f_X8_noTwo
      rw [p2, Option.bind_some, if_neg (show ¬ (1 : Int32) = 0 by decide)]
      rw [p4, Option.bind_some, if_neg (show ¬ (1 : Int32) = 0 by decide)]
      rw [if_pos he]
  have o1 : f_X5_checkOther N v1 v2 = some (.inr ()) := by unfold f_X5_checkOther; rw [if_neg he]
  rcases h1 with ⟨b1, b2⟩ | ⟨p, hp, hv1, hbp, b1, b2⟩
  · refine Or.inr (Or.inr (Or.inl ⟨?_, ?_⟩))
    · unfold f_X5_checkPair
      rw [p1, Option.bind_some]
      simp only [Sum.elim_inr]
      rw [p3, Option.bind_some]
      simp only [Sum.elim_inr]
      rw [o1, Option.bind_some]
      simp only [Sum.elim_inr]
      rw [b1]
      rfl
    · unfold f_X8_noTwo
      rw [p2, Option.bind_some, if_neg (show ¬ (1 : Int32) = 0 by decide)]
      rw [p4, Option.bind_some, if_neg (show ¬ (1 : Int32) = 0 by decide)]
      rw [if_neg he]
      rw [if_neg (show ¬ (1 : Int32) = 0 by decide)]
      rw [b2]
      rfl
  rcases h2 with ⟨b3, b4⟩ | ⟨q, hq, hv2, hbq, b3, b4⟩
  · refine Or.inr (Or.inr (Or.inl ⟨?_, ?_⟩))
    · unfold f_X5_checkPair
      rw [p1, Option.bind_some]
      simp only [Sum.elim_inr]
      rw [p3, Option.bind_some]
      simp only [Sum.elim_inr]
      rw [o1, Option.bind_some]
      simp only [Sum.elim_inr]
      rw [b1, Option.bind_some]
      simp only [Sum.elim_inr]
      rw [b3]
      rfl
    · unfold f_X8_noTwo
      rw [p2, Option.bind_some, if_neg (show ¬ (1 : Int32) = 0 by decide)]
      rw [p4, Option.bind_some, if_neg (show ¬ (1 : Int32) = 0 by decide)]
      rw [if_neg he]
      rw [if_neg (show ¬ (1 : Int32) = 0 by decide)]
      rw [b2, Option.bind_some, if_neg (show ¬ (1 : Int32) = 0 by decide)]
      rw [b4]
      rfl
  refine Or.inr (Or.inr (Or.inr ⟨p, q, hp, hq, fun w => he (by rw [hv1, hv2, w]), hv1, hv2, hbp, hbq, ?_, ?_⟩))
  · unfold f_X5_checkPair
    rw [p1, Option.bind_some]
    simp only [Sum.elim_inr]
    rw [p3, Option.bind_some]
    simp only [Sum.elim_inr]
    rw [o1, Option.bind_some]
    simp only [Sum.elim_inr]
    rw [b1, Option.bind_some]
    simp only [Sum.elim_inr]
    rw [b3, Option.bind_some]
    simp only [Sum.elim_inr]
  · unfold f_X8_noTwo
    rw [p2, Option.bind_some, if_neg (show ¬ (1 : Int32) = 0 by decide), p4, Option.bind_some, if_neg (show ¬ (1 : Int32) = 0 by decide), if_neg he, if_neg (show ¬ (1 : Int32) = 0 by decide), b2, Option.bind_some, if_neg (show ¬ (1 : Int32) = 0 by decide), b4, Option.bind_some, if_neg (show ¬ (1 : Int32) = 0 by decide)]

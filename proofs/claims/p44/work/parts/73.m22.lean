/-! rows of mine (pure): two alone, set up -/
def ma_two (p q : Nat) : Int32 := ((1 : Int32) <<< (nI p &&& 31)) ||| ((1 : Int32) <<< (nI q &&& 31))
theorem ma_two_b {p q i : Nat} (hp : p < 16) (hq : q < 16) (hi : i < 32) : bt (ma_two p q) i = (decide (i = p) || decide (i = q)) := by
  unfold ma_two
  rw [ms_sb _ (show q < 32 by omega) hi]
  have := ms_sb 0 (show p < 32 by omega) hi
  rw [b_0, Bool.false_or] at this
  rw [← this]
  have e : (0 : Int32) ||| ((1 : Int32) <<< (nI p &&& 31)) = (1 : Int32) <<< (nI p &&& 31) := by
    apply b_ext
    intro j hj
    rw [b_or, b_0, Bool.false_or]
  rw [e]
theorem ma_two_t {p q i : Nat} (hp : p < 16) (hq : q < 16) : bt (ma_two p q) i = true ↔ i = p ∨ i = q := by
  rcases Nat.lt_or_ge i 32 with h | h
  · rw [ma_two_b hp hq h]
    simp
  · rw [b_big h]
    constructor
    · intro w; cases w
    · rintro (rfl | rfl) <;> omega
theorem va_cpy_at {α : Type} {f g : Nat → α} {n i : Nat} (h : i < n) : va_cpy f g 0 0 n i = f i := by
  unfold va_cpy
  rw [if_pos ⟨by omega, by omega⟩]
  simp
/-- states that start with nothing under way -/
def ma_S0 (ph : Nat → Int32) : ma_S := (ph, fun _ _ => 0)
theorem ma_rc_0 {r : Nat} (hr : r < 32) {ph co : Nat → Int32} (hc : ∀ j, j < 512 → co j = 0) : ma_rc r ph co (ma_S0 ph) := by
  refine ⟨hr, fun p _ => rfl, fun p d hp hd1 hd2 => ?_, fun p hp => ?_, fun p hp => ?_⟩
  · rw [hc _ (by have := Nat.mod_lt (r + d) (show 32 > 0 by omega); omega)]; rfl
  · exact hc _ (by omega)
  · exact hc _ (by have := Nat.mod_lt (r + 31) (show 32 > 0 by omega); omega)
theorem ma_rm_0 {t : Nat} {ph w : Nat → Int32} (hw : ∀ j, j < 496 → w j = 0) : ma_rm t ph w (ma_S0 ph) := by
  refine ⟨fun p _ => rfl, fun p d hp hd1 hd2 => ?_, fun p hp => ?_⟩
  · rw [hw _ (by have := Nat.mod_lt (t + d) (show 31 > 0 by omega); omega)]; rfl
  · exact hw _ (by have := Nat.mod_lt t (show 31 > 0 by omega); omega)

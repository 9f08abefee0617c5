/-! rows of mine: link keeps the relation -/
theorem lk_up {α : Type} {n k : Nat} {f : Nat → Int32} {v : Int32} (hk : k < n) : upd f n v k = f k := by simp [upd, show k ≠ n by omega]
theorem lk_self {n : Nat} {f : Nat → Int32} {v : Int32} : upd f n v n = v := by simp [upd]
theorem lk_add {n a b d : Nat} {froms tos delays : Nat → Int32} {fr to de : Nat → Nat} (h : ma_lk n froms tos delays fr to de) (ha : a < 16) (hb : b < 16) (hd1 : 1 ≤ d) (hd : d ≤ 30) : ma_lk (n + 1) (upd froms n (nI a)) (upd tos n (nI b)) (upd delays n (nI d)) (fun k => if k = n then a else fr k) (fun k => if k = n then b else to k) (fun k => if k = n then d else de k) := by
  intro k hk
  by_cases e : k = n
  · subst e
    dsimp only
    rw [lk_self, lk_self, lk_self, if_pos rfl, if_pos rfl, if_pos rfl]
    exact ⟨rfl, rfl, rfl, ha, hb, hd1, hd⟩
  · have hk2 : k < n := by omega
    dsimp only
    rw [lk_up (α := Nat) hk2, lk_up (α := Nat) hk2, lk_up (α := Nat) hk2, if_neg e, if_neg e, if_neg e]
    exact h k hk2
theorem lk_st {n w : Nat} {st : Nat → Int32} (h : ma_st n st) (hw : w ≤ 9) : ma_st (n + 1) (upd st n (nI w)) := by
  intro k hk
  by_cases e : k = n
  · subst e
    exact ⟨w, hw, lk_self⟩
  · rw [lk_up (α := Nat) (show k < n by omega)]
    exact h k (by omega)
theorem lk_ss {n : Nat} {a b : Nat → Int32} {v : Int32} (h : ∀ k, k < n → a k = b k) : ∀ k, k < n + 1 → upd a n v k = upd b n v k := by
  intro k hk
  by_cases e : k = n
  · subst e
    rw [lk_self, lk_self]
  · rw [lk_up (α := Nat) (show k < n by omega), lk_up (α := Nat) (show k < n by omega)]
    exact h k (by omega)

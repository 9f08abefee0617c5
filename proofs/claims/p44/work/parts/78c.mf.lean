/-! rows of mine (pure): order and groupOf agree -/
theorem ma_sc_cong {f g : Nat → Bool} : ∀ (l : List Nat) (n : Nat), (∀ p ∈ l, f p = g p) → ma_sc f l n = ma_sc g l n
  | [], n, _ => rfl
  | p :: ps, n, h => by
    have hp := h p List.mem_cons_self
    have ih := fun n => ma_sc_cong ps n (fun q hq => h q (List.mem_cons_of_mem _ hq))
    unfold ma_sc
    rw [hp]
    cases g p with
    | true =>
      cases n with
      | zero => rfl
      | succ n => exact ih n
    | false => exact ih n
theorem ma_or_cong {F G : Nat → Nat → Bool} (h : ∀ t p, p < 16 → F t p = G t p) : ∀ (k t n : Nat), ma_or F (List.range 16) k t n = ma_or G (List.range 16) k t n
  | 0, t, n => rfl
  | k + 1, t, n => by
    have e : ma_sc (F t) (List.range 16) n = ma_sc (G t) (List.range 16) n := ma_sc_cong _ _ (fun p hp => h t p (List.mem_range.mp hp))
    unfold ma_or
    rw [e]
    cases ma_sc (G t) (List.range 16) n with
    | inl p => rfl
    | inr n' => exact ma_or_cong h k (t + 1) n'
theorem ma_F_bt {x : Int32} {per qui : Nat → Int32} {an : Nat → Nat → Int32} {X : Nat → ma_S} {t p : Nat} (h : ma_F x per qui an X t p = true) : bt x p = true := by
  unfold ma_F ma_flS at h
  rw [Bool.and_eq_true] at h
  exact h.1

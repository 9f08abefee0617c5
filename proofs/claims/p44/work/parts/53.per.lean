/-! rows of mine: sequences that return (pure) -/
def pr_it {α : Type} (step : α → α) (x : α) : Nat → α
  | 0 => x
  | n + 1 => step (pr_it step x n)
theorem pr_it_add {α : Type} (step : α → α) (x : α) (m : Nat) : ∀ n, pr_it step x (m + n) = pr_it step (pr_it step x m) n
  | 0 => rfl
  | n + 1 => by
    show step (pr_it step x (m + n)) = step (pr_it step (pr_it step x m) n)
    rw [pr_it_add step x m n]
/-- from l on, c further is like it -/
def pr_ret {α : Type} (r : α → α → Prop) (X : Nat → α) (l c : Nat) : Prop := r (X (l + c)) (X l)
/-- a sequence whose next one goes by the last one alone, up to r -/
def pr_ok {α : Type} (r : α → α → Prop) (X : Nat → α) : Prop := Equivalence r ∧ ∀ i j, r (X i) (X j) → r (X (i + 1)) (X (j + 1))
theorem pr_shift {α : Type} {r : α → α → Prop} {X : Nat → α} (h : pr_ok r X) {i j : Nat} (hr : r (X i) (X j)) : ∀ k, r (X (i + k)) (X (j + k))
  | 0 => hr
  | k + 1 => h.2 _ _ (pr_shift h hr k)
theorem pr_ret_up {α : Type} {r : α → α → Prop} {X : Nat → α} (h : pr_ok r X) {l c : Nat} (hr : pr_ret r X l c) (k : Nat) : pr_ret r X (l + k) c := by
  have := pr_shift h hr k
  unfold pr_ret
  rw [show l + k + c = l + c + k by omega]
  exact this
theorem pr_ret_le {α : Type} {r : α → α → Prop} {X : Nat → α} (h : pr_ok r X) {l m c : Nat} (hr : pr_ret r X l c) (hm : l ≤ m) : pr_ret r X m c := by
  have := pr_ret_up h hr (m - l)
  rwa [show l + (m - l) = m by omega] at this
theorem pr_mul {α : Type} {r : α → α → Prop} {X : Nat → α} (h : pr_ok r X) {l c : Nat} (hr : pr_ret r X l c) (j : Nat) : ∀ k, r (X (l + k * c + j)) (X (l + j))
  | 0 => by rw [Nat.zero_mul, Nat.add_zero]; exact h.1.refl _
  | k + 1 => by
    have h1 := pr_mul h hr j k
    have h2 : r (X (l + k * c + j + c)) (X (l + k * c + j)) := pr_ret_le h hr (by omega)
    rw [show l + (k + 1) * c + j = l + k * c + j + c by rw [Nat.succ_mul]; omega]
    exact h.1.trans h2 h1
/-- a way round from anywhere is one from every place of the cycle -/
theorem pr_any {α : Type} {r : α → α → Prop} {X : Nat → α} (h : pr_ok r X) {l c m d : Nat} (hc : 1 ≤ c) (hr : pr_ret r X l c) (hd : pr_ret r X m d) : pr_ret r X l d := by
  have h1 : r (X (l + m * c + d)) (X (l + d)) := pr_mul h hr d m
  have h2 : r (X (l + m * c)) (X l) := pr_mul h hr 0 m
  have h3 : r (X (l + m * c + d)) (X (l + m * c)) := pr_ret_le h hd (by
    have : m ≤ m * c := Nat.le_mul_of_pos_right m hc
    omega)
  exact h.1.trans (h.1.symm h1) (h.1.trans h3 h2)
def pr_min {α : Type} (r : α → α → Prop) (X : Nat → α) (l c : Nat) : Prop := 1 ≤ c ∧ pr_ret r X l c ∧ (∀ d, 1 ≤ d → d < c → ¬ pr_ret r X l d) ∧ ∀ k, k < l → ¬ pr_ret r X k c
theorem pr_min_uniq {α : Type} {r : α → α → Prop} {X : Nat → α} (h : pr_ok r X) {l c m d : Nat} (h1 : pr_min r X l c) (h2 : pr_min r X m d) : l = m ∧ c = d := by
  obtain ⟨a1, a2, a3, a4⟩ := h1
  obtain ⟨b1, b2, b3, b4⟩ := h2
  have e1 : pr_ret r X l d := pr_any h a1 a2 b2
  have e2 : pr_ret r X m c := pr_any h b1 b2 a2
  have hcd : c = d := by
    rcases Nat.lt_trichotomy c d with g | g | g
    · exact absurd e2 (b3 c a1 g)
    · exact g
    · exact absurd e1 (a3 d b1 g)
  subst hcd
  refine ⟨?_, rfl⟩
  rcases Nat.lt_trichotomy l m with g | g | g
  · exact absurd e1 (b4 l g)
  · exact g
  · exact absurd e2 (a4 m g)
/-- c is the least way round at b; l the first place that it holds at -/
theorem pr_min_of {α : Type} {r : α → α → Prop} {X : Nat → α} (h : pr_ok r X) {b c l : Nat} (hc : 1 ≤ c) (hb : pr_ret r X b c) (hm : ∀ d, 1 ≤ d → d < c → ¬ pr_ret r X b d) (hl : pr_ret r X l c) (hk : ∀ k, k < l → ¬ pr_ret r X k c) : pr_min r X l c := by
  refine ⟨hc, hl, fun d h1 h2 hd => ?_, hk⟩
  exact hm d h1 h2 (pr_any h hc hb hd)
theorem pr_ge {α : Type} {r : α → α → Prop} {X : Nat → α} {b c l : Nat} (hb : pr_ret r X b c) (hk : ∀ k, k < l → ¬ pr_ret r X k c) : l ≤ b := by
  rcases Nat.lt_or_ge b l with g | g
  · exact absurd hb (hk b g)
  · exact g

/-! rows of mine (pure): two alone: class and reference follow alike -/
theorem ma_pair_X {y : Int32} {per qui : Nat → Int32} {an : Nat → Nat → Int32} {n c : Nat} {fr to de g : Nat → Nat} {st ST : Nat → Int32} (hfr : ∀ k, k < n → fr k < 16) (hg : ∀ j, j < c → g j < n ∧ ST j = st (g j)) (hs : ∀ f : Nat → Int32, ma_sum (fun j => f (g j)) c = ma_sum (fun k => if bt y (fr k) = true ∧ bt y (to k) = true then f k else 0) n) {S T : ma_S} (h : ma_eqv y S T) : ∀ i, ma_eqv y (ma_X y per qui an c (fun j => fr (g j)) (fun j => to (g j)) (fun j => de (g j)) ST S i) (ma_X y per qui an n fr to de st T i)
  | 0 => h
  | i + 1 => ma_pair_tick hfr hg hs (ma_pair_X hfr hg hs h i)
/-- what is told of a way, from either of two that are alike -/
theorem ma_way_cong {y : Int32} {per qui : Nat → Int32} {an : Nat → Nat → Int32} {X Y : Nat → ma_S} (h : ∀ i, ma_eqv y (X i) (Y i)) {l c : Nat} (hm : pr_min (ma_eqv y) X l c) : pr_min (ma_eqv y) Y l c ∧ ∀ t p, p < 16 → ma_F y per qui an X t p = ma_F y per qui an Y t p :=
  ⟨pr_min_cong (ma_eqv_equiv y) h hm, fun t p hp => ma_eqv_fl (h t) hp⟩
def ma_mn (P : Nat) (v : Int32) : Int32 := if nI P - (1 : Int32) < v then nI P - (1 : Int32) else v
theorem nI_p1 {P : Nat} (h : 1 ≤ P) : nI P - (1 : Int32) = nI (P - 1) := by
  obtain ⟨m, rfl⟩ : ∃ j, P = j + 1 := ⟨P - 1, by omega⟩
  rw [← nI_1, Int32.sub_eq_add_neg, Int32.add_assoc, show (1 : Int32) + -(1 : Int32) = 0 from by decide, Int32.add_zero]
  rfl
theorem ma_mn_nI {P a : Nat} (hP : 1 ≤ P) (hP2 : P < 2 ^ 31) (ha : a < 2 ^ 31) : ∃ b, b < P ∧ ma_mn P (nI a) = nI b := by
  unfold ma_mn
  rw [nI_p1 hP]
  by_cases h : P - 1 < a
  · exact ⟨P - 1, by omega, by rw [if_pos (nI_lt h ha)]⟩
  · exact ⟨a, by omega, by rw [if_neg (nI_nlt (by omega) (by omega))]⟩
theorem ma_inv_0 {y : Int32} {per ph : Nat → Int32} (h : ma_ok y per (ma_S0 ph)) : ma_inv y per (ma_S0 ph) := ⟨h, fun p d hp h1 h2 => ⟨0, by omega, rfl⟩⟩
theorem ma_pr_X {y : Int32} {per qui : Nat → Int32} {an : Nat → Nat → Int32} {n : Nat} {fr to de : Nat → Nat} {st : Nat → Int32} (hn : n ≤ 60) (han : ma_an an) (hst : ma_st n st) {S : ma_S} (h : ma_inv y per S) : ∀ i, ma_inv y per (ma_X y per qui an n fr to de st S i)
  | 0 => h
  | i + 1 => ma_inv_tick hn han hst (fun _ => Or.inl rfl) (ma_pr_X hn han hst h i)

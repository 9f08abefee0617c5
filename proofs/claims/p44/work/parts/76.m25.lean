/-! rows of mine (pure): maps and strips -/
theorem ma_R_ph {row : Int32} {ph co : Nat → Int32} {S : ma_S} (h : ma_R row ph co S) {p : Nat} (hp : p < 16) : ph p = S.1 p := by
  obtain ⟨r, -, -, h1, -⟩ := h
  exact h1 p hp
theorem mx_map_62 {N n : Nat} (hN : 1000 ≤ N) {x : Int32} {places per qui ans froms tos delays st : Nat → Int32} {fr to de : Nat → Nat} (C : ma_C x n places ans froms tos delays st fr to de) {X : Nat → ma_S} (hX : ∀ i, X (i + 1) = ma_step x per qui (fun p q => ans (p * 4 + q)) n fr to de st (X i)) (iv : ∀ i, ma_inv x per (X i)) {p : Nat} (hp : p < 16) : ∀ (k i m : Nat) (row : Int32) (ph co : Nat → Int32), i + k = 999 → k < m → ma_R row ph co (X i) → ∃ o, f_X5_map_62 N (nI (ms_L x).length) (nI n) places per qui ans froms tos delays st (nI p) m (nI i) row ph co = some o ∧ ((∃ (j : Nat) (row' : Int32) (ph' co' : Nat → Int32), o = .inl (nI j, row', ph', co') ∧ i ≤ j ∧ j < 999 ∧ ma_F x per qui (fun p q => ans (p * 4 + q)) X j p = true ∧ (∀ s, i ≤ s → s < j → ma_F x per qui (fun p q => ans (p * 4 + q)) X s p = false) ∧ ma_R row' ph' co' (X (j + 1))) ∨ (∃ (row' : Int32) (ph' co' : Nat → Int32), o = .inr (nI 999, row', ph', co') ∧ (∀ s, i ≤ s → s < 999 → ma_F x per qui (fun p q => ans (p * 4 + q)) X s p = false) ∧ ma_R row' ph' co' (X 999)))
  | 0, i, m, row, ph, co, hi, hm, h => by
    obtain ⟨m, rfl⟩ : ∃ j, m = j + 1 := ⟨m - 1, by omega⟩
    obtain rfl : i = 999 := by omega
    exact ⟨_, by rw [f_X5_map_62, if_pos (show (999 : Int32) ≤ nI 999 by decide)], Or.inr ⟨_, _, _, rfl, fun s h1 h2 => by omega, h⟩⟩
  | k + 1, i, m, row, ph, co, hi, hm, h => by
    obtain ⟨m, rfl⟩ : ∃ j, m = j + 1 := ⟨m - 1, by omega⟩
    obtain ⟨fb, row', ph', co', e, hb, hR⟩ := mx_adv0 (qui := qui) (by omega : 61 ≤ N) C (iv i) h
    rw [← hX] at hR
    have hbp : (fb >>> (nI p &&& 31)) &&& (1 : Int32) = if ma_F x per qui (fun p q => ans (p * 4 + q)) X i p then 1 else 0 := by
      rw [ms_tb _ (show p < 32 by omega), hb p (by omega), decide_eq_true hp, Bool.true_and]
      rfl
    rw [f_X5_map_62, if_neg (show ¬ (999 : Int32) ≤ nI i from nI_ge (a := i) (b := 999) (by omega) (by omega)), e, Option.bind_some]
    simp only [hbp, nI_1]
    cases hF : ma_F x per qui (fun p q => ans (p * 4 + q)) X i p with
    | false =>
      rw [if_pos (show (if (false = true) then (1 : Int32) else 0) = 0 from rfl)]
      obtain ⟨o, e1, ho⟩ := mx_map_62 hN C hX iv hp k (i + 1) m row' ph' co' (by omega) (by omega) hR
      refine ⟨o, e1, ?_⟩
      rcases ho with ⟨j, r1, p1, c1, q1, q2, q3, q4, q5, q6⟩ | ⟨r1, p1, c1, q1, q2, q3⟩
      · refine Or.inl ⟨j, r1, p1, c1, q1, by omega, q3, q4, fun s h1 h2 => ?_, q6⟩
        by_cases w : s = i
        · rw [w, hF]
        · exact q5 s (by omega) h2
      · refine Or.inr ⟨r1, p1, c1, q1, fun s h1 h2 => ?_, q3⟩
        by_cases w : s = i
        · rw [w, hF]
        · exact q2 s (by omega) h2
    | true =>
      rw [if_neg (show ¬ (if (true = true) then (1 : Int32) else 0) = 0 by decide)]
      exact ⟨_, rfl, Or.inl ⟨i, _, _, _, rfl, by omega, by omega, hF, fun s h1 h2 => by omega, hR⟩⟩
/-- bits of a strip -/
def ma_strip (F : Nat → Bool) : Nat → Int32
  | 0 => 0
  | i + 1 => ma_strip F i ||| ((if F i then (1 : Int32) else 0) <<< (nI i &&& 31))
theorem shl_0 {i : Nat} (hi : i < 32) : (0 : Int32) <<< (nI i &&& 31) = 0 := by
  apply b_ext
  intro j hj
  rw [b_shl i hi _ hj, b_0, b_0, Bool.and_false]
theorem mx_strip_24 {N n : Nat} (hN : 1000 ≤ N) {x : Int32} {places per qui ans froms tos delays st : Nat → Int32} {fr to de : Nat → Nat} (C : ma_C x n places ans froms tos delays st fr to de) {X : Nat → ma_S} (hX : ∀ i, X (i + 1) = ma_step x per qui (fun p q => ans (p * 4 + q)) n fr to de st (X i)) (iv : ∀ i, ma_inv x per (X i)) {p : Nat} (hp : p < 16) : ∀ (k i m : Nat) (row : Int32) (ph co : Nat → Int32), i + k = 30 → k < m → ma_R row ph co (X i) → ∃ (row' : Int32) (ph' co' : Nat → Int32), f_X5_strip_24 N (nI (ms_L x).length) (nI n) places per qui ans froms delays tos st (nI p) m (ma_strip (fun t => ma_F x per qui (fun p q => ans (p * 4 + q)) X t p) i) (nI i) row ph co = some (ma_strip (fun t => ma_F x per qui (fun p q => ans (p * 4 + q)) X t p) 30, nI 30, row', ph', co') ∧ ma_R row' ph' co' (X 30)
  | 0, i, m, row, ph, co, hi, hm, h => by
    obtain ⟨m, rfl⟩ : ∃ j, m = j + 1 := ⟨m - 1, by omega⟩
    obtain rfl : i = 30 := by omega
    exact ⟨_, _, _, by rw [f_X5_strip_24, if_pos (show (30 : Int32) ≤ nI 30 by decide)], h⟩
  | k + 1, i, m, row, ph, co, hi, hm, h => by
    obtain ⟨m, rfl⟩ : ∃ j, m = j + 1 := ⟨m - 1, by omega⟩
    obtain ⟨fb, row', ph', co', e, hb, hR⟩ := mx_adv0 (qui := qui) (by omega : 61 ≤ N) C (iv i) h
    rw [← hX] at hR
    have hbp : (fb >>> (nI p &&& 31)) &&& (1 : Int32) = if ma_F x per qui (fun p q => ans (p * 4 + q)) X i p then 1 else 0 := by
      rw [ms_tb _ (show p < 32 by omega), hb p (by omega), decide_eq_true hp, Bool.true_and]
      rfl
    rw [f_X5_strip_24, if_neg (show ¬ (30 : Int32) ≤ nI i from nI_ge (a := i) (b := 30) (by omega) (by omega)), e, Option.bind_some]
    simp only [hbp, nI_1]
    exact mx_strip_24 hN C hX iv hp k (i + 1) m row' ph' co' (by omega) (by omega) hR

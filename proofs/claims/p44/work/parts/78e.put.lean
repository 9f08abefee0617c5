/-! rows of mine (pure): a beater put at its place -/
theorem mx_put_17 {N p : Nat} (hp : p < 16) : ∀ (k i m : Nat) (a : Nat → Int32), i + k = 4 → k < m → ∃ a' : Nat → Int32, f_X1_put_17 N (nI p) m (nI i) a = some (nI 4, a') ∧ ∀ j, a' j = if p * 4 + i ≤ j ∧ j < p * 4 + 4 then 1 else a j
  | 0, i, m, a, hi, hm => by
    obtain ⟨m, rfl⟩ : ∃ j, m = j + 1 := ⟨m - 1, by omega⟩
    obtain rfl : i = 4 := by omega
    exact ⟨a, by rw [f_X1_put_17, if_pos (show (4 : Int32) ≤ nI 4 by decide)], fun j => by rw [if_neg (by omega)]⟩
  | k + 1, i, m, a, hi, hm => by
    obtain ⟨m, rfl⟩ : ∃ j, m = j + 1 := ⟨m - 1, by omega⟩
    have e : nI p * (4 : Int32) + nI i = nI (p * 4 + i) := by rw [show (4 : Int32) = nI 4 from rfl, pk_mul, nI_add]
    rw [f_X1_put_17, if_neg (show ¬ (4 : Int32) ≤ nI i from nI_ge (a := i) (b := 4) (by omega) (by omega)), e, mg_g (show p * 4 + i < 64 by omega) (by omega), nI_clamp (show p * 4 + i < 2 ^ 31 by omega), nI_1]
    obtain ⟨a', e1, h⟩ := mx_put_17 (N := N) hp k (i + 1) m (upd a (p * 4 + i) 1) (by omega) (by omega)
    refine ⟨a', e1, fun j => ?_⟩
    rw [h j]
    unfold upd
    by_cases w : j = p * 4 + i
    · rw [if_neg (by omega), if_pos w, if_pos (by omega)]
    · by_cases w2 : p * 4 + i ≤ j ∧ j < p * 4 + 4
      · rw [if_pos (by omega), if_pos w2]
      · rw [if_neg (by omega), if_neg w, if_neg w2]
/-- the mask with one place more -/
theorem mx_bit {x : Int32} {p i : Nat} (hp : p < 16) : bt (x ||| ((1 : Int32) <<< (nI p &&& 31))) i = (bt x i || decide (i = p)) := by
  rcases Nat.lt_or_ge i 32 with h | h
  · exact ms_sb x (show p < 32 by omega) h
  · rw [b_big h, b_big h, decide_eq_false (by omega)]
    rfl
theorem mx_put {N n p : Nat} (hN : 20 ≤ N) (hp : p < 16) {x : Int32} {places per qui ans froms tos delays st : Nat → Int32} {fr to de : Nat → Nat} (C : ma_C x n places ans froms tos delays st fr to de) (P Q : Int32) : ∃ ans' pl' : Nat → Int32, f_X1_put N x per qui ans places (nI p) P Q = some (nI (ms_L (x ||| ((1 : Int32) <<< (nI p &&& 31)))).length, x ||| ((1 : Int32) <<< (nI p &&& 31)), upd per p P, upd qui p Q, ans', pl') ∧ ma_C (x ||| ((1 : Int32) <<< (nI p &&& 31))) n pl' ans' froms tos delays st fr to de ∧ ∀ j, ans' j = if p * 4 ≤ j ∧ j < p * 4 + 4 then 1 else ans j := by
  obtain ⟨c1, c2, c3, c4, c5⟩ := C
  obtain ⟨ans', e1, h1⟩ := mx_put_17 (N := N) hp 4 0 N ans (by omega) (by omega)
  obtain ⟨pl', e2, h2⟩ := mx_setPlaces (N := N) (by omega) (x ||| ((1 : Int32) <<< (nI p &&& 31))) places
  have e1 : f_X1_put_17 N (nI p) N (0 : Int32) ans = _ := e1
  rw [Nat.add_zero] at h1
  refine ⟨ans', pl', ?_, ⟨c1, c2, h2, fun a b ha hb => ?_, c5⟩, h1⟩
  · unfold f_X1_put
    rw [mg_g hp (by omega), mg_g hp (by omega), e1, Option.bind_some, e2, Option.bind_some, nI_clamp (show p < 2 ^ 31 by omega)]
  · show -9 ≤ (ans' (a * 4 + b)).toInt ∧ (ans' (a * 4 + b)).toInt ≤ 9
    rw [h1]
    by_cases w : p * 4 ≤ a * 4 + b ∧ a * 4 + b < p * 4 + 4
    · rw [if_pos w]
      decide
    · rw [if_neg w]
      exact c4 a b ha hb

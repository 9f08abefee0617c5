/-! rows of mine (pure): two alone, set up -/
def ma_two (p q : Nat) : Int32 := ((1 : Int32) <<< (nI p &&& 31)) ||| ((1 : Int32) <<< (nI q &&& 31))
theorem ma_two_b {p q i : Nat} (hp : p < 16) (hq : q < 16) (hi : i < 32) : bt (ma_two p q) i = (decide (i = p) || decide (i = q)) := by
  unfold ma_two
  rw [ms_sb _ (show q < 32 by omega) hi]
  have := ms_sb 0 (show p < 32 by omega) hi
  rw [b_0, Bool.false_or] at this
  rw [← this]
  have e : (0 : Int32) ||| ((1 : Int32) <<< (nI p &&& 31)) = (1 : Int32) <<< (nI p &&& 31) := by
    apply b_ext
    intro j hj
    rw [b_or, b_0, Bool.false_or]
  rw [e]
theorem ma_two_t {p q i : Nat} (hp : p < 16) (hq : q < 16) : bt (ma_two p q) i = true ↔ i = p ∨ i = q := by
  rcases Nat.lt_or_ge i 32 with h | h
  · rw [ma_two_b hp hq h]
    simp
  · rw [b_big h]
    constructor
    · intro w; cases w
    · rintro (rfl | rfl) <;> omega
theorem va_cpy_at {α : Type} {f g : Nat → α} {n i : Nat} (h : i < n) : va_cpy f g 0 0 n i = f i := by
  unfold va_cpy
  rw [if_pos ⟨by omega, by omega⟩]
  simp
theorem mx_takeTwo {N n p q : Nat} (hN : 100 ≤ N) (hp : p < 16) (hq : q < 16) {x : Int32} {places per qui ans froms tos delays st : Nat → Int32} {fr to de : Nat → Nat} (C : ma_C x n places ans froms tos delays st fr to de) (pl pper pqui pans pf pt pd ps : Nat → Int32) : ∃ (c : Nat) (g : Nat → Nat) (pl' F T D ST : Nat → Int32), f_X1_takeTwo N pl (nI n) per pper qui pqui ans pans froms tos delays st pf pt pd ps (nI p) (nI q) = some (nI (ms_L (ma_two p q)).length, ma_two p q, nI c, pl', va_cpy per pper 0 0 16, va_cpy qui pqui 0 0 16, va_cpy ans pans 0 0 64, F, T, D, ST) ∧ ma_C (ma_two p q) c pl' (va_cpy ans pans 0 0 64) F T D ST (fun j => fr (g j)) (fun j => to (g j)) (fun j => de (g j)) ∧ (∀ j, j < c → g j < n ∧ ST j = st (g j)) ∧ ∀ f : Nat → Int32, ma_sum (fun j => f (g j)) c = ma_sum (fun k => if bt (ma_two p q) (fr k) = true ∧ bt (ma_two p q) (to k) = true then f k else 0) n := by
  obtain ⟨c1, c2, c3, c4, c5⟩ := C
  obtain ⟨pl', e1, h1⟩ := mx_setPlaces (N := N) (by omega) (ma_two p q) pl
  obtain ⟨c, g, F, T, D, ST, e2, k1, k2, k3⟩ := mx_tt_64 (N := N) (y := ma_two p q) (st := st) c1 c2 n 0 N 0 (fun j => j) pf pt pd ps (by omega) (by omega) (by omega) (fun j hj => by omega) (fun f => rfl)
  have e1 : f_X1_setPlaces N pl (((1 : Int32) <<< (nI p &&& 31)) ||| ((1 : Int32) <<< (nI q &&& 31))) = some (nI (ms_L (ma_two p q)).length, ma_two p q, pl') := e1
  have e2 : f_X1_takeTwo_64 N (ma_two p q) (nI n) froms tos delays st N (0 : Int32) (0 : Int32) pf pt pd ps = _ := e2
  refine ⟨c, g, pl', F, T, D, ST, ?_, ⟨by omega, fun j hj => ?_, h1, fun a b ha hb => ?_, fun j hj => ?_⟩, fun j hj => ⟨(k2 j hj).1, (k2 j hj).2.2.2.2.2.2⟩, k3⟩
  · unfold f_X1_takeTwo
    rw [e1, Option.bind_some]
    show ((f_X1_takeTwo_64 N (ma_two p q) (nI n) froms tos delays st N (0 : Int32) (0 : Int32) pf pt pd ps).bind _) = _
    rw [e2, Option.bind_some]
  · obtain ⟨g1, g2, g3, g4, g5, g6, g7⟩ := k2 j hj
    obtain ⟨-, -, -, b1, b2, b3, b4⟩ := c2 (g j) g1
    exact ⟨g4, g5, g6, b1, b2, b3, b4⟩
  · show -9 ≤ (va_cpy ans pans 0 0 64 (a * 4 + b)).toInt ∧ (va_cpy ans pans 0 0 64 (a * 4 + b)).toInt ≤ 9
    rw [va_cpy_at (by omega)]
    exact c4 a b ha hb
  · obtain ⟨g1, g2, g3, g4, g5, g6, g7⟩ := k2 j hj
    rw [g7]
    exact c5 (g j) g1
/-- states that start with nothing under way -/
def ma_S0 (ph : Nat → Int32) : ma_S := (ph, fun _ _ => 0)
theorem ma_rc_0 {r : Nat} (hr : r < 32) {ph co : Nat → Int32} (hc : ∀ j, j < 512 → co j = 0) : ma_rc r ph co (ma_S0 ph) := by
  refine ⟨hr, fun p _ => rfl, fun p d hp hd1 hd2 => ?_, fun p hp => ?_, fun p hp => ?_⟩
  · rw [hc _ (by have := Nat.mod_lt (r + d) (show 32 > 0 by omega); omega)]; rfl
  · exact hc _ (by omega)
  · exact hc _ (by have := Nat.mod_lt (r + 31) (show 32 > 0 by omega); omega)
theorem ma_rm_0 {t : Nat} {ph w : Nat → Int32} (hw : ∀ j, j < 496 → w j = 0) : ma_rm t ph w (ma_S0 ph) := by
  refine ⟨fun p _ => rfl, fun p d hp hd1 hd2 => ?_, fun p hp => ?_⟩
  · rw [hw _ (by have := Nat.mod_lt (t + d) (show 31 > 0 by omega); omega)]; rfl
  · exact hw _ (by have := Nat.mod_lt t (show 31 > 0 by omega); omega)

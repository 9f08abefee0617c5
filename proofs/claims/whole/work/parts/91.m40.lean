/-! rows of mine (pure): a pair set up -/
theorem mx_setPair {N n p q : Nat} (hN : 600 ≤ N) (hp : p < 16) (hq : q < 16) {x : Int32} {places per qui ans froms tos delays st : Nat → Int32} {fr to de : Nat → Nat} (C : ma_C x n places ans froms tos delays st fr to de) (pl pper pqui pans pf pt pd ps tp tc : Nat → Int32) : ∃ (c : Nat) (g : Nat → Nat) (pl' F T D ST tp' tc' : Nat → Int32), f_X5_setPair N pl (nI n) per pper qui pqui ans pans froms tos delays st pf pt pd ps tp tc (nI p) (nI q) = some (nI (ms_L (ma_two p q)).length, ma_two p q, nI c, pl', va_cpy per pper 0 0 16, va_cpy qui pqui 0 0 16, va_cpy ans pans 0 0 64, F, T, D, ST, tp', tc') ∧ ma_C (ma_two p q) c pl' (va_cpy ans pans 0 0 64) F T D ST (fun j => fr (g j)) (fun j => to (g j)) (fun j => de (g j)) ∧ (∀ j, j < c → g j < n ∧ ST j = st (g j)) ∧ (∀ f : Nat → Int32, ma_sum (fun j => f (g j)) c = ma_sum (fun k => if bt (ma_two p q) (fr k) = true ∧ bt (ma_two p q) (to k) = true then f k else 0) n) ∧ (∀ i, i < 16 → tp' i = 0) ∧ ∀ j, j < 512 → tc' j = 0 := by
  obtain ⟨c, g, pl', F, T, D, ST, e1, h1, h2, h3⟩ := mx_takeTwo (N := N) (by omega) hp hq C (per := per) (qui := qui) pl pper pqui pans pf pt pd ps
  obtain ⟨tp', tc', e2, k1, k2⟩ := mx_clear hN tp tc
  refine ⟨c, g, pl', F, T, D, ST, tp', tc', ?_, h1, h2, h3, k1, k2⟩
  unfold f_X5_setPair
  rw [e1, Option.bind_some]
  show ((f_X2_clear N tp tc).bind _) = _
  rw [e2, Option.bind_some]

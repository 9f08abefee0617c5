/-! rows of mine (pure): the reference goes round its cycle -/
theorem zg_up_at {M : Nat → Nat → Int32} {i j : Nat} {v : Int32} (a b : Nat) : zg_up M i j v a b = if a = i ∧ b = j then v else M a b := by
  unfold zg_up
  by_cases h : a = i <;> by_cases h2 : b = j <;> simp [h, h2]
theorem mb_eq {F G : Bool} : ((if F then (1 : Int32) else 0) = if G then 1 else 0) = (F = G) := by
  cases F <;> cases G <;> simp
theorem mb_0 {F : Bool} : ((if F then (1 : Int32) else 0) = 0) = (F = false) := by
  cases F <;> simp
/-- who flashes at a tick -/
def ma_F (x : Int32) (per qui : Nat → Int32) (an : Nat → Nat → Int32) (X : Nat → ma_S) (t p : Nat) : Bool := ma_flS x per qui an (fun _ => 0) (X t) p
def ma_cnt (F : Nat → Nat → Bool) (p c : Nat) : Nat := (List.range c).countP (fun t => F t p)
def ma_ap (F : Nat → Nat → Bool) (a b c : Nat) : Bool := (List.range c).any (fun t => F t a != F t b)
theorem ma_cnt_s (F : Nat → Nat → Bool) (p c : Nat) : ma_cnt F p (c + 1) = ma_cnt F p c + if F c p then 1 else 0 := by
  unfold ma_cnt
  rw [List.range_succ, List.countP_append]
  simp [List.countP_cons]
theorem ma_ap_s (F : Nat → Nat → Bool) (a b c : Nat) : ma_ap F a b (c + 1) = (ma_ap F a b c || (F c a != F c b)) := by
  unfold ma_ap
  rw [List.range_succ, List.any_append]
  simp

/-! rows of mine (pure): whether two lock -/
theorem mx_followPair {N p q P : Nat} (hp : p < 16) (hq : q < 16) {b n : Int32} {pper qui pqui nph tph bp tco bc fp fc pl pans F D T ST fl : Nat → Int32} {row lt ct : Int32} {o : Int32 × Int32 × Int32 × Int32 × (Nat → Int32) × (Nat → Int32) × Int32 × (Nat → Int32) × (Nat → Int32) × (Nat → Int32)} (e : f_X4_follow N lt ct row (upd (upd tph p (nph p)) q (ma_mn P (nph q))) bp tco bc fp fc b n pl (upd pper q (nI P)) (upd pqui q (ma_mn P (qui q))) pans F D T ST fl = some o) (ho : o.1 = 0 ∨ o.1 = 1) : f_X5_followPair N b n pper qui pqui row nph tph lt ct bp tco bc fp fc pl pans F D T ST fl (nI p) (nI q) (nI P) = some (o.1, upd pper q (nI P), upd pqui q (ma_mn P (qui q)), upd (upd tph p (nph p)) q (ma_mn P (nph q)), o.2.1, o.2.2.1, o.2.2.2.1, o.2.2.2.2.1, o.2.2.2.2.2.1, o.2.2.2.2.2.2.1, o.2.2.2.2.2.2.2.1, o.2.2.2.2.2.2.2.2.1, o.2.2.2.2.2.2.2.2.2) := by
  have g1 : ∀ {α : Type} (x : Option α), zk_g (nI p) 16 x = x := fun x => mg_g hp (by omega) x
  have g2 : ∀ {α : Type} (x : Option α), zk_g (nI q) 16 x = x := fun x => mg_g hq (by omega) x
  have c1 : (nI p).toNatClampNeg = p := nI_clamp (by omega)
  have c2 : (nI q).toNatClampNeg = q := nI_clamp (by omega)
  unfold f_X5_followPair
  simp only [g1, g2, c1, c2]
  have e : f_X4_follow N lt ct row (upd (upd tph p (nph p)) q (if nI P - (1 : Int32) < nph q then nI P - (1 : Int32) else nph q)) bp tco bc fp fc b n pl (upd pper q (nI P)) (upd pqui q (if nI P - (1 : Int32) < qui q then nI P - (1 : Int32) else qui q)) pans F D T ST fl = some o := e
  rw [e, Option.bind_some]
  exact if_pos ho
theorem ma_cnt_le (F : Nat → Nat → Bool) (p c : Nat) : ma_cnt F p c ≤ c := by
  unfold ma_cnt
  have := List.countP_le_length (p := fun t => F t p) (l := List.range c)
  rwa [List.length_range] at this
theorem mx_fe {N l c p q : Nat} (hN : 1001 ≤ N) (hp : p < 16) (hq : q < 16) {F : Nat → Nat → Bool} {fl : Nat → Int32} (W : ma_W F l c fl) : f_X5_flashEquallyOften N (nI l) (nI c) fl (nI p) (nI q) = some (if 1 ≤ ma_cnt F p c ∧ ma_cnt F p c = ma_cnt F q c then 1 else 0) := by
  have := W.1
  have b1 := ma_cnt_le F p c
  have b2 := ma_cnt_le F q c
  unfold f_X5_flashEquallyOften
  rw [mx_countFlashes hN hp W, Option.bind_some]
  by_cases h : 1 ≤ ma_cnt F p c
  · rw [if_neg (show ¬ nI (ma_cnt F p c) < (1 : Int32) from nI_nlt (b := 1) h (by omega)), mx_countFlashes hN hq W, Option.bind_some]
    by_cases h2 : ma_cnt F p c = ma_cnt F q c
    · rw [if_pos (by rw [h2]), if_pos ⟨h, h2⟩]
    · rw [if_neg (fun w => h2 ((nI_eq (by omega) (by omega)).mp w)), if_neg (fun w => h2 w.2)]
  · rw [if_pos (show nI (ma_cnt F p c) < (1 : Int32) from nI_lt (b := 1) (by omega) (by omega)), if_neg (fun w => h w.1)]

/-! rows of mine (pure): ranges, places, and what is under way -/
theorem i32_cases (v : Int32) : v < 0 ∨ ∃ k : Nat, k < 2 ^ 31 ∧ v = nI k := by
  by_cases h : v < 0
  · exact Or.inl h
  · refine Or.inr ⟨v.toInt.toNat, ?_, ?_⟩
    · have := v.toInt_lt
      have h0 : (0 : Int) ≤ v.toInt := by
        rw [Int32.lt_iff_toInt_lt] at h
        have e0 : (0 : Int32).toInt = 0 := by decide
        omega
      omega
    · have h1 := v.toInt_lt
      have h0 : (0 : Int) ≤ v.toInt := by
        rw [Int32.lt_iff_toInt_lt] at h
        have e0 : (0 : Int32).toInt = 0 := by decide
        omega
      apply Int32.toInt_inj.mp
      rw [nI_toInt (by omega)]
      omega
theorem lg_lt0 (x y : Int64) : (lg_cmp x y < 0) = (x < y) := by
  have h := lg_ge0 x y
  apply propext
  rw [← Int32.not_le, ← Int64.not_le]
  rw [h]
theorem lg_gt0 (x y : Int64) : (0 < lg_cmp x y) = (y < x) := by
  apply propext
  unfold lg_cmp
  by_cases h1 : x > y
  · rw [if_pos h1]
    exact ⟨fun _ => h1, fun _ => by decide⟩
  · rw [if_neg h1]
    by_cases h2 : x = y
    · rw [if_pos h2]
      exact ⟨fun q => absurd q (by decide), fun q => absurd q h1⟩
    · rw [if_neg h2]
      exact ⟨fun q => absurd q (by decide), fun q => absurd q h1⟩
theorem mx_checkPlace {N : Nat} (v : Int32) : f_X5_checkPlace N v = some (if 0 ≤ v.toInt ∧ v.toInt ≤ 19 then .inr () else .inl "java/lang/IndexOutOfBoundsException") := by
  unfold f_X5_checkPlace
  have e0 : (0 : Int32).toInt = 0 := by decide
  have e1 : (20 : Int32).toInt = 20 := by decide
  by_cases h1 : v < 0
  · rw [if_pos h1]
    rw [Int32.lt_iff_toInt_lt] at h1
    rw [if_neg (by omega)]
  · rw [if_neg h1]
    rw [Int32.lt_iff_toInt_lt] at h1
    by_cases h2 : v < (20 : Int32)
    · rw [if_pos h2]
      rw [Int32.lt_iff_toInt_lt] at h2
      rw [if_pos (by omega)]
    · rw [if_neg h2]
      rw [Int32.lt_iff_toInt_lt] at h2
      rw [if_neg (by omega)]
theorem mx_hasB {N p : Nat} (hp : p < 2 ^ 31) (x : Int32) : f_X1_has N x (nI p) = some (if p < 16 ∧ bt x p = true then 1 else 0) := by
  by_cases h : p < 16
  · rw [mx_has h]
    cases hb : bt x p with
    | false => rw [if_neg (by decide), if_neg (by simp)]
    | true => rw [if_pos rfl, if_pos ⟨h, rfl⟩]
  · unfold f_X1_has
    rw [if_neg (nI_pos hp), if_pos (show (16 : Int32) ≤ nI p from nI_le (a := 16) (by omega) hp), if_neg (fun w => h w.1)]
theorem ma_sum_add {f : Nat → Int32} {a : Nat} : ∀ b, ma_sum f (a + b) = ma_sum f a + ma_sum (fun i => f (a + i)) b
  | 0 => by show ma_sum f a = ma_sum f a + 0; rw [Int32.add_zero]
  | b + 1 => by
    show ma_sum f (a + b) + f (a + b) = ma_sum f a + (ma_sum (fun i => f (a + i)) b + f (a + b))
    rw [ma_sum_add b, Int32.add_assoc]
/-- what is under way to a place -/
def ma_way (S : ma_S) (p : Nat) : Int32 := ma_sum (fun d => S.2 p (d + 1)) 30
theorem mx_uw_4 {N r p : Nat} (hp : p < 16) {ph co : Nat → Int32} {S : ma_S} (hR : ma_rc r ph co S) : ∀ (k d m : Nat), d + k = 30 → k < m → f_X2_underWayTo_4 N (nI r) co (nI p) m (ma_sum (fun d => S.2 p (d + 1)) d) (nI (d + 1)) = some (ma_way S p, nI 31)
  | 0, d, m, hd, hm => by
    obtain ⟨m, rfl⟩ : ∃ j, m = j + 1 := ⟨m - 1, by omega⟩
    obtain rfl : d = 30 := by omega
    rw [f_X2_underWayTo_4, if_pos (show (30 : Int32) < nI (30 + 1) by decide)]
    rfl
  | k + 1, d, m, hd, hm => by
    obtain ⟨m, rfl⟩ : ∃ j, m = j + 1 := ⟨m - 1, by omega⟩
    have hR' := hR
    obtain ⟨h0, h1, h2, -⟩ := hR'
    have hlt : (r + (d + 1)) % 32 < 32 := Nat.mod_lt _ (by omega)
    rw [f_X2_underWayTo_4, if_neg (show ¬ (30 : Int32) < nI (d + 1) from nI_nlt (a := 30) (by omega) (by omega)), mx_row r (d + 1) (by omega), Option.bind_some, nI_add, mg_g (show (r + (d + 1)) % 32 * 16 + p < 512 by omega) (by omega), nI_clamp (show (r + (d + 1)) % 32 * 16 + p < 2 ^ 31 by omega), h2 p (d + 1) hp (by omega) (by omega), nI_1]
    exact mx_uw_4 hp hR k (d + 1) m (by omega) (by omega)
theorem mx_underWayTo {N p : Nat} (hN : 40 ≤ N) (hp : p < 16) {row : Int32} {ph co : Nat → Int32} {S : ma_S} (hR : ma_R row ph co S) : f_X2_underWayTo N row co (nI p) = some (ma_way S p) := by
  obtain ⟨r, rfl, hR⟩ := hR
  have e : f_X2_underWayTo_4 N (nI r) co (nI p) N (0 : Int32) (1 : Int32) = _ := mx_uw_4 hp hR 30 0 N (by omega) (by omega)
  unfold f_X2_underWayTo
  rw [e, Option.bind_some]
theorem ma_rot {g : Nat → Int32} {s : Nat} (hs : s < 31) : ma_sum g 31 = ma_sum (fun d => g ((s + d) % 31)) 31 := by
  have e1 := ma_sum_add (f := g) (a := s) (31 - s)
  have e2 := ma_sum_add (f := fun d => g ((s + d) % 31)) (a := 31 - s) s
  rw [show s + (31 - s) = 31 by omega] at e1
  rw [show 31 - s + s = 31 by omega] at e2
  rw [e1, e2]
  have h1 : ma_sum (fun d => g ((s + d) % 31)) (31 - s) = ma_sum (fun i => g (s + i)) (31 - s) := ma_sum_congr (fun k hk => by
    show g ((s + k) % 31) = g (s + k)
    rw [Nat.mod_eq_of_lt (by omega)])
  have h2 : ma_sum (fun i => g ((s + (31 - s + i)) % 31)) s = ma_sum g s := ma_sum_congr (fun k hk => by
    show g ((s + (31 - s + k)) % 31) = g k
    rw [show (s + (31 - s + k)) % 31 = k by omega])
  rw [h1]
  show _ = _ + ma_sum (fun i => g ((s + (31 - s + i)) % 31)) s
  rw [h2, Int32.add_comm]

/-! rows of mine (pure): the count of bits of what flashes -/
theorem mb_n {x : Int32} (h : ∀ p, 16 ≤ p → bt x p = false) : ∃ k, k < 65536 ∧ x = nI k ∧ ∀ i, bt x i = k.testBit i := by
  have hb : ∀ i, bt x i = x.toBitVec.toNat.testBit i := fun i => rfl
  refine ⟨x.toBitVec.toNat, ?_, ?_, hb⟩
  · have := Nat.lt_pow_two_of_testBit (n := 16) x.toBitVec.toNat (fun i hi => by rw [← hb]; exact h i hi)
    exact this
  · apply Int32.toBitVec_inj.mp
    show x.toBitVec = BitVec.ofNat 32 x.toBitVec.toNat
    rw [BitVec.ofNat_toNat, BitVec.setWidth_eq]
theorem mb_c {x : Int32} {N : Nat} (h : ∀ p, 16 ≤ p → bt x p = false) : f_J6_bitCount_0f7a4 N x = some (nI ((List.range 16).countP (fun p => bt x p))) := by
  obtain ⟨k, hk, e, hb⟩ := mb_n h
  have h1 := mb_t (a := k / 256) (b := k % 256) (by omega) (by omega)
  rw [show k / 256 * 256 + k % 256 = k by omega, ← e] at h1
  show f_J6_bitCount_0f7a4 0 x = _
  rw [h1]
  have ha : ∀ i, (k / 256).testBit i = bt x (i + 8) := fun i => by
    rw [hb, show 256 = 2 ^ 8 from rfl, Nat.testBit_div_two_pow]
  have hm : ∀ i, i < 8 → (k % 256).testBit i = bt x i := fun i hi => by
    rw [hb, show 256 = 2 ^ 8 from rfl, Nat.testBit_mod_two_pow, decide_eq_true hi, Bool.true_and]
  have hc : (List.range 16).countP (fun p => bt x p) = mb_8 (k / 256) + mb_8 (k % 256) := by
    unfold mb_8
    rw [ha, ha, ha, ha, ha, ha, ha, ha, hm 0 (by omega), hm 1 (by omega), hm 2 (by omega), hm 3 (by omega), hm 4 (by omega), hm 5 (by omega), hm 6 (by omega), hm 7 (by omega)]
    simp only [List.range_succ, List.range_zero, List.countP_append, List.countP_cons, List.countP_nil, Nat.zero_add, Nat.reduceAdd]
    omega
  rw [hc]
/-- the places of lots -/
theorem ms_l_gap {x : Int32} {a : Nat} : ∀ (k b : Nat), a + k = b → (∀ q, a ≤ q → q < b → bt x q = false) → (ms_l x b).length = (ms_l x a).length
  | 0, b, hb, h => by
    obtain rfl : a = b := by omega
    rfl
  | k + 1, b, hb, h => by
    obtain ⟨b, rfl⟩ : ∃ j, b = j + 1 := ⟨b - 1, by omega⟩
    rw [ms_l_f (h b (by omega) (by omega)), ms_l_gap k b (by omega) (fun q h1 h2 => h q h1 (by omega))]
theorem ma_pos_gap {x : Int32} {i : Nat} (hi : i < (ms_L x).length) : (ms_L x).getD i 0 < ma_pos x (i + 1) ∧ ma_pos x (i + 1) ≤ 16 ∧ ∀ q, (ms_L x).getD i 0 + 1 ≤ q → q < ma_pos x (i + 1) → bt x q = false := by
  have h16 : (ms_L x).getD i 0 < 16 := (ms_l_getD hi).1
  have hp : (ms_L x).getD i 0 < ma_pos x (i + 1) ∧ ma_pos x (i + 1) ≤ 16 := by
    unfold ma_pos
    by_cases h : i + 1 < (ms_L x).length
    · rw [if_pos h]
      have := ms_mono (show i < i + 1 by omega) h
      have h16 : (ms_L x).getD (i + 1) 0 < 16 := (ms_l_getD h).1
      omega
    · rw [if_neg h]; omega
  refine ⟨hp.1, hp.2, fun q h1 h2 => ?_⟩
  cases hb : bt x q with
  | false => rfl
  | true =>
    exfalso
    obtain ⟨j, hj, e⟩ := ms_idx (show q < 16 by omega) hb
    rcases Nat.lt_trichotomy j i with g | g | g
    · have := ms_mono g hi
      omega
    · subst g; omega
    · have hl : i + 1 < (ms_L x).length := by omega
      unfold ma_pos at h2
      rw [if_pos hl] at h2
      rcases Nat.lt_or_ge (i + 1) j with g2 | g2
      · have := ms_mono g2 hj
        omega
      · obtain rfl : j = i + 1 := by omega
        omega
theorem ms_l_pos {x : Int32} : ∀ i, i ≤ (ms_L x).length → (ms_l x (ma_pos x i)).length = i
  | 0, _ => by
    have h := ma_pos_0 x (fun _ _ => false) 0
    have h2 : ∀ q, q < ma_pos x 0 → bt x q = false := fun q hq => by
      cases hb : bt x q with
      | false => rfl
      | true =>
        exfalso
        unfold ma_pos at hq
        by_cases h0 : 0 < (ms_L x).length
        · rw [if_pos h0] at hq
          have h16 : (ms_L x).getD 0 0 < 16 := (ms_l_getD h0).1
          obtain ⟨j, hj, e⟩ := ms_idx (show q < 16 by omega) hb
          rcases Nat.eq_zero_or_pos j with g | g
          · subst g; omega
          · have := ms_mono g hj
            omega
        · rw [if_neg h0] at hq
          obtain ⟨j, hj, e⟩ := ms_idx (show q < 16 by omega) hb
          omega
    rw [ms_l_gap (a := 0) (ma_pos x 0) _ (by omega) (fun q _ h => h2 q h)]
    rfl
  | i + 1, hi => by
    have hil : i < (ms_L x).length := by omega
    obtain ⟨g1, g2, g3⟩ := ma_pos_gap hil
    have ih := ms_l_pos (x := x) i (by omega)
    rw [show ma_pos x i = (ms_L x).getD i 0 by unfold ma_pos; rw [if_pos hil]] at ih
    rw [ms_l_gap (a := (ms_L x).getD i 0 + 1) (ma_pos x (i + 1) - ((ms_L x).getD i 0 + 1)) (ma_pos x (i + 1)) (by omega) g3, ms_l_t (ms_l_getD hil).2, List.length_append, ih]
    rfl
theorem ma_tick_b {x : Int32} {per qui : Nat → Int32} {an : Nat → Nat → Int32} {n : Nat} {fr to de : Nat → Nat} {st b b' : Nat → Int32} {S : ma_S} (h : ∀ p, bt x p = true → b p = b' p) : ma_tick x per qui an n fr to de st b S = ma_tick x per qui an n fr to de st b' S ∧ ∀ p, ma_flS x per qui an b S p = ma_flS x per qui an b' S p := by
  have hf : ∀ p, ma_flS x per qui an b S p = ma_flS x per qui an b' S p := fun p => by
    unfold ma_flS
    cases hb : bt x p with
    | false => rw [Bool.false_and, Bool.false_and]
    | true =>
      rw [Bool.true_and, Bool.true_and]
      unfold ma_fl ma_np
      rw [h p hb]
  refine ⟨?_, hf⟩
  unfold ma_tick
  refine Prod.ext (funext fun p => ?_) (funext fun p => funext fun d => ?_)
  · show (if bt x p then _ else _) = (if bt x p then _ else _)
    by_cases hb : bt x p = true
    · have e1 : ma_np per qui an S.1 (fun p => S.2 p 1) b p = ma_np per qui an S.1 (fun p => S.2 p 1) b' p := by unfold ma_np; rw [h p hb]
      have e2 : ma_fl per qui an S.1 (fun p => S.2 p 1) b p = ma_fl per qui an S.1 (fun p => S.2 p 1) b' p := by unfold ma_fl; rw [e1]
      rw [if_pos hb, if_pos hb, e1, e2]
    · rw [if_neg hb, if_neg hb]
  · show (if d < 30 then S.2 p (d + 1) else 0) + _ = (if d < 30 then S.2 p (d + 1) else 0) + _
    have hs : ma_sum (fun k => if ma_flS x per qui an b S (fr k) = true ∧ to k = p ∧ de k = d then st k else 0) n = ma_sum (fun k => if ma_flS x per qui an b' S (fr k) = true ∧ to k = p ∧ de k = d then st k else 0) n := ma_sum_congr (fun k hk => by rw [hf])
    rw [hs]

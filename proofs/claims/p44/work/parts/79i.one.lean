/-! rows of mine (pure): one beater alone: its beginning and its end; some -/
theorem l1_start {P a : Nat} (h4 : a < P) (h6 : 2 ≤ P) (h5 : P < 100) {v : Nat → Int32} (h0 : v (0 : Int32).toNatClampNeg = nI 7) (h1 : v (1 : Int32).toNatClampNeg = nI P) (h2 : v (2 : Int32).toNatClampNeg = nI a) (h3 : v (3 : Int32).toNatClampNeg = 0) : ∃ s2, A_B 3000 ob_0 4 v = some (0, s2) ∧ L1 P a 0 s2 ∧ o_ticksPassed s2 = 0 ∧ o_flashCounts s2 7 = 0 ∧ o_lastFlashes s2 7 = 0 := by
  obtain ⟨ans, pl, e, J, -⟩ := pj_beater (s := ob_0) (pob_0 rfl rfl rfl) (p := 7) (P := P) (a := a) (b := 0) (by omega) h6 h5 h4 (by omega) h0 h1 h2 h3
  rw [show bt 0 7 = false from b_0 7] at e
  exact ⟨_, e, ⟨_, _, _, _, J, Or.inl rfl, rfl, fun _ _ _ => rfl, rfl, h4, h6, h5⟩, rfl, rfl, rfl⟩
theorem l1_again {P a : Nat} {s : Ob} (L : L1 P a 0 s) {v : Nat → Int32} (h0 : v (0 : Int32).toNatClampNeg = nI 7) (h1 : v (1 : Int32).toNatClampNeg = nI 9) (h2 : v (2 : Int32).toNatClampNeg = nI 4) (h3 : v (3 : Int32).toNatClampNeg = nI 0) : ∃ s2 n h fr to de S, A_B 3000 s 4 v = some (1, s2) ∧ PJ x7 n h fr to de S s2 ∧ o_flashCounts s2 7 = 0 ∧ o_lastFlashes s2 7 = 0 := by
  obtain ⟨fr, to, de, S, J, B, -⟩ := L
  obtain ⟨ans, pl, e, J, -⟩ := pj_beater J (p := 7) (P := 9) (a := 4) (b := 0) (by omega) (by omega) (by omega) (by omega) (by omega) h0 h1 h2 h3
  rw [show bt x7 7 = true by rw [bt7]; rfl] at e
  have ex : pmk x7 7 = x7 := by decide
  exact ⟨_, _, _, _, _, _, _, e, by rw [ex] at J ⊢; exact J, rfl, rfl⟩
theorem smv_nI {n : Nat} (h1 : 1 ≤ n) (h2 : n < 2 ^ 30) (v : Int32) : ∃ k, k < n ∧ smv v (nI n) = nI k := by
  have hn : (nI n).toInt = (n : Int) := nI_toInt (by omega)
  have hv1 := v.le_toInt
  have hv2 := v.toInt_lt
  have hr1 := Int.mul_tdiv_add_tmod v.toInt (n : Int)
  have hr2 : (v.toInt.tmod n).natAbs < n := by
    have := Int.natAbs_tmod v.toInt (n : Int)
    rw [this, Int.natAbs_natCast]
    exact Nat.mod_lt _ (by omega)
  have hq : (v.toInt.tdiv n).natAbs ≤ v.toInt.natAbs := by
    rw [Int.natAbs_tdiv]
    exact Nat.div_le_self _ _
  have hr3 : (v.toInt.tmod n).natAbs ≤ v.toInt.natAbs := by
    rw [Int.natAbs_tmod]
    exact Nat.mod_le _ _
  have hs : (0 ≤ v.toInt ∧ 0 ≤ v.toInt.tdiv n ∧ 0 ≤ v.toInt.tmod n) ∨ (v.toInt < 0 ∧ v.toInt.tdiv n ≤ 0 ∧ v.toInt.tmod n ≤ 0) := by
    by_cases w : 0 ≤ v.toInt
    · exact Or.inl ⟨w, Int.tdiv_nonneg w (by omega), Int.tmod_nonneg _ w⟩
    · have q1 : 0 ≤ (-v.toInt).tdiv n := Int.tdiv_nonneg (by omega) (by omega)
      have q2 : 0 ≤ (-v.toInt).tmod n := Int.tmod_nonneg _ (by omega)
      rw [Int.neg_tdiv] at q1
      rw [Int.neg_tmod] at q2
      exact Or.inr ⟨by omega, by omega, by omega⟩
  generalize hqq : v.toInt.tdiv n = q at *
  generalize hrr : v.toInt.tmod n = r at *
  have hw : (v - v / nI n * nI n).toInt = r := by
    rw [Int32.toInt_sub, Int32.toInt_mul, Int32.toInt_div, hn, hqq]
    have e1 : q.bmod (2 ^ 32) = q := by
      apply Int.bmod_eq_of_le <;> omega
    have e2 : q * (n : Int) = v.toInt - r := by
      rw [Int.mul_comm]
      omega
    rw [e1, e2, show (v.toInt - r).bmod (2 ^ 32) = v.toInt - r from by apply Int.bmod_eq_of_le <;> omega]
    rw [show v.toInt - (v.toInt - r) = r by omega]
    apply Int.bmod_eq_of_le <;> omega
  unfold smv
  generalize v - v / nI n * nI n = w at hw ⊢
  by_cases c : w < 0
  · rw [if_pos c]
    rw [Int32.lt_iff_toInt_lt, hw] at c
    have e0 : (0 : Int32).toInt = 0 := by decide
    rw [e0] at c
    refine ⟨(r + n).toNat, by omega, Int32.toInt_inj.mp ?_⟩
    rw [Int32.toInt_add, hw, hn, nI_toInt (by omega)]
    rw [show (r + (n : Int)).bmod (2 ^ 32) = r + n from by apply Int.bmod_eq_of_le <;> omega]
    omega
  · rw [if_neg c]
    rw [Int32.lt_iff_toInt_lt, hw] at c
    have e0 : (0 : Int32).toInt = 0 := by decide
    rw [e0] at c
    refine ⟨r.toNat, by omega, Int32.toInt_inj.mp ?_⟩
    rw [hw, nI_toInt (by omega)]
    omega

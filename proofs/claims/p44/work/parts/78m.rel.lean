/-! rows of mine: sets of places as numbers, in their order -/
def ps (l : List Nat) (i : Nat) : Nat := match l with
  | [] => 0
  | p :: r => (i % 2) * 2 ^ p + ps r (i / 2)
def pn (a : Nat) : Nat := (List.range 16).countP (fun p => a.testBit p)
theorem ps_dvd : ∀ (l : List Nat) (b i : Nat), (∀ p, p ∈ l → b ≤ p) → ∃ y, ps l i = 2 ^ b * y := by
  intro l
  induction l with
  | nil => intro b i _; exact ⟨0, rfl⟩
  | cons p r ih =>
    intro b i h
    obtain ⟨y, hy⟩ := ih b (i / 2) (fun q hq => h q (List.mem_cons_of_mem _ hq))
    have hp : b ≤ p := h p List.mem_cons_self
    refine ⟨i % 2 * 2 ^ (p - b) + y, ?_⟩
    show i % 2 * 2 ^ p + ps r (i / 2) = _
    rw [hy, Nat.mul_add, show 2 ^ p = 2 ^ b * 2 ^ (p - b) by rw [← Nat.pow_add]; congr 1; omega]
    ac_rfl
theorem ps_bit : ∀ (l : List Nat) (i q : Nat), l.Pairwise (· < ·) → ((ps l i).testBit q = true ↔ ∃ j, ∃ h : j < l.length, l[j] = q ∧ i.testBit j = true) := by
  intro l
  induction l with
  | nil =>
    intro i q _
    constructor
    · intro h; simp [ps] at h
    · rintro ⟨j, h, -⟩; exact absurd h (Nat.not_lt_zero _)
  | cons p r ih =>
    intro i q hp
    have hr := (List.pairwise_cons.mp hp).2
    have hlt := (List.pairwise_cons.mp hp).1
    obtain ⟨y, hy⟩ := ps_dvd r (p + 1) (i / 2) (fun q hq => hlt q hq)
    have ih := ih (i / 2) q hr
    have key : (ps (p :: r) i).testBit q = (if q = p then decide (i % 2 = 1) else (ps r (i / 2)).testBit q) := by
      show (i % 2 * 2 ^ p + ps r (i / 2)).testBit q = _
      rw [hy]
      have e : i % 2 * 2 ^ p + 2 ^ (p + 1) * y = 2 ^ p * (i % 2 + 2 * y) := by
        rw [Nat.mul_add, Nat.pow_succ, Nat.mul_comm (i % 2)]
        rw [Nat.mul_assoc]
      have e2 : 2 ^ (p + 1) * y = 2 ^ p * (2 * y) := by rw [Nat.pow_succ, Nat.mul_assoc]
      rw [e, e2, Nat.testBit_two_pow_mul, Nat.testBit_two_pow_mul]
      by_cases h1 : q = p
      · subst h1
        rw [if_pos rfl, Nat.sub_self, Nat.testBit_zero]
        have : (i % 2 + 2 * y) % 2 = i % 2 := by omega
        rw [this]
        simp
      · rw [if_neg h1]
        by_cases h2 : q < p
        · rw [decide_eq_false (show ¬ p ≤ q by omega)]
          simp
        · obtain ⟨d, hd⟩ : ∃ d, q - p = d + 1 := ⟨q - p - 1, by omega⟩
          rw [hd, Nat.testBit_succ, Nat.testBit_succ]
          have a1 : (i % 2 + 2 * y) / 2 = y := by omega
          have a2 : (2 * y) / 2 = y := by omega
          rw [a1, a2]
    rw [key]
    by_cases h1 : q = p
    · subst h1
      rw [if_pos rfl, decide_eq_true_eq]
      constructor
      · intro h
        exact ⟨0, by simp, rfl, by rw [Nat.testBit_zero]; exact decide_eq_true h⟩
      · rintro ⟨j, hj, e1, e2⟩
        cases j with
        | zero => rw [Nat.testBit_zero] at e2; exact of_decide_eq_true e2
        | succ j =>
          exfalso
          have hj2 : j < r.length := by simpa using hj
          have e1 : r[j] = q := e1
          have := hlt r[j] (List.getElem_mem hj2)
          omega
    · rw [if_neg h1, ih]
      constructor
      · rintro ⟨j, hj, e1, e2⟩
        refine ⟨j + 1, by simp; omega, e1, ?_⟩
        rw [Nat.testBit_succ]
        exact e2
      · rintro ⟨j, hj, e1, e2⟩
        cases j with
        | zero => exact absurd e1.symm h1
        | succ j =>
          have hj2 : j < r.length := by simpa using hj
          exact ⟨j, hj2, e1, by rw [Nat.testBit_succ] at e2; exact e2⟩
theorem ps_mem {l : List Nat} {i q : Nat} (hl : l.Pairwise (· < ·)) (h : (ps l i).testBit q = true) : q ∈ l := by
  obtain ⟨j, hj, e, -⟩ := (ps_bit l i q hl).mp h
  rw [← e]
  exact List.getElem_mem hj
theorem ps_lt {l : List Nat} (hl : l.Pairwise (· < ·)) {b : Nat} (hb : ∀ p, p ∈ l → p < b) (i : Nat) : ps l i < 2 ^ b := by
  apply Nat.lt_pow_two_of_testBit
  intro q hq
  cases h : (ps l i).testBit q with
  | false => rfl
  | true => exact absurd (hb q (ps_mem hl h)) (by omega)
theorem ps_mono : ∀ (l : List Nat), l.Pairwise (· < ·) → ∀ i j, i < j → j < 2 ^ l.length → ps l i < ps l j := by
  intro l
  induction l with
  | nil => intro _ i j h1 h2; simp at h2; omega
  | cons p r ih =>
    intro hp i j h1 h2
    have hr := (List.pairwise_cons.mp hp).2
    have hlt := (List.pairwise_cons.mp hp).1
    obtain ⟨y, hy⟩ := ps_dvd r (p + 1) (i / 2) (fun q hq => hlt q hq)
    obtain ⟨w, hw⟩ := ps_dvd r (p + 1) (j / 2) (fun q hq => hlt q hq)
    show i % 2 * 2 ^ p + ps r (i / 2) < j % 2 * 2 ^ p + ps r (j / 2)
    by_cases e : i / 2 = j / 2
    · rw [e]
      have a1 : i % 2 = 0 := by omega
      have a2 : j % 2 = 1 := by omega
      rw [a1, a2]
      have := Nat.two_pow_pos p
      omega
    · have hj2 : j / 2 < 2 ^ r.length := by
        rw [List.length_cons, Nat.pow_succ] at h2
        omega
      have := ih hr (i / 2) (j / 2) (by omega) hj2
      rw [hy, hw] at this ⊢
      have hyw : y < w := Nat.lt_of_mul_lt_mul_left this
      have h3 : 2 ^ (p + 1) * (y + 1) ≤ 2 ^ (p + 1) * w := Nat.mul_le_mul_left _ hyw
      rw [Nat.mul_add, Nat.mul_one] at h3
      have h4 : 2 ^ (p + 1) = 2 ^ p * 2 := Nat.pow_succ ..
      have h5 := Nat.two_pow_pos p
      have h6 : i % 2 * 2 ^ p ≤ 2 ^ p := by
        have := Nat.mul_le_mul_right (2 ^ p) (show i % 2 ≤ 1 by omega)
        omega
      have h7 : 0 ≤ j % 2 * 2 ^ p := Nat.zero_le _
      omega
theorem ps_eq {l : List Nat} (hl : l.Pairwise (· < ·)) {i j : Nat} (hi : i < 2 ^ l.length) (hj : j < 2 ^ l.length) (h : ps l i = ps l j) : i = j := by
  rcases Nat.lt_trichotomy i j with k | k | k
  · have := ps_mono l hl i j k hj; omega
  · exact k
  · have := ps_mono l hl j i k hi; omega
theorem ps_le {l : List Nat} (hl : l.Pairwise (· < ·)) {i j : Nat} (hi : i < 2 ^ l.length) (h : ps l i ≤ ps l j) : i ≤ j := by
  rcases Nat.lt_or_ge j i with k | k
  · have := ps_mono l hl j i k hi; omega
  · exact k
theorem ps_surj : ∀ (l : List Nat), l.Pairwise (· < ·) → ∀ a : Nat, (∀ q, a.testBit q = true → q ∈ l) → ∃ i, i < 2 ^ l.length ∧ ps l i = a := by
  intro l
  induction l with
  | nil =>
    intro _ a h
    refine ⟨0, by simp, ?_⟩
    apply Nat.eq_of_testBit_eq
    intro q
    cases e : a.testBit q with
    | false => simp [ps]
    | true => exact absurd (h q e) (by simp)
  | cons p r ih =>
    intro hp a h
    have hr := (List.pairwise_cons.mp hp).2
    have hlt := (List.pairwise_cons.mp hp).1
    -- the bits above p
    obtain ⟨i, hi, e⟩ := ih hr (2 ^ (p + 1) * (a / 2 ^ (p + 1))) (fun q hq => by
      rw [Nat.testBit_two_pow_mul] at hq
      rw [Bool.and_eq_true, decide_eq_true_eq] at hq
      obtain ⟨h1, h2⟩ := hq
      rw [Nat.testBit_div_two_pow, show q - (p + 1) + (p + 1) = q by omega] at h2
      have := h q h2
      rw [List.mem_cons] at this
      rcases this with k | k
      · omega
      · exact k)
    refine ⟨(a / 2 ^ p) % 2 + 2 * i, ?_, ?_⟩
    · rw [List.length_cons, Nat.pow_succ]
      omega
    · show ((a / 2 ^ p) % 2 + 2 * i) % 2 * 2 ^ p + ps r (((a / 2 ^ p) % 2 + 2 * i) / 2) = a
      rw [show ((a / 2 ^ p) % 2 + 2 * i) % 2 = (a / 2 ^ p) % 2 by omega, show ((a / 2 ^ p) % 2 + 2 * i) / 2 = i by omega, e]
      have low : a % 2 ^ p = 0 := by
        apply Nat.eq_of_testBit_eq
        intro q
        rw [Nat.testBit_mod_two_pow, Nat.zero_testBit]
        by_cases hq : q < p
        · cases e2 : a.testBit q with
          | false => simp
          | true =>
            exfalso
            have := h q e2
            rw [List.mem_cons] at this
            rcases this with k | k
            · omega
            · have := hlt q k; omega
        · rw [decide_eq_false hq]
          rfl
      have d1 := Nat.div_add_mod a (2 ^ p)
      have d2 : a / 2 ^ (p + 1) = a / 2 ^ p / 2 := by rw [Nat.pow_succ, Nat.div_div_eq_div_mul]
      rw [low] at d1
      rw [d2]
      generalize a / 2 ^ p = b at d1 ⊢
      have d3 : b = 2 * (b / 2) + b % 2 := by omega
      rw [Nat.pow_succ, ← d1, Nat.add_zero]
      generalize b / 2 = c at d3 ⊢
      generalize b % 2 = d at d3 ⊢
      subst d3
      rw [Nat.mul_add]
      have : 2 ^ p * 2 * c = 2 ^ p * (2 * c) := Nat.mul_assoc ..
      rw [this, Nat.mul_comm d, Nat.add_comm]
/-- the greatest set of a list -/
def pm (l : List Nat) : Nat := ps l (2 ^ l.length - 1)
theorem pm_bit {l : List Nat} (hl : l.Pairwise (· < ·)) (q : Nat) : (pm l).testBit q = true ↔ q ∈ l := by
  unfold pm
  rw [ps_bit l _ q hl]
  constructor
  · rintro ⟨j, hj, e, -⟩
    rw [← e]
    exact List.getElem_mem hj
  · intro h
    obtain ⟨j, hj, e⟩ := List.getElem_of_mem h
    refine ⟨j, hj, e, ?_⟩
    rw [Nat.testBit_two_pow_sub_one]
    exact decide_eq_true hj
theorem bl1 (p y M : Nat) : (2 ^ (p + 1) * y + (2 ^ p - 1)) &&& (2 ^ (p + 1) * M + 2 ^ p) = (2 ^ (p + 1) * y) &&& (2 ^ (p + 1) * M) := by
  have h1 := Nat.two_pow_pos p
  have h2 : 2 ^ (p + 1) = 2 ^ p * 2 := Nat.pow_succ ..
  apply Nat.eq_of_testBit_eq
  intro q
  rw [Nat.testBit_and, Nat.testBit_and, Nat.testBit_two_pow_mul_add _ (show 2 ^ p - 1 < 2 ^ (p + 1) by omega), Nat.testBit_two_pow_mul_add _ (show 2 ^ p < 2 ^ (p + 1) by omega), Nat.testBit_two_pow_mul, Nat.testBit_two_pow_mul]
  by_cases h : q < p + 1
  · rw [if_pos h, if_pos h, decide_eq_false (show ¬ p + 1 ≤ q by omega), Nat.testBit_two_pow_sub_one, Nat.testBit_two_pow]
    by_cases h3 : p = q
    · rw [decide_eq_false (show ¬ q < p by omega)]
      simp
    · rw [decide_eq_false h3]
      simp
  · rw [if_neg h, if_neg h, decide_eq_true (show p + 1 ≤ q by omega)]
    simp
theorem bl2 (p y M : Nat) (hy : 0 < y) : (2 ^ (p + 1) * y - 1) &&& (2 ^ (p + 1) * M + 2 ^ p) = ((2 ^ (p + 1) * y - 1) &&& (2 ^ (p + 1) * M)) + 2 ^ p := by
  have h1 := Nat.two_pow_pos p
  have h2 : 2 ^ (p + 1) = 2 ^ p * 2 := Nat.pow_succ ..
  have e : 2 ^ (p + 1) * y - 1 = 2 ^ (p + 1) * (y - 1) + (2 ^ (p + 1) - 1) := by
    obtain ⟨z, rfl⟩ : ∃ z, y = z + 1 := ⟨y - 1, by omega⟩
    rw [Nat.mul_add, Nat.mul_one, Nat.add_sub_cancel]
    omega
  have k1 : (2 ^ (p + 1) * y - 1) &&& (2 ^ (p + 1) * M) = 2 ^ (p + 1) * ((y - 1) &&& M) := by
    rw [e]
    apply Nat.eq_of_testBit_eq
    intro q
    rw [Nat.testBit_and, Nat.testBit_two_pow_mul_add _ (show 2 ^ (p + 1) - 1 < 2 ^ (p + 1) by omega), Nat.testBit_two_pow_mul, Nat.testBit_two_pow_mul]
    by_cases h : q < p + 1
    · rw [decide_eq_false (show ¬ p + 1 ≤ q by omega)]
      simp
    · rw [if_neg h, decide_eq_true (show p + 1 ≤ q by omega), Nat.testBit_and]
      simp
  rw [k1, e]
  apply Nat.eq_of_testBit_eq
  intro q
  rw [Nat.testBit_and, Nat.testBit_two_pow_mul_add _ (show 2 ^ (p + 1) - 1 < 2 ^ (p + 1) by omega), Nat.testBit_two_pow_mul_add _ (show 2 ^ p < 2 ^ (p + 1) by omega), Nat.testBit_two_pow_mul_add _ (show 2 ^ p < 2 ^ (p + 1) by omega)]
  by_cases h : q < p + 1
  · rw [if_pos h, if_pos h, if_pos h, Nat.testBit_two_pow_sub_one, decide_eq_true h]
    simp
  · rw [if_neg h, if_neg h, if_neg h, Nat.testBit_and]
theorem ps_and {l : List Nat} (hl : l.Pairwise (· < ·)) (i : Nat) : ps l i &&& pm l = ps l i := by
  apply Nat.eq_of_testBit_eq
  intro q
  rw [Nat.testBit_and]
  cases h : (ps l i).testBit q with
  | false => rfl
  | true =>
    rw [(pm_bit hl q).mpr (ps_mem hl h)]
    rfl
/-- the borrow that runs through what isn't in the list gives the set before -/
theorem ps_dec : ∀ (l : List Nat), l.Pairwise (· < ·) → ∀ j, 0 < j → j < 2 ^ l.length → (ps l j - 1) &&& pm l = ps l (j - 1) ∧ 0 < ps l j := by
  intro l
  induction l with
  | nil => intro _ j h0 hj; simp at hj; omega
  | cons p r ih =>
    intro hl j h0 hj
    have hr := (List.pairwise_cons.mp hl).2
    have hlt := (List.pairwise_cons.mp hl).1
    have hpos : 0 < ps (p :: r) j := by
      have := ps_mono (p :: r) hl 0 j h0 hj
      omega
    refine ⟨?_, hpos⟩
    obtain ⟨y, hy⟩ := ps_dvd r (p + 1) (j / 2) (fun q hq => hlt q hq)
    obtain ⟨M, hM⟩ := ps_dvd r (p + 1) (2 ^ r.length - 1) (fun q hq => hlt q hq)
    have h1 := Nat.two_pow_pos r.length
    have h3 := Nat.two_pow_pos p
    have hj2 : j < 2 ^ r.length * 2 := by rw [List.length_cons, Nat.pow_succ] at hj; exact hj
    have em : pm (p :: r) = 2 ^ (p + 1) * M + 2 ^ p := by
      unfold pm
      show (2 ^ (p :: r).length - 1) % 2 * 2 ^ p + ps r ((2 ^ (p :: r).length - 1) / 2) = _
      rw [List.length_cons, Nat.pow_succ, show (2 ^ r.length * 2 - 1) % 2 = 1 by omega, show (2 ^ r.length * 2 - 1) / 2 = 2 ^ r.length - 1 by omega, hM]
      omega
    have emr : pm r = 2 ^ (p + 1) * M := hM
    have eps : ∀ k, ps (p :: r) k = k % 2 * 2 ^ p + ps r (k / 2) := fun k => rfl
    rw [em, eps, eps]
    by_cases ho : j % 2 = 1
    · rw [ho, Nat.one_mul, hy, show 2 ^ p + 2 ^ (p + 1) * y - 1 = 2 ^ (p + 1) * y + (2 ^ p - 1) by omega, bl1, ← emr, ← hy, ps_and hr, show (j - 1) % 2 = 0 by omega, show (j - 1) / 2 = j / 2 by omega, Nat.zero_mul, Nat.zero_add]
    · have hje : j % 2 = 0 := by omega
      obtain ⟨g1, g2⟩ := ih hr (j / 2) (by omega) (by omega)
      have y0 : 0 < y := by
        rcases Nat.eq_zero_or_pos y with w | w
        · subst w; rw [hy] at g2; simp at g2
        · exact w
      rw [hje, Nat.zero_mul, Nat.zero_add, hy, bl2 p y M y0, ← emr, ← hy, g1, show (j - 1) % 2 = 1 by omega, show (j - 1) / 2 = j / 2 - 1 by omega, Nat.one_mul, Nat.add_comm]

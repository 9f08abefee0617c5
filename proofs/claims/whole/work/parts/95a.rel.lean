/-! rows of mine: doubles as c times a power of 2 -/
def fq_R (s : Bool) (c : Nat) (q : Int) : UInt64 := FP.Core.of64 (FP.Core.round FP.Core.b64 (.fin s c q))
theorem fq_val (s : Bool) (c : Nat) (q : Int) : FP.Core.val64 (fq_R s c q) = FP.Core.round FP.Core.b64 (.fin s c q) :=
  FP.Core.val64_of64 (FP.Core.round_fits FP.Core.good_b64 _)
theorem fq_ex (s : Bool) {c : Nat} {q : Int} (hc : c < 2 ^ 53) (h1 : -1074 ≤ q) (h2 : q ≤ 971) : ∃ (c1 : Nat) (q1 : Int), FP.Core.val64 (fq_R s c q) = .fin s c1 q1 ∧ -1074 ≤ q1 ∧ c1 * 2 ^ (q1 + 1074).toNat = c * 2 ^ (q + 1074).toNat := by
  have m : FP.Core.b64.qmin = -1074 := by decide
  have mx : FP.Core.b64.qmax = 971 := by decide
  obtain ⟨c1, q1, e, u⟩ := FP.Core.round_exact FP.Core.good_b64 s (c := c) (q := q) hc (by omega) (by omega)
  have f := FP.Core.val64_fits (fq_R s c q)
  rw [fq_val, e] at f
  refine ⟨c1, q1, (fq_val s c q).trans e, ?_, ?_⟩
  · have := f.2.1
    omega
  · unfold FP.Core.inUnits at u
    rw [m] at u
    rw [show q1 + 1074 = q1 - -1074 by omega, show q + 1074 = q - -1074 by omega]
    exact u
theorem fq_nn (s : Bool) (c : Nat) (q : Int) : FP.Core.val64 (fq_R s c q) ≠ .nan := by
  rw [fq_val]
  exact FP.Core.roundRatio_ne_nan _ _ _ _ _
theorem fq_cong {A A' B B' : Nat} {e e' lo : Int} (h1 : lo ≤ e) (h2 : lo ≤ e') (h : A * B' * 2 ^ (e - lo).toNat = A' * B * 2 ^ (e' - lo).toNat) : A * B' * 2 ^ (e - e').toNat = A' * B * 2 ^ (e' - e).toNat := by
  by_cases k : e ≤ e'
  · have w : (e' - lo).toNat = (e' - e).toNat + (e - lo).toNat := by omega
    rw [w, Nat.pow_add, ← Nat.mul_assoc] at h
    have h := Nat.eq_of_mul_eq_mul_right (Nat.two_pow_pos _) h
    rw [show (e - e').toNat = 0 by omega, h]
    simp
  · have w : (e - lo).toNat = (e - e').toNat + (e' - lo).toNat := by omega
    rw [w, Nat.pow_add, ← Nat.mul_assoc] at h
    have h := Nat.eq_of_mul_eq_mul_right (Nat.two_pow_pos _) h
    rw [show (e' - e).toNat = 0 by omega, h]
    simp
theorem fq_two : FP.Core.val64 4611686018427387904 = .fin false (2 ^ 52) (-51) := by decide +kernel
theorem fq_half {s : Bool} {c : Nat} {q : Int} (hc : c < 2 ^ 53) (h1 : -1073 ≤ q) (h2 : q ≤ 971) : FP.ddiv (fq_R s c q) 4611686018427387904 = fq_R s c (q - 1) := by
  obtain ⟨c1, q1, e1, k1, u1⟩ := fq_ex s hc (by omega) h2
  have e : FP.Core.val64 (FP.ddiv (fq_R s c q) 4611686018427387904) = FP.Core.val64 (fq_R s c (q - 1)) := by
    show FP.Core.val64 (FP.Core.ddiv (fq_R s c q) 4611686018427387904) = _
    rw [FP.Core.val64_ddiv, e1, fq_two, fq_val]
    show (if (2 ^ 52 : Nat) = 0 then (if c1 = 0 then .nan else .inf (s != false)) else FP.Core.roundRatio FP.Core.b64 (s != false) c1 (2 ^ 52) (q1 - -51)) = FP.Core.roundRatio FP.Core.b64 s c 1 (q - 1)
    rw [if_neg (by decide), show (s != false) = s by cases s <;> rfl]
    refine FP.Core.roundRatio_congr (by decide) (by decide) (fq_cong (lo := -1100) (by omega) (by omega) ?_)
    rw [show (q1 - -51 - -1100).toNat = (q1 + 1074).toNat + 77 by omega, show (q - 1 - -1100).toNat = (q + 1074).toNat + 25 by omega, Nat.pow_add, Nat.pow_add, Nat.mul_one]
    generalize 2 ^ (q1 + 1074).toNat = P at u1 ⊢
    generalize 2 ^ (q + 1074).toNat = Q at u1 ⊢
    calc c1 * (P * 2 ^ 77) = (c1 * P) * 2 ^ 77 := by rw [Nat.mul_assoc]
      _ = c * Q * (2 ^ 52 * 2 ^ 25) := by rw [u1]
      _ = c * 2 ^ 52 * (Q * 2 ^ 25) := by ac_rfl
  exact FP.Core.val64_inj (by rw [e]; exact fq_nn _ _ _) e
theorem fq_dbl {s : Bool} {c : Nat} {q : Int} (hc : c < 2 ^ 53) (h1 : -1074 ≤ q) (h2 : q ≤ 971) : FP.dmul (fq_R s c q) 4611686018427387904 = fq_R s c (q + 1) := by
  obtain ⟨c1, q1, e1, k1, u1⟩ := fq_ex s hc (by omega) h2
  have e : FP.Core.val64 (FP.dmul (fq_R s c q) 4611686018427387904) = FP.Core.val64 (fq_R s c (q + 1)) := by
    show FP.Core.val64 (FP.Core.dmul (fq_R s c q) 4611686018427387904) = _
    rw [FP.Core.val64_dmul, e1, fq_two, fq_val]
    show FP.Core.roundRatio FP.Core.b64 (s != false) (c1 * 2 ^ 52) 1 (q1 + -51) = FP.Core.roundRatio FP.Core.b64 s c 1 (q + 1)
    rw [show (s != false) = s by cases s <;> rfl]
    refine FP.Core.roundRatio_congr (by decide) (by decide) (fq_cong (lo := -1200) (by omega) (by omega) ?_)
    rw [show (q1 + -51 - -1200).toNat = (q1 + 1074).toNat + 75 by omega, show (q + 1 - -1200).toNat = (q + 1074).toNat + 127 by omega, Nat.pow_add, Nat.pow_add, Nat.mul_one, Nat.mul_one]
    generalize 2 ^ (q1 + 1074).toNat = P at u1 ⊢
    generalize 2 ^ (q + 1074).toNat = Q at u1 ⊢
    calc c1 * 2 ^ 52 * (P * 2 ^ 75) = (c1 * P) * (2 ^ 52 * 2 ^ 75) := by ac_rfl
      _ = c * Q * 2 ^ 127 := by rw [u1]
      _ = c * (Q * 2 ^ 127) := by rw [Nat.mul_assoc]
  exact FP.Core.val64_inj (by rw [e]; exact fq_nn _ _ _) e
theorem fq_zval {c : Nat} {q : Int} (hc : c < 2 ^ 53) (h1 : -1074 ≤ q) (h2 : q ≤ 971) : FP.Core.zval FP.Core.b64 (FP.Core.val64 (fq_R false c q)) = ((c * 2 ^ (q + 1074).toNat : Nat) : Int) := by
  obtain ⟨c1, q1, e1, k1, u1⟩ := fq_ex false hc h1 h2
  rw [e1, ← u1]
  show FP.Core.signed false (c1 * 2 ^ (q1 - FP.Core.b64.qmin).toNat) = _
  rw [show FP.Core.b64.qmin = -1074 by decide, show q1 - -1074 = q1 + 1074 by omega]
  rfl
theorem fq_cmp {c : Nat} {q : Int} (hc : c < 2 ^ 53) (h1 : -1074 ≤ q) (h2 : q ≤ 971) (b : UInt64) (hb : FP.Core.val64 b ≠ .nan) : FP.dcmp (fq_R false c q) b = some (compare ((c * 2 ^ (q + 1074).toNat : Nat) : Int) (FP.Core.zval FP.Core.b64 (FP.Core.val64 b))) := by
  have h := FP.Core.dcmp_zval (fq_nn false c q) hb
  rw [fq_zval hc h1 h2] at h
  exact h

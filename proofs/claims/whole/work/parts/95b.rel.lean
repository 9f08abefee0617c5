/-! rows of mine: bitsOf of doubles that are c times a power of 2 -/
theorem fq_mul {s : Bool} {c : Nat} {q r : Int} {p : UInt64} (hp : FP.Core.val64 p = .fin false (2 ^ 52) r) (hr1 : -52 ≤ r) (hr2 : r ≤ 0) (hc : c < 2 ^ 53) (h1 : -1074 ≤ q) (h2 : q ≤ 971) : FP.dmul (fq_R s c q) p = fq_R s c (q + (52 + r)) := by
  obtain ⟨c1, q1, e1, k1, u1⟩ := fq_ex s hc (by omega) h2
  have e : FP.Core.val64 (FP.dmul (fq_R s c q) p) = FP.Core.val64 (fq_R s c (q + (52 + r))) := by
    show FP.Core.val64 (FP.Core.dmul (fq_R s c q) p) = _
    rw [FP.Core.val64_dmul, e1, hp, fq_val]
    show FP.Core.roundRatio FP.Core.b64 (s != false) (c1 * 2 ^ 52) 1 (q1 + r) = FP.Core.roundRatio FP.Core.b64 s c 1 (q + (52 + r))
    rw [show (s != false) = s by cases s <;> rfl]
    refine FP.Core.roundRatio_congr (by decide) (by decide) (fq_cong (lo := -1200) (by omega) (by omega) ?_)
    rw [show (q1 + r - -1200).toNat = (q1 + 1074).toNat + (r + 126).toNat by omega, show (q + (52 + r) - -1200).toNat = (q + 1074).toNat + (52 + (r + 126).toNat) by omega, Nat.pow_add, Nat.pow_add, Nat.pow_add, Nat.mul_one, Nat.mul_one]
    generalize 2 ^ (q1 + 1074).toNat = P at u1 ⊢
    generalize 2 ^ (q + 1074).toNat = Q at u1 ⊢
    generalize 2 ^ (r + 126).toNat = Z
    calc c1 * 2 ^ 52 * (P * Z) = (c1 * P) * (2 ^ 52 * Z) := by ac_rfl
      _ = c * Q * (2 ^ 52 * Z) := by rw [u1]
      _ = c * (Q * (2 ^ 52 * Z)) := by rw [Nat.mul_assoc]
  exact FP.Core.val64_inj (by rw [e]; exact fq_nn _ _ _) e
theorem fq_one : FP.Core.val64 FP.dconst1 = .fin false (2 ^ 52) (-52) := FP.Core.val64_dconst1
theorem fq_neg1 : FP.Core.negate (FP.Core.val64 FP.dconst1) = .fin true (2 ^ 52) (-52) := by rw [fq_one]; rfl
theorem fq_sub1 {c : Nat} {F : Nat} (hc : c < 2 ^ 53) (hF : F ≤ 52) (h : 2 ^ F ≤ c) : FP.dsub (fq_R false c (-(F : Int))) FP.dconst1 = fq_R false (c - 2 ^ F) (-(F : Int)) := by
  obtain ⟨c1, q1, e1, k1, u1⟩ := fq_ex false hc (q := -(F : Int)) (by omega) (by omega)
  have e : FP.Core.val64 (FP.dsub (fq_R false c (-(F : Int))) FP.dconst1) = FP.Core.val64 (fq_R false (c - 2 ^ F) (-(F : Int))) := by
    show FP.Core.val64 (FP.Core.dsub (fq_R false c (-(F : Int))) FP.dconst1) = _
    rw [FP.Core.val64_dsub, fq_neg1, fq_val false (c - 2 ^ F)]
    have f1 := FP.Core.val64_fits (fq_R false c (-(F : Int)))
    rw [e1] at f1 ⊢
    have f2 : FP.Core.fits FP.Core.b64 (.fin true (2 ^ 52) (-52)) := by
      have := FP.Core.negate_fits (FP.Core.val64_fits FP.dconst1)
      rwa [fq_neg1] at this
    obtain ⟨sg, n, e, h1, h2, h3⟩ := FP.Core.sum_units f1 f2
    have m : FP.Core.b64.qmin = -1074 := by decide
    have z1 : FP.Core.zval FP.Core.b64 (.fin false c1 q1) = ((c * 2 ^ (-(F : Int) + 1074).toNat : Nat) : Int) := by
      rw [← u1]
      show FP.Core.signed false (c1 * 2 ^ (q1 - FP.Core.b64.qmin).toNat) = _
      rw [m, show q1 - -1074 = q1 + 1074 by omega]
      rfl
    have z2 : FP.Core.zval FP.Core.b64 (.fin true (2 ^ 52) (-52)) = -((2 ^ F * 2 ^ (-(F : Int) + 1074).toNat : Nat) : Int) := by
      show FP.Core.signed true (2 ^ 52 * 2 ^ (-52 - FP.Core.b64.qmin).toNat) = _
      rw [m, show (-52 - -1074 : Int).toNat = 1022 by decide, ← Nat.pow_add, ← Nat.pow_add, show F + (-(F : Int) + 1074).toNat = 52 + 1022 by omega]
      rfl
    rw [z1, z2] at h3
    have hle : 2 ^ F * 2 ^ (-(F : Int) + 1074).toNat ≤ c * 2 ^ (-(F : Int) + 1074).toNat := Nat.mul_le_mul_right _ h
    have h4 : FP.Core.signed sg (FP.Core.inUnits n e FP.Core.b64.qmin) = (((c - 2 ^ F) * 2 ^ (-(F : Int) + 1074).toNat : Nat) : Int) := by
      rw [h3, Nat.sub_mul]
      omega
    have hn : FP.Core.inUnits n e FP.Core.b64.qmin = (c - 2 ^ F) * 2 ^ (-(F : Int) + 1074).toNat := by
      have := congrArg Int.natAbs h4
      rw [FP.Core.natAbs_signed] at this
      exact this.trans rfl
    have hs : sg = false := by
      have hx : FP.Core.exactSum (.fin false c1 q1) (.fin true (2 ^ 52) (-52)) = .fin (FP.Core.sumSign false true (FP.Core.sumUnits false c1 q1 true (2 ^ 52) (-52) (min q1 (-52)))) (FP.Core.sumUnits false c1 q1 true (2 ^ 52) (-52) (min q1 (-52))).natAbs (min q1 (-52)) := rfl
      rw [hx] at h1
      have h5 : FP.Core.sumSign false true (FP.Core.sumUnits false c1 q1 true (2 ^ 52) (-52) (min q1 (-52))) = sg := by injection h1
      have h6 : (FP.Core.sumUnits false c1 q1 true (2 ^ 52) (-52) (min q1 (-52))).natAbs = n := by injection h1
      unfold FP.Core.sumSign at h5
      split at h5
      · exact h5.symm
      · cases hsg : sg with
        | false => rfl
        | true =>
          exfalso
          rw [hsg] at h4
          have hp : 0 < FP.Core.inUnits n e FP.Core.b64.qmin := Nat.mul_pos (by omega) (Nat.two_pow_pos _)
          have h7 : FP.Core.signed true (FP.Core.inUnits n e FP.Core.b64.qmin) = -((FP.Core.inUnits n e FP.Core.b64.qmin : Nat) : Int) := rfl
          omega
    rw [h1, hs]
    show FP.Core.roundRatio FP.Core.b64 false n 1 e = FP.Core.roundRatio FP.Core.b64 false (c - 2 ^ F) 1 (-(F : Int))
    refine FP.Core.roundRatio_congr (by decide) (by decide) (fq_cong (lo := -1074) (by omega) (by omega) ?_)
    unfold FP.Core.inUnits at hn
    rw [m] at hn
    rw [Nat.mul_one, Nat.mul_one, hn, show -(F : Int) - -1074 = -(F : Int) + 1074 by omega]
  exact FP.Core.val64_inj (by rw [e]; exact fq_nn _ _ _) e
theorem fq_d2l {c : Nat} (hc : c < 2 ^ 53) : FP.d2l (fq_R false c 0) = lN c := by
  obtain ⟨c1, q1, e1, k1, u1⟩ := fq_ex false hc (q := 0) (by omega) (by omega)
  have h := FP.Core.d2l_val (fq_nn false c 0)
  have z : FP.Core.zmag FP.Core.b64 (FP.Core.val64 (fq_R false c 0)) = c * FP.Core.one64 := by
    rw [e1]
    show c1 * 2 ^ (q1 - FP.Core.b64.qmin).toNat = _
    rw [show FP.Core.b64.qmin = -1074 by decide, show q1 - -1074 = q1 + 1074 by omega, u1]
    rfl
  have s : FP.Core.sgn (FP.Core.val64 (fq_R false c 0)) = false := by rw [e1]; rfl
  rw [z, s, Nat.mul_div_cancel _ FP.Core.one64_pos] at h
  apply Int64.toInt_inj.mp
  have hl : (lN c).toInt = (c : Int) := by
    show (Int64.ofNat c).toInt = _
    rw [Int64.toInt_ofNat_of_lt (by omega)]
  rw [hl]
  have h' : (FP.d2l (fq_R false c 0)).toInt = _ := h
  rw [h']
  show max (-2 ^ 63) (min (2 ^ 63 - 1) (c : Int)) = (c : Int)
  omega

/-! rows of mine: bitsOf's loops -/
theorem fq_n64 (s : Bool) (c : Nat) (q : Int) {β : Type} (y : Option β) : zk_n64 (fq_R s c q) y = y := by
  have n := fl_n64 ((FP.Core.notNaN_iff _).mpr (fq_nn s c q))
  unfold zk_n64
  exact if_pos n
theorem fq_lt {c : Nat} {q : Int} (hc : c < 2 ^ 53) (h1 : -1074 ≤ q) (h2 : q ≤ 971) {b : UInt64} {B : Nat} (hb : FP.Core.val64 b ≠ .nan) (hz : FP.Core.zval FP.Core.b64 (FP.Core.val64 b) = (B : Int)) (h : c * 2 ^ (q + 1074).toNat < B) : FP.dcmp (fq_R false c q) b = some .lt := by
  rw [fq_cmp hc h1 h2 b hb, hz, (FP.Core.compare_lt_iff _ _).mpr (Int.ofNat_lt.mpr h)]
theorem fq_gt {c : Nat} {q : Int} (hc : c < 2 ^ 53) (h1 : -1074 ≤ q) (h2 : q ≤ 971) {b : UInt64} {B : Nat} (hb : FP.Core.val64 b ≠ .nan) (hz : FP.Core.zval FP.Core.b64 (FP.Core.val64 b) = (B : Int)) (h : B ≤ c * 2 ^ (q + 1074).toNat) : FP.dcmp (fq_R false c q) b = some .eq ∨ FP.dcmp (fq_R false c q) b = some .gt := by
  rw [fq_cmp hc h1 h2 b hb, hz]
  rcases Nat.lt_or_eq_of_le h with k | k
  · right
    rw [(FP.Core.compare_gt_iff _ _).mpr (Int.ofNat_lt.mpr k)]
  · left
    rw [← k, (FP.Core.compare_eq_iff _ _).mpr rfl]
theorem fq_z2 : FP.Core.zval FP.Core.b64 (FP.Core.val64 4611686018427387904) = ((2 ^ 1075 : Nat) : Int) := by
  rw [fq_two]
  show ((2 ^ 52 * 2 ^ (-51 - FP.Core.b64.qmin).toNat : Nat) : Int) = _
  rw [show (-51 - FP.Core.b64.qmin).toNat = 1023 by decide, ← Nat.pow_add]
theorem fq_z1 : FP.Core.zval FP.Core.b64 (FP.Core.val64 FP.dconst1) = ((2 ^ 1074 : Nat) : Int) := by
  rw [fq_one]
  show ((2 ^ 52 * 2 ^ (-52 - FP.Core.b64.qmin).toNat : Nat) : Int) = _
  rw [show (-52 - FP.Core.b64.qmin).toNat = 1022 by decide, ← Nat.pow_add]
theorem fq_pow {c : Nat} {F : Nat} (h : c < 2 ^ (F + 1)) (q : Nat) : c * 2 ^ q < 2 ^ (F + 1 + q) := by
  rw [Nat.pow_add _ (F + 1)]
  exact Nat.mul_lt_mul_of_pos_right h (Nat.two_pow_pos _)
theorem fq_pow2 {c : Nat} {F : Nat} (h : 2 ^ F ≤ c) (q : Nat) : 2 ^ (F + q) ≤ c * 2 ^ q := by
  rw [Nat.pow_add]
  exact Nat.mul_le_mul_right _ h
theorem fq_p53 {F c : Nat} (hF : F ≤ 52) (h : c < 2 ^ (F + 1)) : c < 2 ^ 53 := Nat.lt_of_lt_of_le h (Nat.pow_le_pow_right (by decide) (by omega))
theorem fq_84 {N F c : Nat} (hF : F ≤ 52) (h1 : 2 ^ F ≤ c) (h2 : c < 2 ^ (F + 1)) : ∀ (k i f : Nat), k < f → i + k < 1100 → k ≤ 971 + F → f_X3_bitsOf_84 N f (fq_R false c ((k : Int) - F)) (nI i) (nI i) = some (fq_R false c (-(F : Int)), nI (i + k), nI (i + k)) := by
  intro k
  induction k with
  | zero =>
    intro i f hf hi hq
    obtain ⟨f, rfl⟩ : ∃ g, f = g + 1 := ⟨f - 1, by omega⟩
    have e : FP.dcmp (fq_R false c (((0 : Nat) : Int) - F)) 4611686018427387904 = some .lt := by
      refine fq_lt (fq_p53 hF h2) (by omega) (by omega) (by rw [fq_two]; exact fun e => by cases e) fq_z2 ?_
      have := fq_pow h2 (((0 : Nat) : Int) - F + 1074).toNat
      rwa [show F + 1 + (((0 : Nat) : Int) - F + 1074).toNat = 1075 by omega] at this
    rw [f_X3_bitsOf_84.eq_def]
    simp only []
    rw [if_neg (show ¬ (1100 : Int32) ≤ nI i from nI_ge (a := i) (b := 1100) (by omega) (by omega)), e, if_pos (by decide)]
    rw [show ((0 : Nat) : Int) - F = -(F : Int) by omega]
    rfl
  | succ k ih =>
    intro i f hf hi hq
    obtain ⟨f, rfl⟩ : ∃ g, f = g + 1 := ⟨f - 1, by omega⟩
    have e := fq_gt (c := c) (q := ((k + 1 : Nat) : Int) - F) (fq_p53 hF h2) (by omega) (by omega) (b := 4611686018427387904) (by rw [fq_two]; exact fun e => by cases e) fq_z2 (by
      have := fq_pow2 h1 (((k + 1 : Nat) : Int) - F + 1074).toNat
      rw [show F + (((k + 1 : Nat) : Int) - F + 1074).toNat = k + 1075 by omega] at this
      exact Nat.le_trans (Nat.pow_le_pow_right (by decide) (by omega)) this)
    have hn : ¬ Op.cmpValue (FP.dcmp (fq_R false c (((k + 1 : Nat) : Int) - F)) 4611686018427387904) .l < 0 := by
      rcases e with e | e <;> rw [e] <;> decide
    rw [f_X3_bitsOf_84.eq_def]
    simp only []
    rw [if_neg (show ¬ (1100 : Int32) ≤ nI i from nI_ge (a := i) (b := 1100) (by omega) (by omega)), if_neg hn, fq_half (fq_p53 hF h2) (by omega) (by omega), fq_n64, nI_1, show ((k + 1 : Nat) : Int) - F - 1 = (k : Int) - F by omega, ih (i + 1) f (by omega) (by omega) (by omega), show i + 1 + k = i + (k + 1) by omega]
theorem fq_84z {N F c f : Nat} {q : Int} (hc : c < 2 ^ 53) (hq : -1074 ≤ q) (hq2 : q ≤ 971) (h : c * 2 ^ (q + 1074).toNat < 2 ^ 1075) (e i : Int32) (hi : ¬ (1100 : Int32) ≤ i) : f_X3_bitsOf_84 N (f + 1) (fq_R false c q) e i = some (fq_R false c q, e, i) := by
  have e : FP.dcmp (fq_R false c q) 4611686018427387904 = some .lt := fq_lt hc hq hq2 (by rw [fq_two]; exact fun e => by cases e) fq_z2 h
  rw [f_X3_bitsOf_84.eq_def]
  simp only []
  rw [if_neg hi, e, if_pos (by decide)]
def mI (i : Int) : Int32 := Int32.ofInt i
theorem mI_toInt {i : Int} (h1 : -2147483648 ≤ i) (h2 : i < 2147483648) : (mI i).toInt = i := by
  unfold mI
  rw [Int32.toInt_ofInt_of_le (by omega) (by omega)]
theorem mI_sub1 {i : Int} (h1 : -2147483647 ≤ i) (h2 : i < 2147483648) : mI i + (-1 : Int32) = mI (i - 1) := by
  unfold mI
  rw [show (-1 : Int32) = Int32.ofInt (-1) by decide, ← Int32.ofInt_add]
  rfl
theorem mI_n (k : Nat) : nI k = mI (k : Int) := by
  unfold mI nI
  exact (Int32.ofInt_eq_ofNat).symm
theorem fq_121 {N F c B : Nat} (hF : F ≤ 52) (hB : 1 ≤ B) (hB2 : B ≤ 1023) (h2 : c < 2 ^ (F + 1)) : ∀ (k i f : Nat), k < f → i + k < 1100 → k + F ≤ 1074 → (2 ^ F ≤ c ∧ i + k ≤ B - 1 ∨ c < 2 ^ F ∧ i + k = B - 1) → ∃ w, f_X3_bitsOf_121 N (nI B) f (fq_R false c (-(F : Int) - k)) (mI (-(i : Int))) (nI i) = some (fq_R false c (-(F : Int)), mI (-((i + k : Nat) : Int)), w) := by
  have n1 : FP.Core.val64 FP.dconst1 ≠ .nan := by rw [fq_one]; exact fun e => by cases e
  intro k
  induction k with
  | zero =>
    intro i f hf hi hq hk
    obtain ⟨f, rfl⟩ : ∃ g, f = g + 1 := ⟨f - 1, by omega⟩
    rw [f_X3_bitsOf_121.eq_def]
    simp only []
    rw [if_neg (show ¬ (1100 : Int32) ≤ nI i from nI_ge (a := i) (b := 1100) (by omega) (by omega)), show -(F : Int) - ((0 : Nat) : Int) = -(F : Int) by omega]
    rcases hk with ⟨k1, k2⟩ | ⟨k1, k2⟩
    · have e := fq_gt (c := c) (q := -(F : Int)) (fq_p53 hF h2) (by omega) (by omega) n1 fq_z1 (by
        have := fq_pow2 k1 (-(F : Int) + 1074).toNat
        rwa [show F + (-(F : Int) + 1074).toNat = 1074 by omega] at this)
      rw [if_pos (by rcases e with e | e <;> rw [e] <;> decide)]
      exact ⟨_, rfl⟩
    · have e : FP.dcmp (fq_R false c (-(F : Int))) FP.dconst1 = some .lt := fq_lt (fq_p53 hF h2) (by omega) (by omega) n1 fq_z1 (by
        have := Nat.mul_lt_mul_of_pos_right k1 (Nat.two_pow_pos (-(F : Int) + 1074).toNat)
        rwa [← Nat.pow_add, show F + (-(F : Int) + 1074).toNat = 1074 by omega] at this)
      have ge : mI (-(i : Int)) ≤ 1 - nI B := by
        rw [Int32.le_iff_toInt_le, mI_toInt (by omega) (by omega)]
        have : (1 : Int32) - nI B = mI (1 - B) := by
          rw [mI_n, show (1 : Int32) = mI 1 from rfl]
          unfold mI
          rw [Int32.ofInt_sub]
        rw [this, mI_toInt (by omega) (by omega)]
        omega
      rw [e, if_neg (by decide), if_pos ge]
      exact ⟨_, rfl⟩
  | succ k ih =>
    intro i f hf hi hq hk
    obtain ⟨f, rfl⟩ : ∃ g, f = g + 1 := ⟨f - 1, by omega⟩
    have e : FP.dcmp (fq_R false c (-(F : Int) - ((k + 1 : Nat) : Int))) FP.dconst1 = some .lt := fq_lt (fq_p53 hF h2) (by omega) (by omega) n1 fq_z1 (by
      have := fq_pow h2 (-(F : Int) - ((k + 1 : Nat) : Int) + 1074).toNat
      refine Nat.lt_of_lt_of_le this (Nat.pow_le_pow_right (by decide) (by omega)))
    have ge : ¬ mI (-(i : Int)) ≤ 1 - nI B := by
      rw [Int32.le_iff_toInt_le, mI_toInt (by omega) (by omega)]
      have : (1 : Int32) - nI B = mI (1 - B) := by
        rw [mI_n, show (1 : Int32) = mI 1 from rfl]
        unfold mI
        rw [Int32.ofInt_sub]
      rw [this, mI_toInt (by omega) (by omega)]
      omega
    obtain ⟨w, hw⟩ := ih (i + 1) f (by omega) (by omega) (by omega) (by omega)
    rw [f_X3_bitsOf_121.eq_def]
    simp only []
    rw [if_neg (show ¬ (1100 : Int32) ≤ nI i from nI_ge (a := i) (b := 1100) (by omega) (by omega)), e, if_neg (by decide), if_neg ge, fq_dbl (fq_p53 hF h2) (by omega) (by omega), fq_n64, nI_1, mI_sub1 (by omega) (by omega), show -(F : Int) - ((k + 1 : Nat) : Int) + 1 = -(F : Int) - k by omega, show -(i : Int) - 1 = -((i + 1 : Nat) : Int) by omega, hw, show i + 1 + k = i + (k + 1) by omega]
    exact ⟨_, rfl⟩

/-! rows of mine: bitsOf of what is no NaN -/
theorem fq_lor {F E t : Nat} (ht : t < 2 ^ F) (h : E * 2 ^ F + t < 2 ^ 64) : lN (E * 2 ^ F) ||| lN t = lN (E * 2 ^ F + t) := by
  apply Int64.toBitVec_inj.mp
  rw [Int64.toBitVec_or]
  apply BitVec.eq_of_toNat_eq
  rw [BitVec.toNat_or]
  show (BitVec.ofNat 64 (E * 2 ^ F)).toNat ||| (BitVec.ofNat 64 t).toNat = (BitVec.ofNat 64 (E * 2 ^ F + t)).toNat
  rw [BitVec.toNat_ofNat, BitVec.toNat_ofNat, BitVec.toNat_ofNat, Nat.mod_eq_of_lt h, Nat.mod_eq_of_lt (by omega), Nat.mod_eq_of_lt (by omega)]
  have := Nat.shiftLeft_add_eq_or_of_lt ht E
  rw [Nat.shiftLeft_eq] at this
  exact this.symm
theorem fq_shl (E : Nat) (k : Nat) (b : Int64) (hb : (b.toBitVec.smod 64).toNat = k) (hE : E * 2 ^ k < 2 ^ 64) : lN E <<< b = lN (E * 2 ^ k) := by
  apply Int64.toBitVec_inj.mp
  rw [Int64.toBitVec_shiftLeft]
  apply BitVec.eq_of_toNat_eq
  show ((BitVec.ofNat 64 E) <<< (b.toBitVec.smod 64)).toNat = (BitVec.ofNat 64 (E * 2 ^ k)).toNat
  rw [BitVec.shiftLeft_eq', BitVec.toNat_shiftLeft, hb, BitVec.toNat_ofNat, BitVec.toNat_ofNat, Nat.shiftLeft_eq]
  rw [Nat.mod_mul_mod]
theorem fq_l0 (x : Int64) : (0 : Int64) ||| x = x := by simp
theorem fq_to32 (n : Nat) : (lN n).toInt32 = nI n := by
  show (Int64.ofNat n).toInt32 = Int32.ofNat n
  simp
theorem fq_of32 (r : UInt32) : r.toInt32 = nI r.toNat := by
  show r.toInt32 = Int32.ofNat r.toNat
  apply Int32.toBitVec_inj.mp
  simp
theorem fq_of64 (r : UInt64) : r.toInt64 = lN r.toNat := by
  show r.toInt64 = Int64.ofNat r.toNat
  apply Int64.toBitVec_inj.mp
  simp
theorem fq_nl (n : Nat) (h : n < 2 ^ 31) : (nI n).toInt64 = lN n := by
  apply Int64.toInt_inj.mp
  rw [Int32.toInt_toInt64, nI_toInt h]
  show (n : Int) = (Int64.ofNat n).toInt
  rw [Int64.toInt_ofNat_of_lt (by omega)]
theorem fq_vl : FP.Core.val64 9094988921128908188 = .fin false 0x17E43C8800759C 944 := by decide +kernel
theorem fq_ve : FP.Core.val64 9214871658872686752 = .fin false 0x11CCF385EBC8A0 971 := by decide +kernel
theorem fq_vf : FP.Core.val64 18438243695727462560 = .fin true 0x11CCF385EBC8A0 971 := by decide +kernel
theorem fq_zl : FP.Core.zval FP.Core.b64 (FP.Core.val64 9094988921128908188) = ((0x17E43C8800759C * 2 ^ 2018 : Nat) : Int) := by
  rw [fq_vl]
  show ((0x17E43C8800759C * 2 ^ (944 - FP.Core.b64.qmin).toNat : Nat) : Int) = _
  rw [show (944 - FP.Core.b64.qmin).toNat = 2018 by decide]
theorem fq_ze : FP.Core.zval FP.Core.b64 (FP.Core.val64 9214871658872686752) = ((0x11CCF385EBC8A0 * 2 ^ 2045 : Nat) : Int) := by
  rw [fq_ve]
  show ((0x11CCF385EBC8A0 * 2 ^ (971 - FP.Core.b64.qmin).toNat : Nat) : Int) = _
  rw [show (971 - FP.Core.b64.qmin).toNat = 2045 by decide]
theorem fq_zf : FP.Core.zval FP.Core.b64 (FP.Core.val64 18438243695727462560) = -((0x11CCF385EBC8A0 * 2 ^ 2045 : Nat) : Int) := by
  rw [fq_vf]
  show -((0x11CCF385EBC8A0 * 2 ^ (971 - FP.Core.b64.qmin).toNat : Nat) : Int) = _
  rw [show (971 - FP.Core.b64.qmin).toNat = 2045 by decide]
theorem fq_zvalS {s : Bool} {c : Nat} {q : Int} (hc : c < 2 ^ 53) (h1 : -1074 ≤ q) (h2 : q ≤ 971) : FP.Core.zval FP.Core.b64 (FP.Core.val64 (fq_R s c q)) = FP.Core.signed s (c * 2 ^ (q + 1074).toNat) := by
  obtain ⟨c1, q1, e1, k1, u1⟩ := fq_ex s hc h1 h2
  rw [e1, ← u1]
  show FP.Core.signed s (c1 * 2 ^ (q1 - FP.Core.b64.qmin).toNat) = _
  rw [show FP.Core.b64.qmin = -1074 by decide, show q1 - -1074 = q1 + 1074 by omega]
theorem fq_big {m k : Nat} (h1 : 1 ≤ m) (h2 : 2000 ≤ k) {x : Nat} (h : x < 2 ^ 2000) : x < m * 2 ^ k := by
  have a : 2 ^ 2000 ≤ 2 ^ k := Nat.pow_le_pow_right (by decide) h2
  have b : 1 * 2 ^ k ≤ m * 2 ^ k := Nat.mul_le_mul_right _ h1
  omega
theorem fq_lost {N : Nat} {s : Bool} {c : Nat} {q : Int} (hc : c < 2 ^ 53) (h1 : -1074 ≤ q) (h2 : q ≤ 971) (hs : c * 2 ^ (q + 1074).toNat < 2 ^ 2000) : f_X3_isLost N (fq_R s c q) = some 0 := by
  have e : FP.dcmp (fq_R s c q) 9094988921128908188 = some .lt := by
    have h := FP.Core.dcmp_zval (a := fq_R s c q) (b := 9094988921128908188) (fq_nn _ _ _) (by rw [fq_vl]; exact fun e => by cases e)
    rw [fq_zvalS hc h1 h2, fq_zl] at h
    refine Eq.trans h ?_
    rw [(FP.Core.compare_lt_iff _ _).mpr]
    have := fq_big (m := 0x17E43C8800759C) (k := 2018) (by decide) (by decide) hs
    cases s
    · exact Int.ofNat_lt.mpr this
    · show -((c * 2 ^ (q + 1074).toNat : Nat) : Int) < _
      have := Int.ofNat_lt.mpr this
      omega
  unfold f_X3_isLost f_X3_lost
  rw [Option.bind_some, e]
  rfl
theorem fq_end {N : Nat} {c : Nat} {q : Int} (hc : c < 2 ^ 53) (h1 : -1074 ≤ q) (h2 : q ≤ 971) (hs : c * 2 ^ (q + 1074).toNat < 2 ^ 2000) : f_X3_isEndless N (fq_R false c q) = some 0 := by
  have e : FP.dcmp (fq_R false c q) 9214871658872686752 = some .lt := fq_lt hc h1 h2 (by rw [fq_ve]; exact fun e => by cases e) fq_ze (fq_big (by decide) (by decide) hs)
  have e2 : FP.dcmp (fq_R false c q) 18438243695727462560 = some .gt := by
    rw [fq_cmp hc h1 h2 _ (by rw [fq_vf]; exact fun e => by cases e), fq_zf, (FP.Core.compare_gt_iff _ _).mpr]
    have a : 0 < 0x11CCF385EBC8A0 * 2 ^ 2045 := Nat.mul_pos (by decide) (Nat.two_pow_pos _)
    have := Int.ofNat_lt.mpr a
    have b : (0 : Int) ≤ ((c * 2 ^ (q + 1074).toNat : Nat) : Int) := Int.natCast_nonneg _
    generalize ((0x11CCF385EBC8A0 * 2 ^ 2045 : Nat) : Int) = X at this ⊢
    have this : (0 : Int) < X := this
    omega
  unfold f_X3_isEndless
  rw [e, e2]
  rfl
def fq_core (N : Nat) (S : Int64) (y : UInt64) (x2 x3 : Int32) : Option Int64 :=
  (f_X3_isEndless N y).bind fun o66 => if o66 = 0 then ((f_X3_bitsOf_84 N N y (0 : Int32) (0 : Int32)).bind fun o84 => (f_X3_bitsOf_121 N x3 N o84.1 o84.2.1 (0 : Int32)).bind fun o121 => if 0 ≤ (Op.cmpValue (FP.dcmp o121.1 FP.dconst1) .g) then (if 0 ≤ (Op.cmpValue (FP.dcmp o121.1 FP.dconst1) .g) then (zk_n64 (FP.dsub o121.1 FP.dconst1) (zk_n64 (FP.dmul (FP.dsub o121.1 FP.dconst1) (FP.l2d ((1 : Int64) <<< (x2.toInt64 &&& 63)))) (some ((S ||| (((o121.2.1 + x3).toInt64) <<< (x2.toInt64 &&& 63))) ||| (FP.d2l (FP.dmul (FP.dsub o121.1 FP.dconst1) (FP.l2d ((1 : Int64) <<< (x2.toInt64 &&& 63))))))))) else (zk_n64 (FP.dmul o121.1 (FP.l2d ((1 : Int64) <<< (x2.toInt64 &&& 63)))) (some ((S ||| (((o121.2.1 + x3).toInt64) <<< (x2.toInt64 &&& 63))) ||| (FP.d2l (FP.dmul o121.1 (FP.l2d ((1 : Int64) <<< (x2.toInt64 &&& 63))))))))) else (if 0 ≤ (Op.cmpValue (FP.dcmp o121.1 FP.dconst1) .g) then (zk_n64 (FP.dsub o121.1 FP.dconst1) (zk_n64 (FP.dmul (FP.dsub o121.1 FP.dconst1) (FP.l2d ((1 : Int64) <<< (x2.toInt64 &&& 63)))) (some ((S ||| (0 : Int64)) ||| (FP.d2l (FP.dmul (FP.dsub o121.1 FP.dconst1) (FP.l2d ((1 : Int64) <<< (x2.toInt64 &&& 63))))))))) else (zk_n64 (FP.dmul o121.1 (FP.l2d ((1 : Int64) <<< (x2.toInt64 &&& 63)))) (some ((S ||| (0 : Int64)) ||| (FP.d2l (FP.dmul o121.1 (FP.l2d ((1 : Int64) <<< (x2.toInt64 &&& 63)))))))))) else (some (S ||| ((((2 : Int64) * x3.toInt64) + (1 : Int64)) <<< (x2.toInt64 &&& 63))))
theorem fq_bitsP {N : Nat} {x0 : UInt64} {x2 x3 : Int32} (hl : f_X3_isLost N x0 = some 0) (h : 0 ≤ Op.cmpValue (FP.dcmp x0 FP.dconst0) .g) : f_X3_bitsOf N x0 x2 x3 = fq_core N 0 x0 x2 x3 := by
  unfold f_X3_bitsOf
  rw [hl, Option.bind_some, if_pos rfl, if_pos h, if_pos h]
  rfl
theorem fq_bitsN {N : Nat} {x0 : UInt64} {x2 x3 : Int32} (hl : f_X3_isLost N x0 = some 0) (h : ¬ 0 ≤ Op.cmpValue (FP.dcmp x0 FP.dconst0) .g) : f_X3_bitsOf N x0 x2 x3 = fq_core N ((((x3.toInt64 + (1 : Int64)) * (2 : Int64)) <<< (x2.toInt64 &&& 63))) (FP.dneg x0) x2 x3 := by
  unfold f_X3_bitsOf
  rw [hl, Option.bind_some, if_pos rfl, if_neg h, if_neg h]
  rfl
theorem fq_121z {N F c f : Nat} (hF : F ≤ 52) (h1 : 2 ^ F ≤ c) (h2 : c < 2 ^ (F + 1)) (x3 e : Int32) : f_X3_bitsOf_121 N x3 (f + 1) (fq_R false c (-(F : Int))) e 0 = some (fq_R false c (-(F : Int)), e, 0) := by
  have n1 : FP.Core.val64 FP.dconst1 ≠ .nan := by rw [fq_one]; exact fun e => by cases e
  have e := fq_gt (c := c) (q := -(F : Int)) (fq_p53 hF h2) (by omega) (by omega) n1 fq_z1 (by
    have := fq_pow2 h1 (-(F : Int) + 1074).toNat
    rwa [show F + (-(F : Int) + 1074).toNat = 1074 by omega] at this)
  rw [f_X3_bitsOf_121.eq_def]
  simp only []
  rw [if_neg (show ¬ (1100 : Int32) ≤ (0 : Int32) by decide), if_pos (by rcases e with e | e <;> rw [e] <;> decide)]
theorem fq_ge1 {F c : Nat} (hF : F ≤ 52) (h1 : 2 ^ F ≤ c) (h2 : c < 2 ^ (F + 1)) : 0 ≤ Op.cmpValue (FP.dcmp (fq_R false c (-(F : Int))) FP.dconst1) .g := by
  have n1 : FP.Core.val64 FP.dconst1 ≠ .nan := by rw [fq_one]; exact fun e => by cases e
  have e := fq_gt (c := c) (q := -(F : Int)) (fq_p53 hF h2) (by omega) (by omega) n1 fq_z1 (by
    have := fq_pow2 h1 (-(F : Int) + 1074).toNat
    rwa [show F + (-(F : Int) + 1074).toNat = 1074 by omega] at this)
  rcases e with e | e <;> rw [e] <;> decide
theorem fq_lt1 {F c : Nat} (hF : F ≤ 52) (h1 : c < 2 ^ F) : ¬ 0 ≤ Op.cmpValue (FP.dcmp (fq_R false c (-(F : Int))) FP.dconst1) .g := by
  have n1 : FP.Core.val64 FP.dconst1 ≠ .nan := by rw [fq_one]; exact fun e => by cases e
  have h2 : c < 2 ^ (F + 1) := Nat.lt_of_lt_of_le h1 (Nat.pow_le_pow_right (by decide) (by omega))
  have e : FP.dcmp (fq_R false c (-(F : Int))) FP.dconst1 = some .lt := fq_lt (fq_p53 hF h2) (by omega) (by omega) n1 fq_z1 (by
    have := Nat.mul_lt_mul_of_pos_right h1 (Nat.two_pow_pos (-(F : Int) + 1074).toNat)
    rwa [← Nat.pow_add, show F + (-(F : Int) + 1074).toNat = 1074 by omega] at this)
  rw [e]
  decide
theorem fq_coreN {N F B E c : Nat} {q : Int} {x2 : Int32} {S : Int64} (hN : 1101 ≤ N) (hF1 : 1 ≤ F) (hF : F ≤ 52) (hB : 1 ≤ B) (hB2 : B ≤ 1023) (hBF : B + F ≤ 1075) (h1 : 2 ^ F ≤ c) (h2 : c < 2 ^ (F + 1)) (hE1 : 1 ≤ E) (hE2 : E ≤ 2 * B) (hq : q = (E : Int) - B - F) (hq2 : q ≤ 971) (hs : c * 2 ^ (q + 1074).toNat < 2 ^ 2000) (hp : FP.Core.val64 (FP.l2d ((1 : Int64) <<< (x2.toInt64 &&& 63))) = .fin false (2 ^ 52) ((F : Int) - 52)) (hx : ((x2.toInt64 &&& 63).toBitVec.smod 64).toNat = F) (hEF : E * 2 ^ F < 2 ^ 64) : fq_core N S (fq_R false c q) x2 (nI B) = some ((S ||| lN (E * 2 ^ F)) ||| lN (c - 2 ^ F)) := by
  have hc := fq_p53 hF h2
  obtain ⟨N, rfl⟩ : ∃ g, N = g + 1 := ⟨N - 1, by omega⟩
  have key : ∃ w e, (f_X3_bitsOf_84 (N + 1) (N + 1) (fq_R false c q) (0 : Int32) (0 : Int32)).bind (fun o84 => f_X3_bitsOf_121 (N + 1) (nI B) (N + 1) o84.1 o84.2.1 (0 : Int32)) = some (fq_R false c (-(F : Int)), e, w) ∧ e + nI B = nI E := by
    by_cases k : B ≤ E
    · have e84 := fq_84 (N := N + 1) hF h1 h2 (E - B) 0 (N + 1) (by omega) (by omega) (by omega)
      rw [show ((E - B : Nat) : Int) - F = q by omega] at e84
      have e84 : f_X3_bitsOf_84 (N + 1) (N + 1) (fq_R false c q) (0 : Int32) (0 : Int32) = _ := e84
      refine ⟨0, nI (E - B), ?_, ?_⟩
      · rw [e84, Option.bind_some, Nat.zero_add]
        exact fq_121z hF h1 h2 _ _
      · rw [nI_add, show E - B + B = E by omega]
    · have e84 := fq_84z (N := N + 1) (F := F) (f := N) (q := q) hc (by omega) (by omega) (by
        have := fq_pow h2 (q + 1074).toNat
        exact Nat.lt_of_lt_of_le this (Nat.pow_le_pow_right (by decide) (by omega))) 0 0 (by decide)
      obtain ⟨w, e121⟩ := fq_121 (N := N + 1) hF hB hB2 h2 (B - E) 0 (N + 1) (by omega) (by omega) (by omega) (Or.inl ⟨h1, by omega⟩)
      rw [show -(F : Int) - ((B - E : Nat) : Int) = q by omega] at e121
      have e121 : f_X3_bitsOf_121 (N + 1) (nI B) (N + 1) (fq_R false c q) (0 : Int32) (0 : Int32) = _ := e121
      refine ⟨w, mI (-((0 + (B - E) : Nat) : Int)), ?_, ?_⟩
      · rw [e84, Option.bind_some]
        exact e121
      · rw [mI_n, mI_n]
        unfold mI
        rw [← Int32.ofInt_add, show -((0 + (B - E) : Nat) : Int) + (B : Int) = (E : Int) by omega]
  obtain ⟨w, e, k1, k2⟩ := key
  rw [Option.bind_eq_some_iff] at k1
  obtain ⟨o84, k3, k4⟩ := k1
  unfold fq_core
  rw [fq_end hc (by omega) hq2 hs, Option.bind_some, if_pos rfl, k3, Option.bind_some, k4, Option.bind_some]
  dsimp only
  rw [if_pos (fq_ge1 hF h1 h2), if_pos (fq_ge1 hF h1 h2), fq_sub1 hc hF h1, fq_n64, fq_mul hp (by omega) (by omega) (by omega) (by omega) (by omega), fq_n64, show -(F : Int) + (52 + ((F : Int) - 52)) = 0 by omega, fq_d2l (by omega), k2, fq_nl E (by omega), fq_shl E F _ hx hEF]
theorem fq_coreS {N F B c : Nat} {q : Int} {x2 : Int32} {S : Int64} (hN : 1101 ≤ N) (hF1 : 1 ≤ F) (hF : F ≤ 52) (hB : 1 ≤ B) (hB2 : B ≤ 1023) (hBF : B + F ≤ 1075) (h1 : c < 2 ^ F) (hq : q = 1 - (B : Int) - F) (hp : FP.Core.val64 (FP.l2d ((1 : Int64) <<< (x2.toInt64 &&& 63))) = .fin false (2 ^ 52) ((F : Int) - 52)) : fq_core N S (fq_R false c q) x2 (nI B) = some ((S ||| 0) ||| lN c) := by
  have h2 : c < 2 ^ (F + 1) := Nat.lt_of_lt_of_le h1 (Nat.pow_le_pow_right (by decide) (by omega))
  have hc := fq_p53 hF h2
  have hs : c * 2 ^ (q + 1074).toNat < 2 ^ 1075 := by
    have := fq_pow h2 (q + 1074).toNat
    exact Nat.lt_of_lt_of_le this (Nat.pow_le_pow_right (by decide) (by omega))
  obtain ⟨N, rfl⟩ : ∃ g, N = g + 1 := ⟨N - 1, by omega⟩
  have e84 := fq_84z (N := N + 1) (F := F) (f := N) (q := q) hc (by omega) (by omega) hs 0 0 (by decide)
  obtain ⟨w, e121⟩ := fq_121 (N := N + 1) hF hB hB2 h2 (B - 1) 0 (N + 1) (by omega) (by omega) (by omega) (Or.inr ⟨h1, by omega⟩)
  rw [show -(F : Int) - ((B - 1 : Nat) : Int) = q by omega] at e121
  have e121 : f_X3_bitsOf_121 (N + 1) (nI B) (N + 1) (fq_R false c q) (0 : Int32) (0 : Int32) = _ := e121
  unfold fq_core
  rw [fq_end hc (by omega) (by omega) (Nat.lt_of_lt_of_le hs (Nat.pow_le_pow_right (by decide) (by decide))), Option.bind_some, if_pos rfl, e84, Option.bind_some, e121, Option.bind_some]
  dsimp only
  rw [if_neg (fq_lt1 hF h1), if_neg (fq_lt1 hF h1), fq_mul hp (by omega) (by omega) (by omega) (by omega) (by omega), fq_n64, show -(F : Int) + (52 + ((F : Int) - 52)) = 0 by omega, fq_d2l (by omega)]

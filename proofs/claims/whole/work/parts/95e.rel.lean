/-! rows of mine: bitsOf against the bits of floats and doubles -/
theorem fq_f2d {r : UInt32} {s : Bool} {c : Nat} {q : Int} (h : FP.Core.val32 r = .fin s c q) : FP.f2d r = fq_R s c q := by
  have nn : FP.fIsNaN r = false := (FP.Core.notNaN_iff32 r).mpr (by rw [h]; exact fun e => by cases e)
  rw [FP.f2d_core nn]
  refine FP.Core.val64_inj ?_ ?_
  · rw [FP.Core.val64_f2d, h]
    exact FP.Core.roundRatio_ne_nan _ _ _ _ _
  · rw [FP.Core.val64_f2d, h, fq_val]
theorem fq_d64 {x : UInt64} {s : Bool} {c : Nat} {q : Int} (h : FP.Core.val64 x = .fin s c q) : x = fq_R s c q := by
  have f := FP.Core.val64_fits x
  refine FP.Core.val64_inj (by rw [h]; exact fun e => by cases e) ?_
  rw [fq_val, ← h, FP.Core.round_of_fits FP.Core.good_b64 f]
theorem fq_dec32 (r : UInt32) : ∃ (S : Bool) (E T : Nat), T < 2 ^ 23 ∧ E < 256 ∧ r.toNat = (S.toNat * 256 + E) * 2 ^ 23 + T ∧ FP.Core.val32 r = (if E = 255 then (if T = 0 then .inf S else .nan) else if E = 0 then .fin S T (-149) else .fin S (2 ^ 23 + T) (-149 + ((E : Int) - 1))) := by
  refine ⟨FP.Core.fieldS FP.Core.b32 r.toNat, FP.Core.fieldE FP.Core.b32 r.toNat, FP.Core.fieldT FP.Core.b32 r.toNat, ?_, ?_, ?_, ?_⟩
  · exact FP.Core.fieldT_lt FP.Core.b32 _
  · exact FP.Core.fieldE_lt FP.Core.b32 _
  · exact (FP.Core.assemble_fields FP.Core.b32 r.toNat (by rw [FP.Core.size_b32]; exact r.toNat_lt)).symm
  · rfl
theorem fq_dec64 (r : UInt64) : ∃ (S : Bool) (E T : Nat), T < 2 ^ 52 ∧ E < 2048 ∧ r.toNat = (S.toNat * 2048 + E) * 2 ^ 52 + T ∧ FP.Core.val64 r = (if E = 2047 then (if T = 0 then .inf S else .nan) else if E = 0 then .fin S T (-1074) else .fin S (2 ^ 52 + T) (-1074 + ((E : Int) - 1))) := by
  refine ⟨FP.Core.fieldS FP.Core.b64 r.toNat, FP.Core.fieldE FP.Core.b64 r.toNat, FP.Core.fieldT FP.Core.b64 r.toNat, ?_, ?_, ?_, ?_⟩
  · exact FP.Core.fieldT_lt FP.Core.b64 _
  · exact FP.Core.fieldE_lt FP.Core.b64 _
  · exact (FP.Core.assemble_fields FP.Core.b64 r.toNat (by rw [FP.Core.size_b64]; exact r.toNat_lt)).symm
  · rfl
theorem fq_hp23 : FP.Core.val64 (FP.l2d ((1 : Int64) <<< ((23 : Int32).toInt64 &&& 63))) = .fin false (2 ^ 52) (((23 : Nat) : Int) - 52) := by decide +kernel
theorem fq_hp52 : FP.Core.val64 (FP.l2d ((1 : Int64) <<< ((52 : Int32).toInt64 &&& 63))) = .fin false (2 ^ 52) (((52 : Nat) : Int) - 52) := by decide +kernel
theorem fq_hx23 : (((23 : Int32).toInt64 &&& 63).toBitVec.smod 64).toNat = 23 := by decide
theorem fq_hx52 : (((52 : Int32).toInt64 &&& 63).toBitVec.smod 64).toNat = 52 := by decide
theorem fq_ge0 {c : Nat} {q : Int} (hc : c < 2 ^ 53) (h1 : -1074 ≤ q) (h2 : q ≤ 971) : 0 ≤ Op.cmpValue (FP.dcmp (fq_R false c q) FP.dconst0) .g := by
  have e := fq_gt (c := c) (q := q) (B := 0) hc h1 h2 (b := FP.dconst0) (by
    have : FP.Core.val64 FP.dconst0 = _ := FP.Core.val64_dconst0
    rw [this]; exact fun e => by cases e) FP.Core.zval64_zero (Nat.zero_le _)
  rcases e with e | e <;> rw [e] <;> decide
theorem fq_lt0 {c : Nat} {q : Int} (hc : c < 2 ^ 53) (h0 : 0 < c) (h1 : -1074 ≤ q) (h2 : q ≤ 971) : ¬ 0 ≤ Op.cmpValue (FP.dcmp (fq_R true c q) FP.dconst0) .g := by
  have n0 : FP.Core.val64 FP.dconst0 ≠ .nan := by
    have : FP.Core.val64 FP.dconst0 = _ := FP.Core.val64_dconst0
    rw [this]; exact fun e => by cases e
  have z0 : FP.Core.zval FP.Core.b64 (FP.Core.val64 FP.dconst0) = 0 := FP.Core.zval64_zero
  have e : FP.dcmp (fq_R true c q) FP.dconst0 = some .lt := by
    have h := FP.Core.dcmp_zval (a := fq_R true c q) (b := FP.dconst0) (fq_nn _ _ _) n0
    rw [fq_zvalS hc h1 h2, z0] at h
    refine Eq.trans h ?_
    rw [(FP.Core.compare_lt_iff _ _).mpr]
    show -((c * 2 ^ (q + 1074).toNat : Nat) : Int) < 0
    have := Int.ofNat_lt.mpr (Nat.mul_pos h0 (Nat.two_pow_pos (q + 1074).toNat))
    have this : (0 : Int) < ((c * 2 ^ (q + 1074).toNat : Nat) : Int) := this
    omega
  rw [e]
  decide
theorem fq_neg (c : Nat) (q : Int) : FP.dneg (fq_R true c q) = fq_R false c q := by
  refine FP.Core.val64_inj ?_ ?_
  · rw [FP.val64_dneg]
    exact FP.Core.negate_ne_nan (fq_nn _ _ _)
  · rw [FP.val64_dneg, fq_val, fq_val, FP.Core.negate_round]
    rfl
theorem fq_lorS {m : Nat} (h : m < 2 ^ 31) : lN (2 ^ 31) ||| lN m = lN (2 ^ 31 + m) := by
  have := fq_lor (F := 31) (E := 1) (t := m) h (by omega)
  rwa [Nat.one_mul] at this
theorem fq_S32 : (((((127 : Int32).toInt64 + (1 : Int64)) * (2 : Int64)) <<< ((23 : Int32).toInt64 &&& 63))) = lN (2 ^ 31) := by decide
theorem fq_small {c : Nat} {e : Int} (h : c < 2 ^ 53) (h2 : e ≤ 900) : c * 2 ^ (e + 1074).toNat < 2 ^ 2030 := by
  have := fq_pow (F := 52) h (e + 1074).toNat
  exact Nat.lt_of_lt_of_le this (Nat.pow_le_pow_right (by decide) (by omega))
theorem fq_small2 {c : Nat} {e : Int} (h : c < 2 ^ 53) (h2 : e ≤ 800) : c * 2 ^ (e + 1074).toNat < 2 ^ 2000 := by
  have := fq_pow (F := 52) h (e + 1074).toNat
  exact Nat.lt_of_lt_of_le this (Nat.pow_le_pow_right (by decide) (by omega))
theorem fq_core32 {N : Nat} (hN : 1101 ≤ N) {E T : Nat} (hT : T < 2 ^ 23) (hE : E < 255) (S : Int64) : fq_core N S (if E = 0 then fq_R false T (-149) else fq_R false (2 ^ 23 + T) (-149 + ((E : Int) - 1))) 23 127 = some (S ||| lN (E * 2 ^ 23 + T)) := by
  by_cases k : E = 0
  · subst k
    rw [if_pos rfl]
    have h := fq_coreS (N := N) (F := 23) (B := 127) (c := T) (q := -149) (x2 := 23) (S := S) hN (by decide) (by decide) (by decide) (by decide) (by decide) hT (by decide) fq_hp23
    have h : fq_core N S (fq_R false T (-149)) 23 127 = _ := h
    rw [h, show S ||| (0 : Int64) = S by simp, Nat.zero_mul, Nat.zero_add]
  · rw [if_neg k]
    have h := fq_coreN (N := N) (F := 23) (B := 127) (E := E) (c := 2 ^ 23 + T) (q := -149 + ((E : Int) - 1)) (x2 := 23) (S := S) hN (by decide) (by decide) (by decide) (by decide) (by decide) (by omega) (by omega) (by omega) (by omega) (by omega) (by omega) (fq_small2 (by omega) (by omega)) fq_hp23 fq_hx23 (by omega)
    have h : fq_core N S (fq_R false (2 ^ 23 + T) (-149 + ((E : Int) - 1))) 23 127 = _ := h
    rw [h, Nat.add_sub_cancel_left, Int64.or_assoc, fq_lor hT (by omega)]
theorem fq_a32 {N : Nat} (hN : 1101 ≤ N) {r : UInt32} (hn : FP.Core.val32 r ≠ .nan) (hz : r ≠ 0x80000000) : ∃ o, f_X3_bitsOf N (FP.f2d r) 23 127 = some o ∧ o.toInt32 = r.toInt32 := by
  obtain ⟨S, E, T, hT, hE, hr, hv⟩ := fq_dec32 r
  by_cases k : E = 255
  · subst k
    rw [if_pos rfl] at hv
    by_cases k2 : T = 0
    · subst k2
      cases S with
      | false =>
        have : r = 0x7f800000 := UInt32.toNat_inj.mp hr
        subst this
        have e : FP.f2d 0x7f800000 = 0x7ff0000000000000 := by decide +kernel
        rw [e]
        have hl : f_X3_isLost N 0x7ff0000000000000 = some 0 := by
          unfold f_X3_isLost f_X3_lost
          rw [Option.bind_some, if_neg (by decide +kernel)]
        have he : f_X3_isEndless N 0x7ff0000000000000 = some 1 := by
          unfold f_X3_isEndless
          rw [if_pos (by decide +kernel)]
        refine ⟨(0 : Int64) ||| (((2 : Int64) * (127 : Int32).toInt64 + (1 : Int64)) <<< ((23 : Int32).toInt64 &&& 63)), (fq_bitsP hl (by decide +kernel)).trans ?_, ?_⟩
        · unfold fq_core
          rw [he, Option.bind_some, if_neg (by decide)]
        · decide +kernel
      | true =>
        have : r = 0xff800000 := UInt32.toNat_inj.mp hr
        subst this
        have e : FP.f2d 0xff800000 = 0xfff0000000000000 := by decide +kernel
        rw [e]
        have hl : f_X3_isLost N 0xfff0000000000000 = some 0 := by
          unfold f_X3_isLost f_X3_lost
          rw [Option.bind_some, if_neg (by decide +kernel)]
        have hd : FP.dneg 0xfff0000000000000 = 0x7ff0000000000000 := by decide +kernel
        have he : f_X3_isEndless N 0x7ff0000000000000 = some 1 := by
          unfold f_X3_isEndless
          rw [if_pos (by decide +kernel)]
        refine ⟨(((((127 : Int32).toInt64 + (1 : Int64)) * (2 : Int64)) <<< ((23 : Int32).toInt64 &&& 63))) ||| (((2 : Int64) * (127 : Int32).toInt64 + (1 : Int64)) <<< ((23 : Int32).toInt64 &&& 63)), (fq_bitsN hl (by decide +kernel)).trans ?_, ?_⟩
        · unfold fq_core
          rw [hd, he, Option.bind_some, if_neg (by decide)]
        · decide +kernel
    · rw [if_neg k2] at hv
      exact absurd hv hn
  · rw [if_neg k] at hv
    have hv2 : FP.f2d r = (if E = 0 then fq_R S T (-149) else fq_R S (2 ^ 23 + T) (-149 + ((E : Int) - 1))) := by
      by_cases k0 : E = 0
      · rw [if_pos k0] at hv ⊢; exact fq_f2d hv
      · rw [if_neg k0] at hv ⊢; exact fq_f2d hv
    rw [hv2]
    cases S with
    | false =>
      refine ⟨_, (fq_bitsP ?_ ?_).trans (fq_core32 hN hT (by omega) 0), ?_⟩
      · split
        · exact fq_lost (by omega) (by omega) (by omega) (fq_small2 (by omega) (by omega))
        · exact fq_lost (by omega) (by omega) (by omega) (fq_small2 (by omega) (by omega))
      · split
        · exact fq_ge0 (by omega) (by omega) (by omega)
        · exact fq_ge0 (by omega) (by omega) (by omega)
      · rw [fq_l0, fq_to32, fq_of32, hr]
        simp
    | true =>
      have hc : E ≠ 0 ∨ 0 < T := by
        rcases Nat.eq_zero_or_pos E with e | e
        · right
          rcases Nat.eq_zero_or_pos T with f | f
          · exact absurd (UInt32.toNat_inj.mp (by rw [hr, e, f]; rfl)) hz
          · exact f
        · exact Or.inl (by omega)
      have hd : FP.dneg (if E = 0 then fq_R true T (-149) else fq_R true (2 ^ 23 + T) (-149 + ((E : Int) - 1))) = (if E = 0 then fq_R false T (-149) else fq_R false (2 ^ 23 + T) (-149 + ((E : Int) - 1))) := by
        split <;> exact fq_neg _ _
      refine ⟨_, (fq_bitsN ?_ ?_).trans (?_ : fq_core _ _ _ _ _ = some (lN (2 ^ 31) ||| lN (E * 2 ^ 23 + T))), ?_⟩
      · split
        · exact fq_lost (by omega) (by omega) (by omega) (fq_small2 (by omega) (by omega))
        · exact fq_lost (by omega) (by omega) (by omega) (fq_small2 (by omega) (by omega))
      · split
        · exact fq_lt0 (by omega) (by omega) (by omega) (by omega)
        · exact fq_lt0 (by omega) (by omega) (by omega) (by omega)
      · rw [hd, fq_S32]
        exact fq_core32 hN hT (by omega) _
      · rw [fq_lorS (by omega), fq_to32, fq_of32, hr, show (true.toNat * 256 + E) * 2 ^ 23 + T = 2 ^ 31 + (E * 2 ^ 23 + T) by show (1 * 256 + E) * 2 ^ 23 + T = _; omega]
theorem fq_a64 {N : Nat} (hN : 1101 ≤ N) {x : UInt64} (h : x = 0x7ff0000000000000 ∨ x.toNat < 1800 * 2 ^ 52) : f_X3_bitsOf N x 52 1023 = some x.toInt64 := by
  rcases h with rfl | h
  · have hl : f_X3_isLost N 0x7ff0000000000000 = some 0 := by
      unfold f_X3_isLost f_X3_lost
      rw [Option.bind_some, if_neg (by decide +kernel)]
    have he : f_X3_isEndless N 0x7ff0000000000000 = some 1 := by
      unfold f_X3_isEndless
      rw [if_pos (by decide +kernel)]
    refine (fq_bitsP hl (by decide +kernel)).trans ?_
    unfold fq_core
    rw [he, Option.bind_some, if_neg (by decide)]
    exact congrArg some (by decide +kernel)
  · obtain ⟨S, E, T, hT, hE, hr, hv⟩ := fq_dec64 x
    have hS : S = false := by
      cases S with
      | false => rfl
      | true =>
        exfalso
        have hr : x.toNat = (1 * 2048 + E) * 2 ^ 52 + T := hr
        omega
    subst hS
    have hr : x.toNat = (0 * 2048 + E) * 2 ^ 52 + T := hr
    have hE : E < 1800 := by omega
    rw [if_neg (by omega)] at hv
    by_cases k : E = 0
    · rw [if_pos k] at hv
      have e := fq_d64 hv
      have hl : f_X3_isLost N x = some 0 := by rw [e]; exact fq_lost (by omega) (by omega) (by omega) (fq_small2 (by omega) (by omega))
      have hg : 0 ≤ Op.cmpValue (FP.dcmp x FP.dconst0) .g := by rw [e]; exact fq_ge0 (by omega) (by omega) (by omega)
      have hc := fq_coreS (N := N) (F := 52) (B := 1023) (c := T) (q := -1074) (x2 := 52) (S := 0) hN (by decide) (by decide) (by decide) (by decide) (by decide) hT (by decide) fq_hp52
      have hc : fq_core N 0 (fq_R false T (-1074)) 52 1023 = _ := hc
      rw [fq_bitsP hl hg, fq_of64]
      conv => lhs; rw [e]
      rw [hc, show ((0 : Int64) ||| 0) = 0 by decide, fq_l0, hr, k]
      simp
    · rw [if_neg k] at hv
      have e := fq_d64 hv
      have hl : f_X3_isLost N x = some 0 := by rw [e]; exact fq_lost (by omega) (by omega) (by omega) (fq_small2 (by omega) (by omega))
      have hg : 0 ≤ Op.cmpValue (FP.dcmp x FP.dconst0) .g := by rw [e]; exact fq_ge0 (by omega) (by omega) (by omega)
      have hc := fq_coreN (N := N) (F := 52) (B := 1023) (E := E) (c := 2 ^ 52 + T) (q := -1074 + ((E : Int) - 1)) (x2 := 52) (S := 0) hN (by decide) (by decide) (by decide) (by decide) (by decide) (by omega) (by omega) (by omega) (by omega) (by omega) (by omega) (fq_small2 (by omega) (by omega)) fq_hp52 fq_hx52 (by omega)
      have hc : fq_core N 0 (fq_R false (2 ^ 52 + T) (-1074 + ((E : Int) - 1))) 52 1023 = _ := hc
      rw [fq_bitsP hl hg, fq_of64]
      conv => lhs; rw [e]
      rw [hc, fq_l0, Nat.add_sub_cancel_left, fq_lor hT (by omega), hr]
      simp
theorem fq_l32 {N : Nat} : ∃ o, f_X3_bitsOf N 9094988921128908188 23 127 = some o ∧ o.toInt32 = 2143289344 := by
  have hl : f_X3_isLost N 9094988921128908188 = some 1 := by
    unfold f_X3_isLost f_X3_lost
    rw [Option.bind_some, if_pos (by decide +kernel)]
  unfold f_X3_bitsOf
  rw [hl, Option.bind_some, if_neg (by decide)]
  exact ⟨_, rfl, by decide +kernel⟩
theorem fq_l64 {N : Nat} : f_X3_bitsOf N 9094988921128908188 52 1023 = some 9221120237041090560 := by
  have hl : f_X3_isLost N 9094988921128908188 = some 1 := by
    unfold f_X3_isLost f_X3_lost
    rw [Option.bind_some, if_pos (by decide +kernel)]
  unfold f_X3_bitsOf
  rw [hl, Option.bind_some, if_neg (by decide)]
  exact congrArg some (by decide +kernel)

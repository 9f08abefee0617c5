/-! rows of mine: the energy -/
theorem fe_n (r : UInt64) : vf_n64 r ↔ FP.Core.val64 r ≠ .nan := by
  rw [FP.Core.ne_nan]
  unfold vf_n64
  rw [UInt64.le_iff_toNat_le, UInt64.toNat_and, show (0x7fffffffffffffff : UInt64).toNat = 2 ^ 63 - 1 from rfl, Nat.and_two_pow_sub_one_eq_mod, show (0x7ff0000000000000 : UInt64).toNat = 9218868437227405312 from rfl]
theorem fe_al {x y : UInt64} (h : rs_al64 x y) : x = y ∨ (FP.Core.val64 x = .nan ∧ FP.Core.val64 y = .nan) := by
  unfold rs_al64 alike64 at h
  rw [Bool.or_eq_true, Bool.and_eq_true] at h
  rcases h with h | ⟨h1, h2⟩
  · exact Or.inl (of_decide_eq_true h)
  · refine Or.inr ⟨Classical.byContradiction fun q => isNaN64_not.mp h1 ((fe_n x).mpr q), Classical.byContradiction fun q => isNaN64_not.mp h2 ((fe_n y).mpr q)⟩
theorem fe_alN {x y : UInt64} (h : rs_al64 x y) (hy : FP.Core.val64 y = .nan) : FP.Core.val64 x = .nan := by
  rcases fe_al h with rfl | ⟨h1, -⟩
  · exact hy
  · exact h1
theorem fe_alE {x y : UInt64} (h : rs_al64 x y) (hy : FP.Core.val64 y ≠ .nan) : x = y := by
  rcases fe_al h with h | ⟨-, h1⟩
  · exact h
  · exact absurd h1 hy
theorem fe_g {r : UInt64} (h : FP.Core.val64 r ≠ .nan) {β : Type} (y : Option β) : zk_n64 r y = y := by
  have n : vf_n64 r := (fe_n r).mpr h
  unfold zk_n64
  exact if_pos n
theorem fe_mulN {x y : UInt64} (h : FP.Core.val64 x = .nan ∨ FP.Core.val64 y = .nan) : FP.Core.val64 (FP.dmul x y) = .nan := by
  apply (FP.Core.dIsNaN_iff _).mp
  exact (FP.Core.dmul_nan_iff x y).mpr (by rcases h with h | h; exact Or.inl h; exact Or.inr (Or.inl h))
theorem fe_addN {x y : UInt64} (h : FP.Core.val64 x = .nan ∨ FP.Core.val64 y = .nan) : FP.Core.val64 (FP.dadd x y) = .nan := by
  apply (FP.Core.dIsNaN_iff _).mp
  exact (FP.Core.dadd_nan_iff x y).mpr (by rcases h with h | h; exact Or.inl h; exact Or.inr (Or.inl h))
def fe_ok (K : Nat) (x : UInt64) : Prop := x = 0x7ff0000000000000 ∨ x.toNat < K * 2 ^ 52
theorem fe_vi : FP.Core.val64 0x7ff0000000000000 = .inf false := by decide +kernel
theorem fe_vi2 : FP.Core.val64 0xfff0000000000000 = .inf true := by decide +kernel
theorem fe_val {x : UInt64} {K : Nat} (h : x.toNat < K * 2 ^ 52) (hK : K ≤ 2047) : ∃ c q, FP.Core.val64 x = .fin false c q := by
  have hf : FP.Core.DFin x := (FP.Core.fin_bits x).mpr (by omega)
  obtain ⟨s, c, q, e⟩ := hf
  have hs := FP.Core.sgn_bits (a := x) (by rw [e]; exact fun e => by cases e)
  rw [e] at hs
  have hs : s = decide (2 ^ 63 ≤ x.toNat) := hs
  rw [decide_eq_false (by omega)] at hs
  exact ⟨c, q, by rw [e, hs]⟩
theorem fe_nn {K : Nat} {x : UInt64} (h : fe_ok K x) (hK : K ≤ 2047) : FP.Core.val64 x ≠ .nan := by
  rcases h with rfl | h
  · rw [fe_vi]; exact fun e => by cases e
  · obtain ⟨c, q, e⟩ := fe_val h hK
    rw [e]; exact fun e => by cases e
theorem fe_of {x : UInt64} {K : Nat} (hn : FP.Core.val64 x ≠ .nan) (hs : FP.Core.sgn (FP.Core.val64 x) = false) (h : x.toNat % 2 ^ 63 < K * 2 ^ 52) : fe_ok K x := by
  have k := FP.Core.sgn_bits hn
  rw [hs] at k
  have k := of_decide_eq_false k.symm
  exact Or.inr (by rwa [Nat.mod_eq_of_lt (by omega)] at h)
theorem fe_inf {x : UInt64} (h : FP.Core.val64 x = .inf false) {K : Nat} : fe_ok K x := Or.inl (FP.Core.val64_inj (by rw [h]; exact fun e => by cases e) (h.trans fe_vi.symm))
theorem fe_mono {x : UInt64} {K L : Nat} (h : fe_ok K x) (hKL : K ≤ L) : fe_ok L x := by
  rcases h with h | h
  · exact Or.inl h
  · exact Or.inr (Nat.lt_of_lt_of_le h (Nat.mul_le_mul_right _ hKL))
theorem fe_add {x y : UInt64} {K : Nat} (hx : fe_ok K x) (hy : fe_ok K y) (hK : K ≤ 2040) : fe_ok (K + 2) (FP.dadd x y) := by
  have v : FP.Core.val64 (FP.dadd x y) = FP.Core.round FP.Core.b64 (FP.Core.exactSum (FP.Core.val64 x) (FP.Core.val64 y)) := FP.Core.val64_dadd x y
  rcases hx with rfl | hx
  · rw [fe_vi] at v
    rcases hy with rfl | hy
    · rw [fe_vi] at v
      exact fe_inf v
    · obtain ⟨c, q, e⟩ := fe_val hy (by omega)
      rw [e] at v
      exact fe_inf v
  · obtain ⟨c, q, e⟩ := fe_val hx (by omega)
    rw [e] at v
    rcases hy with rfl | hy
    · rw [fe_vi] at v
      exact fe_inf v
    · obtain ⟨d, r, e2⟩ := fe_val hy (by omega)
      rw [e2] at v
      have m := FP.Core.dadd_mag (a := x) (b := y) (K := K) (by rw [Nat.mod_eq_of_lt (by omega)]; exact hx) (by rw [Nat.mod_eq_of_lt (by omega)]; exact hy) (by omega)
      have v : FP.Core.val64 (FP.dadd x y) = FP.Core.roundRatio FP.Core.b64 (FP.Core.sumSign false false (FP.Core.sumUnits false c q false d r (min q r))) (FP.Core.sumUnits false c q false d r (min q r)).natAbs 1 (min q r) := v
      refine fe_of ?_ ?_ m
      · rw [v]; exact FP.Core.roundRatio_ne_nan _ _ _ _ _
      · rw [v, FP.Core.sgn_roundRatio]
        unfold FP.Core.sumSign
        split
        · rfl
        · apply decide_eq_false
          have h1 : (0 : Int) ≤ ((FP.Core.inUnits c q (min q r) : Nat) : Int) := Int.natCast_nonneg _
          have h2 : (0 : Int) ≤ ((FP.Core.inUnits d r (min q r) : Nat) : Int) := Int.natCast_nonneg _
          show ¬ ((FP.Core.inUnits c q (min q r) : Nat) : Int) + ((FP.Core.inUnits d r (min q r) : Nat) : Int) < 0
          omega
theorem fe_mulk {k x : UInt64} {Ka Kb : Nat} (h0 : 0 < k.toNat) (hk : k.toNat < Ka * 2 ^ 52) (hx : fe_ok Kb x) (hKa : Ka ≤ 2047) (hKb : Kb ≤ 2047) (hs : 1025 ≤ Ka + Kb) : fe_ok (Ka + Kb - 1022) (FP.dmul k x) := by
  have v : FP.Core.val64 (FP.dmul k x) = FP.Core.round FP.Core.b64 (FP.Core.exactProduct (FP.Core.val64 k) (FP.Core.val64 x)) := FP.Core.val64_dmul k x
  obtain ⟨c, q, e⟩ := fe_val hk hKa
  rw [e] at v
  rcases hx with rfl | hx
  · rw [fe_vi] at v
    have hc : ¬ c = 0 := fun z => by
      subst z
      have := (FP.Core.zero_bits2 k).mp ⟨false, q, e⟩
      rw [Nat.mod_eq_of_lt (by omega)] at this
      omega
    have z : FP.Core.exactProduct (.fin false c q) (.inf false) = .inf false := by simp [FP.Core.exactProduct, hc]
    rw [z] at v
    exact fe_inf v
  · obtain ⟨d, r, e2⟩ := fe_val hx (by omega)
    rw [e2] at v
    have m := FP.Core.dmul_mag (a := k) (b := x) (Ka := Ka) (Kb := Kb) (by rw [Nat.mod_eq_of_lt (by omega)]; exact hk) (by rw [Nat.mod_eq_of_lt (by omega)]; exact hx) hKa hKb
    have v : FP.Core.val64 (FP.dmul k x) = FP.Core.roundRatio FP.Core.b64 false (c * d) 1 (q + r) := v
    have hm : Ka + Kb - 1025 + 3 = Ka + Kb - 1022 := by omega
    rw [hm] at m
    refine fe_of ?_ ?_ m
    · rw [v]; exact FP.Core.roundRatio_ne_nan _ _ _ _ _
    · rw [v, FP.Core.sgn_roundRatio]
theorem fe_sq {r : UInt32} (h : vf_n32 r) : fe_ok 1280 (FP.dmul (FP.f2d r) (FP.f2d r)) := by
  rcases fs_c h with ⟨s, e⟩ | ⟨s, c, q, e⟩
  · have r1 := fs_inf e
    cases s <;> simp only [if_true, if_false, Bool.false_eq_true] at r1 <;> subst r1
    · rw [fs_f1]
      exact Or.inl (by decide +kernel)
    · rw [fs_f2]
      exact Or.inl (by decide +kernel)
  · obtain ⟨h1, h2, h3⟩ := fs_fit e
    have e2 := fq_f2d e
    obtain ⟨c1, q1, e3, k1, u1⟩ := fq_ex s (c := c) (q := q) (by omega) (by omega) (by omega)
    rw [← e2] at e3
    have z := FP.Core.zmag_bits (a := FP.f2d r) (by rw [e3]; exact fun e => by cases e)
    have z1 : FP.Core.zmag FP.Core.b64 (FP.Core.val64 (FP.f2d r)) = c * 2 ^ (q + 1074).toNat := by
      rw [e3, ← u1]
      show c1 * 2 ^ (q1 - FP.Core.b64.qmin).toNat = _
      rw [show FP.Core.b64.qmin = -1074 by decide, show q1 - -1074 = q1 + 1074 by omega]
    have hb : c * 2 ^ (q + 1074).toNat < 2 ^ 1202 := by
      have := fq_pow (F := 23) h1 (q + 1074).toNat
      exact Nat.lt_of_lt_of_le this (Nat.pow_le_pow_right (by decide) (by omega))
    have hst := FP.Core.unitsOf_start (f := FP.Core.b64) (K := 1151) (by decide)
    rw [FP.Core.tails_b64, ← Nat.pow_add] at hst
    have hm : (FP.f2d r).toNat % 2 ^ 63 < 1151 * 2 ^ 52 := by
      apply (FP.Core.unitsOf_lt_iff (f := FP.Core.b64)).mp
      rw [← z, z1, hst]
      exact hb
    have m := FP.Core.dmul_mag hm hm (by decide) (by decide)
    have v : FP.Core.val64 (FP.dmul (FP.f2d r) (FP.f2d r)) = FP.Core.round FP.Core.b64 (FP.Core.exactProduct (FP.Core.val64 (FP.f2d r)) (FP.Core.val64 (FP.f2d r))) := FP.Core.val64_dmul _ _
    rw [e3] at v
    have v : FP.Core.val64 (FP.dmul (FP.f2d r) (FP.f2d r)) = FP.Core.roundRatio FP.Core.b64 (s != s) (c1 * c1) 1 (q1 + q1) := v
    refine fe_of ?_ ?_ m
    · rw [v]; exact FP.Core.roundRatio_ne_nan _ _ _ _ _
    · rw [v, FP.Core.sgn_roundRatio]
      cases s <;> rfl
theorem fe_k : ∀ a : Nat, a < 100 → 1 ≤ a → 0 < (FP.dmul 4602678819172646912 (FP.i2d (nI a))).toNat ∧ (FP.dmul 4602678819172646912 (FP.i2d (nI a))).toNat < 1057 * 2 ^ 52 := by decide +kernel
theorem fe_h : 0 < (4602678819172646912 : UInt64).toNat ∧ (4602678819172646912 : UInt64).toNat < 1023 * 2 ^ 52 := by decide
theorem fe_nan {sw : Nat → Int32} {a sp : Nat → UInt32} {st : Int32} : ∀ (j i : Nat) (s u : UInt64), FP.Core.val64 s = .nan → rs_en sw a sp st j i s u → FP.Core.val64 u = .nan := by
  intro j
  induction j with
  | zero => intro i s u h q; have q : u = s := q; rw [q]; exact h
  | succ j ih =>
    intro i s u h q
    obtain ⟨s1, h1, h2, h3⟩ := q
    refine ih (i + 1) s1 u ?_ h3
    by_cases h0 : sw i = 0
    · rw [h1 h0]; exact h
    · obtain ⟨v, b, p1, p2, k1, q1, q2, t, -, -, -, -, -, -, -, -, g⟩ := h2 h0
      exact fe_alN g (fe_addN (Or.inl h))
theorem fe_loop {N : Nat} {there sw : Nat → Int32} {ang spd : Nat → UInt64} {a sp : Nat → UInt32} {st : Nat} (h1 : 1 ≤ st) (h2 : st < 100) (hs : ∀ i, i < 4 → sw i = there i) (ha : ∀ i, i < 4 → ma_f (ang i) (a i)) (hp : ∀ i, i < 4 → ma_f (spd i) (sp i)) : ∀ (j i f : Nat) (s : UInt64), i + j = 4 → j < f → fe_ok (1317 + 2 * i) s → ∃ o, f_X3_bitsOfEnergy_4 N (nI st) there ang spd f s (nI i) = some o ∧ ((∃ w, o = .inl w ∧ ∀ u, rs_en sw a sp (nI st) j i s u → FP.Core.val64 u = .nan) ∨ ∃ v w, o = .inr (v, w) ∧ fe_ok 1325 v ∧ ∀ u, rs_en sw a sp (nI st) j i s u → u = v) := by
  intro j
  induction j with
  | zero =>
    intro i f s hi hf hok
    obtain ⟨f, rfl⟩ : ∃ g, f = g + 1 := ⟨f - 1, by omega⟩
    rw [f_X3_bitsOfEnergy_4.eq_def]
    simp only []
    rw [if_pos (show (4 : Int32) ≤ nI i from nI_le (a := 4) (b := i) (by omega) (by omega))]
    exact ⟨_, rfl, Or.inr ⟨s, _, rfl, fe_mono hok (by omega), fun u q => q⟩⟩
  | succ j ih =>
    intro i f s hi hf hok
    obtain ⟨f, rfl⟩ : ∃ g, f = g + 1 := ⟨f - 1, by omega⟩
    have hi4 : i < 4 := by omega
    rw [f_X3_bitsOfEnergy_4.eq_def]
    simp only []
    rw [if_neg (show ¬ (4 : Int32) ≤ nI i from nI_ge (a := i) (b := 4) (by omega) (by omega))]
    simp only [mg_g hi4 (show 4 < 2 ^ 31 by omega), nI_clamp (show i < 2 ^ 31 by omega), nI_1]
    by_cases hz0 : there i = 0
    · rw [if_pos hz0]
      obtain ⟨o, e, g⟩ := ih (i + 1) f s (by omega) (by omega) (fe_mono hok (by omega))
      have key : ∀ u, rs_en sw a sp (nI st) (j + 1) i s u → rs_en sw a sp (nI st) j (i + 1) s u := fun u q => by
        obtain ⟨s1, q1, -, q3⟩ := q
        rw [q1 ((hs i hi4).trans hz0)] at q3
        exact q3
      refine ⟨o, e, ?_⟩
      rcases g with ⟨w, g1, g2⟩ | ⟨v, w, g1, g2, g3⟩
      · exact Or.inl ⟨w, g1, fun u q => g2 u (key u q)⟩
      · exact Or.inr ⟨v, w, g1, g2, fun u q => g3 u (key u q)⟩
    · rw [if_neg hz0]
      have hsw : ¬ sw i = 0 := fun q => hz0 ((hs i hi4).symm.trans q)
      rcases ha i hi4 with ⟨n1, e1⟩ | ⟨n1, e1⟩
      · rw [e1, fs_ll, Option.bind_some, if_neg (by decide)]
        refine ⟨_, rfl, Or.inl ⟨_, rfl, fun u q => ?_⟩⟩
        obtain ⟨s1, -, q2, q3⟩ := q
        obtain ⟨v, b, p1, p2, k1, r1, r2, t, -, g2, -, -, -, g6, g7, g8, g9⟩ := q2 hsw
        have z : FP.Core.val64 (FP.f2d (a i)) = .nan := by
          apply (FP.Core.dIsNaN_iff _).mp
          exact (FP.f2d_nan (a i)).trans ((FP.Core.fIsNaN_iff _).mpr (fs_n0 n1))
        exact fe_nan j (i + 1) s1 u (fe_alN g9 (fe_addN (Or.inr (fe_alN g8 (fe_addN (Or.inr (fe_alN g7 (fe_mulN (Or.inr (fe_alN g6 (fe_mulN (Or.inl (fe_alN g2 z))))))))))))) q3
      · rcases hp i hi4 with ⟨n2, e2⟩ | ⟨n2, e2⟩
        · rw [e1, fs_lost n1, Option.bind_some, if_pos rfl, e2, fs_ll, Option.bind_some, if_neg (by decide)]
          refine ⟨_, rfl, Or.inl ⟨_, rfl, fun u q => ?_⟩⟩
          obtain ⟨s1, -, q2, q3⟩ := q
          obtain ⟨v, b, p1, p2, k1, r1, r2, t, g1, -, g3, g4, -, -, -, g8, g9⟩ := q2 hsw
          have z : FP.Core.val64 (FP.f2d (sp i)) = .nan := by
            apply (FP.Core.dIsNaN_iff _).mp
            exact (FP.f2d_nan (sp i)).trans ((FP.Core.fIsNaN_iff _).mpr (fs_n0 n2))
          exact fe_nan j (i + 1) s1 u (fe_alN g9 (fe_addN (Or.inr (fe_alN g8 (fe_addN (Or.inl (fe_alN g4 (fe_mulN (Or.inr (fe_alN g3 (fe_mulN (Or.inl (fe_alN g1 z))))))))))))) q3
        · have o1 := fe_sq n2
          have o2 := fe_mulk fe_h.1 fe_h.2 o1 (by decide) (by decide) (by decide)
          have kk := fe_k st h2 h1
          have o3 : fe_ok 1057 (FP.dmul 4602678819172646912 (FP.i2d (nI st))) := Or.inr kk.2
          have o4 := fe_sq n1
          have o5 := fe_mulk kk.1 kk.2 o4 (by decide) (by decide) (by decide)
          have o6 : fe_ok 1317 _ := fe_add (fe_mono o2 (show 1023 + 1280 - 1022 ≤ 1315 by decide)) o5 (by decide)
          have o7 : fe_ok (1317 + 2 * (i + 1)) _ := fe_add (K := 1317 + 2 * i) hok (fe_mono o6 (show 1317 ≤ 1317 + 2 * i by omega)) (by omega)
          rw [e1, e2, fs_lost n1, Option.bind_some, if_pos rfl, fs_lost n2, Option.bind_some, if_pos rfl, fe_g (fe_nn o1 (by decide)), fe_g (fe_nn o2 (by decide)), fe_g (fe_nn o3 (by decide)), fe_g (fe_nn o4 (by decide)), fe_g (fe_nn o5 (by decide)), fe_g (fe_nn o6 (by decide)), fe_g (fe_nn (K := 1317 + 2 * (i + 1)) o7 (by omega))]
          obtain ⟨o, e, g⟩ := ih (i + 1) f _ (by omega) (by omega) o7
          have key : ∀ u, rs_en sw a sp (nI st) (j + 1) i s u → rs_en sw a sp (nI st) j (i + 1) (FP.dadd s (FP.dadd (FP.dmul 4602678819172646912 (FP.dmul (FP.f2d (sp i)) (FP.f2d (sp i)))) (FP.dmul (FP.dmul 4602678819172646912 (FP.i2d (nI st))) (FP.dmul (FP.f2d (a i)) (FP.f2d (a i)))))) u := fun u q => by
            obtain ⟨s1, -, q2, q3⟩ := q
            obtain ⟨v, b, p1, p2, k1, r1, r2, t, g1, g2, g3, g4, g5, g6, g7, g8, g9⟩ := q2 hsw
            have f1 := fe_alE g1 (fs_nd n2)
            have f2 := fe_alE g2 (fs_nd n1)
            subst f1
            subst f2
            have f3 := fe_alE g3 (fe_nn o1 (by decide))
            subst f3
            have f4 := fe_alE g4 (fe_nn o2 (by decide))
            subst f4
            have f5 := fe_alE g5 (fe_nn o3 (by decide))
            subst f5
            have f6 := fe_alE g6 (fe_nn o4 (by decide))
            subst f6
            have f7 := fe_alE g7 (fe_nn o5 (by decide))
            subst f7
            have f8 := fe_alE g8 (fe_nn o6 (by decide))
            subst f8
            have f9 := fe_alE g9 (fe_nn (K := 1317 + 2 * (i + 1)) o7 (by omega))
            subst f9
            exact q3
          refine ⟨o, e, ?_⟩
          rcases g with ⟨w, g1, g2⟩ | ⟨v, w, g1, g2, g3⟩
          · exact Or.inl ⟨w, g1, fun u q => g2 u (key u q)⟩
          · exact Or.inr ⟨v, w, g1, g2, fun u q => g3 u (key u q)⟩
set_option maxHeartbeats 2000000 in
theorem lr_energyBits : lw_S_energyBits ma_Rel := by
  intro j hj v_x_ticksPassed v_x_noiseShare v_x_lot v_x_aheadKnown v_x_aheadEnds v_x_swings_stiffness v_x_swings_pull v_x_swings_there v_x_swings_angles v_x_setting_beaters v_x_setting_mask v_x_setting_links v_x_setting_answers v_x_setting_periods v_x_setting_quiets v_x_setting_places v_x_now_row v_x_now_phases v_x_flashCounts v_x_lastFlashes v_x_ahead_leadTicks v_x_ahead_cycleTicks v_x_ahead_behind_row v_x_ahead_behind_phases v_x_now_coming v_x_ahead_behind_coming v_x_ahead_front_row v_x_ahead_front_phases v_x_ahead_front_coming v_x_setting_froms v_x_setting_delays v_x_setting_tos v_x_setting_strengths v_x_ahead_flashed v_x_swings_speeds v_x_marks_count v_x_marks_ticks v_x_ahead_groupNumbers v_x_trial_leadTicks v_x_trial_cycleTicks v_x_trial_behind_row v_x_trial_behind_phases v_x_trial_behind_coming v_x_trial_front_row v_x_trial_front_phases v_x_trial_front_coming v_x_trial_flashed v_x_trial_groupNumbers v_x_trialStart_row v_x_trialStart_phases v_x_trialStart_coming v_x_pair_beaters v_x_pair_mask v_x_pair_links v_x_pair_places v_x_pair_periods v_x_pair_quiets v_x_pair_answers v_x_pair_froms v_x_pair_tos v_x_pair_delays v_x_pair_strengths v_t_thrown v_t_noise v_t_z v_t_lead v_t_cycle v_t_stiffness v_t_pull v_t_swings v_t_angles v_t_now_time v_t_now_isThere v_t_answers v_t_now_period v_t_now_phase v_t_now_quiet v_t_flashed v_t_last v_t_start_time v_t_start_isThere v_t_start_period v_t_start_phase v_t_start_quiet v_t_start_waiting v_t_now_waiting v_t_slow_time v_t_slow_isThere v_t_slow_period v_t_slow_phase v_t_slow_quiet v_t_slow_waiting v_t_fast_time v_t_fast_isThere v_t_fast_period v_t_fast_phase v_t_fast_quiet v_t_fast_waiting v_t_fast_flashes v_t_slow_flashes v_t_beats v_t_areApart v_t_speeds v_t_now_flashes nl fr tt de st nk vv hR v_out v_outD ml mk cl hl1 hl2 
  obtain ⟨h, t, z, fr0, to0, de0, S, ⟨r1, r2, r3, r4⟩, hx, ⟨rfl, rfl, rfl, rfl, rfl, rfl, rfl, rfl⟩, C, E, hf, hinv, hR, hrm, hA, hc, hl, htr, hmk, hsw, hqb⟩ := hR
  have hsw0 := hsw
  obtain ⟨rfl, rfl, hs3, a, b, rfl, rfl, ha1, ha2, hb⟩ := hsw
  obtain ⟨o, e, g⟩ := fe_loop (N := 2000) (a := v_t_angles) (sp := v_t_speeds) (sw := v_t_swings) (there := v_x_swings_there) (ang := v_x_swings_angles) (spd := v_x_swings_speeds) ha1 (by omega) (fun i hi => (hs3 i hi).1) (fun i hi => (hs3 i hi).2.2.1) (fun i hi => (hs3 i hi).2.2.2.1) 4 0 2000 FP.dconst0 (by omega) (by omega) (Or.inr (by decide))
  have e : f_X3_bitsOfEnergy_4 2000 (nI a) v_x_swings_there v_x_swings_angles v_x_swings_speeds 2000 FP.dconst0 (0 : Int32) = _ := e
  rcases g with ⟨w, rfl, g2⟩ | ⟨v, w, rfl, g2, g3⟩
  · refine ⟨2000, 2000, 9221120237041090560, ?_, fun r u q => ?_, ⟨h, t, z, fr0, to0, de0, S, ⟨by omega, by omega, r3, r4⟩, hx, ⟨rfl, rfl, rfl, rfl, rfl, rfl, rfl, rfl⟩, C, E, hf, hinv, hR, hrm, hA, hc, hl, htr, hmk, hsw0, hqb⟩⟩
    · unfold f_X5_energyBits f_X3_bitsOfEnergy
      rw [e, Option.bind_some, Sum.elim_inl]
      show ((f_X3_lost 2000).bind _).bind _ = _
      unfold f_X3_lost
      rw [Option.bind_some, fq_l64]
      rfl
    · have n := g2 u q.1
      have c : FP.dcmp u u = none := (FP.Core.dcmp_none u u).mpr (Or.inl n)
      have q2 := q.2
      unfold f_Jxe99ae_doubleToLongBits_ccdee f_Jxe99ae_isNaN_b9ae7 at q2
      rw [c, if_neg (by decide), Option.bind_some, if_neg (by decide)] at q2
      cases q2
      rfl
  · refine ⟨2000, 2000, v.toInt64, ?_, fun r u q => ?_, ⟨h, t, z, fr0, to0, de0, S, ⟨by omega, by omega, r3, r4⟩, hx, ⟨rfl, rfl, rfl, rfl, rfl, rfl, rfl, rfl⟩, C, E, hf, hinv, hR, hrm, hA, hc, hl, htr, hmk, hsw0, hqb⟩⟩
    · unfold f_X5_energyBits f_X3_bitsOfEnergy
      rw [e, Option.bind_some, Sum.elim_inr]
      dsimp only
      rw [fq_a64 (by omega) (by
        rcases g2 with k | k
        · exact Or.inl k
        · exact Or.inr (by omega))]
      rfl
    · have n := g3 u q.1
      subst n
      have c : FP.dcmp u u = some .eq := FP.Core.dcmp_self (fe_nn g2 (by decide))
      have q2 := q.2
      unfold f_Jxe99ae_doubleToLongBits_ccdee f_Jxe99ae_isNaN_b9ae7 at q2
      rw [c, if_pos (by decide), Option.bind_some, if_pos rfl] at q2
      cases q2
      rfl

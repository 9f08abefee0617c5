/-! rows of mine: angleBits, checksum keep the relation -/
theorem fs_fbits {N : Nat} (hN : 1101 ≤ N) {d : UInt64} {r : UInt32} (h : ma_f d r) (hz : r ≠ 0x80000000) : ∃ o, f_X3_bitsOf N d 23 127 = some o ∧ f_Jxf58ca_floatToIntBits_5c35a N r = some o.toInt32 := by
  rcases h with ⟨n1, rfl⟩ | ⟨n1, rfl⟩
  · obtain ⟨o, e1, e2⟩ := fq_l32 (N := N)
    refine ⟨o, e1, ?_⟩
    have c : FP.fcmp r r = none := (FP.Core.fcmp_none r r).mpr (Or.inl (fs_n0 n1))
    unfold f_Jxf58ca_floatToIntBits_5c35a f_Jxf58ca_isNaN_12338
    rw [c, if_neg (by decide), Option.bind_some, if_neg (by decide), e2]
  · obtain ⟨o, e1, e2⟩ := fq_a32 hN ((fs_n r).mp n1) hz
    refine ⟨o, e1, ?_⟩
    have c : FP.fcmp r r = some .eq := FP.Core.fcmp_self ((fs_n r).mp n1)
    unfold f_Jxf58ca_floatToIntBits_5c35a f_Jxf58ca_isNaN_12338
    rw [c, if_pos (by decide), Option.bind_some, if_pos rfl, e2]
theorem sw_has {N p : Nat} (hp : p < 4) {there : Nat → Int32} : f_X3_has N there (nI p) = some (if there p = 0 then 0 else 1) := by
  unfold f_X3_has
  rw [if_neg (nI_pos (by omega)), if_neg (show ¬ (4 : Int32) ≤ nI p from nI_ge (a := p) (b := 4) hp (by omega)), mg_g hp (by omega), nI_clamp (by omega)]
  split <;> rfl
theorem sw_ab {N p : Nat} (hN : 1101 ≤ N) (hp : p < 4) {there : Nat → Int32} {ang : Nat → UInt64} {r : UInt32} (ht : ¬ there p = 0) (h : ma_f (ang p) r) (hz : r ≠ 0x80000000) : ∃ o, f_X3_bitsOfAngle N there ang (nI p) = some o ∧ f_Jxf58ca_floatToIntBits_5c35a N r = some o := by
  obtain ⟨o, e1, e2⟩ := fs_fbits hN h hz
  refine ⟨o.toInt32, ?_, e2⟩
  unfold f_X3_bitsOfAngle
  rw [sw_has hp, if_neg ht, Option.bind_some, if_neg (by decide), mg_g hp (by omega), nI_clamp (by omega), e1]
  rfl
theorem ms_pre {x : Int32} {p : Nat} : ∀ k, p ≤ k → ∃ r, ms_l x k = ms_l x p ++ r := by
  intro k
  induction k with
  | zero => intro h; exact ⟨[], by rw [show p = 0 by omega]; simp⟩
  | succ k ih =>
    intro h
    rcases Nat.lt_or_eq_of_le h with w | w
    · obtain ⟨r, hr⟩ := ih (by omega)
      cases hb : bt x k
      · exact ⟨r, by rw [ms_l_f hb, hr]⟩
      · exact ⟨r ++ [k], by rw [ms_l_t hb, hr, List.append_assoc]⟩
    · exact ⟨[], by rw [w]; simp⟩
theorem ms_at {x : Int32} {p : Nat} (hp : p < 16) (hb : bt x p = true) : (ms_l x p).length < (ms_L x).length ∧ (ms_L x).getD (ms_l x p).length 0 = p := by
  obtain ⟨r, hr⟩ := ms_pre (x := x) (p := p + 1) 16 (by omega)
  have hr : ms_L x = ms_l x (p + 1) ++ r := hr
  rw [ms_l_t hb] at hr
  rw [hr]
  refine ⟨by simp, ?_⟩
  simp [List.getD_eq_getElem?_getD]
theorem ck_loop {N t : Nat} (hN : 40 ≤ N) {x : Int32} {places ph fc co nph fl nw th : Nat → Int32} {row : Int32} {S : ma_S} (hp : ∀ i, i < (ms_L x).length → places i = nI ((ms_L x).getD i 0)) (hth : ∀ q, q < 16 → th q = if bt x q then 1 else 0) (hR : ma_R row ph co S) (hrm : ma_rm t nph nw S) (hc : ∀ p, p < 16 → fl p = fc p) : ∀ (j k f1 f2 : Nat) (s : Int64), k + j = 16 → j < f1 → j < f2 → ∃ v a b, f_X5_checksum_6 N (nI (ms_L x).length) places row ph fc co f1 s (nI (ms_l x k).length) = some (v, a) ∧ f_X8_checksum_11 N th nph fl nw f2 s (nI k) = some (v, b) := by
  have hlen : (ms_L x).length ≤ 16 := ms_l_len x 16
  intro j
  induction j with
  | zero =>
    intro k f1 f2 s hk h1 h2
    obtain ⟨f1, rfl⟩ : ∃ g, f1 = g + 1 := ⟨f1 - 1, by omega⟩
    obtain ⟨f2, rfl⟩ : ∃ g, f2 = g + 1 := ⟨f2 - 1, by omega⟩
    have hk : k = 16 := by omega
    subst hk
    rw [f_X5_checksum_6.eq_def, f_X8_checksum_11.eq_def]
    simp only []
    rw [if_pos (show nI (ms_L x).length ≤ nI (ms_l x 16).length from nI_le (Nat.le_refl _) (by have : (ms_l x 16).length ≤ 16 := hlen; omega)), if_pos (show (16 : Int32) ≤ nI 16 by decide)]
    exact ⟨_, _, _, rfl, rfl⟩
  | succ j ih =>
    intro k f1 f2 s hk h1 h2
    have hk16 : k < 16 := by omega
    obtain ⟨f2, rfl⟩ : ∃ g, f2 = g + 1 := ⟨f2 - 1, by omega⟩
    rw [f_X8_checksum_11.eq_def]
    simp only []
    rw [if_neg (show ¬ (16 : Int32) ≤ nI k from nI_ge (a := k) (b := 16) hk16 (by omega))]
    simp only [mg_g hk16 (show 16 < 2 ^ 31 by omega), nI_clamp (show k < 2 ^ 31 by omega), nI_1]
    rw [hth k hk16]
    cases hb : bt x k
    · rw [if_pos (show (if false = true then (1 : Int32) else 0) = 0 from rfl)]
      have := ih (k + 1) f1 f2 s (by omega) (by omega) (by omega)
      rw [ms_l_f hb] at this
      exact this
    · rw [if_neg (show ¬ (if true = true then (1 : Int32) else 0) = 0 by decide), mx_waitingAt (by omega) hk16 hrm, Option.bind_some]
      obtain ⟨g1, g2⟩ := ms_at hk16 hb
      obtain ⟨f1, rfl⟩ : ∃ g, f1 = g + 1 := ⟨f1 - 1, by omega⟩
      rw [f_X5_checksum_6.eq_def]
      simp only []
      rw [if_neg (show ¬ nI (ms_L x).length ≤ nI (ms_l x k).length from nI_ge g1 (by omega)), mg_g (show (ms_l x k).length < 16 by omega) (by omega), nI_clamp (n := (ms_l x k).length) (by omega), hp _ g1, g2]
      simp only [mg_g hk16 (show 16 < 2 ^ 31 by omega), nI_clamp (show k < 2 ^ 31 by omega), nI_1]
      rw [mx_underWayTo (by omega) hk16 hR, Option.bind_some, ma_R_ph hR hk16, hrm.1 k hk16, hc k hk16]
      have := ih (k + 1) f1 f2 (((31 : Int64) * (((31 : Int64) * (((31 : Int64) * s) + (S.1 k).toInt64)) + (fc k).toInt64)) + (ma_way S k).toInt64) (by omega) (by omega) (by omega)
      rw [ms_l_t hb, List.length_append] at this
      exact this
theorem ck_sw {N : Nat} (hN : 1101 ≤ N) {there sw : Nat → Int32} {ang : Nat → UInt64} {a : Nat → UInt32} (hs : ∀ i, i < 4 → sw i = there i) (ha : ∀ i, i < 4 → ma_f (ang i) (a i)) (hz : ∀ i, i < 4 → a i ≠ 0x80000000) : ∀ (j i f : Nat) (s : Int64), i + j = 4 → j < f → ∃ v w u, f_X5_checksum_86 N there ang f s (nI i) = some (v, w) ∧ f_X8_checksum_81 N sw a f s (nI i) = some (v, u) := by
  intro j
  induction j with
  | zero =>
    intro i f s hi hf
    obtain ⟨f, rfl⟩ : ∃ g, f = g + 1 := ⟨f - 1, by omega⟩
    rw [f_X5_checksum_86.eq_def, f_X8_checksum_81.eq_def]
    simp only []
    rw [if_pos (show (4 : Int32) ≤ nI i from nI_le (a := 4) (b := i) (by omega) (by omega)), if_pos (show (4 : Int32) ≤ nI i from nI_le (a := 4) (b := i) (by omega) (by omega))]
    exact ⟨_, _, _, rfl, rfl⟩
  | succ j ih =>
    intro i f s hi hf
    obtain ⟨f, rfl⟩ : ∃ g, f = g + 1 := ⟨f - 1, by omega⟩
    have hi4 : i < 4 := by omega
    rw [f_X5_checksum_86.eq_def, f_X8_checksum_81.eq_def]
    simp only []
    rw [if_neg (show ¬ (4 : Int32) ≤ nI i from nI_ge (a := i) (b := 4) (by omega) (by omega)), if_neg (show ¬ (4 : Int32) ≤ nI i from nI_ge (a := i) (b := 4) (by omega) (by omega)), sw_has hi4, Option.bind_some]
    simp only [mg_g hi4 (show 4 < 2 ^ 31 by omega), nI_clamp (show i < 2 ^ 31 by omega), nI_1]
    rw [hs i hi4]
    by_cases h0 : there i = 0
    · rw [if_pos h0, if_pos rfl, if_pos h0]
      exact ih (i + 1) f s (by omega) (by omega)
    · obtain ⟨o, e1, e2⟩ := sw_ab (N := N) hN hi4 h0 (ha i hi4) (hz i hi4)
      rw [if_neg h0, if_neg (by decide), if_neg h0, e1, e2, Option.bind_some, Option.bind_some]
      exact ih (i + 1) f _ (by omega) (by omega)
set_option maxHeartbeats 2000000 in
theorem lr_checksum : lw_S_checksum ma_Rel := by
  intro j hj v_x_ticksPassed v_x_noiseShare v_x_lot v_x_aheadKnown v_x_aheadEnds v_x_swings_stiffness v_x_swings_pull v_x_swings_there v_x_swings_angles v_x_setting_beaters v_x_setting_mask v_x_setting_links v_x_setting_answers v_x_setting_periods v_x_setting_quiets v_x_setting_places v_x_now_row v_x_now_phases v_x_flashCounts v_x_lastFlashes v_x_ahead_leadTicks v_x_ahead_cycleTicks v_x_ahead_behind_row v_x_ahead_behind_phases v_x_now_coming v_x_ahead_behind_coming v_x_ahead_front_row v_x_ahead_front_phases v_x_ahead_front_coming v_x_setting_froms v_x_setting_delays v_x_setting_tos v_x_setting_strengths v_x_ahead_flashed v_x_swings_speeds v_x_marks_count v_x_marks_ticks v_x_ahead_groupNumbers v_x_trial_leadTicks v_x_trial_cycleTicks v_x_trial_behind_row v_x_trial_behind_phases v_x_trial_behind_coming v_x_trial_front_row v_x_trial_front_phases v_x_trial_front_coming v_x_trial_flashed v_x_trial_groupNumbers v_x_trialStart_row v_x_trialStart_phases v_x_trialStart_coming v_x_pair_beaters v_x_pair_mask v_x_pair_links v_x_pair_places v_x_pair_periods v_x_pair_quiets v_x_pair_answers v_x_pair_froms v_x_pair_tos v_x_pair_delays v_x_pair_strengths v_t_thrown v_t_noise v_t_z v_t_lead v_t_cycle v_t_stiffness v_t_pull v_t_swings v_t_angles v_t_now_time v_t_now_isThere v_t_answers v_t_now_period v_t_now_phase v_t_now_quiet v_t_flashed v_t_last v_t_start_time v_t_start_isThere v_t_start_period v_t_start_phase v_t_start_quiet v_t_start_waiting v_t_now_waiting v_t_slow_time v_t_slow_isThere v_t_slow_period v_t_slow_phase v_t_slow_quiet v_t_slow_waiting v_t_fast_time v_t_fast_isThere v_t_fast_period v_t_fast_phase v_t_fast_quiet v_t_fast_waiting v_t_fast_flashes v_t_slow_flashes v_t_beats v_t_areApart v_t_speeds v_t_now_flashes nl fr tt de st nk vv hR v_out v_outD ml mk cl hl1 hl2 
  obtain ⟨h, t, z, fr0, to0, de0, S, ⟨r1, r2, r3, r4⟩, hx, ⟨rfl, rfl, rfl, rfl, rfl, rfl, rfl, rfl⟩, C, E, hf, hinv, hR, hrm, hA, hc, hl, htr, hmk, hsw, hqb⟩ := hR
  obtain ⟨v, a, b, e1, e2⟩ := ck_loop (N := 2000) (by omega) C.2.2.1 (fun q hq => (hf q hq).1) hR hrm hc 16 0 2000 2000 7 (by omega) (by omega) (by omega)
  obtain ⟨v2, a2, b2, e3, e4⟩ := ck_sw (N := 2000) (by omega) (fun i hi => (hsw.2.2.1 i hi).1) (fun i hi => (hsw.2.2.1 i hi).2.2.1) (fun i hi => (hsw.2.2.1 i hi).2.2.2.2.1) 4 0 2000 v (by omega) (by omega)
  have e1 : f_X5_checksum_6 2000 (nI (ms_L v_x_setting_mask).length) v_x_setting_places v_x_now_row v_x_now_phases v_x_flashCounts v_x_now_coming 2000 (7 : Int64) (0 : Int32) = _ := e1
  have e2 : f_X8_checksum_11 2000 v_t_now_isThere v_t_now_phase v_t_flashed v_t_now_waiting 2000 (7 : Int64) (0 : Int32) = _ := e2
  have e3 : f_X5_checksum_86 2000 v_x_swings_there v_x_swings_angles 2000 v (0 : Int32) = _ := e3
  have e4 : f_X8_checksum_81 2000 v_t_swings v_t_angles 2000 v (0 : Int32) = _ := e4
  refine ⟨2000, 2000, (31 : Int64) * v2 + (nI t).toInt64, ((31 : Int64) * v2 + (nI t).toInt64, 0), ?_, ?_, rfl, ⟨h, t, z, fr0, to0, de0, S, ⟨by omega, by omega, r3, r4⟩, hx, ⟨rfl, rfl, rfl, rfl, rfl, rfl, rfl, rfl⟩, C, E, hf, hinv, hR, hrm, hA, hc, hl, htr, hmk, hsw, hqb⟩⟩
  · unfold f_X5_checksum
    rw [e1, Option.bind_some, e3, Option.bind_some]
  · unfold f_X8_checksum
    rw [e2, Option.bind_some, e4, Option.bind_some]
set_option maxHeartbeats 2000000 in
theorem lr_angleBits : lw_S_angleBits ma_Rel := by
  intro j hj v_x_ticksPassed v_x_noiseShare v_x_lot v_x_aheadKnown v_x_aheadEnds v_x_swings_stiffness v_x_swings_pull v_x_swings_there v_x_swings_angles v_x_setting_beaters v_x_setting_mask v_x_setting_links v_x_setting_answers v_x_setting_periods v_x_setting_quiets v_x_setting_places v_x_now_row v_x_now_phases v_x_flashCounts v_x_lastFlashes v_x_ahead_leadTicks v_x_ahead_cycleTicks v_x_ahead_behind_row v_x_ahead_behind_phases v_x_now_coming v_x_ahead_behind_coming v_x_ahead_front_row v_x_ahead_front_phases v_x_ahead_front_coming v_x_setting_froms v_x_setting_delays v_x_setting_tos v_x_setting_strengths v_x_ahead_flashed v_x_swings_speeds v_x_marks_count v_x_marks_ticks v_x_ahead_groupNumbers v_x_trial_leadTicks v_x_trial_cycleTicks v_x_trial_behind_row v_x_trial_behind_phases v_x_trial_behind_coming v_x_trial_front_row v_x_trial_front_phases v_x_trial_front_coming v_x_trial_flashed v_x_trial_groupNumbers v_x_trialStart_row v_x_trialStart_phases v_x_trialStart_coming v_x_pair_beaters v_x_pair_mask v_x_pair_links v_x_pair_places v_x_pair_periods v_x_pair_quiets v_x_pair_answers v_x_pair_froms v_x_pair_tos v_x_pair_delays v_x_pair_strengths v_t_thrown v_t_noise v_t_z v_t_lead v_t_cycle v_t_stiffness v_t_pull v_t_swings v_t_angles v_t_now_time v_t_now_isThere v_t_answers v_t_now_period v_t_now_phase v_t_now_quiet v_t_flashed v_t_last v_t_start_time v_t_start_isThere v_t_start_period v_t_start_phase v_t_start_quiet v_t_start_waiting v_t_now_waiting v_t_slow_time v_t_slow_isThere v_t_slow_period v_t_slow_phase v_t_slow_quiet v_t_slow_waiting v_t_fast_time v_t_fast_isThere v_t_fast_period v_t_fast_phase v_t_fast_quiet v_t_fast_waiting v_t_fast_flashes v_t_slow_flashes v_t_beats v_t_areApart v_t_speeds v_t_now_flashes nl fr tt de st nk vv hR v_out v_outD ml mk cl hl1 hl2 x1
  obtain ⟨h, t, z, fr0, to0, de0, S, ⟨r1, r2, r3, r4⟩, hx, ⟨rfl, rfl, rfl, rfl, rfl, rfl, rfl, rfl⟩, C, E, hf, hinv, hR, hrm, hA, hc, hl, htr, hmk, hsw, hqb⟩ := hR
  have hp := mx_checkPlace (N := 2000) x1
  have hi := mx_isPlace (N := 2000) x1
  have hin := mx_in (N := 2000) x1 16 19
  have e16 : (16 : Int64).toInt = 16 := by decide
  have e19 : (19 : Int64).toInt = 19 := by decide
  rw [e16, e19] at hin
  by_cases h1 : 0 ≤ x1.toInt ∧ x1.toInt ≤ 19
  · rw [if_pos h1] at hp hi
    have q16 : (16 : Int32).toInt = 16 := by decide
    by_cases h2 : (16 : Int32) ≤ x1
    · obtain ⟨p, hp4, hp1⟩ : ∃ p : Nat, p < 4 ∧ x1 - (16 : Int32) = nI p := by
        have q : (16 : Int32).toInt ≤ x1.toInt := Int32.le_iff_toInt_le.mp h2
        refine ⟨(x1.toInt - 16).toNat, by omega, ?_⟩
        apply Int32.toInt_inj.mp
        rw [nI_toInt (by omega), Int32.toInt_sub, q16, Int.bmod_eq_of_le (by omega) (by omega)]
        omega
      have q : (16 : Int32).toInt ≤ x1.toInt := Int32.le_iff_toInt_le.mp h2
      rw [if_pos (by omega)] at hin
      have hs3 := hsw.2.2.1 p hp4
      by_cases h0 : v_x_swings_there p = 0
      · refine ⟨2000, 2000, (2, v_out), (0, 2), ?_, ?_, ⟨rfl, fun q => absurd (show (2 : Int32) = 0 from q) (by decide)⟩, ⟨h, t, z, fr0, to0, de0, S, ⟨by omega, by omega, r3, r4⟩, hx, ⟨rfl, rfl, rfl, rfl, rfl, rfl, rfl, rfl⟩, C, E, hf, hinv, hR, hrm, hA, hc, hl, htr, hmk, hsw, hqb⟩⟩
        · unfold f_L_angleBits f_X5_angleBits
          rw [hp, Option.bind_some, Sum.elim_inr, hp1, sw_has hp4, if_pos h0]
          rfl
        · unfold f_X8_angleBits
          rw [hin, Option.bind_some, if_neg (show ¬ (1 : Int32) = 0 by decide), hp1, mg_g hp4 (by omega), nI_clamp (by omega), if_pos (hs3.1.trans h0), hi]
          rfl
      · obtain ⟨o, e1, e2⟩ := sw_ab (N := 2000) (by omega) hp4 h0 hs3.2.2.1 hs3.2.2.2.2.1
        refine ⟨2000, 2000, (0, vp_updL v_out 0 o.toInt64), (o, 0), ?_, ?_, ⟨rfl, fun _ => lr_u0 v_out _⟩, ⟨h, t, z, fr0, to0, de0, S, ⟨by omega, by omega, r3, r4⟩, hx, ⟨rfl, rfl, rfl, rfl, rfl, rfl, rfl, rfl⟩, C, E, hf, hinv, hR, hrm, hA, hc, hl, htr, hmk, hsw, hqb⟩⟩
        · unfold f_L_angleBits f_X5_angleBits
          rw [hp, Option.bind_some, Sum.elim_inr, hp1, sw_has hp4, if_neg h0, Option.bind_some, if_neg (by decide), e1]
          rfl
        · unfold f_X8_angleBits
          rw [hin, Option.bind_some, if_neg (show ¬ (1 : Int32) = 0 by decide), hp1, mg_g hp4 (by omega), nI_clamp (by omega), if_neg (fun q => h0 (hs3.1.symm.trans q)), hi, Option.bind_some, if_neg (show ¬ (1 : Int32) = 0 by decide), mg_g hp4 (by omega), e2]
          rfl
    · have q : ¬ (16 : Int32).toInt ≤ x1.toInt := fun q => h2 (Int32.le_iff_toInt_le.mpr q)
      rw [if_neg (by omega)] at hin
      have hlt : x1 - (16 : Int32) < 0 := by
        rw [Int32.lt_iff_toInt_lt, Int32.toInt_sub, q16, Int.bmod_eq_of_le (by omega) (by omega)]
        show x1.toInt - 16 < (0 : Int32).toInt
        have : (0 : Int32).toInt = 0 := by decide
        omega
      refine ⟨2000, 2000, (2, v_out), (0, 2), ?_, ?_, ⟨rfl, fun q => absurd (show (2 : Int32) = 0 from q) (by decide)⟩, ⟨h, t, z, fr0, to0, de0, S, ⟨by omega, by omega, r3, r4⟩, hx, ⟨rfl, rfl, rfl, rfl, rfl, rfl, rfl, rfl⟩, C, E, hf, hinv, hR, hrm, hA, hc, hl, htr, hmk, hsw, hqb⟩⟩
      · have h0 : f_X3_has 2000 v_x_swings_there (x1 - (16 : Int32)) = some 0 := by
          unfold f_X3_has
          rw [if_pos hlt]
        unfold f_L_angleBits f_X5_angleBits
        rw [hp, Option.bind_some, Sum.elim_inr, h0]
        rfl
      · unfold f_X8_angleBits
        rw [hin, Option.bind_some, if_pos rfl, hi]
        rfl
  · rw [if_neg h1] at hp hi
    rw [if_neg (by omega)] at hin
    refine ⟨2000, 2000, (1, v_out), (0, 1), ?_, ?_, ⟨rfl, fun q => absurd (show (1 : Int32) = 0 from q) (by decide)⟩, ⟨h, t, z, fr0, to0, de0, S, ⟨by omega, by omega, r3, r4⟩, hx, ⟨rfl, rfl, rfl, rfl, rfl, rfl, rfl, rfl⟩, C, E, hf, hinv, hR, hrm, hA, hc, hl, htr, hmk, hsw, hqb⟩⟩
    · unfold f_L_angleBits f_X5_angleBits
      rw [hp]
      rfl
    · unfold f_X8_angleBits
      rw [hin, Option.bind_some, if_pos rfl, hi]
      rfl

/-! rows of mine: fits and guess keep the relation -/
set_option maxHeartbeats 2000000 in
theorem lr_fits : lw_S_fits ma_Rel := by
  intro j hj v_x_ticksPassed v_x_noiseShare v_x_lot v_x_aheadKnown v_x_aheadEnds v_x_swings_stiffness v_x_swings_pull v_x_swings_there v_x_swings_angles v_x_setting_beaters v_x_setting_mask v_x_setting_links v_x_setting_answers v_x_setting_periods v_x_setting_quiets v_x_setting_places v_x_now_row v_x_now_phases v_x_flashCounts v_x_lastFlashes v_x_ahead_leadTicks v_x_ahead_cycleTicks v_x_ahead_behind_row v_x_ahead_behind_phases v_x_now_coming v_x_ahead_behind_coming v_x_ahead_front_row v_x_ahead_front_phases v_x_ahead_front_coming v_x_setting_froms v_x_setting_delays v_x_setting_tos v_x_setting_strengths v_x_ahead_flashed v_x_swings_speeds v_x_marks_count v_x_marks_ticks v_x_ahead_groupNumbers v_x_trial_leadTicks v_x_trial_cycleTicks v_x_trial_behind_row v_x_trial_behind_phases v_x_trial_behind_coming v_x_trial_front_row v_x_trial_front_phases v_x_trial_front_coming v_x_trial_flashed v_x_trial_groupNumbers v_x_trialStart_row v_x_trialStart_phases v_x_trialStart_coming v_x_pair_beaters v_x_pair_mask v_x_pair_links v_x_pair_places v_x_pair_periods v_x_pair_quiets v_x_pair_answers v_x_pair_froms v_x_pair_tos v_x_pair_delays v_x_pair_strengths v_t_thrown v_t_noise v_t_z v_t_lead v_t_cycle v_t_stiffness v_t_pull v_t_swings v_t_angles v_t_now_time v_t_now_isThere v_t_answers v_t_now_period v_t_now_phase v_t_now_quiet v_t_flashed v_t_last v_t_start_time v_t_start_isThere v_t_start_period v_t_start_phase v_t_start_quiet v_t_start_waiting v_t_now_waiting v_t_slow_time v_t_slow_isThere v_t_slow_period v_t_slow_phase v_t_slow_quiet v_t_slow_waiting v_t_fast_time v_t_fast_isThere v_t_fast_period v_t_fast_phase v_t_fast_quiet v_t_fast_waiting v_t_fast_flashes v_t_slow_flashes v_t_beats v_t_areApart v_t_speeds v_t_now_flashes nl fr tt de st nk vv hR v_out v_outD ml mk cl hl1 hl2 
  obtain ⟨h, t, z, fr0, to0, de0, S, ⟨r1, r2, r3, r4⟩, hx, ⟨rfl, rfl, rfl, rfl, rfl, rfl, rfl, rfl⟩, C, E, hf, hinv, hR, hrm, hA, hc, hl, htr, hmk, hsw, hqb⟩ := hR
  obtain ⟨rfl, hk20, hkv⟩ := hmk
  have hv : ∀ i, i < nk → v_x_marks_ticks i = vv i := fun i hi => by
    obtain ⟨v, -, e1, e2⟩ := hkv i hi
    rw [e1, e2]
  obtain ⟨v, y, e1, e2⟩ := mk_fits (N := 200) (by omega) hk20 hv 200 2 0 (by omega) (by omega) (by omega)
  refine ⟨200, 200, v, v, ?_, e2, rfl, ⟨h, t, z, fr0, to0, de0, S, ⟨by omega, by omega, r3, r4⟩, hx, ⟨rfl, rfl, rfl, rfl, rfl, rfl, rfl, rfl⟩, C, E, hf, hinv, hR, hrm, hA, hc, hl, htr, ⟨rfl, hk20, hkv⟩, hsw, hqb⟩⟩
  unfold f_X5_fits f_X0_countPeriods
  have e1 : f_X0_countPeriods_4 200 (nI nk) v_x_marks_ticks 200 (0 : Int32) (2 : Int32) = some (v, y) := e1
  rw [e1]
  rfl

set_option maxHeartbeats 2000000 in
theorem lr_guess : lw_S_guess ma_Rel := by
  intro j hj v_x_ticksPassed v_x_noiseShare v_x_lot v_x_aheadKnown v_x_aheadEnds v_x_swings_stiffness v_x_swings_pull v_x_swings_there v_x_swings_angles v_x_setting_beaters v_x_setting_mask v_x_setting_links v_x_setting_answers v_x_setting_periods v_x_setting_quiets v_x_setting_places v_x_now_row v_x_now_phases v_x_flashCounts v_x_lastFlashes v_x_ahead_leadTicks v_x_ahead_cycleTicks v_x_ahead_behind_row v_x_ahead_behind_phases v_x_now_coming v_x_ahead_behind_coming v_x_ahead_front_row v_x_ahead_front_phases v_x_ahead_front_coming v_x_setting_froms v_x_setting_delays v_x_setting_tos v_x_setting_strengths v_x_ahead_flashed v_x_swings_speeds v_x_marks_count v_x_marks_ticks v_x_ahead_groupNumbers v_x_trial_leadTicks v_x_trial_cycleTicks v_x_trial_behind_row v_x_trial_behind_phases v_x_trial_behind_coming v_x_trial_front_row v_x_trial_front_phases v_x_trial_front_coming v_x_trial_flashed v_x_trial_groupNumbers v_x_trialStart_row v_x_trialStart_phases v_x_trialStart_coming v_x_pair_beaters v_x_pair_mask v_x_pair_links v_x_pair_places v_x_pair_periods v_x_pair_quiets v_x_pair_answers v_x_pair_froms v_x_pair_tos v_x_pair_delays v_x_pair_strengths v_t_thrown v_t_noise v_t_z v_t_lead v_t_cycle v_t_stiffness v_t_pull v_t_swings v_t_angles v_t_now_time v_t_now_isThere v_t_answers v_t_now_period v_t_now_phase v_t_now_quiet v_t_flashed v_t_last v_t_start_time v_t_start_isThere v_t_start_period v_t_start_phase v_t_start_quiet v_t_start_waiting v_t_now_waiting v_t_slow_time v_t_slow_isThere v_t_slow_period v_t_slow_phase v_t_slow_quiet v_t_slow_waiting v_t_fast_time v_t_fast_isThere v_t_fast_period v_t_fast_phase v_t_fast_quiet v_t_fast_waiting v_t_fast_flashes v_t_slow_flashes v_t_beats v_t_areApart v_t_speeds v_t_now_flashes nl fr tt de st nk vv hR v_out v_outD ml mk cl hl1 hl2 x1
  obtain ⟨h, t, z, fr0, to0, de0, S, ⟨r1, r2, r3, r4⟩, hx, ⟨rfl, rfl, rfl, rfl, rfl, rfl, rfl, rfl⟩, C, E, hf, hinv, hR, hrm, hA, hc, hl, htr, hmk, hsw, hqb⟩ := hR
  obtain ⟨rfl, hk20, hkv⟩ := hmk
  have hv : ∀ i, i < nk → v_x_marks_ticks i = vv i := fun i hi => by
    obtain ⟨v, -, e1, e2⟩ := hkv i hi
    rw [e1, e2]
  have hs : f_Jx4a65c_size_8abf5 200 (nI nk) = some (nI nk) := rfl
  have bad : (f_X5_guess 200 (nI nk) v_x_marks_ticks x1 = some (.inl "java/util/NoSuchElementException")) → f_X8_guess 200 v_t_thrown nk vv x1 = some (0, 1) → ∃ (N1 N2 : Nat) (o1 : Int32 × (Nat → Int64)) (o2 : Int32 × Int32), f_L_guess N1 (nI nk) v_x_marks_ticks v_out x1 = some o1 ∧ f_X8_guess N2 v_t_thrown nk vv x1 = some o2 ∧ o2.2 = o1.1 ∧ (o1.1 = 0 → o1.2 0 = o2.1.toInt64) := fun a b => by
    refine ⟨200, 200, (1, v_out), (0, 1), ?_, b, rfl, fun q => absurd (show (1 : Int32) = 0 from q) (by decide)⟩
    unfold f_L_guess
    rw [a]
    rfl
  have all : ∃ (N1 N2 : Nat) (o1 : Int32 × (Nat → Int64)) (o2 : Int32 × Int32), f_L_guess N1 (nI nk) v_x_marks_ticks v_out x1 = some o1 ∧ f_X8_guess N2 v_t_thrown nk vv x1 = some o2 ∧ o2.2 = o1.1 ∧ (o1.1 = 0 → o1.2 0 = o2.1.toInt64) := by
    by_cases h2 : nk < 2
    · refine bad ?_ ?_
      · unfold f_X5_guess
        rw [if_neg (show ¬ (2 : Int32) ≤ nI nk from nI_ge (a := nk) (b := 2) h2 (by omega))]
      · unfold f_X8_guess f_X8_guess_0
        rw [hs, Option.bind_some, if_pos (show nI nk < (2 : Int32) from nI_lt (b := 2) h2 (by omega)), Option.bind_some]
        exact mk_gR (by omega) hk20 200 99 99 (by omega) (by omega) (by omega) (fun i hi => nN_99 i (by omega))
    · have hc2 : (2 : Int32) ≤ nI nk := nI_le (a := 2) (by omega) (by omega)
      have hr2 : ¬ nI nk < (2 : Int32) := nI_nlt (a := nk) (b := 2) (by omega) (by omega)
      by_cases hx1 : x1 < 0
      · refine bad ?_ ?_
        · unfold f_X5_guess f_X0_periodAt
          obtain ⟨y, e⟩ := mk_gC (N := 200) (vv := v_x_marks_ticks) (by omega) hk20 200 99 x1 (by omega) (by omega) (by omega) (fun i hi => nN_lt hx1 i (by omega))
          have e : f_X0_periodAt_5 200 (nI nk) v_x_marks_ticks 200 x1 (99 : Int32) = _ := e
          rw [if_pos hc2, e]
          rfl
        · unfold f_X8_guess f_X8_guess_0
          rw [hs, Option.bind_some, if_neg hr2, if_neg (show ¬ (0 : Int32) ≤ x1 from fun q => Int32.not_le.mpr hx1 q), Option.bind_some]
          exact mk_gR (by omega) hk20 200 99 99 (by omega) (by omega) (by omega) (fun i hi => nN_99 i (by omega))
      · have h0 : (0 : Int32) ≤ x1 := Int32.not_lt.mp hx1
        rcases mk_gB (N := 200) (by omega) hk20 hv 200 99 x1 (by omega) (by omega) (by omega) with ⟨⟨y, e1⟩, e2⟩ | ⟨q, y, q1, q2, e1, e2⟩
        · have e1 : f_X0_periodAt_5 200 (nI nk) v_x_marks_ticks 200 x1 (99 : Int32) = _ := e1
          refine bad ?_ ?_
          · unfold f_X5_guess f_X0_periodAt
            rw [if_pos hc2, e1]
            rfl
          · unfold f_X8_guess f_X8_guess_0
            rw [hs, Option.bind_some, if_neg hr2, if_pos h0, Option.bind_some]
            exact e2
        · have e1 : f_X0_periodAt_5 200 (nI nk) v_x_marks_ticks 200 x1 (99 : Int32) = _ := e1
          refine ⟨200, 200, (0, vp_updL v_out 0 (nI q).toInt64), (nI q, 0), ?_, ?_, rfl, fun _ => lr_u0 v_out _⟩
          · unfold f_L_guess f_X5_guess f_X0_periodAt
            rw [if_pos hc2, e1, Option.bind_some, Sum.elim_inl, Option.bind_some, if_neg (nI_ne0 (by omega) (by omega))]
            rfl
          · unfold f_X8_guess f_X8_guess_0
            rw [hs, Option.bind_some, if_neg hr2, if_pos h0, Option.bind_some]
            exact e2
  obtain ⟨N1, N2, o1, o2, a1, a2, a3, a4⟩ := all
  exact ⟨N1, N2, o1, o2, a1, a2, ⟨a3, a4⟩, ⟨h, t, z, fr0, to0, de0, S, ⟨by omega, by omega, r3, r4⟩, hx, ⟨rfl, rfl, rfl, rfl, rfl, rfl, rfl, rfl⟩, C, E, hf, hinv, hR, hrm, hA, hc, hl, htr, ⟨rfl, hk20, hkv⟩, hsw, hqb⟩⟩

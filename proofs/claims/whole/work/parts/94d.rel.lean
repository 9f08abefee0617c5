/-! rows of mine: tick, wipe, beam, mark keep the relation -/
theorem lr_u0 (f : Nat → Int64) (v : Int64) : vp_updL f 0 v 0 = v := by
  unfold vp_updL
  exact if_pos rfl
theorem lr_mkup {ticks vv : Nat → Int32} {n m1 : Nat} (hkv : ∀ i, i < n → ∃ v : Nat, v ≤ 9999 ∧ vv i = nI v ∧ ticks i = nI v) (hm : m1 ≤ 9999) : ∀ i, i < n + 1 → ∃ v : Nat, v ≤ 9999 ∧ upd vv n (nI m1) i = nI v ∧ upd ticks n (nI m1) i = nI v := by
  intro i hi
  by_cases h : i = n
  · subst h
    exact ⟨m1, hm, by simp [upd], by simp [upd]⟩
  · obtain ⟨v, h1, h2, h3⟩ := hkv i (by omega)
    exact ⟨v, h1, by simp [upd, h, h2], by simp [upd, h, h3]⟩
set_option maxHeartbeats 2000000 in
theorem lr_tick : lw_S_tick ma_Rel := by
  intro j hj v_x_ticksPassed v_x_noiseShare v_x_lot v_x_aheadKnown v_x_aheadEnds v_x_swings_stiffness v_x_swings_pull v_x_swings_there v_x_swings_angles v_x_setting_beaters v_x_setting_mask v_x_setting_links v_x_setting_answers v_x_setting_periods v_x_setting_quiets v_x_setting_places v_x_now_row v_x_now_phases v_x_flashCounts v_x_lastFlashes v_x_ahead_leadTicks v_x_ahead_cycleTicks v_x_ahead_behind_row v_x_ahead_behind_phases v_x_now_coming v_x_ahead_behind_coming v_x_ahead_front_row v_x_ahead_front_phases v_x_ahead_front_coming v_x_setting_froms v_x_setting_delays v_x_setting_tos v_x_setting_strengths v_x_ahead_flashed v_x_swings_speeds v_x_marks_count v_x_marks_ticks v_x_ahead_groupNumbers v_x_trial_leadTicks v_x_trial_cycleTicks v_x_trial_behind_row v_x_trial_behind_phases v_x_trial_behind_coming v_x_trial_front_row v_x_trial_front_phases v_x_trial_front_coming v_x_trial_flashed v_x_trial_groupNumbers v_x_trialStart_row v_x_trialStart_phases v_x_trialStart_coming v_x_pair_beaters v_x_pair_mask v_x_pair_links v_x_pair_places v_x_pair_periods v_x_pair_quiets v_x_pair_answers v_x_pair_froms v_x_pair_tos v_x_pair_delays v_x_pair_strengths v_t_thrown v_t_noise v_t_z v_t_lead v_t_cycle v_t_stiffness v_t_pull v_t_swings v_t_angles v_t_now_time v_t_now_isThere v_t_answers v_t_now_period v_t_now_phase v_t_now_quiet v_t_flashed v_t_last v_t_start_time v_t_start_isThere v_t_start_period v_t_start_phase v_t_start_quiet v_t_start_waiting v_t_now_waiting v_t_slow_time v_t_slow_isThere v_t_slow_period v_t_slow_phase v_t_slow_quiet v_t_slow_waiting v_t_fast_time v_t_fast_isThere v_t_fast_period v_t_fast_phase v_t_fast_quiet v_t_fast_waiting v_t_fast_flashes v_t_slow_flashes v_t_beats v_t_areApart v_t_speeds v_t_now_flashes nl fr tt de st nk vv hR v_out v_outD ml mk cl hl1 hl2 
  obtain ⟨h, t, z, fr0, to0, de0, S, ⟨r1, r2, r3, r4⟩, hx, ⟨rfl, rfl, rfl, rfl, rfl, rfl, rfl, rfl⟩, C, E, hf, hinv, hR, hrm, hA, hc, hl, htr, hmk, hsw, hqb⟩ := hR
  exact ⟨0, 0, _, _, rfl, rfl, rfl, ⟨h, t, z, fr0, to0, de0, S, ⟨by omega, by omega, r3, r4⟩, hx, ⟨rfl, rfl, rfl, rfl, rfl, rfl, rfl, rfl⟩, C, E, hf, hinv, hR, hrm, hA, hc, hl, htr, hmk, hsw, hqb⟩⟩

set_option maxHeartbeats 2000000 in
theorem lr_wipe : lw_S_wipe ma_Rel := by
  intro j hj v_x_ticksPassed v_x_noiseShare v_x_lot v_x_aheadKnown v_x_aheadEnds v_x_swings_stiffness v_x_swings_pull v_x_swings_there v_x_swings_angles v_x_setting_beaters v_x_setting_mask v_x_setting_links v_x_setting_answers v_x_setting_periods v_x_setting_quiets v_x_setting_places v_x_now_row v_x_now_phases v_x_flashCounts v_x_lastFlashes v_x_ahead_leadTicks v_x_ahead_cycleTicks v_x_ahead_behind_row v_x_ahead_behind_phases v_x_now_coming v_x_ahead_behind_coming v_x_ahead_front_row v_x_ahead_front_phases v_x_ahead_front_coming v_x_setting_froms v_x_setting_delays v_x_setting_tos v_x_setting_strengths v_x_ahead_flashed v_x_swings_speeds v_x_marks_count v_x_marks_ticks v_x_ahead_groupNumbers v_x_trial_leadTicks v_x_trial_cycleTicks v_x_trial_behind_row v_x_trial_behind_phases v_x_trial_behind_coming v_x_trial_front_row v_x_trial_front_phases v_x_trial_front_coming v_x_trial_flashed v_x_trial_groupNumbers v_x_trialStart_row v_x_trialStart_phases v_x_trialStart_coming v_x_pair_beaters v_x_pair_mask v_x_pair_links v_x_pair_places v_x_pair_periods v_x_pair_quiets v_x_pair_answers v_x_pair_froms v_x_pair_tos v_x_pair_delays v_x_pair_strengths v_t_thrown v_t_noise v_t_z v_t_lead v_t_cycle v_t_stiffness v_t_pull v_t_swings v_t_angles v_t_now_time v_t_now_isThere v_t_answers v_t_now_period v_t_now_phase v_t_now_quiet v_t_flashed v_t_last v_t_start_time v_t_start_isThere v_t_start_period v_t_start_phase v_t_start_quiet v_t_start_waiting v_t_now_waiting v_t_slow_time v_t_slow_isThere v_t_slow_period v_t_slow_phase v_t_slow_quiet v_t_slow_waiting v_t_fast_time v_t_fast_isThere v_t_fast_period v_t_fast_phase v_t_fast_quiet v_t_fast_waiting v_t_fast_flashes v_t_slow_flashes v_t_beats v_t_areApart v_t_speeds v_t_now_flashes nl fr tt de st nk vv hR v_out v_outD ml mk cl hl1 hl2 
  obtain ⟨h, t, z, fr0, to0, de0, S, ⟨r1, r2, r3, r4⟩, hx, ⟨rfl, rfl, rfl, rfl, rfl, rfl, rfl, rfl⟩, C, E, hf, hinv, hR, hrm, hA, hc, hl, htr, hmk, hsw, hqb⟩ := hR
  obtain ⟨rfl, hk20, hkv⟩ := hmk
  exact ⟨0, 0, _, rfl, rfl, ⟨h, t, z, fr0, to0, de0, S, ⟨by omega, by omega, r3, r4⟩, hx, ⟨rfl, rfl, rfl, rfl, rfl, rfl, rfl, rfl⟩, C, E, hf, hinv, hR, hrm, hA, hc, hl, htr, ⟨rfl, by decide, fun i hi => absurd hi (Nat.not_lt_zero _)⟩, hsw, hqb⟩⟩

set_option maxHeartbeats 2000000 in
theorem lr_beam : lw_S_beam ma_Rel := by
  intro j hj v_x_ticksPassed v_x_noiseShare v_x_lot v_x_aheadKnown v_x_aheadEnds v_x_swings_stiffness v_x_swings_pull v_x_swings_there v_x_swings_angles v_x_setting_beaters v_x_setting_mask v_x_setting_links v_x_setting_answers v_x_setting_periods v_x_setting_quiets v_x_setting_places v_x_now_row v_x_now_phases v_x_flashCounts v_x_lastFlashes v_x_ahead_leadTicks v_x_ahead_cycleTicks v_x_ahead_behind_row v_x_ahead_behind_phases v_x_now_coming v_x_ahead_behind_coming v_x_ahead_front_row v_x_ahead_front_phases v_x_ahead_front_coming v_x_setting_froms v_x_setting_delays v_x_setting_tos v_x_setting_strengths v_x_ahead_flashed v_x_swings_speeds v_x_marks_count v_x_marks_ticks v_x_ahead_groupNumbers v_x_trial_leadTicks v_x_trial_cycleTicks v_x_trial_behind_row v_x_trial_behind_phases v_x_trial_behind_coming v_x_trial_front_row v_x_trial_front_phases v_x_trial_front_coming v_x_trial_flashed v_x_trial_groupNumbers v_x_trialStart_row v_x_trialStart_phases v_x_trialStart_coming v_x_pair_beaters v_x_pair_mask v_x_pair_links v_x_pair_places v_x_pair_periods v_x_pair_quiets v_x_pair_answers v_x_pair_froms v_x_pair_tos v_x_pair_delays v_x_pair_strengths v_t_thrown v_t_noise v_t_z v_t_lead v_t_cycle v_t_stiffness v_t_pull v_t_swings v_t_angles v_t_now_time v_t_now_isThere v_t_answers v_t_now_period v_t_now_phase v_t_now_quiet v_t_flashed v_t_last v_t_start_time v_t_start_isThere v_t_start_period v_t_start_phase v_t_start_quiet v_t_start_waiting v_t_now_waiting v_t_slow_time v_t_slow_isThere v_t_slow_period v_t_slow_phase v_t_slow_quiet v_t_slow_waiting v_t_fast_time v_t_fast_isThere v_t_fast_period v_t_fast_phase v_t_fast_quiet v_t_fast_waiting v_t_fast_flashes v_t_slow_flashes v_t_beats v_t_areApart v_t_speeds v_t_now_flashes nl fr tt de st nk vv hR v_out v_outD ml mk cl hl1 hl2 x1 x2
  obtain ⟨h, t, z, fr0, to0, de0, S, ⟨r1, r2, r3, r4⟩, hx, ⟨rfl, rfl, rfl, rfl, rfl, rfl, rfl, rfl⟩, C, E, hf, hinv, hR, hrm, hA, hc, hl, htr, hmk, hsw, hqb⟩ := hR
  obtain ⟨rfl, rfl, hsw, hrg⟩ := hsw
  rcases mx_range (N := 0) x1 1 99 (by omega) (by omega) with ⟨e1, e2⟩ | ⟨m1, hm0, hm1, rfl, e1, e2⟩
  · have e1 : f_X5_checkRange 0 x1 (1 : Int32) (99 : Int32) = _ := e1
    have e2 : f_X8_in 0 x1.toInt64 (1 : Int64) (99 : Int64) = _ := e2
    refine ⟨0, 0, (1, v_t_stiffness, v_t_pull, v_out), (0, 1, v_t_stiffness, v_t_pull), ?_, ?_, ⟨rfl, fun q => absurd (show (1 : Int32) = 0 from q) (by decide)⟩, ⟨h, t, z, fr0, to0, de0, S, ⟨by omega, by omega, r3, r4⟩, hx, ⟨rfl, rfl, rfl, rfl, rfl, rfl, rfl, rfl⟩, C, E, hf, hinv, hR, hrm, hA, hc, hl, htr, hmk, ⟨rfl, rfl, hsw, hrg⟩, hqb⟩⟩
    · unfold f_L_beam f_X5_beam
      rw [e1]
      rfl
    · unfold f_X8_beam
      rw [e2]
      rfl
  · have e1 : f_X5_checkRange 0 (nI m1) (1 : Int32) (99 : Int32) = _ := e1
    have e2 : f_X8_in 0 (nI m1).toInt64 (1 : Int64) (99 : Int64) = _ := e2
    rcases mx_range (N := 0) x2 0 99 (by omega) (by omega) with ⟨e3, e4⟩ | ⟨m2, -, hm2, rfl, e3, e4⟩
    · have e3 : f_X5_checkRange 0 x2 (0 : Int32) (99 : Int32) = _ := e3
      have e4 : f_X8_in 0 x2.toInt64 (0 : Int64) (99 : Int64) = _ := e4
      refine ⟨0, 0, (1, v_t_stiffness, v_t_pull, v_out), (0, 1, v_t_stiffness, v_t_pull), ?_, ?_, ⟨rfl, fun q => absurd (show (1 : Int32) = 0 from q) (by decide)⟩, ⟨h, t, z, fr0, to0, de0, S, ⟨by omega, by omega, r3, r4⟩, hx, ⟨rfl, rfl, rfl, rfl, rfl, rfl, rfl, rfl⟩, C, E, hf, hinv, hR, hrm, hA, hc, hl, htr, hmk, ⟨rfl, rfl, hsw, hrg⟩, hqb⟩⟩
      · unfold f_L_beam f_X5_beam
        rw [e1, Option.bind_some, Sum.elim_inr, e3]
        rfl
      · unfold f_X8_beam
        rw [e2, Option.bind_some, if_neg (show ¬ (1 : Int32) = 0 by decide), e4]
        rfl
    · have e3 : f_X5_checkRange 0 (nI m2) (0 : Int32) (99 : Int32) = _ := e3
      have e4 : f_X8_in 0 (nI m2).toInt64 (0 : Int64) (99 : Int64) = _ := e4
      refine ⟨0, 0, (0, nI m1, nI m2, vp_updL v_out 0 v_t_stiffness.toInt64), (v_t_stiffness, 0, nI m1, nI m2), ?_, ?_, ⟨rfl, fun _ => lr_u0 v_out _⟩, ⟨h, t, z, fr0, to0, de0, S, ⟨by omega, by omega, r3, r4⟩, hx, ⟨rfl, rfl, rfl, rfl, rfl, rfl, rfl, rfl⟩, C, E, hf, hinv, hR, hrm, hA, hc, hl, htr, hmk, ⟨rfl, rfl, hsw, m1, m2, rfl, rfl, by omega, by omega, by omega⟩, hqb⟩⟩
      · unfold f_L_beam f_X5_beam
        rw [e1, Option.bind_some, Sum.elim_inr, e3]
        rfl
      · unfold f_X8_beam
        rw [e2, Option.bind_some, if_neg (show ¬ (1 : Int32) = 0 by decide), e4]
        rfl

set_option maxHeartbeats 2000000 in
theorem lr_mark : lw_S_mark ma_Rel := by
  intro j hj v_x_ticksPassed v_x_noiseShare v_x_lot v_x_aheadKnown v_x_aheadEnds v_x_swings_stiffness v_x_swings_pull v_x_swings_there v_x_swings_angles v_x_setting_beaters v_x_setting_mask v_x_setting_links v_x_setting_answers v_x_setting_periods v_x_setting_quiets v_x_setting_places v_x_now_row v_x_now_phases v_x_flashCounts v_x_lastFlashes v_x_ahead_leadTicks v_x_ahead_cycleTicks v_x_ahead_behind_row v_x_ahead_behind_phases v_x_now_coming v_x_ahead_behind_coming v_x_ahead_front_row v_x_ahead_front_phases v_x_ahead_front_coming v_x_setting_froms v_x_setting_delays v_x_setting_tos v_x_setting_strengths v_x_ahead_flashed v_x_swings_speeds v_x_marks_count v_x_marks_ticks v_x_ahead_groupNumbers v_x_trial_leadTicks v_x_trial_cycleTicks v_x_trial_behind_row v_x_trial_behind_phases v_x_trial_behind_coming v_x_trial_front_row v_x_trial_front_phases v_x_trial_front_coming v_x_trial_flashed v_x_trial_groupNumbers v_x_trialStart_row v_x_trialStart_phases v_x_trialStart_coming v_x_pair_beaters v_x_pair_mask v_x_pair_links v_x_pair_places v_x_pair_periods v_x_pair_quiets v_x_pair_answers v_x_pair_froms v_x_pair_tos v_x_pair_delays v_x_pair_strengths v_t_thrown v_t_noise v_t_z v_t_lead v_t_cycle v_t_stiffness v_t_pull v_t_swings v_t_angles v_t_now_time v_t_now_isThere v_t_answers v_t_now_period v_t_now_phase v_t_now_quiet v_t_flashed v_t_last v_t_start_time v_t_start_isThere v_t_start_period v_t_start_phase v_t_start_quiet v_t_start_waiting v_t_now_waiting v_t_slow_time v_t_slow_isThere v_t_slow_period v_t_slow_phase v_t_slow_quiet v_t_slow_waiting v_t_fast_time v_t_fast_isThere v_t_fast_period v_t_fast_phase v_t_fast_quiet v_t_fast_waiting v_t_fast_flashes v_t_slow_flashes v_t_beats v_t_areApart v_t_speeds v_t_now_flashes nl fr tt de st nk vv hR v_out v_outD ml mk cl hl1 hl2 x1
  obtain ⟨h, t, z, fr0, to0, de0, S, ⟨r1, r2, r3, r4⟩, hx, ⟨rfl, rfl, rfl, rfl, rfl, rfl, rfl, rfl⟩, C, E, hf, hinv, hR, hrm, hA, hc, hl, htr, hmk, hsw, hqb⟩ := hR
  obtain ⟨rfl, hk20, hkv⟩ := hmk
  rcases mx_range (N := 0) x1 0 9999 (by omega) (by omega) with ⟨e1, e2⟩ | ⟨m1, -, hm1, rfl, e1, e2⟩
  · have e1 : f_X5_checkRange 0 x1 (0 : Int32) (9999 : Int32) = _ := e1
    have e2 : f_X8_in 0 x1.toInt64 (0 : Int64) (9999 : Int64) = _ := e2
    refine ⟨0, 0, (1, nI nk, v_x_marks_ticks, v_out), (0, 1, mk, nk, vv), ?_, ?_, ⟨rfl, fun q => absurd (show (1 : Int32) = 0 from q) (by decide)⟩, ⟨h, t, z, fr0, to0, de0, S, ⟨by omega, by omega, r3, r4⟩, hx, ⟨rfl, rfl, rfl, rfl, rfl, rfl, rfl, rfl⟩, C, E, hf, hinv, hR, hrm, hA, hc, hl, htr, ⟨rfl, hk20, hkv⟩, hsw, hqb⟩⟩
    · unfold f_L_mark f_X5_mark
      rw [e1]
      rfl
    · unfold f_X8_mark f_X8_mark_0
      rw [e2]
      rfl
  · have e1 : f_X5_checkRange 0 (nI m1) (0 : Int32) (9999 : Int32) = _ := e1
    have e2 : f_X8_in 0 (nI m1).toInt64 (0 : Int64) (9999 : Int64) = _ := e2
    by_cases hk : nk = 20
    · subst hk
      refine ⟨0, 0, (2, nI 20, v_x_marks_ticks, v_out), (0, 2, mk, 20, vv), ?_, ?_, ⟨rfl, fun q => absurd (show (2 : Int32) = 0 from q) (by decide)⟩, ⟨h, t, z, fr0, to0, de0, S, ⟨by omega, by omega, r3, r4⟩, hx, ⟨rfl, rfl, rfl, rfl, rfl, rfl, rfl, rfl⟩, C, E, hf, hinv, hR, hrm, hA, hc, hl, htr, ⟨rfl, hk20, hkv⟩, hsw, hqb⟩⟩
      · unfold f_L_mark f_X5_mark
        rw [e1, Option.bind_some, Sum.elim_inr, if_neg (show ¬ nI 20 < (20 : Int32) by decide)]
        rfl
      · unfold f_X8_mark f_X8_mark_0
        rw [e2]
        rfl
    · have hlt : nI nk < (20 : Int32) := nI_lt (a := nk) (b := 20) (by omega) (by omega)
      refine ⟨0, 0, (0, nI (nk + 1), upd v_x_marks_ticks nk (nI m1), vp_updL v_out 0 (nI (nk + 1)).toInt64), (nI (nk + 1), 0, mk + 1, nk + 1, upd vv nk (nI m1)), ?_, ?_, ⟨rfl, fun _ => lr_u0 v_out _⟩, ⟨h, t, z, fr0, to0, de0, S, ⟨by omega, by omega, r3, r4⟩, hx, ⟨rfl, rfl, rfl, rfl, rfl, rfl, rfl, rfl⟩, C, E, hf, hinv, hR, hrm, hA, hc, hl, htr, ⟨rfl, show nk + 1 ≤ 20 from by omega, fun i hi => lr_mkup hkv hm1 i hi⟩, hsw, hqb⟩⟩
      · unfold f_L_mark f_X5_mark f_X0_add
        rw [e1, Option.bind_some, Sum.elim_inr, if_pos hlt, if_neg (show ¬ (20 : Int32) ≤ nI nk from nI_ge (a := nk) (b := 20) (by omega) (by omega)), mg_g (show nk < 20 by omega) (by omega), nI_clamp (by omega), nI_1]
        rfl
      · unfold f_X8_mark f_X8_mark_0
        rw [e2, Option.bind_some, if_neg (show ¬ (1 : Int32) = 0 by decide)]
        have hs : f_Jx4a65c_size_8abf5 0 (nI nk) = some (nI nk) := rfl
        rw [hs, Option.bind_some, if_neg (show ¬ nI nk = (20 : Int32) from fun q => hk ((nI_eq (by omega) (by omega)).mp (show nI nk = nI 20 from q)))]
        show (if nk ≤ 19 then _ else _) = _
        rw [if_pos (by omega)]

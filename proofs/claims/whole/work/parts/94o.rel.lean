/-! rows of mine: tongue keeps the relation -/
set_option maxHeartbeats 2000000 in
theorem lr_tongue : lw_S_tongue ma_Rel := by
  intro j hj v_x_ticksPassed v_x_noiseShare v_x_lot v_x_aheadKnown v_x_aheadEnds v_x_swings_stiffness v_x_swings_pull v_x_swings_there v_x_swings_angles v_x_setting_beaters v_x_setting_mask v_x_setting_links v_x_setting_answers v_x_setting_periods v_x_setting_quiets v_x_setting_places v_x_now_row v_x_now_phases v_x_flashCounts v_x_lastFlashes v_x_ahead_leadTicks v_x_ahead_cycleTicks v_x_ahead_behind_row v_x_ahead_behind_phases v_x_now_coming v_x_ahead_behind_coming v_x_ahead_front_row v_x_ahead_front_phases v_x_ahead_front_coming v_x_setting_froms v_x_setting_delays v_x_setting_tos v_x_setting_strengths v_x_ahead_flashed v_x_swings_speeds v_x_marks_count v_x_marks_ticks v_x_ahead_groupNumbers v_x_trial_leadTicks v_x_trial_cycleTicks v_x_trial_behind_row v_x_trial_behind_phases v_x_trial_behind_coming v_x_trial_front_row v_x_trial_front_phases v_x_trial_front_coming v_x_trial_flashed v_x_trial_groupNumbers v_x_trialStart_row v_x_trialStart_phases v_x_trialStart_coming v_x_pair_beaters v_x_pair_mask v_x_pair_links v_x_pair_places v_x_pair_periods v_x_pair_quiets v_x_pair_answers v_x_pair_froms v_x_pair_tos v_x_pair_delays v_x_pair_strengths v_t_thrown v_t_noise v_t_z v_t_lead v_t_cycle v_t_stiffness v_t_pull v_t_swings v_t_angles v_t_now_time v_t_now_isThere v_t_answers v_t_now_period v_t_now_phase v_t_now_quiet v_t_flashed v_t_last v_t_start_time v_t_start_isThere v_t_start_period v_t_start_phase v_t_start_quiet v_t_start_waiting v_t_now_waiting v_t_slow_time v_t_slow_isThere v_t_slow_period v_t_slow_phase v_t_slow_quiet v_t_slow_waiting v_t_fast_time v_t_fast_isThere v_t_fast_period v_t_fast_phase v_t_fast_quiet v_t_fast_waiting v_t_fast_flashes v_t_slow_flashes v_t_beats v_t_areApart v_t_speeds v_t_now_flashes nl fr tt de st nk vv hR v_out v_outD ml mk cl hl1 hl2 x1 x2
  obtain ⟨h, t, z, fr0, to0, de0, S, ⟨r1, r2, r3, r4⟩, hx, ⟨rfl, rfl, rfl, rfl, rfl, rfl, rfl, rfl⟩, C, E, hf, hinv, hR, hrm, hA, hc, hl, htr, hmk, hsw, hqb⟩ := hR
  have hT : ∀ q, q < 16 → v_t_now_isThere q = if bt v_x_setting_mask q then 1 else 0 := fun q hq => (hf q hq).1
  rcases mx_pair (N := 6000) x1 x2 hT with ⟨q1, q2⟩ | ⟨q1, q2⟩ | ⟨q1, q2⟩ | ⟨p, q, hp, hq, hpq, rfl, rfl, hbp, hbq, q1, q2⟩
  ·
    have HC : ∃ o1, f_L_tongue 6000 v_x_setting_mask (nI nl) v_x_pair_beaters v_x_pair_mask v_x_pair_links v_x_pair_places v_x_setting_periods v_x_pair_periods v_x_setting_quiets v_x_pair_quiets v_x_setting_answers v_x_pair_answers v_x_setting_froms v_x_setting_tos v_x_setting_delays v_x_setting_strengths v_x_pair_froms v_x_pair_tos v_x_pair_delays v_x_pair_strengths v_x_trialStart_row v_x_trialStart_phases v_x_trialStart_coming v_x_now_phases v_x_trial_leadTicks v_x_trial_cycleTicks v_x_trial_behind_row v_x_trial_behind_phases v_x_trial_behind_coming v_x_trial_front_row v_x_trial_front_phases v_x_trial_front_coming v_x_trial_flashed v_out x1 x2 = some o1 ∧ o1.1 = 1 := by
      apply Exists.intro
      apply And.intro
      · unfold f_L_tongue f_X5_tongue
        rw [q1]
        rfl
      · rfl
    have HR : ∃ o2, f_X8_tongue 6000 (lN z) v_t_lead v_t_cycle (nI t) v_t_now_isThere v_t_start_time v_t_start_isThere v_t_now_period v_t_start_period v_t_now_phase v_t_start_phase v_t_now_quiet v_t_start_quiet v_t_start_waiting v_t_now_waiting v_t_slow_time v_t_slow_isThere v_t_slow_period v_t_slow_phase v_t_slow_quiet v_t_slow_waiting v_t_fast_time v_t_fast_isThere v_t_fast_period v_t_fast_phase v_t_fast_quiet v_t_fast_waiting v_t_fast_flashes v_t_answers (nI nl) cl fr tt de st v_t_slow_flashes v_t_beats v_t_areApart x1 x2 = some o2 ∧ o2.2.1 = 1 ∧ o2.2.2.1 = lN z := by
      apply Exists.intro
      apply And.intro
      · unfold f_X8_tongue
        rw [q2]
        rfl
      · exact ⟨rfl, rfl⟩
    obtain ⟨o1, a1, a2⟩ := HC
    obtain ⟨o2, b1, b2, b3⟩ := HR
    exact ⟨6000, 6000, o1, o2, a1, b1, ⟨by rw [b2, a2], fun q => absurd (a2.symm.trans q) (by decide)⟩, ⟨h, t, z, fr0, to0, de0, S, ⟨by omega, by omega, r3, r4⟩, hx, ⟨rfl, rfl, rfl, rfl, rfl, rfl, rfl, b3⟩, C, E, hf, hinv, hR, hrm, hA, hc, hl, htr, hmk, hsw, hqb⟩⟩
  ·
    have HC : ∃ o1, f_L_tongue 6000 v_x_setting_mask (nI nl) v_x_pair_beaters v_x_pair_mask v_x_pair_links v_x_pair_places v_x_setting_periods v_x_pair_periods v_x_setting_quiets v_x_pair_quiets v_x_setting_answers v_x_pair_answers v_x_setting_froms v_x_setting_tos v_x_setting_delays v_x_setting_strengths v_x_pair_froms v_x_pair_tos v_x_pair_delays v_x_pair_strengths v_x_trialStart_row v_x_trialStart_phases v_x_trialStart_coming v_x_now_phases v_x_trial_leadTicks v_x_trial_cycleTicks v_x_trial_behind_row v_x_trial_behind_phases v_x_trial_behind_coming v_x_trial_front_row v_x_trial_front_phases v_x_trial_front_coming v_x_trial_flashed v_out x1 x2 = some o1 ∧ o1.1 = 2 := by
      apply Exists.intro
      apply And.intro
      · unfold f_L_tongue f_X5_tongue
        rw [q1]
        rfl
      · rfl
    have HR : ∃ o2, f_X8_tongue 6000 (lN z) v_t_lead v_t_cycle (nI t) v_t_now_isThere v_t_start_time v_t_start_isThere v_t_now_period v_t_start_period v_t_now_phase v_t_start_phase v_t_now_quiet v_t_start_quiet v_t_start_waiting v_t_now_waiting v_t_slow_time v_t_slow_isThere v_t_slow_period v_t_slow_phase v_t_slow_quiet v_t_slow_waiting v_t_fast_time v_t_fast_isThere v_t_fast_period v_t_fast_phase v_t_fast_quiet v_t_fast_waiting v_t_fast_flashes v_t_answers (nI nl) cl fr tt de st v_t_slow_flashes v_t_beats v_t_areApart x1 x2 = some o2 ∧ o2.2.1 = 2 ∧ o2.2.2.1 = lN z := by
      apply Exists.intro
      apply And.intro
      · unfold f_X8_tongue
        rw [q2]
        rfl
      · exact ⟨rfl, rfl⟩
    obtain ⟨o1, a1, a2⟩ := HC
    obtain ⟨o2, b1, b2, b3⟩ := HR
    exact ⟨6000, 6000, o1, o2, a1, b1, ⟨by rw [b2, a2], fun q => absurd (a2.symm.trans q) (by decide)⟩, ⟨h, t, z, fr0, to0, de0, S, ⟨by omega, by omega, r3, r4⟩, hx, ⟨rfl, rfl, rfl, rfl, rfl, rfl, rfl, b3⟩, C, E, hf, hinv, hR, hrm, hA, hc, hl, htr, hmk, hsw, hqb⟩⟩
  ·
    have HC : ∃ o1, f_L_tongue 6000 v_x_setting_mask (nI nl) v_x_pair_beaters v_x_pair_mask v_x_pair_links v_x_pair_places v_x_setting_periods v_x_pair_periods v_x_setting_quiets v_x_pair_quiets v_x_setting_answers v_x_pair_answers v_x_setting_froms v_x_setting_tos v_x_setting_delays v_x_setting_strengths v_x_pair_froms v_x_pair_tos v_x_pair_delays v_x_pair_strengths v_x_trialStart_row v_x_trialStart_phases v_x_trialStart_coming v_x_now_phases v_x_trial_leadTicks v_x_trial_cycleTicks v_x_trial_behind_row v_x_trial_behind_phases v_x_trial_behind_coming v_x_trial_front_row v_x_trial_front_phases v_x_trial_front_coming v_x_trial_flashed v_out x1 x2 = some o1 ∧ o1.1 = 3 := by
      apply Exists.intro
      apply And.intro
      · unfold f_L_tongue f_X5_tongue
        rw [q1]
        rfl
      · rfl
    have HR : ∃ o2, f_X8_tongue 6000 (lN z) v_t_lead v_t_cycle (nI t) v_t_now_isThere v_t_start_time v_t_start_isThere v_t_now_period v_t_start_period v_t_now_phase v_t_start_phase v_t_now_quiet v_t_start_quiet v_t_start_waiting v_t_now_waiting v_t_slow_time v_t_slow_isThere v_t_slow_period v_t_slow_phase v_t_slow_quiet v_t_slow_waiting v_t_fast_time v_t_fast_isThere v_t_fast_period v_t_fast_phase v_t_fast_quiet v_t_fast_waiting v_t_fast_flashes v_t_answers (nI nl) cl fr tt de st v_t_slow_flashes v_t_beats v_t_areApart x1 x2 = some o2 ∧ o2.2.1 = 3 ∧ o2.2.2.1 = lN z := by
      apply Exists.intro
      apply And.intro
      · unfold f_X8_tongue
        rw [q2]
        rfl
      · exact ⟨rfl, rfl⟩
    obtain ⟨o1, a1, a2⟩ := HC
    obtain ⟨o2, b1, b2, b3⟩ := HR
    exact ⟨6000, 6000, o1, o2, a1, b1, ⟨by rw [b2, a2], fun q => absurd (a2.symm.trans q) (by decide)⟩, ⟨h, t, z, fr0, to0, de0, S, ⟨by omega, by omega, r3, r4⟩, hx, ⟨rfl, rfl, rfl, rfl, rfl, rfl, rfl, b3⟩, C, E, hf, hinv, hR, hrm, hA, hc, hl, htr, hmk, hsw, hqb⟩⟩
  · obtain ⟨c, g, pl2, F, T, D, ST, tp2, tc2, s1, C2, hg, hs, htp, htc⟩ := mx_setPair (N := 6000) (per := v_x_setting_periods) (qui := v_x_setting_quiets) (by omega) hp hq C v_x_pair_places v_x_pair_periods v_x_pair_quiets v_x_pair_answers v_x_pair_froms v_x_pair_tos v_x_pair_delays v_x_pair_strengths v_x_trialStart_phases v_x_trialStart_coming
    obtain ⟨sp, cp, hsp0, hcp, hsp, hcp2⟩ := hinv.1 p hp hbp
    obtain ⟨sq, cq, hsq0, hcq, hsq, hcq2⟩ := hinv.1 q hq hbq
    have two : ∀ i, bt (ma_two p q) i = true ↔ i = p ∨ i = q := fun i => ma_two_t hp hq
    have E2 : ma_E (ma_two p q) nl cl v_t_answers (fun a b => va_cpy v_x_setting_answers v_x_pair_answers 0 0 64 (a * 4 + b)) fr tt de st fr0 to0 de0 v_x_setting_strengths := ⟨E.1, hl1, E.2.2.1, E.2.2.2.1, fun i hi hb k hk => by
      show v_t_answers i k = va_cpy v_x_setting_answers v_x_pair_answers 0 0 64 (i * 4 + k)
      rw [va_cpy_at (show i * 4 + k < 64 by omega)]
      rcases (two i).mp hb with w | w
      · subst w; exact E.2.2.2.2 i hi hbp k hk
      · subst w; exact E.2.2.2.2 i hi hbq k hk⟩
    obtain ⟨o1', o2', m1, m2, m3, m4⟩ := tg_loop (N := 6000) (t0 := t) (z := z) (by decide) (by omega) r4 hp hq hpq (per := v_x_setting_periods) (qui := v_x_setting_quiets) (nph := v_x_now_phases) (nT := v_t_now_isThere) (np := v_t_now_period) (nph2 := v_t_now_phase) (nq := v_t_now_quiet) (nw := v_t_now_waiting) C2 hg hs C.2.2.2.2 htr htc (fun i hi => by
      rcases hi with w | w
      · subst w; exact ⟨sp, cp, (ma_R_ph hR hp).trans hsp0, hcp, hsp, hcp2⟩
      · subst w; exact ⟨sq, cq, (ma_R_ph hR hq).trans hsq0, hcq, hsq, hcq2⟩) (hqb q hq) E2 (fun i hi => by rw [hT i hi]; split; exact Or.inr rfl; exact Or.inl rfl) (fun i hi => by
      rcases hi with w | w
      · subst w; exact ⟨((hf i hp).2 hbp).1, (hrm.1 i hp).trans (ma_R_ph hR hp).symm, ((hf i hp).2 hbp).2⟩
      · subst w; exact ⟨((hf i hq).2 hbq).1, (hrm.1 i hq).trans (ma_R_ph hR hq).symm, ((hf i hq).2 hbq).2⟩) 6000 2 0 (va_cpy v_x_setting_periods v_x_pair_periods 0 0 16) (va_cpy v_x_setting_quiets v_x_pair_quiets 0 0 16) tp2 v_x_trial_leadTicks v_x_trial_cycleTicks v_x_trial_behind_row v_x_trial_behind_phases v_x_trial_behind_coming v_x_trial_front_row v_x_trial_front_phases v_x_trial_front_coming v_x_trial_flashed v_t_lead v_t_cycle v_t_start_time v_t_start_isThere v_t_start_period v_t_start_phase v_t_start_quiet v_t_start_waiting v_t_slow_time v_t_slow_isThere v_t_slow_period v_t_slow_phase v_t_slow_quiet v_t_slow_waiting v_t_fast_time v_t_fast_isThere v_t_fast_period v_t_fast_phase v_t_fast_quiet v_t_fast_waiting v_t_fast_flashes v_t_slow_flashes v_t_beats v_t_areApart (by omega) (by omega) (by omega) ⟨va_cpy_at hp, va_cpy_at hp⟩
    have m1 : f_X5_tongue_17 6000 (nI (ms_L (ma_two p q)).length) (nI c) pl2 v_x_setting_quiets (va_cpy v_x_setting_answers v_x_pair_answers 0 0 64) F T D ST v_x_trialStart_row tc2 v_x_now_phases (nI p) (nI q) 6000 (0 : Int32) (2 : Int32) (va_cpy v_x_setting_periods v_x_pair_periods 0 0 16) (va_cpy v_x_setting_quiets v_x_pair_quiets 0 0 16) tp2 v_x_trial_leadTicks v_x_trial_cycleTicks v_x_trial_behind_row v_x_trial_behind_phases v_x_trial_behind_coming v_x_trial_front_row v_x_trial_front_phases v_x_trial_front_coming v_x_trial_flashed = some o1' := m1
    have m2 : f_X8_tongue_17 6000 (nI t) v_t_now_isThere v_t_now_period v_t_now_phase v_t_now_quiet v_t_now_waiting v_t_answers (nI nl) cl fr tt de st (nI p) (nI q) 6000 (0 : Int32) (2 : Int32) (lN z) v_t_lead v_t_cycle v_t_start_time v_t_start_isThere v_t_start_period v_t_start_phase v_t_start_quiet v_t_start_waiting v_t_slow_time v_t_slow_isThere v_t_slow_period v_t_slow_phase v_t_slow_quiet v_t_slow_waiting v_t_fast_time v_t_fast_isThere v_t_fast_period v_t_fast_phase v_t_fast_quiet v_t_fast_waiting v_t_fast_flashes v_t_slow_flashes v_t_beats v_t_areApart = some o2' := m2
    have HC : ∃ o1, f_L_tongue 6000 v_x_setting_mask (nI nl) v_x_pair_beaters v_x_pair_mask v_x_pair_links v_x_pair_places v_x_setting_periods v_x_pair_periods v_x_setting_quiets v_x_pair_quiets v_x_setting_answers v_x_pair_answers v_x_setting_froms v_x_setting_tos v_x_setting_delays v_x_setting_strengths v_x_pair_froms v_x_pair_tos v_x_pair_delays v_x_pair_strengths v_x_trialStart_row v_x_trialStart_phases v_x_trialStart_coming v_x_now_phases v_x_trial_leadTicks v_x_trial_cycleTicks v_x_trial_behind_row v_x_trial_behind_phases v_x_trial_behind_coming v_x_trial_front_row v_x_trial_front_phases v_x_trial_front_coming v_x_trial_flashed v_out (nI p) (nI q) = some o1 ∧ o1.1 = 0 ∧ o1.2.2.2.2.2.2.2.2.2.2.2.2.2.2.2.2.2.2.2.2.2.2.2 0 = o1'.1.toInt64 := by
      apply Exists.intro
      apply And.intro
      · unfold f_L_tongue f_X5_tongue
        rw [q1, Option.bind_some, Sum.elim_inr, s1, Option.bind_some]
        dsimp only
        rw [m1, Option.bind_some]
        rfl
      · exact ⟨rfl, lr_u0 v_out _⟩
    have HR : ∃ o2, f_X8_tongue 6000 (lN z) v_t_lead v_t_cycle (nI t) v_t_now_isThere v_t_start_time v_t_start_isThere v_t_now_period v_t_start_period v_t_now_phase v_t_start_phase v_t_now_quiet v_t_start_quiet v_t_start_waiting v_t_now_waiting v_t_slow_time v_t_slow_isThere v_t_slow_period v_t_slow_phase v_t_slow_quiet v_t_slow_waiting v_t_fast_time v_t_fast_isThere v_t_fast_period v_t_fast_phase v_t_fast_quiet v_t_fast_waiting v_t_fast_flashes v_t_answers (nI nl) cl fr tt de st v_t_slow_flashes v_t_beats v_t_areApart (nI p) (nI q) = some o2 ∧ o2.2.1 = 0 ∧ o2.2.2.1 = lN z ∧ o2.1 = o2'.1 := by
      apply Exists.intro
      apply And.intro
      · unfold f_X8_tongue
        rw [q2, Option.bind_some, if_pos rfl, m2, Option.bind_some]
      · exact ⟨rfl, m4, rfl⟩
    obtain ⟨o1, a1, a2, a3⟩ := HC
    obtain ⟨o2, b1, b2, b3, b4⟩ := HR
    exact ⟨6000, 6000, o1, o2, a1, b1, ⟨by rw [b2, a2], fun q => by rw [a3, b4, m3]⟩, ⟨h, t, z, fr0, to0, de0, S, ⟨by omega, by omega, r3, r4⟩, hx, ⟨rfl, rfl, rfl, rfl, rfl, rfl, rfl, b3⟩, C, E, hf, hinv, hR, hrm, hA, hc, hl, htr, hmk, hsw, hqb⟩⟩

/-! rows of mine: locks keeps the relation -/
set_option maxHeartbeats 2000000 in
theorem lr_locks : lw_S_locks ma_Rel := by
  intro j hj v_x_ticksPassed v_x_noiseShare v_x_lot v_x_aheadKnown v_x_aheadEnds v_x_swings_stiffness v_x_swings_pull v_x_swings_there v_x_swings_angles v_x_setting_beaters v_x_setting_mask v_x_setting_links v_x_setting_answers v_x_setting_periods v_x_setting_quiets v_x_setting_places v_x_now_row v_x_now_phases v_x_flashCounts v_x_lastFlashes v_x_ahead_leadTicks v_x_ahead_cycleTicks v_x_ahead_behind_row v_x_ahead_behind_phases v_x_now_coming v_x_ahead_behind_coming v_x_ahead_front_row v_x_ahead_front_phases v_x_ahead_front_coming v_x_setting_froms v_x_setting_delays v_x_setting_tos v_x_setting_strengths v_x_ahead_flashed v_x_swings_speeds v_x_marks_count v_x_marks_ticks v_x_ahead_groupNumbers v_x_trial_leadTicks v_x_trial_cycleTicks v_x_trial_behind_row v_x_trial_behind_phases v_x_trial_behind_coming v_x_trial_front_row v_x_trial_front_phases v_x_trial_front_coming v_x_trial_flashed v_x_trial_groupNumbers v_x_trialStart_row v_x_trialStart_phases v_x_trialStart_coming v_x_pair_beaters v_x_pair_mask v_x_pair_links v_x_pair_places v_x_pair_periods v_x_pair_quiets v_x_pair_answers v_x_pair_froms v_x_pair_tos v_x_pair_delays v_x_pair_strengths v_t_thrown v_t_noise v_t_z v_t_lead v_t_cycle v_t_stiffness v_t_pull v_t_swings v_t_angles v_t_now_time v_t_now_isThere v_t_answers v_t_now_period v_t_now_phase v_t_now_quiet v_t_flashed v_t_last v_t_start_time v_t_start_isThere v_t_start_period v_t_start_phase v_t_start_quiet v_t_start_waiting v_t_now_waiting v_t_slow_time v_t_slow_isThere v_t_slow_period v_t_slow_phase v_t_slow_quiet v_t_slow_waiting v_t_fast_time v_t_fast_isThere v_t_fast_period v_t_fast_phase v_t_fast_quiet v_t_fast_waiting v_t_fast_flashes v_t_slow_flashes v_t_beats v_t_areApart v_t_speeds v_t_now_flashes nl fr tt de st nk vv hR v_out v_outD ml mk cl hl1 hl2 x1 x2 x3
  obtain ⟨h, t, z, fr0, to0, de0, S, ⟨r1, r2, r3, r4⟩, hx, ⟨rfl, rfl, rfl, rfl, rfl, rfl, rfl, rfl⟩, C, E, hf, hinv, hR, hrm, hA, hc, hl, htr, hmk, hsw, hqb⟩ := hR
  have hT : ∀ q, q < 16 → v_t_now_isThere q = if bt v_x_setting_mask q then 1 else 0 := fun q hq => (hf q hq).1
  have p1 := mx_checkPlace (N := 6000) x1
  have i1 := mx_isPlace (N := 6000) x1
  have p2 := mx_checkPlace (N := 6000) x2
  have i2 := mx_isPlace (N := 6000) x2
  have n1 : ¬ (1 : Int32) = 0 := by decide
  obtain ⟨v3, hv3⟩ : ∃ v : Int32, f_X8_in 6000 x3.toInt64 (2 : Int64) (99 : Int64) = some v := ⟨_, mx_in x3 2 99⟩
  by_cases c1 : 0 ≤ x1.toInt ∧ x1.toInt ≤ 19
  · rw [if_pos c1] at p1 i1
    by_cases c2 : 0 ≤ x2.toInt ∧ x2.toInt ≤ 19
    · rw [if_pos c2] at p2 i2
      by_cases c3 : x1 = x2
      · have ot : f_X5_checkOther 6000 x1 x2 = some (.inl "java/lang/IllegalArgumentException") := by unfold f_X5_checkOther; rw [if_pos c3]
        have nt : f_X8_noTwo 6000 v_t_now_isThere x1 x2 v3 = some (1, 2) := by unfold f_X8_noTwo; rw [i1, Option.bind_some, if_neg n1, i2, Option.bind_some, if_neg n1, if_pos c3]
        have HC : ∃ o1, f_L_locks 6000 v_x_setting_mask (nI nl) v_x_pair_beaters v_x_pair_mask v_x_pair_links v_x_pair_places v_x_setting_periods v_x_pair_periods v_x_setting_quiets v_x_pair_quiets v_x_setting_answers v_x_pair_answers v_x_setting_froms v_x_setting_tos v_x_setting_delays v_x_setting_strengths v_x_pair_froms v_x_pair_tos v_x_pair_delays v_x_pair_strengths v_x_trialStart_row v_x_trialStart_phases v_x_trialStart_coming v_x_now_phases v_x_trial_leadTicks v_x_trial_cycleTicks v_x_trial_behind_row v_x_trial_behind_phases v_x_trial_behind_coming v_x_trial_front_row v_x_trial_front_phases v_x_trial_front_coming v_x_trial_flashed v_out x1 x2 x3 = some o1 ∧ o1.1 = 2 := by
          apply Exists.intro
          apply And.intro
          · unfold f_L_locks f_X5_locks
            rw [p1, Option.bind_some, Sum.elim_inr, p2, Option.bind_some, Sum.elim_inr, ot]
            rfl
          · rfl
        have HR : ∃ o2, f_X8_locks 6000 (lN z) v_t_lead v_t_cycle (nI t) v_t_now_isThere v_t_start_time v_t_start_isThere v_t_now_period v_t_start_period v_t_now_phase v_t_start_phase v_t_now_quiet v_t_start_quiet v_t_start_waiting v_t_now_waiting v_t_slow_time v_t_slow_isThere v_t_slow_period v_t_slow_phase v_t_slow_quiet v_t_slow_waiting v_t_fast_time v_t_fast_isThere v_t_fast_period v_t_fast_phase v_t_fast_quiet v_t_fast_waiting v_t_fast_flashes v_t_answers (nI nl) cl fr tt de st v_t_slow_flashes v_t_beats v_t_areApart x1 x2 x3 = some o2 ∧ o2.2.1 = 2 ∧ o2.2.2.1 = lN z := by
          apply Exists.intro
          apply And.intro
          · unfold f_X8_locks
            rw [hv3, Option.bind_some, nt]
            rfl
          · exact ⟨rfl, rfl⟩
        obtain ⟨o1, a1, a2⟩ := HC
        obtain ⟨o2, b1, b2, b3⟩ := HR
        exact ⟨6000, 6000, o1, o2, a1, b1, ⟨by rw [b2, a2], fun q => absurd (a2.symm.trans q) (by decide)⟩, ⟨h, t, z, fr0, to0, de0, S, ⟨by omega, by omega, r3, r4⟩, hx, ⟨rfl, rfl, rfl, rfl, rfl, rfl, rfl, b3⟩, C, E, hf, hinv, hR, hrm, hA, hc, hl, htr, hmk, hsw, hqb⟩⟩
      · have ot : f_X5_checkOther 6000 x1 x2 = some (.inr ()) := by unfold f_X5_checkOther; rw [if_neg c3]
        rcases mx_range (N := 6000) x3 2 99 (by omega) (by omega) with ⟨e1, e2⟩ | ⟨P, hP1, hP2, rfl, e1, e2⟩
        · have e1 : f_X5_checkRange 6000 x3 (2 : Int32) (99 : Int32) = _ := e1
          have e2 : f_X8_in 6000 x3.toInt64 (2 : Int64) (99 : Int64) = _ := e2
          have nt : f_X8_noTwo 6000 v_t_now_isThere x1 x2 0 = some (1, 2) := by unfold f_X8_noTwo; rw [i1, Option.bind_some, if_neg n1, i2, Option.bind_some, if_neg n1, if_neg c3, if_pos rfl]
          have HC : ∃ o1, f_L_locks 6000 v_x_setting_mask (nI nl) v_x_pair_beaters v_x_pair_mask v_x_pair_links v_x_pair_places v_x_setting_periods v_x_pair_periods v_x_setting_quiets v_x_pair_quiets v_x_setting_answers v_x_pair_answers v_x_setting_froms v_x_setting_tos v_x_setting_delays v_x_setting_strengths v_x_pair_froms v_x_pair_tos v_x_pair_delays v_x_pair_strengths v_x_trialStart_row v_x_trialStart_phases v_x_trialStart_coming v_x_now_phases v_x_trial_leadTicks v_x_trial_cycleTicks v_x_trial_behind_row v_x_trial_behind_phases v_x_trial_behind_coming v_x_trial_front_row v_x_trial_front_phases v_x_trial_front_coming v_x_trial_flashed v_out x1 x2 x3 = some o1 ∧ o1.1 = 2 := by
            apply Exists.intro
            apply And.intro
            · unfold f_L_locks f_X5_locks
              rw [p1, Option.bind_some, Sum.elim_inr, p2, Option.bind_some, Sum.elim_inr, ot, Option.bind_some, Sum.elim_inr, e1]
              rfl
            · rfl
          have HR : ∃ o2, f_X8_locks 6000 (lN z) v_t_lead v_t_cycle (nI t) v_t_now_isThere v_t_start_time v_t_start_isThere v_t_now_period v_t_start_period v_t_now_phase v_t_start_phase v_t_now_quiet v_t_start_quiet v_t_start_waiting v_t_now_waiting v_t_slow_time v_t_slow_isThere v_t_slow_period v_t_slow_phase v_t_slow_quiet v_t_slow_waiting v_t_fast_time v_t_fast_isThere v_t_fast_period v_t_fast_phase v_t_fast_quiet v_t_fast_waiting v_t_fast_flashes v_t_answers (nI nl) cl fr tt de st v_t_slow_flashes v_t_beats v_t_areApart x1 x2 x3 = some o2 ∧ o2.2.1 = 2 ∧ o2.2.2.1 = lN z := by
            apply Exists.intro
            apply And.intro
            · unfold f_X8_locks
              rw [e2, Option.bind_some, nt]
              rfl
            · exact ⟨rfl, rfl⟩
          obtain ⟨o1, a1, a2⟩ := HC
          obtain ⟨o2, b1, b2, b3⟩ := HR
          exact ⟨6000, 6000, o1, o2, a1, b1, ⟨by rw [b2, a2], fun q => absurd (a2.symm.trans q) (by decide)⟩, ⟨h, t, z, fr0, to0, de0, S, ⟨by omega, by omega, r3, r4⟩, hx, ⟨rfl, rfl, rfl, rfl, rfl, rfl, rfl, b3⟩, C, E, hf, hinv, hR, hrm, hA, hc, hl, htr, hmk, hsw, hqb⟩⟩
        · have e1 : f_X5_checkRange 6000 (nI P) (2 : Int32) (99 : Int32) = _ := e1
          have e2 : f_X8_in 6000 (nI P).toInt64 (2 : Int64) (99 : Int64) = _ := e2
          rcases mx_pair (N := 6000) x1 x2 hT with ⟨q1, q2⟩ | ⟨q1, q2⟩ | ⟨q1, q2⟩ | ⟨p, q, hp, hq, hpq, rfl, rfl, hbp, hbq, q1, q2⟩
          · -- can't be, but both say the same
            have HC : ∃ o1, f_L_locks 6000 v_x_setting_mask (nI nl) v_x_pair_beaters v_x_pair_mask v_x_pair_links v_x_pair_places v_x_setting_periods v_x_pair_periods v_x_setting_quiets v_x_pair_quiets v_x_setting_answers v_x_pair_answers v_x_setting_froms v_x_setting_tos v_x_setting_delays v_x_setting_strengths v_x_pair_froms v_x_pair_tos v_x_pair_delays v_x_pair_strengths v_x_trialStart_row v_x_trialStart_phases v_x_trialStart_coming v_x_now_phases v_x_trial_leadTicks v_x_trial_cycleTicks v_x_trial_behind_row v_x_trial_behind_phases v_x_trial_behind_coming v_x_trial_front_row v_x_trial_front_phases v_x_trial_front_coming v_x_trial_flashed v_out x1 x2 (nI P) = some o1 ∧ o1.1 = 1 := by
              apply Exists.intro
              apply And.intro
              · unfold f_L_locks f_X5_locks
                rw [p1, Option.bind_some, Sum.elim_inr, p2, Option.bind_some, Sum.elim_inr, ot, Option.bind_some, Sum.elim_inr, e1, Option.bind_some, Sum.elim_inr, q1]
                rfl
              · rfl
            have HR : ∃ o2, f_X8_locks 6000 (lN z) v_t_lead v_t_cycle (nI t) v_t_now_isThere v_t_start_time v_t_start_isThere v_t_now_period v_t_start_period v_t_now_phase v_t_start_phase v_t_now_quiet v_t_start_quiet v_t_start_waiting v_t_now_waiting v_t_slow_time v_t_slow_isThere v_t_slow_period v_t_slow_phase v_t_slow_quiet v_t_slow_waiting v_t_fast_time v_t_fast_isThere v_t_fast_period v_t_fast_phase v_t_fast_quiet v_t_fast_waiting v_t_fast_flashes v_t_answers (nI nl) cl fr tt de st v_t_slow_flashes v_t_beats v_t_areApart x1 x2 (nI P) = some o2 ∧ o2.2.1 = 1 ∧ o2.2.2.1 = lN z := by
              apply Exists.intro
              apply And.intro
              · unfold f_X8_locks
                rw [e2, Option.bind_some, q2]
                rfl
              · exact ⟨rfl, rfl⟩
            obtain ⟨o1, a1, a2⟩ := HC
            obtain ⟨o2, b1, b2, b3⟩ := HR
            exact ⟨6000, 6000, o1, o2, a1, b1, ⟨by rw [b2, a2], fun q => absurd (a2.symm.trans q) (by decide)⟩, ⟨h, t, z, fr0, to0, de0, S, ⟨by omega, by omega, r3, r4⟩, hx, ⟨rfl, rfl, rfl, rfl, rfl, rfl, rfl, b3⟩, C, E, hf, hinv, hR, hrm, hA, hc, hl, htr, hmk, hsw, hqb⟩⟩
          ·
            have HC : ∃ o1, f_L_locks 6000 v_x_setting_mask (nI nl) v_x_pair_beaters v_x_pair_mask v_x_pair_links v_x_pair_places v_x_setting_periods v_x_pair_periods v_x_setting_quiets v_x_pair_quiets v_x_setting_answers v_x_pair_answers v_x_setting_froms v_x_setting_tos v_x_setting_delays v_x_setting_strengths v_x_pair_froms v_x_pair_tos v_x_pair_delays v_x_pair_strengths v_x_trialStart_row v_x_trialStart_phases v_x_trialStart_coming v_x_now_phases v_x_trial_leadTicks v_x_trial_cycleTicks v_x_trial_behind_row v_x_trial_behind_phases v_x_trial_behind_coming v_x_trial_front_row v_x_trial_front_phases v_x_trial_front_coming v_x_trial_flashed v_out x1 x2 (nI P) = some o1 ∧ o1.1 = 2 := by
              apply Exists.intro
              apply And.intro
              · unfold f_L_locks f_X5_locks
                rw [p1, Option.bind_some, Sum.elim_inr, p2, Option.bind_some, Sum.elim_inr, ot, Option.bind_some, Sum.elim_inr, e1, Option.bind_some, Sum.elim_inr, q1]
                rfl
              · rfl
            have HR : ∃ o2, f_X8_locks 6000 (lN z) v_t_lead v_t_cycle (nI t) v_t_now_isThere v_t_start_time v_t_start_isThere v_t_now_period v_t_start_period v_t_now_phase v_t_start_phase v_t_now_quiet v_t_start_quiet v_t_start_waiting v_t_now_waiting v_t_slow_time v_t_slow_isThere v_t_slow_period v_t_slow_phase v_t_slow_quiet v_t_slow_waiting v_t_fast_time v_t_fast_isThere v_t_fast_period v_t_fast_phase v_t_fast_quiet v_t_fast_waiting v_t_fast_flashes v_t_answers (nI nl) cl fr tt de st v_t_slow_flashes v_t_beats v_t_areApart x1 x2 (nI P) = some o2 ∧ o2.2.1 = 2 ∧ o2.2.2.1 = lN z := by
              apply Exists.intro
              apply And.intro
              · unfold f_X8_locks
                rw [e2, Option.bind_some, q2]
                rfl
              · exact ⟨rfl, rfl⟩
            obtain ⟨o1, a1, a2⟩ := HC
            obtain ⟨o2, b1, b2, b3⟩ := HR
            exact ⟨6000, 6000, o1, o2, a1, b1, ⟨by rw [b2, a2], fun q => absurd (a2.symm.trans q) (by decide)⟩, ⟨h, t, z, fr0, to0, de0, S, ⟨by omega, by omega, r3, r4⟩, hx, ⟨rfl, rfl, rfl, rfl, rfl, rfl, rfl, b3⟩, C, E, hf, hinv, hR, hrm, hA, hc, hl, htr, hmk, hsw, hqb⟩⟩
          ·
            have HC : ∃ o1, f_L_locks 6000 v_x_setting_mask (nI nl) v_x_pair_beaters v_x_pair_mask v_x_pair_links v_x_pair_places v_x_setting_periods v_x_pair_periods v_x_setting_quiets v_x_pair_quiets v_x_setting_answers v_x_pair_answers v_x_setting_froms v_x_setting_tos v_x_setting_delays v_x_setting_strengths v_x_pair_froms v_x_pair_tos v_x_pair_delays v_x_pair_strengths v_x_trialStart_row v_x_trialStart_phases v_x_trialStart_coming v_x_now_phases v_x_trial_leadTicks v_x_trial_cycleTicks v_x_trial_behind_row v_x_trial_behind_phases v_x_trial_behind_coming v_x_trial_front_row v_x_trial_front_phases v_x_trial_front_coming v_x_trial_flashed v_out x1 x2 (nI P) = some o1 ∧ o1.1 = 3 := by
              apply Exists.intro
              apply And.intro
              · unfold f_L_locks f_X5_locks
                rw [p1, Option.bind_some, Sum.elim_inr, p2, Option.bind_some, Sum.elim_inr, ot, Option.bind_some, Sum.elim_inr, e1, Option.bind_some, Sum.elim_inr, q1]
                rfl
              · rfl
            have HR : ∃ o2, f_X8_locks 6000 (lN z) v_t_lead v_t_cycle (nI t) v_t_now_isThere v_t_start_time v_t_start_isThere v_t_now_period v_t_start_period v_t_now_phase v_t_start_phase v_t_now_quiet v_t_start_quiet v_t_start_waiting v_t_now_waiting v_t_slow_time v_t_slow_isThere v_t_slow_period v_t_slow_phase v_t_slow_quiet v_t_slow_waiting v_t_fast_time v_t_fast_isThere v_t_fast_period v_t_fast_phase v_t_fast_quiet v_t_fast_waiting v_t_fast_flashes v_t_answers (nI nl) cl fr tt de st v_t_slow_flashes v_t_beats v_t_areApart x1 x2 (nI P) = some o2 ∧ o2.2.1 = 3 ∧ o2.2.2.1 = lN z := by
              apply Exists.intro
              apply And.intro
              · unfold f_X8_locks
                rw [e2, Option.bind_some, q2]
                rfl
              · exact ⟨rfl, rfl⟩
            obtain ⟨o1, a1, a2⟩ := HC
            obtain ⟨o2, b1, b2, b3⟩ := HR
            exact ⟨6000, 6000, o1, o2, a1, b1, ⟨by rw [b2, a2], fun q => absurd (a2.symm.trans q) (by decide)⟩, ⟨h, t, z, fr0, to0, de0, S, ⟨by omega, by omega, r3, r4⟩, hx, ⟨rfl, rfl, rfl, rfl, rfl, rfl, rfl, b3⟩, C, E, hf, hinv, hR, hrm, hA, hc, hl, htr, hmk, hsw, hqb⟩⟩
          · obtain ⟨c, g, pl2, F, T, D, ST, tp2, tc2, s1, C2, hg, hs, htp, htc⟩ := mx_setPair (N := 6000) (per := v_x_setting_periods) (qui := v_x_setting_quiets) (by omega) hp hq C v_x_pair_places v_x_pair_periods v_x_pair_quiets v_x_pair_answers v_x_pair_froms v_x_pair_tos v_x_pair_delays v_x_pair_strengths v_x_trialStart_phases v_x_trialStart_coming
            obtain ⟨sp, cp, hsp0, hcp, hsp, hcp2⟩ := hinv.1 p hp hbp
            obtain ⟨sq, cq, hsq0, hcq, hsq, hcq2⟩ := hinv.1 q hq hbq
            have two : ∀ i, bt (ma_two p q) i = true ↔ i = p ∨ i = q := fun i => ma_two_t hp hq
            have E2 : ma_E (ma_two p q) nl cl v_t_answers (fun a b => va_cpy v_x_setting_answers v_x_pair_answers 0 0 64 (a * 4 + b)) fr tt de st fr0 to0 de0 v_x_setting_strengths := ⟨E.1, hl1, E.2.2.1, E.2.2.2.1, fun i hi hb k hk => by
              show v_t_answers i k = va_cpy v_x_setting_answers v_x_pair_answers 0 0 64 (i * 4 + k)
              rw [va_cpy_at (show i * 4 + k < 64 by omega)]
              rcases (two i).mp hb with w | w
              · subst w; exact E.2.2.2.2 i hi hbp k hk
              · subst w; exact E.2.2.2.2 i hi hbq k hk⟩
            obtain ⟨o, v, lead, cyc, st', aT, ap, aph, aq, aw, sl, sT, sp', sph, sq', sw, ft', fT, fp9, fph, fq, fw, ff, sf', B', A', m1, m2, mc⟩ := ca_one (N := 6000) (t0 := t) (z := z) (P := P) (by decide) (by omega) r4 hP1 (by omega) hp hq hpq (per := v_x_setting_periods) (qui := v_x_setting_quiets) (nph := v_x_now_phases) (tph := tp2) (nT := v_t_now_isThere) (np := v_t_now_period) (nph2 := v_t_now_phase) (nq := v_t_now_quiet) C2 hg hs C.2.2.2.2 htr htc ⟨va_cpy_at hp, va_cpy_at hp⟩ (fun i hi => by
              rcases hi with w | w
              · subst w; exact ⟨sp, cp, (ma_R_ph hR hp).trans hsp0, hcp, hsp, hcp2⟩
              · subst w; exact ⟨sq, cq, (ma_R_ph hR hq).trans hsq0, hcq, hsq, hcq2⟩) (hqb q hq) E2 (fun i hi => by rw [hT i hi]; split; exact Or.inr rfl; exact Or.inl rfl) (fun i hi => by
              rcases hi with w | w
              · subst w; exact ⟨((hf i hp).2 hbp).1, (hrm.1 i hp).trans (ma_R_ph hR hp).symm, ((hf i hp).2 hbp).2⟩
              · subst w; exact ⟨((hf i hq).2 hbq).1, (hrm.1 i hq).trans (ma_R_ph hR hq).symm, ((hf i hq).2 hbq).2⟩) v_x_trial_leadTicks v_x_trial_cycleTicks v_x_trial_behind_phases v_x_trial_behind_coming v_x_trial_front_phases v_x_trial_front_coming v_x_trial_flashed v_t_start_isThere v_t_start_period v_t_start_phase v_t_start_quiet v_t_start_waiting v_t_now_waiting v_t_lead v_t_slow_isThere v_t_slow_period v_t_slow_phase v_t_slow_quiet v_t_slow_waiting v_t_fast_isThere v_t_fast_period v_t_fast_phase v_t_fast_quiet v_t_fast_waiting v_t_fast_flashes v_t_slow_flashes v_t_beats v_t_areApart
            rcases mc with ⟨k0, rfl⟩ | ⟨k1, kv, k2⟩
            ·
              have HC : ∃ o1, f_L_locks 6000 v_x_setting_mask (nI nl) v_x_pair_beaters v_x_pair_mask v_x_pair_links v_x_pair_places v_x_setting_periods v_x_pair_periods v_x_setting_quiets v_x_pair_quiets v_x_setting_answers v_x_pair_answers v_x_setting_froms v_x_setting_tos v_x_setting_delays v_x_setting_strengths v_x_pair_froms v_x_pair_tos v_x_pair_delays v_x_pair_strengths v_x_trialStart_row v_x_trialStart_phases v_x_trialStart_coming v_x_now_phases v_x_trial_leadTicks v_x_trial_cycleTicks v_x_trial_behind_row v_x_trial_behind_phases v_x_trial_behind_coming v_x_trial_front_row v_x_trial_front_phases v_x_trial_front_coming v_x_trial_flashed v_out (nI p) (nI q) (nI P) = some o1 ∧ o1.1 = 4 := by
                apply Exists.intro
                apply And.intro
                · unfold f_L_locks f_X5_locks
                  rw [p1, Option.bind_some, Sum.elim_inr, p2, Option.bind_some, Sum.elim_inr, ot, Option.bind_some, Sum.elim_inr, e1, Option.bind_some, Sum.elim_inr, q1, Option.bind_some, Sum.elim_inr, s1, Option.bind_some]
                  dsimp only
                  rw [m1, Option.bind_some, if_pos k0]
                  rfl
                · rfl
              have HR : ∃ o2, f_X8_locks 6000 (lN z) v_t_lead v_t_cycle (nI t) v_t_now_isThere v_t_start_time v_t_start_isThere v_t_now_period v_t_start_period v_t_now_phase v_t_start_phase v_t_now_quiet v_t_start_quiet v_t_start_waiting v_t_now_waiting v_t_slow_time v_t_slow_isThere v_t_slow_period v_t_slow_phase v_t_slow_quiet v_t_slow_waiting v_t_fast_time v_t_fast_isThere v_t_fast_period v_t_fast_phase v_t_fast_quiet v_t_fast_waiting v_t_fast_flashes v_t_answers (nI nl) cl fr tt de st v_t_slow_flashes v_t_beats v_t_areApart (nI p) (nI q) (nI P) = some o2 ∧ o2.2.1 = 4 ∧ o2.2.2.1 = lN z := by
                apply Exists.intro
                apply And.intro
                · unfold f_X8_locks
                  rw [e2, Option.bind_some, q2, Option.bind_some, if_pos rfl, m2, Option.bind_some, if_pos rfl, if_neg (show ¬ (-1 : Int32) = (1 : Int32) by decide)]
                  skip
                · exact ⟨rfl, rfl⟩
              obtain ⟨o1, a1, a2⟩ := HC
              obtain ⟨o2, b1, b2, b3⟩ := HR
              exact ⟨6000, 6000, o1, o2, a1, b1, ⟨by rw [b2, a2], fun q => absurd (a2.symm.trans q) (by decide)⟩, ⟨h, t, z, fr0, to0, de0, S, ⟨by omega, by omega, r3, r4⟩, hx, ⟨rfl, rfl, rfl, rfl, rfl, rfl, rfl, b3⟩, C, E, hf, hinv, hR, hrm, hA, hc, hl, htr, hmk, hsw, hqb⟩⟩
            ·
              have HC : ∃ o1, f_L_locks 6000 v_x_setting_mask (nI nl) v_x_pair_beaters v_x_pair_mask v_x_pair_links v_x_pair_places v_x_setting_periods v_x_pair_periods v_x_setting_quiets v_x_pair_quiets v_x_setting_answers v_x_pair_answers v_x_setting_froms v_x_setting_tos v_x_setting_delays v_x_setting_strengths v_x_pair_froms v_x_pair_tos v_x_pair_delays v_x_pair_strengths v_x_trialStart_row v_x_trialStart_phases v_x_trialStart_coming v_x_now_phases v_x_trial_leadTicks v_x_trial_cycleTicks v_x_trial_behind_row v_x_trial_behind_phases v_x_trial_behind_coming v_x_trial_front_row v_x_trial_front_phases v_x_trial_front_coming v_x_trial_flashed v_out (nI p) (nI q) (nI P) = some o1 ∧ o1.1 = 0 ∧ o1.2.2.2.2.2.2.2.2.2.2.2.2.2.2.2.2.2.2.2.2.2.2.2 0 = if v = 0 then 0 else 1 := by
                rcases kv with rfl | rfl
                · apply Exists.intro
                  apply And.intro
                  · unfold f_L_locks f_X5_locks
                    rw [p1, Option.bind_some, Sum.elim_inr, p2, Option.bind_some, Sum.elim_inr, ot, Option.bind_some, Sum.elim_inr, e1, Option.bind_some, Sum.elim_inr, q1, Option.bind_some, Sum.elim_inr, s1, Option.bind_some]
                    dsimp only
                    rw [m1, Option.bind_some, if_neg (show ¬ o.1 = 0 by rw [k1]; decide)]
                    dsimp only
                    rw [k2, Option.bind_some]
                    rfl
                  · exact ⟨rfl, rfl⟩
                · apply Exists.intro
                  apply And.intro
                  · unfold f_L_locks f_X5_locks
                    rw [p1, Option.bind_some, Sum.elim_inr, p2, Option.bind_some, Sum.elim_inr, ot, Option.bind_some, Sum.elim_inr, e1, Option.bind_some, Sum.elim_inr, q1, Option.bind_some, Sum.elim_inr, s1, Option.bind_some]
                    dsimp only
                    rw [m1, Option.bind_some, if_neg (show ¬ o.1 = 0 by rw [k1]; decide)]
                    dsimp only
                    rw [k2, Option.bind_some]
                    rfl
                  · exact ⟨rfl, rfl⟩
              have HR : ∃ o2, f_X8_locks 6000 (lN z) v_t_lead v_t_cycle (nI t) v_t_now_isThere v_t_start_time v_t_start_isThere v_t_now_period v_t_start_period v_t_now_phase v_t_start_phase v_t_now_quiet v_t_start_quiet v_t_start_waiting v_t_now_waiting v_t_slow_time v_t_slow_isThere v_t_slow_period v_t_slow_phase v_t_slow_quiet v_t_slow_waiting v_t_fast_time v_t_fast_isThere v_t_fast_period v_t_fast_phase v_t_fast_quiet v_t_fast_waiting v_t_fast_flashes v_t_answers (nI nl) cl fr tt de st v_t_slow_flashes v_t_beats v_t_areApart (nI p) (nI q) (nI P) = some o2 ∧ o2.2.1 = 0 ∧ o2.2.2.1 = lN z ∧ o2.1 = v := by
                rcases kv with rfl | rfl
                · apply Exists.intro
                  apply And.intro
                  · unfold f_X8_locks
                    rw [e2, Option.bind_some, q2, Option.bind_some, if_pos rfl, m2, Option.bind_some, if_neg (show ¬ (0 : Int32) = (-1 : Int32) by decide), if_neg (show ¬ (0 : Int32) = (1 : Int32) by decide)]
                  · exact ⟨rfl, rfl, rfl⟩
                · apply Exists.intro
                  apply And.intro
                  · unfold f_X8_locks
                    rw [e2, Option.bind_some, q2, Option.bind_some, if_pos rfl, m2, Option.bind_some, if_neg (show ¬ (1 : Int32) = (-1 : Int32) by decide), if_pos rfl]
                  · exact ⟨rfl, rfl, rfl⟩
              obtain ⟨o1, a1, a2, a3⟩ := HC
              obtain ⟨o2, b1, b2, b3, b4⟩ := HR
              exact ⟨6000, 6000, o1, o2, a1, b1, ⟨by rw [b2, a2], fun q => by rw [a3, b4]⟩, ⟨h, t, z, fr0, to0, de0, S, ⟨by omega, by omega, r3, r4⟩, hx, ⟨rfl, rfl, rfl, rfl, rfl, rfl, rfl, b3⟩, C, E, hf, hinv, hR, hrm, hA, hc, hl, htr, hmk, hsw, hqb⟩⟩
    · rw [if_neg c2] at p2 i2
      have nt : ∀ v, f_X8_noTwo 6000 v_t_now_isThere x1 x2 v = some (1, 1) := fun v => by unfold f_X8_noTwo; rw [i1, Option.bind_some, if_neg n1, i2, Option.bind_some, if_pos rfl]
      have HC : ∃ o1, f_L_locks 6000 v_x_setting_mask (nI nl) v_x_pair_beaters v_x_pair_mask v_x_pair_links v_x_pair_places v_x_setting_periods v_x_pair_periods v_x_setting_quiets v_x_pair_quiets v_x_setting_answers v_x_pair_answers v_x_setting_froms v_x_setting_tos v_x_setting_delays v_x_setting_strengths v_x_pair_froms v_x_pair_tos v_x_pair_delays v_x_pair_strengths v_x_trialStart_row v_x_trialStart_phases v_x_trialStart_coming v_x_now_phases v_x_trial_leadTicks v_x_trial_cycleTicks v_x_trial_behind_row v_x_trial_behind_phases v_x_trial_behind_coming v_x_trial_front_row v_x_trial_front_phases v_x_trial_front_coming v_x_trial_flashed v_out x1 x2 x3 = some o1 ∧ o1.1 = 1 := by
        apply Exists.intro
        apply And.intro
        · unfold f_L_locks f_X5_locks
          rw [p1, Option.bind_some, Sum.elim_inr, p2]
          rfl
        · rfl
      have HR : ∃ o2, f_X8_locks 6000 (lN z) v_t_lead v_t_cycle (nI t) v_t_now_isThere v_t_start_time v_t_start_isThere v_t_now_period v_t_start_period v_t_now_phase v_t_start_phase v_t_now_quiet v_t_start_quiet v_t_start_waiting v_t_now_waiting v_t_slow_time v_t_slow_isThere v_t_slow_period v_t_slow_phase v_t_slow_quiet v_t_slow_waiting v_t_fast_time v_t_fast_isThere v_t_fast_period v_t_fast_phase v_t_fast_quiet v_t_fast_waiting v_t_fast_flashes v_t_answers (nI nl) cl fr tt de st v_t_slow_flashes v_t_beats v_t_areApart x1 x2 x3 = some o2 ∧ o2.2.1 = 1 ∧ o2.2.2.1 = lN z := by
        apply Exists.intro
        apply And.intro
        · unfold f_X8_locks
          rw [hv3, Option.bind_some, nt]
          rfl
        · exact ⟨rfl, rfl⟩
      obtain ⟨o1, a1, a2⟩ := HC
      obtain ⟨o2, b1, b2, b3⟩ := HR
      exact ⟨6000, 6000, o1, o2, a1, b1, ⟨by rw [b2, a2], fun q => absurd (a2.symm.trans q) (by decide)⟩, ⟨h, t, z, fr0, to0, de0, S, ⟨by omega, by omega, r3, r4⟩, hx, ⟨rfl, rfl, rfl, rfl, rfl, rfl, rfl, b3⟩, C, E, hf, hinv, hR, hrm, hA, hc, hl, htr, hmk, hsw, hqb⟩⟩
  · rw [if_neg c1] at p1 i1
    have nt : ∀ v, f_X8_noTwo 6000 v_t_now_isThere x1 x2 v = some (1, 1) := fun v => by unfold f_X8_noTwo; rw [i1, Option.bind_some, if_pos rfl]
    have HC : ∃ o1, f_L_locks 6000 v_x_setting_mask (nI nl) v_x_pair_beaters v_x_pair_mask v_x_pair_links v_x_pair_places v_x_setting_periods v_x_pair_periods v_x_setting_quiets v_x_pair_quiets v_x_setting_answers v_x_pair_answers v_x_setting_froms v_x_setting_tos v_x_setting_delays v_x_setting_strengths v_x_pair_froms v_x_pair_tos v_x_pair_delays v_x_pair_strengths v_x_trialStart_row v_x_trialStart_phases v_x_trialStart_coming v_x_now_phases v_x_trial_leadTicks v_x_trial_cycleTicks v_x_trial_behind_row v_x_trial_behind_phases v_x_trial_behind_coming v_x_trial_front_row v_x_trial_front_phases v_x_trial_front_coming v_x_trial_flashed v_out x1 x2 x3 = some o1 ∧ o1.1 = 1 := by
      apply Exists.intro
      apply And.intro
      · unfold f_L_locks f_X5_locks
        rw [p1]
        rfl
      · rfl
    have HR : ∃ o2, f_X8_locks 6000 (lN z) v_t_lead v_t_cycle (nI t) v_t_now_isThere v_t_start_time v_t_start_isThere v_t_now_period v_t_start_period v_t_now_phase v_t_start_phase v_t_now_quiet v_t_start_quiet v_t_start_waiting v_t_now_waiting v_t_slow_time v_t_slow_isThere v_t_slow_period v_t_slow_phase v_t_slow_quiet v_t_slow_waiting v_t_fast_time v_t_fast_isThere v_t_fast_period v_t_fast_phase v_t_fast_quiet v_t_fast_waiting v_t_fast_flashes v_t_answers (nI nl) cl fr tt de st v_t_slow_flashes v_t_beats v_t_areApart x1 x2 x3 = some o2 ∧ o2.2.1 = 1 ∧ o2.2.2.1 = lN z := by
      apply Exists.intro
      apply And.intro
      · unfold f_X8_locks
        rw [hv3, Option.bind_some, nt]
        rfl
      · exact ⟨rfl, rfl⟩
    obtain ⟨o1, a1, a2⟩ := HC
    obtain ⟨o2, b1, b2, b3⟩ := HR
    exact ⟨6000, 6000, o1, o2, a1, b1, ⟨by rw [b2, a2], fun q => absurd (a2.symm.trans q) (by decide)⟩, ⟨h, t, z, fr0, to0, de0, S, ⟨by omega, by omega, r3, r4⟩, hx, ⟨rfl, rfl, rfl, rfl, rfl, rfl, rfl, b3⟩, C, E, hf, hinv, hR, hrm, hA, hc, hl, htr, hmk, hsw, hqb⟩⟩

/-! rows of mine: answers that are true or false -/
theorem lw_bool {a : Int64} {v : Int32} (h : a = 0 ∨ a = 1) (e : a = v.toInt64) : a = if v = 0 then 0 else 1 := by
  have hv : v = v.toInt64.toInt32 := by simp
  rcases h with q | q
  · have : v = 0 := by rw [hv, ← e, q]; rfl
    rw [if_pos this]; exact q
  · have : v = 1 := by rw [hv, ← e, q]; rfl
    rw [if_neg (by rw [this]; decide)]; exact q

theorem lb_beater {N : Nat} {v_x_aheadKnown : Int32} {v_x_setting_beaters : Int32} {v_x_setting_mask : Int32} {v_x_setting_periods : Nat → Int32} {v_x_setting_quiets : Nat → Int32} {v_x_setting_answers : Nat → Int32} {v_x_setting_places : Nat → Int32} {v_x_now_phases : Nat → Int32} {v_x_flashCounts : Nat → Int32} {v_x_lastFlashes : Nat → Int32} {v_out : Nat → Int64} {x1 : Int32} {x2 : Int32} {x3 : Int32} {x4 : Int32} {o : Int32 × Int32 × Int32 × Int32 × (Nat → Int32) × (Nat → Int32) × (Nat → Int32) × (Nat → Int32) × (Nat → Int32) × (Nat → Int32) × (Nat → Int32) × (Nat → Int64)} (h : f_L_beater N v_x_aheadKnown v_x_setting_beaters v_x_setting_mask v_x_setting_periods v_x_setting_quiets v_x_setting_answers v_x_setting_places v_x_now_phases v_x_flashCounts v_x_lastFlashes v_out x1 x2 x3 x4 = some o) (hk : o.1 = 0) : o.2.2.2.2.2.2.2.2.2.2.2 0 = 0 ∨ o.2.2.2.2.2.2.2.2.2.2.2 0 = 1 := by
  unfold f_L_beater at h
  obtain ⟨s, -, h⟩ := zk_bind h
  cases s with
  | inl u =>
    replace h := zk_inl.symm.trans h
    repeat' split at h
    all_goals first | (cases h; done) | (cases h; exact absurd (show (1 : Int32) = 0 from hk) (by decide)) | (cases h; exact absurd (show (2 : Int32) = 0 from hk) (by decide)) | (cases h; exact absurd (show (3 : Int32) = 0 from hk) (by decide)) | (cases h; exact absurd (show (4 : Int32) = 0 from hk) (by decide))
  | inr t =>
    replace h := zk_inr.symm.trans h
    split at h <;> cases h
    · exact Or.inl rfl
    · exact Or.inr rfl

theorem lb_swing {N : Nat} {v_x_swings_there : Nat → Int32} {v_x_swings_angles : Nat → UInt64} {v_x_swings_speeds : Nat → UInt64} {v_out : Nat → Int64} {x1 : Int32} {x2 : Int32} {o : Int32 × (Nat → Int32) × (Nat → UInt64) × (Nat → UInt64) × (Nat → Int64)} (h : f_L_swing N v_x_swings_there v_x_swings_angles v_x_swings_speeds v_out x1 x2 = some o) (hk : o.1 = 0) : o.2.2.2.2 0 = 0 ∨ o.2.2.2.2 0 = 1 := by
  unfold f_L_swing at h
  obtain ⟨s, -, h⟩ := zk_bind h
  cases s with
  | inl u =>
    replace h := zk_inl.symm.trans h
    repeat' split at h
    all_goals first | (cases h; done) | (cases h; exact absurd (show (1 : Int32) = 0 from hk) (by decide)) | (cases h; exact absurd (show (2 : Int32) = 0 from hk) (by decide)) | (cases h; exact absurd (show (3 : Int32) = 0 from hk) (by decide)) | (cases h; exact absurd (show (4 : Int32) = 0 from hk) (by decide))
  | inr t =>
    replace h := zk_inr.symm.trans h
    split at h <;> cases h
    · exact Or.inl rfl
    · exact Or.inr rfl

theorem lb_inStep {N : Nat} {v_x_noiseShare : Int32} {v_x_aheadKnown : Int32} {v_x_aheadEnds : Int32} {v_x_setting_beaters : Int32} {v_x_setting_mask : Int32} {v_x_setting_links : Int32} {v_x_ahead_leadTicks : Int32} {v_x_ahead_cycleTicks : Int32} {v_x_now_row : Int32} {v_x_ahead_behind_row : Int32} {v_x_now_phases : Nat → Int32} {v_x_ahead_behind_phases : Nat → Int32} {v_x_now_coming : Nat → Int32} {v_x_ahead_behind_coming : Nat → Int32} {v_x_ahead_front_row : Int32} {v_x_ahead_front_phases : Nat → Int32} {v_x_ahead_front_coming : Nat → Int32} {v_x_setting_places : Nat → Int32} {v_x_setting_periods : Nat → Int32} {v_x_setting_quiets : Nat → Int32} {v_x_setting_answers : Nat → Int32} {v_x_setting_froms : Nat → Int32} {v_x_setting_delays : Nat → Int32} {v_x_setting_tos : Nat → Int32} {v_x_setting_strengths : Nat → Int32} {v_x_ahead_flashed : Nat → Int32} {v_out : Nat → Int64} {x1 : Int32} {x2 : Int32} {o : Int32 × Int32 × Int32 × Int32 × Int32 × Int32 × (Nat → Int32) × (Nat → Int32) × Int32 × (Nat → Int32) × (Nat → Int32) × (Nat → Int32) × (Nat → Int64)} (h : f_L_inStep N v_x_noiseShare v_x_aheadKnown v_x_aheadEnds v_x_setting_beaters v_x_setting_mask v_x_setting_links v_x_ahead_leadTicks v_x_ahead_cycleTicks v_x_now_row v_x_ahead_behind_row v_x_now_phases v_x_ahead_behind_phases v_x_now_coming v_x_ahead_behind_coming v_x_ahead_front_row v_x_ahead_front_phases v_x_ahead_front_coming v_x_setting_places v_x_setting_periods v_x_setting_quiets v_x_setting_answers v_x_setting_froms v_x_setting_delays v_x_setting_tos v_x_setting_strengths v_x_ahead_flashed v_out x1 x2 = some o) (hk : o.1 = 0) : o.2.2.2.2.2.2.2.2.2.2.2.2 0 = 0 ∨ o.2.2.2.2.2.2.2.2.2.2.2.2 0 = 1 := by
  unfold f_L_inStep at h
  obtain ⟨s, -, h⟩ := zk_bind h
  cases s with
  | inl u =>
    replace h := zk_inl.symm.trans h
    repeat' split at h
    all_goals first | (cases h; done) | (cases h; exact absurd (show (1 : Int32) = 0 from hk) (by decide)) | (cases h; exact absurd (show (2 : Int32) = 0 from hk) (by decide)) | (cases h; exact absurd (show (3 : Int32) = 0 from hk) (by decide)) | (cases h; exact absurd (show (4 : Int32) = 0 from hk) (by decide))
  | inr t =>
    replace h := zk_inr.symm.trans h
    split at h <;> cases h
    · exact Or.inl rfl
    · exact Or.inr rfl

theorem lb_locks {N : Nat} {v_x_setting_mask : Int32} {v_x_setting_links : Int32} {v_x_pair_beaters : Int32} {v_x_pair_mask : Int32} {v_x_pair_links : Int32} {v_x_pair_places : Nat → Int32} {v_x_setting_periods : Nat → Int32} {v_x_pair_periods : Nat → Int32} {v_x_setting_quiets : Nat → Int32} {v_x_pair_quiets : Nat → Int32} {v_x_setting_answers : Nat → Int32} {v_x_pair_answers : Nat → Int32} {v_x_setting_froms : Nat → Int32} {v_x_setting_tos : Nat → Int32} {v_x_setting_delays : Nat → Int32} {v_x_setting_strengths : Nat → Int32} {v_x_pair_froms : Nat → Int32} {v_x_pair_tos : Nat → Int32} {v_x_pair_delays : Nat → Int32} {v_x_pair_strengths : Nat → Int32} {v_x_trialStart_row : Int32} {v_x_trialStart_phases : Nat → Int32} {v_x_trialStart_coming : Nat → Int32} {v_x_now_phases : Nat → Int32} {v_x_trial_leadTicks : Int32} {v_x_trial_cycleTicks : Int32} {v_x_trial_behind_row : Int32} {v_x_trial_behind_phases : Nat → Int32} {v_x_trial_behind_coming : Nat → Int32} {v_x_trial_front_row : Int32} {v_x_trial_front_phases : Nat → Int32} {v_x_trial_front_coming : Nat → Int32} {v_x_trial_flashed : Nat → Int32} {v_out : Nat → Int64} {x1 : Int32} {x2 : Int32} {x3 : Int32} {o : Int32 × Int32 × Int32 × Int32 × (Nat → Int32) × (Nat → Int32) × (Nat → Int32) × (Nat → Int32) × (Nat → Int32) × (Nat → Int32) × (Nat → Int32) × (Nat → Int32) × (Nat → Int32) × (Nat → Int32) × Int32 × Int32 × Int32 × (Nat → Int32) × (Nat → Int32) × Int32 × (Nat → Int32) × (Nat → Int32) × (Nat → Int32) × (Nat → Int64)} (h : f_L_locks N v_x_setting_mask v_x_setting_links v_x_pair_beaters v_x_pair_mask v_x_pair_links v_x_pair_places v_x_setting_periods v_x_pair_periods v_x_setting_quiets v_x_pair_quiets v_x_setting_answers v_x_pair_answers v_x_setting_froms v_x_setting_tos v_x_setting_delays v_x_setting_strengths v_x_pair_froms v_x_pair_tos v_x_pair_delays v_x_pair_strengths v_x_trialStart_row v_x_trialStart_phases v_x_trialStart_coming v_x_now_phases v_x_trial_leadTicks v_x_trial_cycleTicks v_x_trial_behind_row v_x_trial_behind_phases v_x_trial_behind_coming v_x_trial_front_row v_x_trial_front_phases v_x_trial_front_coming v_x_trial_flashed v_out x1 x2 x3 = some o) (hk : o.1 = 0) : o.2.2.2.2.2.2.2.2.2.2.2.2.2.2.2.2.2.2.2.2.2.2.2 0 = 0 ∨ o.2.2.2.2.2.2.2.2.2.2.2.2.2.2.2.2.2.2.2.2.2.2.2 0 = 1 := by
  unfold f_L_locks at h
  obtain ⟨s, -, h⟩ := zk_bind h
  cases s with
  | inl u =>
    replace h := zk_inl.symm.trans h
    repeat' split at h
    all_goals first | (cases h; done) | (cases h; exact absurd (show (1 : Int32) = 0 from hk) (by decide)) | (cases h; exact absurd (show (2 : Int32) = 0 from hk) (by decide)) | (cases h; exact absurd (show (3 : Int32) = 0 from hk) (by decide)) | (cases h; exact absurd (show (4 : Int32) = 0 from hk) (by decide))
  | inr t =>
    replace h := zk_inr.symm.trans h
    split at h <;> cases h
    · exact Or.inl rfl
    · exact Or.inr rfl

set_option maxHeartbeats 2000000 in
theorem lr_beater : lw_S_beater ma_Rel := by
  intro j hj v_x_ticksPassed v_x_noiseShare v_x_lot v_x_aheadKnown v_x_aheadEnds v_x_swings_stiffness v_x_swings_pull v_x_swings_there v_x_swings_angles v_x_setting_beaters v_x_setting_mask v_x_setting_links v_x_setting_answers v_x_setting_periods v_x_setting_quiets v_x_setting_places v_x_now_row v_x_now_phases v_x_flashCounts v_x_lastFlashes v_x_ahead_leadTicks v_x_ahead_cycleTicks v_x_ahead_behind_row v_x_ahead_behind_phases v_x_now_coming v_x_ahead_behind_coming v_x_ahead_front_row v_x_ahead_front_phases v_x_ahead_front_coming v_x_setting_froms v_x_setting_delays v_x_setting_tos v_x_setting_strengths v_x_ahead_flashed v_x_swings_speeds v_x_marks_count v_x_marks_ticks v_x_ahead_groupNumbers v_x_trial_leadTicks v_x_trial_cycleTicks v_x_trial_behind_row v_x_trial_behind_phases v_x_trial_behind_coming v_x_trial_front_row v_x_trial_front_phases v_x_trial_front_coming v_x_trial_flashed v_x_trial_groupNumbers v_x_trialStart_row v_x_trialStart_phases v_x_trialStart_coming v_x_pair_beaters v_x_pair_mask v_x_pair_links v_x_pair_places v_x_pair_periods v_x_pair_quiets v_x_pair_answers v_x_pair_froms v_x_pair_tos v_x_pair_delays v_x_pair_strengths v_t_thrown v_t_noise v_t_z v_t_lead v_t_cycle v_t_stiffness v_t_pull v_t_swings v_t_angles v_t_now_time v_t_now_isThere v_t_answers v_t_now_period v_t_now_phase v_t_now_quiet v_t_flashed v_t_last v_t_start_time v_t_start_isThere v_t_start_period v_t_start_phase v_t_start_quiet v_t_start_waiting v_t_now_waiting v_t_slow_time v_t_slow_isThere v_t_slow_period v_t_slow_phase v_t_slow_quiet v_t_slow_waiting v_t_fast_time v_t_fast_isThere v_t_fast_period v_t_fast_phase v_t_fast_quiet v_t_fast_waiting v_t_fast_flashes v_t_slow_flashes v_t_beats v_t_areApart v_t_speeds v_t_now_flashes nl fr tt de st nk vv hR v_out v_outD ml mk cl hl1 hl2 x1 x2 x3 x4
  obtain ⟨h, t, z, fr0, to0, de0, S, ⟨r1, r2, r3, r4⟩, hx, ⟨rfl, rfl, rfl, rfl, rfl, rfl, rfl, rfl⟩, C, E, hf, hinv, hR, hrm, hA, hc, hl, htr, hmk, hsw, hqb⟩ := hR
  have E' : ma_E v_x_setting_mask nl cl v_t_answers (fun p q => v_x_setting_answers (p * 4 + q)) fr tt de st fr0 to0 de0 v_x_setting_strengths := ⟨E.1, hl1, E.2.2⟩
  obtain ⟨k, v, out9, kn9, x9, per9, qui9, ans9, pl9, ph9, c9, l9, nT9, np9, nph9, nq9, rc9, rl9, anR9, S9, hkn, hx2, C2, E2, hinv2, hf2, hR2, hrm2, hc2, hl2, h1, h2, ho⟩ := ca_beater (N := 6000) (n := nl) (cap := cl) (t := t) (hN := (by decide)) (x := v_x_setting_mask) (hx := hx) (places := v_x_setting_places) (per := v_x_setting_periods) (qui := v_x_setting_quiets) (ans := v_x_setting_answers) (nT := v_t_now_isThere) (np := v_t_now_period) (nph := v_t_now_phase) (nq := v_t_now_quiet) (ph := v_x_now_phases) (c := v_x_flashCounts) (l := v_x_lastFlashes) (rc := v_t_flashed) (rl := v_t_last) (anR := v_t_answers) (fr := fr0) (to := to0) (de := de0) (S := S) (C := C) (E := E') (hinv := hinv) (hf := hf) (hR := hR) (hrm := hrm) (hc := hc) (hl := hl) (kn := v_x_aheadKnown) (out := v_out) (v1 := x1) (v2 := x2) (v3 := x3) (v4 := x4)
  refine ⟨6000, 6000, _, _, h1, h2, ⟨rfl, fun hk => lw_bool (lb_beater h1 hk) (ho hk)⟩, h, t, z, fr0, to0, de0, S9, ⟨by omega, by omega, r3, r4⟩, hx2, ⟨rfl, rfl, rfl, rfl, rfl, rfl, rfl, rfl⟩, C2, ⟨E2.1, Nat.le_refl _, E2.2.2⟩, hf2, hinv2, hR2, hrm2, ?_, hc2, hl2, htr, hmk, hsw, (qb_beater hqb h1)⟩
  rcases hkn with q | ⟨rfl, rfl, rfl, rfl, rfl, rfl⟩
  · exact Or.inl q
  · exact hA

set_option maxHeartbeats 2000000 in
theorem lr_inStep : lw_S_inStep ma_Rel := by
  intro j hj v_x_ticksPassed v_x_noiseShare v_x_lot v_x_aheadKnown v_x_aheadEnds v_x_swings_stiffness v_x_swings_pull v_x_swings_there v_x_swings_angles v_x_setting_beaters v_x_setting_mask v_x_setting_links v_x_setting_answers v_x_setting_periods v_x_setting_quiets v_x_setting_places v_x_now_row v_x_now_phases v_x_flashCounts v_x_lastFlashes v_x_ahead_leadTicks v_x_ahead_cycleTicks v_x_ahead_behind_row v_x_ahead_behind_phases v_x_now_coming v_x_ahead_behind_coming v_x_ahead_front_row v_x_ahead_front_phases v_x_ahead_front_coming v_x_setting_froms v_x_setting_delays v_x_setting_tos v_x_setting_strengths v_x_ahead_flashed v_x_swings_speeds v_x_marks_count v_x_marks_ticks v_x_ahead_groupNumbers v_x_trial_leadTicks v_x_trial_cycleTicks v_x_trial_behind_row v_x_trial_behind_phases v_x_trial_behind_coming v_x_trial_front_row v_x_trial_front_phases v_x_trial_front_coming v_x_trial_flashed v_x_trial_groupNumbers v_x_trialStart_row v_x_trialStart_phases v_x_trialStart_coming v_x_pair_beaters v_x_pair_mask v_x_pair_links v_x_pair_places v_x_pair_periods v_x_pair_quiets v_x_pair_answers v_x_pair_froms v_x_pair_tos v_x_pair_delays v_x_pair_strengths v_t_thrown v_t_noise v_t_z v_t_lead v_t_cycle v_t_stiffness v_t_pull v_t_swings v_t_angles v_t_now_time v_t_now_isThere v_t_answers v_t_now_period v_t_now_phase v_t_now_quiet v_t_flashed v_t_last v_t_start_time v_t_start_isThere v_t_start_period v_t_start_phase v_t_start_quiet v_t_start_waiting v_t_now_waiting v_t_slow_time v_t_slow_isThere v_t_slow_period v_t_slow_phase v_t_slow_quiet v_t_slow_waiting v_t_fast_time v_t_fast_isThere v_t_fast_period v_t_fast_phase v_t_fast_quiet v_t_fast_waiting v_t_fast_flashes v_t_slow_flashes v_t_beats v_t_areApart v_t_speeds v_t_now_flashes nl fr tt de st nk vv hR v_out v_outD ml mk cl hl1 hl2 x1 x2
  obtain ⟨h, t, z, fr0, to0, de0, S, ⟨r1, r2, r3, r4⟩, hx, ⟨rfl, rfl, rfl, rfl, rfl, rfl, rfl, rfl⟩, C, E, hf, hinv, hR, hrm, hA, hc, hl, htr, hmk, hsw, hqb⟩ := hR
  have E' : ma_E v_x_setting_mask nl cl v_t_answers (fun p q => v_x_setting_answers (p * 4 + q)) fr tt de st fr0 to0 de0 v_x_setting_strengths := ⟨E.1, hl1, E.2.2⟩
  obtain ⟨k, v, out9, kn9, en9, lt9, ct9, br9, bp9, bc9, fr9, fp9, fc9, fl9, lead, cyc, st9, aT, ap, aph, aq, aw, sl, sT, sp, sph, sq, sw, ft, fT, fp2, fph, fq, fw, ff, sf9, B9, A9, hA2, h1, h2, ho⟩ := ca_inStep (N := 6000) (n := nl) (cap := cl) (h := h) (t0 := t) (z := z) (hN := (by decide)) (hh := r3) (ht := (by omega)) (hz := r4) (x := v_x_setting_mask) (places := v_x_setting_places) (per := v_x_setting_periods) (qui := v_x_setting_quiets) (ans := v_x_setting_answers) (froms := v_x_setting_froms) (tos := v_x_setting_tos) (delays := v_x_setting_delays) (st := v_x_setting_strengths) (fr := fr0) (to := to0) (de := de0) (S := S) (C := C) (hinv := hinv) (hX := rfl) (row := v_x_now_row) (ph := v_x_now_phases) (co := v_x_now_coming) (hR := hR) (kn := v_x_aheadKnown) (en := v_x_aheadEnds) (lt := v_x_ahead_leadTicks) (ct := v_x_ahead_cycleTicks) (fl := v_x_ahead_flashed) (hA := hA) (anR := v_t_answers) (fromsR := fr) (tosR := tt) (delaysR := de) (strsR := st) (E := E') (nT := v_t_now_isThere) (np := v_t_now_period) (nph := v_t_now_phase) (nq := v_t_now_quiet) (nw := v_t_now_waiting) (hf := hf) (hrm := hrm) (br := v_x_ahead_behind_row) (bp := v_x_ahead_behind_phases) (bc := v_x_ahead_behind_coming) (frw := v_x_ahead_front_row) (fp := v_x_ahead_front_phases) (fc := v_x_ahead_front_coming) (a2 := v_t_lead) (a3 := v_t_cycle) (a4 := v_t_start_time) (b2 := v_t_start_isThere) (b4 := v_t_start_period) (b6 := v_t_start_phase) (b8 := v_t_start_quiet) (b9 := v_t_start_waiting) (a6 := v_t_slow_time) (c1 := v_t_slow_isThere) (c2 := v_t_slow_period) (c3 := v_t_slow_phase) (c4 := v_t_slow_quiet) (c5 := v_t_slow_waiting) (a7 := v_t_fast_time) (d1 := v_t_fast_isThere) (d2 := v_t_fast_period) (d3 := v_t_fast_phase) (d4 := v_t_fast_quiet) (d5 := v_t_fast_waiting) (d6 := v_t_fast_flashes) (sf := v_t_slow_flashes) (B := v_t_beats) (A := v_t_areApart) (out := v_out) (v1 := x1) (v2 := x2)
  refine ⟨6000, 6000, _, _, h1, h2, ⟨rfl, fun hk => lw_bool (lb_inStep h1 hk) (ho hk)⟩, h, t, z, fr0, to0, de0, S, ⟨by omega, by omega, r3, r4⟩, hx, ⟨rfl, rfl, rfl, rfl, rfl, rfl, rfl, rfl⟩, C, E, hf, hinv, hR, hrm, ?_, hc, hl, htr, hmk, hsw, hqb⟩
  exact hA2

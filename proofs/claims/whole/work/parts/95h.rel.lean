/-! rows of mine: sway keeps the relation -/
theorem rs_self (x : UInt32) : rs_al x x := by
  unfold rs_al alike32
  simp
theorem rs_sum_ex (sw : Nat → Int32) (a : Nat → UInt32) : ∀ (j i : Nat) (s : UInt32), ∃ s2, rs_sum sw a j i s s2 := by
  intro j
  induction j with
  | zero => intro i s; exact ⟨s, rfl⟩
  | succ j ih =>
    intro i s
    by_cases h : sw i = 0
    · obtain ⟨s2, h2⟩ := ih (i + 1) s
      exact ⟨s2, s, fun _ => rfl, fun q => absurd h q, h2⟩
    · obtain ⟨s2, h2⟩ := ih (i + 1) (FP.fadd s (a i))
      exact ⟨s2, FP.fadd s (a i), fun q => absurd q h, fun _ => rs_self _, h2⟩
theorem rs_sp_ex (sw : Nat → Int32) (a : Nat → UInt32) (pl st : Int32) (mean : UInt32) : ∀ (j i : Nat) (sp : Nat → UInt32), ∃ sp2, rs_sp sw a pl st mean j i sp sp2 := by
  intro j
  induction j with
  | zero => intro i s; exact ⟨s, rfl⟩
  | succ j ih =>
    intro i sp
    by_cases h : sw i = 0
    · obtain ⟨s2, h2⟩ := ih (i + 1) (vf_upd sp i (sp i))
      exact ⟨s2, _, _, _, _, _, rs_self _, rs_self _, rs_self _, rs_self _, fun _ => rfl, fun q => absurd h q, h2⟩
    · obtain ⟨s2, h2⟩ := ih (i + 1) (vf_upd sp i (FP.fadd (sp i) (FP.fmul (1008981770 : UInt32) (FP.fsub (FP.fmul (FP.i2f pl) (FP.fsub mean (a i))) (FP.fmul (FP.i2f st) (a i))))))
      exact ⟨s2, _, _, _, _, _, rs_self _, rs_self _, rs_self _, rs_self _, fun q => absurd q h, fun _ => ⟨_, rs_self _, rs_self _⟩, h2⟩
theorem rs_an_ex (sw : Nat → Int32) (sp : Nat → UInt32) : ∀ (j i : Nat) (a : Nat → UInt32), ∃ a2, rs_an sw sp j i a a2 := by
  intro j
  induction j with
  | zero => intro i s; exact ⟨s, rfl⟩
  | succ j ih =>
    intro i a
    by_cases h : sw i = 0
    · obtain ⟨s2, h2⟩ := ih (i + 1) (vf_upd a i (a i))
      exact ⟨s2, _, fun _ => rfl, fun q => absurd h q, h2⟩
    · obtain ⟨s2, h2⟩ := ih (i + 1) (vf_upd a i (FP.fadd (a i) (FP.fmul (1008981770 : UInt32) (sp i))))
      exact ⟨s2, _, fun q => absurd q h, fun _ => ⟨_, rs_self _, rs_self _⟩, h2⟩
theorem rs_run_ex (sw : Nat → Int32) (pl st many : Int32) : ∀ (k : Nat) (a sp : Nat → UInt32), ∃ a2 sp2, rs_run sw pl st many k a sp a2 sp2 := by
  intro k
  induction k with
  | zero => intro a sp; exact ⟨a, sp, rfl, rfl⟩
  | succ k ih =>
    intro a sp
    obtain ⟨sum, h1⟩ := rs_sum_ex sw a 4 0 FP.fconst0
    obtain ⟨sp1, h2⟩ := rs_sp_ex sw a pl st (FP.fdiv sum (FP.i2f many)) 4 0 sp
    obtain ⟨a1, h3⟩ := rs_an_ex sw sp1 4 0 a
    obtain ⟨a2, sp2, h4⟩ := ih a1 sp1
    exact ⟨a2, sp2, a1, sp1, ⟨sum, _, h1, rs_self _, h2, h3⟩, h4⟩
theorem sw_st0 {N : Nat} (hN : 5 ≤ N) {there : Nat → Int32} {ang spd : Nat → UInt64} {stf pul : Int32} (h : sw_cnt there 4 = 0) : f_X3_step N stf pul there ang spd = some (ang, spd) := by
  have h0 := sw_cnt_0 4 h
  have m : ∀ (j i f : Nat) (d : UInt64), i + j = 4 → j < f → ∃ w, f_X3_meanAngle_4 N there ang f d (nI i) = some (d, w) := by
    intro j
    induction j with
    | zero =>
      intro i f d hi hf
      obtain ⟨f, rfl⟩ : ∃ g, f = g + 1 := ⟨f - 1, by omega⟩
      rw [f_X3_meanAngle_4.eq_def]
      simp only []
      rw [if_pos (show (4 : Int32) ≤ nI i from nI_le (a := 4) (b := i) (by omega) (by omega))]
      exact ⟨_, rfl⟩
    | succ j ih =>
      intro i f d hi hf
      obtain ⟨f, rfl⟩ : ∃ g, f = g + 1 := ⟨f - 1, by omega⟩
      rw [f_X3_meanAngle_4.eq_def]
      simp only []
      rw [if_neg (show ¬ (4 : Int32) ≤ nI i from nI_ge (a := i) (b := 4) (by omega) (by omega)), mg_g (show i < 4 by omega) (by omega), nI_clamp (n := i) (by omega), nI_1, if_pos (h0 i (by omega))]
      exact ih (i + 1) f d (by omega) (by omega)
  have s7 : ∀ (j i f : Nat) (d : UInt64), i + j = 4 → j < f → ∃ w, f_X3_step_7 N stf pul there ang d f (nI i) spd = some (w, spd) := by
    intro j
    induction j with
    | zero =>
      intro i f d hi hf
      obtain ⟨f, rfl⟩ : ∃ g, f = g + 1 := ⟨f - 1, by omega⟩
      rw [f_X3_step_7.eq_def]
      simp only []
      rw [if_pos (show (4 : Int32) ≤ nI i from nI_le (a := 4) (b := i) (by omega) (by omega))]
      exact ⟨_, rfl⟩
    | succ j ih =>
      intro i f d hi hf
      obtain ⟨f, rfl⟩ : ∃ g, f = g + 1 := ⟨f - 1, by omega⟩
      rw [f_X3_step_7.eq_def]
      simp only []
      rw [if_neg (show ¬ (4 : Int32) ≤ nI i from nI_ge (a := i) (b := 4) (by omega) (by omega)), mg_g (show i < 4 by omega) (by omega), nI_clamp (n := i) (by omega), nI_1, if_pos (h0 i (by omega))]
      exact ih (i + 1) f d (by omega) (by omega)
  have s9 : ∀ (j i f : Nat), i + j = 4 → j < f → ∃ w, f_X3_step_93 N there spd f (nI i) ang = some (w, ang) := by
    intro j
    induction j with
    | zero =>
      intro i f hi hf
      obtain ⟨f, rfl⟩ : ∃ g, f = g + 1 := ⟨f - 1, by omega⟩
      rw [f_X3_step_93.eq_def]
      simp only []
      rw [if_pos (show (4 : Int32) ≤ nI i from nI_le (a := 4) (b := i) (by omega) (by omega))]
      exact ⟨_, rfl⟩
    | succ j ih =>
      intro i f hi hf
      obtain ⟨f, rfl⟩ : ∃ g, f = g + 1 := ⟨f - 1, by omega⟩
      rw [f_X3_step_93.eq_def]
      simp only []
      rw [if_neg (show ¬ (4 : Int32) ≤ nI i from nI_ge (a := i) (b := 4) (by omega) (by omega)), mg_g (show i < 4 by omega) (by omega), nI_clamp (n := i) (by omega), nI_1, if_pos (h0 i (by omega))]
      exact ih (i + 1) f (by omega) (by omega)
  obtain ⟨w1, e1⟩ := m 4 0 N FP.dconst0 (by omega) (by omega)
  obtain ⟨w2, e2⟩ := s7 4 0 N FP.dconst0 (by omega) (by omega)
  obtain ⟨w3, e3⟩ := s9 4 0 N (by omega) (by omega)
  have e1 : f_X3_meanAngle_4 N there ang N FP.dconst0 (0 : Int32) = _ := e1
  have e2 : f_X3_step_7 N stf pul there ang FP.dconst0 N (0 : Int32) spd = _ := e2
  have e3 : f_X3_step_93 N there spd N (0 : Int32) ang = _ := e3
  unfold f_X3_step f_X3_meanAngle
  rw [e1, Option.bind_some, sw_count hN, Option.bind_some, h, if_pos (show nI 0 = 0 from rfl), Option.bind_some]
  dsimp only
  rw [e2, Option.bind_some, e3, Option.bind_some]
theorem sw_run0 {N : Nat} (hN : 5 ≤ N) {there : Nat → Int32} {stf pul : Int32} {ang spd : Nat → UInt64} (h : sw_cnt there 4 = 0) : ∀ (k i f : Nat), k < f → i + k ≤ 1000 → ∃ w, f_X5_sway_10 N stf pul there (nI (i + k)) f (nI i) ang spd = some (w, ang, spd) := by
  intro k
  induction k with
  | zero =>
    intro i f hf hi
    obtain ⟨f, rfl⟩ : ∃ g, f = g + 1 := ⟨f - 1, by omega⟩
    rw [f_X5_sway_10.eq_def]
    simp only []
    rw [if_pos (show nI (i + 0) ≤ nI i from nI_le (by omega) (by omega))]
    exact ⟨_, rfl⟩
  | succ k ih =>
    intro i f hf hi
    obtain ⟨f, rfl⟩ : ∃ g, f = g + 1 := ⟨f - 1, by omega⟩
    rw [f_X5_sway_10.eq_def]
    simp only []
    rw [if_neg (show ¬ nI (i + (k + 1)) ≤ nI i from nI_ge (by omega) (by omega)), sw_st0 hN h, Option.bind_some, nI_1, show i + (k + 1) = i + 1 + k by omega]
    exact ih (i + 1) f (by omega) (by omega)
/-- the class's steps, whatever NaN the reference draws -/
theorem sw_all {N k : Nat} (hN : 1001 ≤ N) (hk : k ≤ 500) {there sw : Nat → Int32} {stf pul : Int32} {ang spd : Nat → UInt64} {a sp : Nat → UInt32} (h : ma_sw there ang spd stf pul sw a sp stf pul) : ∃ o, f_X5_sway_10 N stf pul there (nI k) N (0 : Int32) ang spd = some o ∧ ∀ a2 sp2, rs_all sw pul stf (nI (sw_cnt there 4)) (nI k) a sp a2 sp2 → ma_sw there o.2.1 o.2.2 stf pul sw a2 sp2 stf pul := by
  obtain ⟨-, -, hs3, hrg⟩ := h
  have h4 := sw_cnt_le there 4
  have hst : ma_f (FP.i2d stf) (FP.i2f stf) := by
    obtain ⟨x, y, rfl, rfl, h1, h2, h3⟩ := hrg
    exact fs_i (by rw [nI_toInt (by omega)]; omega)
  have hpu : ma_f (FP.i2d pul) (FP.i2f pul) := by
    obtain ⟨x, y, rfl, rfl, h1, h2, h3⟩ := hrg
    exact fs_i (by rw [nI_toInt (by omega)]; omega)
  by_cases hm : sw_cnt there 4 = 0
  · obtain ⟨w, e⟩ := sw_run0 (N := N) (by omega) (stf := stf) (pul := pul) (ang := ang) (spd := spd) hm k 0 N (by omega) (by omega)
    rw [Nat.zero_add] at e
    refine ⟨_, e, fun a2 sp2 q => ?_⟩
    rw [hm] at q
    obtain ⟨rfl, rfl⟩ := q.1 (by decide)
    exact ⟨rfl, rfl, hs3, hrg⟩
  · have hpos : (0 : Int32) < nI (sw_cnt there 4) := nI_lt (a := 0) (b := sw_cnt there 4) (by omega) (by omega)
    have run := fun (a2 sp2 : Nat → UInt32) (q : rs_run sw pul stf (nI (sw_cnt there 4)) k a sp a2 sp2) => fs_run (N := N) (by omega) (fun i hi => (hs3 i hi).1) rfl (by omega) hst hpu k 0 N ang spd a sp a2 sp2 (by omega) (by omega) (fun i hi => (hs3 i hi).2.2.1) (fun i hi => (hs3 i hi).2.2.2.2.1) (fun i hi => (hs3 i hi).2.2.2.1) (fun i hi => (hs3 i hi).2.2.2.2.2) q
    obtain ⟨x2, y2, hx⟩ := rs_run_ex sw pul stf (nI (sw_cnt there 4)) k a sp
    obtain ⟨o, e, -⟩ := run x2 y2 hx
    rw [Nat.zero_add] at e
    refine ⟨o, e, fun a2 sp2 q => ?_⟩
    have q2 := q.2 hpos
    rw [nI_clamp (n := k) (by omega)] at q2
    obtain ⟨o2, e2, b1, b2, b3, b4⟩ := run a2 sp2 q2
    rw [Nat.zero_add] at e2
    have e2 : f_X5_sway_10 N stf pul there (nI k) N (0 : Int32) ang spd = some o2 := e2
    have e : f_X5_sway_10 N stf pul there (nI k) N (0 : Int32) ang spd = some o := e
    rw [e] at e2
    cases e2
    exact ⟨rfl, rfl, fun i hi => ⟨(hs3 i hi).1, (hs3 i hi).2.1, b1 i hi, b3 i hi, b2 i hi, b4 i hi⟩, hrg⟩
set_option maxHeartbeats 2000000 in
theorem lr_sway : lw_S_sway ma_Rel := by
  intro j hj v_x_ticksPassed v_x_noiseShare v_x_lot v_x_aheadKnown v_x_aheadEnds v_x_swings_stiffness v_x_swings_pull v_x_swings_there v_x_swings_angles v_x_setting_beaters v_x_setting_mask v_x_setting_links v_x_setting_answers v_x_setting_periods v_x_setting_quiets v_x_setting_places v_x_now_row v_x_now_phases v_x_flashCounts v_x_lastFlashes v_x_ahead_leadTicks v_x_ahead_cycleTicks v_x_ahead_behind_row v_x_ahead_behind_phases v_x_now_coming v_x_ahead_behind_coming v_x_ahead_front_row v_x_ahead_front_phases v_x_ahead_front_coming v_x_setting_froms v_x_setting_delays v_x_setting_tos v_x_setting_strengths v_x_ahead_flashed v_x_swings_speeds v_x_marks_count v_x_marks_ticks v_x_ahead_groupNumbers v_x_trial_leadTicks v_x_trial_cycleTicks v_x_trial_behind_row v_x_trial_behind_phases v_x_trial_behind_coming v_x_trial_front_row v_x_trial_front_phases v_x_trial_front_coming v_x_trial_flashed v_x_trial_groupNumbers v_x_trialStart_row v_x_trialStart_phases v_x_trialStart_coming v_x_pair_beaters v_x_pair_mask v_x_pair_links v_x_pair_places v_x_pair_periods v_x_pair_quiets v_x_pair_answers v_x_pair_froms v_x_pair_tos v_x_pair_delays v_x_pair_strengths v_t_thrown v_t_noise v_t_z v_t_lead v_t_cycle v_t_stiffness v_t_pull v_t_swings v_t_angles v_t_now_time v_t_now_isThere v_t_answers v_t_now_period v_t_now_phase v_t_now_quiet v_t_flashed v_t_last v_t_start_time v_t_start_isThere v_t_start_period v_t_start_phase v_t_start_quiet v_t_start_waiting v_t_now_waiting v_t_slow_time v_t_slow_isThere v_t_slow_period v_t_slow_phase v_t_slow_quiet v_t_slow_waiting v_t_fast_time v_t_fast_isThere v_t_fast_period v_t_fast_phase v_t_fast_quiet v_t_fast_waiting v_t_fast_flashes v_t_slow_flashes v_t_beats v_t_areApart v_t_speeds v_t_now_flashes nl fr tt de st nk vv hR v_out v_outD ml mk cl hl1 hl2 x1
  obtain ⟨h, t, z, fr0, to0, de0, S, ⟨r1, r2, r3, r4⟩, hx, ⟨rfl, rfl, rfl, rfl, rfl, rfl, rfl, rfl⟩, C, E, hf, hinv, hR, hrm, hA, hc, hl, htr, hmk, hsw, hqb⟩ := hR
  have hsw0 := hsw
  obtain ⟨rfl, rfl, hs3, hrg⟩ := hsw
  rcases mx_range (N := 2000) x1 1 500 (by omega) (by omega) with ⟨e1, e2⟩ | ⟨m1, hm0, hm1, rfl, e1, e2⟩
  · have e1 : f_X5_checkRange 2000 x1 (1 : Int32) (500 : Int32) = _ := e1
    have e2 : f_X8_in 2000 x1.toInt64 (1 : Int64) (500 : Int64) = _ := e2
    refine ⟨2000, 2000, (1, v_x_swings_angles, v_x_swings_speeds, v_out), (0, 1), ?_, ?_, ⟨rfl, fun q => absurd (show (1 : Int32) = 0 from q) (by decide)⟩, fun u hu => ?_⟩
    · unfold f_L_sway f_X5_sway
      rw [e1]
      rfl
    · unfold f_X8_sway
      rw [f_X8_sway_0.eq_def]
      simp only []
      rw [e2, Option.bind_some, if_pos rfl, Option.bind_some, if_neg (show ¬ (x1 ≤ 0 ∧ (0 : Int32) < 0) from fun q => absurd q.2 (by decide))]
      split
      · rw [if_pos (by decide)]
      · rfl
    · obtain ⟨u1, u2⟩ := u
      have hu : rs_all v_t_swings v_t_pull v_t_stiffness 0 x1 v_t_angles v_t_speeds u1 u2 := hu
      obtain ⟨rfl, rfl⟩ := hu.1 (by decide)
      exact ⟨h, t, z, fr0, to0, de0, S, ⟨by omega, by omega, r3, r4⟩, hx, ⟨rfl, rfl, rfl, rfl, rfl, rfl, rfl, rfl⟩, C, E, hf, hinv, hR, hrm, hA, hc, hl, htr, hmk, hsw0, hqb⟩
  · have e1 : f_X5_checkRange 2000 (nI m1) (1 : Int32) (500 : Int32) = _ := e1
    have e2 : f_X8_in 2000 (nI m1).toInt64 (1 : Int64) (500 : Int64) = _ := e2
    obtain ⟨o, g1, g2⟩ := sw_all (N := 2000) (k := m1) (by omega) (by omega) hsw0
    have h4 := sw_cnt_le v_x_swings_there 4
    have hc4 : sw_cnt v_t_swings 4 = sw_cnt v_x_swings_there 4 := sw_cnt_c 4 (fun i hi => (hs3 i hi).1)
    refine ⟨2000, 2000, (0, o.2.1, o.2.2, vp_updL v_out 0 (nI (sw_cnt v_x_swings_there 4)).toInt64), (nI (sw_cnt v_x_swings_there 4), 0), ?_, ?_, ⟨rfl, fun _ => lr_u0 v_out _⟩, fun u hu => ?_⟩
    · unfold f_L_sway f_X5_sway
      rw [e1, Option.bind_some, Sum.elim_inr, g1, Option.bind_some, sw_count (by omega)]
      rfl
    · unfold f_X8_sway
      rw [f_X8_sway_0.eq_def]
      simp only []
      rw [e2, Option.bind_some, if_neg (show ¬ (1 : Int32) = 0 by decide), sw_many (by omega), Option.bind_some, Option.bind_some, hc4]
      dsimp only
      rw [if_neg (fun q => absurd q.1 (show ¬ nI m1 ≤ (0 : Int32) from nI_ge (a := 0) (b := m1) (by omega) (by omega))), if_neg (show ¬ (100000 : Int32) < nI m1 from nI_nlt (a := 100000) (b := m1) (by omega) (by omega))]
    · have hsw2 := g2 u.1 u.2 hu
      exact ⟨h, t, z, fr0, to0, de0, S, ⟨by omega, by omega, r3, r4⟩, hx, ⟨rfl, rfl, rfl, rfl, rfl, rfl, rfl, rfl⟩, C, E, hf, hinv, hR, hrm, hA, hc, hl, htr, hmk, hsw2, hqb⟩

/-! rows of mine: isTrue, swing keep the relation -/
set_option maxHeartbeats 2000000 in
theorem lr_isTrue : lw_S_isTrue ma_Rel := by
  intro j hj v_x_ticksPassed v_x_noiseShare v_x_lot v_x_aheadKnown v_x_aheadEnds v_x_swings_stiffness v_x_swings_pull v_x_swings_there v_x_swings_angles v_x_setting_beaters v_x_setting_mask v_x_setting_links v_x_setting_answers v_x_setting_periods v_x_setting_quiets v_x_setting_places v_x_now_row v_x_now_phases v_x_flashCounts v_x_lastFlashes v_x_ahead_leadTicks v_x_ahead_cycleTicks v_x_ahead_behind_row v_x_ahead_behind_phases v_x_now_coming v_x_ahead_behind_coming v_x_ahead_front_row v_x_ahead_front_phases v_x_ahead_front_coming v_x_setting_froms v_x_setting_delays v_x_setting_tos v_x_setting_strengths v_x_ahead_flashed v_x_swings_speeds v_x_marks_count v_x_marks_ticks v_x_ahead_groupNumbers v_x_trial_leadTicks v_x_trial_cycleTicks v_x_trial_behind_row v_x_trial_behind_phases v_x_trial_behind_coming v_x_trial_front_row v_x_trial_front_phases v_x_trial_front_coming v_x_trial_flashed v_x_trial_groupNumbers v_x_trialStart_row v_x_trialStart_phases v_x_trialStart_coming v_x_pair_beaters v_x_pair_mask v_x_pair_links v_x_pair_places v_x_pair_periods v_x_pair_quiets v_x_pair_answers v_x_pair_froms v_x_pair_tos v_x_pair_delays v_x_pair_strengths v_t_thrown v_t_noise v_t_z v_t_lead v_t_cycle v_t_stiffness v_t_pull v_t_swings v_t_angles v_t_now_time v_t_now_isThere v_t_answers v_t_now_period v_t_now_phase v_t_now_quiet v_t_flashed v_t_last v_t_start_time v_t_start_isThere v_t_start_period v_t_start_phase v_t_start_quiet v_t_start_waiting v_t_now_waiting v_t_slow_time v_t_slow_isThere v_t_slow_period v_t_slow_phase v_t_slow_quiet v_t_slow_waiting v_t_fast_time v_t_fast_isThere v_t_fast_period v_t_fast_phase v_t_fast_quiet v_t_fast_waiting v_t_fast_flashes v_t_slow_flashes v_t_beats v_t_areApart v_t_speeds v_t_now_flashes nl fr tt de st nk vv hR v_out v_outD ml mk cl hl1 hl2 
  obtain ⟨h, t, z, fr0, to0, de0, S, ⟨r1, r2, r3, r4⟩, hx, ⟨rfl, rfl, rfl, rfl, rfl, rfl, rfl, rfl⟩, C, E, hf, hinv, hR, hrm, hA, hc, hl, htr, hmk, hsw, hqb⟩ := hR
  obtain ⟨w2, w3, w4, w5, w6, w7, w8, w9, w10, w11, e⟩ := mx_isTrue (N := 6000) (by decide) r3 C hinv hR v_x_trial_leadTicks v_x_trial_cycleTicks v_x_trial_behind_row v_x_trial_behind_phases v_x_trial_behind_coming v_x_trial_front_row v_x_trial_front_phases v_x_trial_front_coming v_x_trial_flashed v_x_trial_groupNumbers
  exact ⟨6000, 6000, _, _, e, rfl, rfl, ⟨h, t, z, fr0, to0, de0, S, ⟨by omega, by omega, r3, r4⟩, hx, ⟨rfl, rfl, rfl, rfl, rfl, rfl, rfl, rfl⟩, C, E, hf, hinv, hR, hrm, hA, hc, hl, htr, hmk, hsw, hqb⟩⟩

def sw_r (k : Nat) : UInt32 := FP.fdiv (FP.i2f (Int32.ofInt ((k : Int) - 1000))) (1148846080 : UInt32)
theorem sw_n1 : ∀ k : Nat, k < 2001 → sw_r k &&& 0x7fffffff ≤ 0x7f800000 ∧ FP.f2d (sw_r k) &&& 0x7fffffffffffffff ≤ 0x7ff0000000000000 ∧ sw_r k ≠ 0x80000000 := by decide +kernel
theorem sw_range {N : Nat} (v : Int32) : (f_X5_checkRange N v (-1000 : Int32) (1000 : Int32) = some (.inl "java/lang/IllegalArgumentException") ∧ f_X8_in N v.toInt64 (-1000 : Int64) (1000 : Int64) = some 0) ∨ ∃ k : Nat, k < 2001 ∧ v = Int32.ofInt ((k : Int) - 1000) ∧ f_X5_checkRange N v (-1000 : Int32) (1000 : Int32) = some (.inr ()) ∧ f_X8_in N v.toInt64 (-1000 : Int64) (1000 : Int64) = some 1 := by
  unfold f_X5_checkRange
  rw [mx_in]
  have e1 : (-1000 : Int32).toInt = -1000 := by decide
  have e2 : (1000 : Int32).toInt = 1000 := by decide
  have e3 : (-1000 : Int64).toInt = -1000 := by decide
  have e4 : (1000 : Int64).toInt = 1000 := by decide
  rw [e3, e4]
  by_cases h1 : v.toInt < -1000
  · refine Or.inl ⟨?_, by rw [if_neg (by omega)]⟩
    rw [if_pos (show v < (-1000 : Int32) by rw [Int32.lt_iff_toInt_lt, e1]; exact h1)]
  · have n1 : ¬ v < (-1000 : Int32) := by rw [Int32.lt_iff_toInt_lt, e1]; exact h1
    by_cases h2 : v.toInt ≤ 1000
    · refine Or.inr ⟨(v.toInt + 1000).toNat, by omega, ?_, ?_, by rw [if_pos (by omega)]⟩
      · apply Int32.toInt_inj.mp
        rw [Int32.toInt_ofInt_of_le (by omega) (by omega)]
        omega
      · rw [if_neg n1, if_pos (show v ≤ (1000 : Int32) by rw [Int32.le_iff_toInt_le, e2]; exact h2)]
    · refine Or.inl ⟨?_, by rw [if_neg (by omega)]⟩
      rw [if_neg n1, if_neg (show ¬ v ≤ (1000 : Int32) by rw [Int32.le_iff_toInt_le, e2]; exact h2)]
theorem sw_put {N p k : Nat} (hp : p < 4) (hk : k < 2001) {there : Nat → Int32} {ang spd : Nat → UInt64} (ht : there p = 0 ∨ there p = 1) : f_X3_put N there ang spd (nI p) (sw_r k) = some (there p, upd there p 1, vf_upd ang p (FP.f2d (sw_r k)), vf_upd spd p FP.dconst0) := by
  unfold f_X3_put
  have n : vf_n64 (FP.f2d (sw_r k)) := by unfold vf_n64; exact (sw_n1 k hk).2.1
  rw [if_neg (nI_pos (by omega)), if_pos (show nI p < (4 : Int32) from nI_lt (b := 4) hp (by omega)), nI_clamp (by omega)]
  simp only [mg_g hp (show 4 < 2 ^ 31 by omega)]
  have hz : ∀ {β : Type} (x : Option β), zk_n64 (FP.f2d (sw_r k)) x = x := fun x => by
    unfold zk_n64
    first | exact if_pos n | simp [n]
  have hb : ∀ {β : Type} (x : Option β), zk_bo (there p) x = x := fun x => by unfold zk_bo; exact if_pos ht
  rw [hz, hb]
  rfl
theorem sw_keep {there : Nat → Int32} {ang spd : Nat → UInt64} {stf pul : Int32} {tT : Nat → Int32} {tA tS : Nat → UInt32} {tstf tpul : Int32} {p k : Nat} (hk : k < 2001) (h : ma_sw there ang spd stf pul tT tA tS tstf tpul) : ma_sw (upd there p 1) (vf_upd ang p (FP.f2d (sw_r k))) (vf_upd spd p FP.dconst0) stf pul (upd tT p 1) (vf_upd tA p (sw_r k)) (vf_upd tS p FP.fconst0) tstf tpul := by
  obtain ⟨h1, h2, h3, h4⟩ := h
  refine ⟨h1, h2, fun q hq => ?_, h4⟩
  by_cases e : q = p
  · subst e
    have a1 : ∀ f : Nat → Int32, upd f q 1 q = 1 := fun f => by simp [upd]
    have a2 : ∀ (f : Nat → UInt64) (v : UInt64), vf_upd f q v q = v := fun f v => by simp [vf_upd]
    have a3 : ∀ (f : Nat → UInt32) (v : UInt32), vf_upd f q v q = v := fun f v => by simp [vf_upd]
    rw [a1, a1, a2, a2, a3, a3]
    exact ⟨rfl, Or.inr rfl, Or.inr ⟨by unfold vf_n32; exact (sw_n1 k hk).1, rfl⟩, Or.inr ⟨by unfold vf_n32; decide +kernel, by decide +kernel⟩, (sw_n1 k hk).2.2, by decide +kernel⟩
  · have a1 : ∀ f : Nat → Int32, upd f p 1 q = f q := fun f => by simp [upd, e]
    have a2 : ∀ (f : Nat → UInt64) (v : UInt64), vf_upd f p v q = f q := fun f v => by simp [vf_upd, e]
    have a3 : ∀ (f : Nat → UInt32) (v : UInt32), vf_upd f p v q = f q := fun f v => by simp [vf_upd, e]
    rw [a1, a1, a2, a2, a3, a3]
    exact h3 q hq
set_option maxHeartbeats 2000000 in
theorem lr_swing : lw_S_swing ma_Rel := by
  intro j hj v_x_ticksPassed v_x_noiseShare v_x_lot v_x_aheadKnown v_x_aheadEnds v_x_swings_stiffness v_x_swings_pull v_x_swings_there v_x_swings_angles v_x_setting_beaters v_x_setting_mask v_x_setting_links v_x_setting_answers v_x_setting_periods v_x_setting_quiets v_x_setting_places v_x_now_row v_x_now_phases v_x_flashCounts v_x_lastFlashes v_x_ahead_leadTicks v_x_ahead_cycleTicks v_x_ahead_behind_row v_x_ahead_behind_phases v_x_now_coming v_x_ahead_behind_coming v_x_ahead_front_row v_x_ahead_front_phases v_x_ahead_front_coming v_x_setting_froms v_x_setting_delays v_x_setting_tos v_x_setting_strengths v_x_ahead_flashed v_x_swings_speeds v_x_marks_count v_x_marks_ticks v_x_ahead_groupNumbers v_x_trial_leadTicks v_x_trial_cycleTicks v_x_trial_behind_row v_x_trial_behind_phases v_x_trial_behind_coming v_x_trial_front_row v_x_trial_front_phases v_x_trial_front_coming v_x_trial_flashed v_x_trial_groupNumbers v_x_trialStart_row v_x_trialStart_phases v_x_trialStart_coming v_x_pair_beaters v_x_pair_mask v_x_pair_links v_x_pair_places v_x_pair_periods v_x_pair_quiets v_x_pair_answers v_x_pair_froms v_x_pair_tos v_x_pair_delays v_x_pair_strengths v_t_thrown v_t_noise v_t_z v_t_lead v_t_cycle v_t_stiffness v_t_pull v_t_swings v_t_angles v_t_now_time v_t_now_isThere v_t_answers v_t_now_period v_t_now_phase v_t_now_quiet v_t_flashed v_t_last v_t_start_time v_t_start_isThere v_t_start_period v_t_start_phase v_t_start_quiet v_t_start_waiting v_t_now_waiting v_t_slow_time v_t_slow_isThere v_t_slow_period v_t_slow_phase v_t_slow_quiet v_t_slow_waiting v_t_fast_time v_t_fast_isThere v_t_fast_period v_t_fast_phase v_t_fast_quiet v_t_fast_waiting v_t_fast_flashes v_t_slow_flashes v_t_beats v_t_areApart v_t_speeds v_t_now_flashes nl fr tt de st nk vv hR v_out v_outD ml mk cl hl1 hl2 x1 x2
  obtain ⟨h, t, z, fr0, to0, de0, S, ⟨r1, r2, r3, r4⟩, hx, ⟨rfl, rfl, rfl, rfl, rfl, rfl, rfl, rfl⟩, C, E, hf, hinv, hR, hrm, hA, hc, hl, htr, hmk, hsw, hqb⟩ := hR
  have bad : ∀ (k : Int32) (ex : String), ¬ k = 0 → (f_X5_swing 0 v_x_swings_there v_x_swings_angles v_x_swings_speeds x1 x2 = some (.inl (ex, v_x_swings_there, v_x_swings_angles, v_x_swings_speeds))) → f_L_swing 0 v_x_swings_there v_x_swings_angles v_x_swings_speeds v_out x1 x2 = some (k, v_x_swings_there, v_x_swings_angles, v_x_swings_speeds, v_out) → f_X8_swing 0 v_t_swings v_t_angles v_t_speeds x1 x2 = some (0, k, v_t_swings, v_t_angles, v_t_speeds) → (∃ (N1 N2 : Nat) (o1 : Int32 × (Nat → Int32) × (Nat → UInt64) × (Nat → UInt64) × (Nat → Int64)) (o2 : Int32 × Int32 × (Nat → Int32) × (Nat → UInt32) × (Nat → UInt32)), f_L_swing N1 v_x_swings_there v_x_swings_angles v_x_swings_speeds v_out x1 x2 = some o1 ∧ f_X8_swing N2 v_t_swings v_t_angles v_t_speeds x1 x2 = some o2 ∧ (o2.2.1 = o1.1 ∧ (o1.1 = 0 → o1.2.2.2.2 0 = if o2.1 = 0 then 0 else 1)) ∧ ma_Rel (j + 1) (nI t) (nI h) (nI z) v_x_aheadKnown v_x_aheadEnds v_x_swings_stiffness v_x_swings_pull o1.2.1 o1.2.2.1 (nI (ms_L v_x_setting_mask).length) v_x_setting_mask (nI nl) v_x_setting_answers v_x_setting_periods v_x_setting_quiets v_x_setting_places v_x_now_row v_x_now_phases v_x_flashCounts v_x_lastFlashes v_x_ahead_leadTicks v_x_ahead_cycleTicks v_x_ahead_behind_row v_x_ahead_behind_phases v_x_now_coming v_x_ahead_behind_coming v_x_ahead_front_row v_x_ahead_front_phases v_x_ahead_front_coming v_x_setting_froms v_x_setting_delays v_x_setting_tos v_x_setting_strengths v_x_ahead_flashed o1.2.2.2.1 v_x_marks_count v_x_marks_ticks v_x_ahead_groupNumbers v_x_trial_leadTicks v_x_trial_cycleTicks v_x_trial_behind_row v_x_trial_behind_phases v_x_trial_behind_coming v_x_trial_front_row v_x_trial_front_phases v_x_trial_front_coming v_x_trial_flashed v_x_trial_groupNumbers v_x_trialStart_row v_x_trialStart_phases v_x_trialStart_coming v_x_pair_beaters v_x_pair_mask v_x_pair_links v_x_pair_places v_x_pair_periods v_x_pair_quiets v_x_pair_answers v_x_pair_froms v_x_pair_tos v_x_pair_delays v_x_pair_strengths o2.2.1 (nI h) (lN z) v_t_lead v_t_cycle v_t_stiffness v_t_pull o2.2.2.1 o2.2.2.2.1 (nI t) v_t_now_isThere v_t_answers v_t_now_period v_t_now_phase v_t_now_quiet v_t_flashed v_t_last v_t_start_time v_t_start_isThere v_t_start_period v_t_start_phase v_t_start_quiet v_t_start_waiting v_t_now_waiting v_t_slow_time v_t_slow_isThere v_t_slow_period v_t_slow_phase v_t_slow_quiet v_t_slow_waiting v_t_fast_time v_t_fast_isThere v_t_fast_period v_t_fast_phase v_t_fast_quiet v_t_fast_waiting v_t_fast_flashes v_t_slow_flashes v_t_beats v_t_areApart o2.2.2.2.2 v_t_now_flashes nl fr tt de st nk vv) := fun k ex hk a b c => ⟨0, 0, (k, v_x_swings_there, v_x_swings_angles, v_x_swings_speeds, v_out), (0, k, v_t_swings, v_t_angles, v_t_speeds), b, c, ⟨rfl, fun q => absurd (show k = 0 from q) hk⟩, ⟨h, t, z, fr0, to0, de0, S, ⟨by omega, by omega, r3, r4⟩, hx, ⟨rfl, rfl, rfl, rfl, rfl, rfl, rfl, rfl⟩, C, E, hf, hinv, hR, hrm, hA, hc, hl, htr, hmk, hsw, hqb⟩⟩
  have hp := mx_checkPlace (N := 0) x1
  have hi := mx_isPlace (N := 0) x1
  by_cases h1 : 0 ≤ x1.toInt ∧ x1.toInt ≤ 19
  · rw [if_pos h1] at hp hi
    rcases sw_range (N := 0) x2 with ⟨e1, e2⟩ | ⟨k, hk, rfl, e1, e2⟩
    · have a : f_X5_swing 0 v_x_swings_there v_x_swings_angles v_x_swings_speeds x1 x2 = some (.inl ("java/lang/IllegalArgumentException", v_x_swings_there, v_x_swings_angles, v_x_swings_speeds)) := by
        unfold f_X5_swing
        rw [hp, Option.bind_some, Sum.elim_inr, e1]
        rfl
      refine bad 2 _ (by decide) a ?_ ?_
      · unfold f_L_swing
        rw [a]
        rfl
      · unfold f_X8_swing
        rw [hi, Option.bind_some, if_neg (show ¬ (1 : Int32) = 0 by decide), e2]
        rfl
    · have nn : vf_n32 (sw_r k) := by unfold vf_n32; exact (sw_n1 k hk).1
      have hz : ∀ {β : Type} (x : Option β), zk_n32 (FP.fdiv (FP.i2f (Int32.ofInt ((k : Int) - 1000))) (1148846080 : UInt32)) x = x := fun x => by
        show zk_n32 (sw_r k) x = x
        unfold zk_n32
        first | exact if_pos nn | simp [nn]
      by_cases h2 : (16 : Int32) ≤ x1
      · obtain ⟨p, hp4, hp1⟩ : ∃ p : Nat, p < 4 ∧ x1 - (16 : Int32) = nI p := by
          have q : (16 : Int32).toInt ≤ x1.toInt := Int32.le_iff_toInt_le.mp h2
          have q16 : (16 : Int32).toInt = 16 := by decide
          refine ⟨(x1.toInt - 16).toNat, by omega, ?_⟩
          apply Int32.toInt_inj.mp
          rw [nI_toInt (by omega), Int32.toInt_sub, q16, Int.bmod_eq_of_le (by omega) (by omega)]
          omega
        have hs3 := hsw.2.2.1 p hp4
        have hb : v_x_swings_there p = 0 ∨ v_x_swings_there p = 1 := hs3.2.1
        have hb2 : v_t_swings p = 0 ∨ v_t_swings p = 1 := by rw [hs3.1]; exact hb
        have a : f_X5_swing 0 v_x_swings_there v_x_swings_angles v_x_swings_speeds x1 (Int32.ofInt ((k : Int) - 1000)) = some (.inr (v_x_swings_there p, upd v_x_swings_there p 1, vf_upd v_x_swings_angles p (FP.f2d (sw_r k)), vf_upd v_x_swings_speeds p FP.dconst0)) := by
          unfold f_X5_swing
          rw [hp, Option.bind_some, Sum.elim_inr, e1, Option.bind_some, Sum.elim_inr, if_pos h2, hz, hp1]
          show ((f_X3_put 0 v_x_swings_there v_x_swings_angles v_x_swings_speeds (nI p) (sw_r k)).bind _) = _
          rw [sw_put hp4 hk hb, Option.bind_some]
          show zk_bo (v_x_swings_there p) _ = _
          unfold zk_bo
          rw [if_pos hb]
        have c : f_X8_swing 0 v_t_swings v_t_angles v_t_speeds x1 (Int32.ofInt ((k : Int) - 1000)) = some (v_t_swings p, 0, upd v_t_swings p 1, vf_upd v_t_angles p (sw_r k), vf_upd v_t_speeds p FP.fconst0) := by
          unfold f_X8_swing
          rw [hi, Option.bind_some, if_neg (show ¬ (1 : Int32) = 0 by decide), e2, Option.bind_some, if_neg (show ¬ (1 : Int32) = 0 by decide), if_pos h2, hp1]
          simp only [mg_g hp4 (show 4 < 2 ^ 31 by omega), hz, nI_clamp (show p < 2 ^ 31 by omega)]
          unfold zk_bo
          rw [if_pos hb2]
          rfl
        have hk2 := sw_keep (p := p) hk hsw
        rcases hb with q | q
        · refine ⟨0, 0, (0, upd v_x_swings_there p 1, vf_upd v_x_swings_angles p (FP.f2d (sw_r k)), vf_upd v_x_swings_speeds p FP.dconst0, vp_updL v_out 0 0), _, ?_, c, ⟨rfl, fun _ => ?_⟩, ⟨h, t, z, fr0, to0, de0, S, ⟨by omega, by omega, r3, r4⟩, hx, ⟨rfl, rfl, rfl, rfl, rfl, rfl, rfl, rfl⟩, C, E, hf, hinv, hR, hrm, hA, hc, hl, htr, hmk, hk2, hqb⟩⟩
          · unfold f_L_swing
            rw [a, Option.bind_some, Sum.elim_inr, if_pos q]
            rfl
          · show vp_updL v_out 0 0 0 = if v_t_swings p = 0 then 0 else 1
            rw [lr_u0 v_out, hs3.1, if_pos q]
        · refine ⟨0, 0, (0, upd v_x_swings_there p 1, vf_upd v_x_swings_angles p (FP.f2d (sw_r k)), vf_upd v_x_swings_speeds p FP.dconst0, vp_updL v_out 0 1), _, ?_, c, ⟨rfl, fun _ => ?_⟩, ⟨h, t, z, fr0, to0, de0, S, ⟨by omega, by omega, r3, r4⟩, hx, ⟨rfl, rfl, rfl, rfl, rfl, rfl, rfl, rfl⟩, C, E, hf, hinv, hR, hrm, hA, hc, hl, htr, hmk, hk2, hqb⟩⟩
          · unfold f_L_swing
            rw [a, Option.bind_some, Sum.elim_inr, if_neg (show ¬ v_x_swings_there p = 0 by rw [q]; decide)]
            rfl
          · show vp_updL v_out 0 1 0 = if v_t_swings p = 0 then 0 else 1
            rw [lr_u0 v_out, hs3.1, if_neg (by rw [q]; decide)]
      · have a : f_X5_swing 0 v_x_swings_there v_x_swings_angles v_x_swings_speeds x1 (Int32.ofInt ((k : Int) - 1000)) = some (.inl ("java/lang/UnsupportedOperationException", v_x_swings_there, v_x_swings_angles, v_x_swings_speeds)) := by
          unfold f_X5_swing
          rw [hp, Option.bind_some, Sum.elim_inr, e1, Option.bind_some, Sum.elim_inr, if_neg h2]
        refine bad 3 _ (by decide) a ?_ ?_
        · unfold f_L_swing
          rw [a]
          rfl
        · unfold f_X8_swing
          rw [hi, Option.bind_some, if_neg (show ¬ (1 : Int32) = 0 by decide), e2, Option.bind_some, if_neg (show ¬ (1 : Int32) = 0 by decide), if_neg h2]
  · rw [if_neg h1] at hp hi
    have a : f_X5_swing 0 v_x_swings_there v_x_swings_angles v_x_swings_speeds x1 x2 = some (.inl ("java/lang/IndexOutOfBoundsException", v_x_swings_there, v_x_swings_angles, v_x_swings_speeds)) := by
      unfold f_X5_swing
      rw [hp]
      rfl
    refine bad 1 _ (by decide) a ?_ ?_
    · unfold f_L_swing
      rw [a]
      rfl
    · unfold f_X8_swing
      rw [hi]
      rfl

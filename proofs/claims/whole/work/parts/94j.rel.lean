/-! rows of mine: meanPhase keeps the relation -/
theorem fl_n64 {r : UInt64} (h : FP.dIsNaN r = false) : vf_n64 r := by
  have h2 : ¬ 9218868437227405312 < r.toNat % 2 ^ 63 := fun q => by
    have := (FP.Core.isNaN_bits r).mpr q
    exact absurd (h.symm.trans this) (by decide)
  unfold vf_n64
  rw [UInt64.le_iff_toNat_le, UInt64.toNat_and, show (0x7fffffffffffffff : UInt64).toNat = 2 ^ 63 - 1 from rfl, Nat.and_two_pow_sub_one_eq_mod, show (0x7ff0000000000000 : UInt64).toNat = 9218868437227405312 from rfl]
  omega
theorem fl_i2d (v : Int32) : FP.dIsNaN (FP.i2d v) = false := by
  rw [FP.Core.notNaN_iff]
  obtain ⟨s, c, q, h⟩ := FP.Core.i2d_fin v
  rw [h]
  exact fun e => by cases e
theorem fl_div (v w : Int32) (hw : w ≠ 0) : FP.dIsNaN (FP.ddiv (FP.i2d v) (FP.i2d w)) = false := by
  refine FP.Core.ddiv_out (fl_i2d v) (FP.Core.i2d_fin w) (fun z => FP.Core.i2d_ne_zero hw ?_)
  exact (FP.Core.zero_bits2 _).mp z
theorem fl_eq {r : UInt64} (h : FP.dIsNaN r = false) : Op.cmpValue (FP.dcmp r r) CmpOp.l = 0 := by
  have e : FP.dcmp r r = some .eq := FP.Core.dcmp_self ((FP.Core.notNaN_iff r).mp h)
  rw [e]
  rfl
theorem zb_L {x : Int32} {th : Nat → Int32} (h : ∀ q, q < 16 → th q = if bt x q then 1 else 0) : ∀ k, k ≤ 16 → zs_b th k = ms_l x k := by
  intro k
  induction k with
  | zero => intro _; rfl
  | succ k ih =>
    intro hk
    have e := h k (by omega)
    unfold zs_b
    rw [ih (by omega), e]
    cases hb : bt x k
    · rw [ms_l_f hb]
      rfl
    · rw [ms_l_t hb]
      rfl
theorem mp_loop {N : Nat} {x : Int32} {places ph nph : Nat → Int32} (hp : ∀ i, i < (ms_L x).length → places i = nI ((ms_L x).getD i 0)) (hf : ∀ p, p < 16 → nph p = ph p) (h1 : 1 ≤ (ms_L x).length) : ∀ (f i : Nat) (s thr lr : Int32), (ms_L x).length + 1 ≤ f + i → i ≤ (ms_L x).length → ∃ v a b c : Int32, f_X5_meanPhase_28 N places ph (nI (ms_L x).length) f s (nI i) = some (v, a) ∧ f_X8_meanPhase_12 N nph (nI (ms_L x).length) (fun i => nI ((ms_L x).getD i 0)) f s thr (nI i) lr = some (v, 0, b, c, FP.ddiv (FP.i2d v) (FP.i2d (nI (ms_L x).length))) := by
  have hlen : (ms_L x).length ≤ 16 := ms_l_len x 16
  intro f
  induction f with
  | zero => intro i s thr lr h2 h3; omega
  | succ f ih =>
    intro i s thr lr h2 h3
    rw [f_X5_meanPhase_28.eq_def, f_X8_meanPhase_12.eq_def]
    simp only []
    rw [mk_hasNext]
    by_cases hi : i = (ms_L x).length
    · rw [hi, if_pos (nI_le (Nat.le_refl _) (by omega)), if_pos rfl, Option.bind_some, if_pos rfl]
      have he : f_Jx4a65c_isEmpty_aae02 N (nI (ms_L x).length) = some 0 := by
        unfold f_Jx4a65c_isEmpty_aae02
        rw [if_neg (nI_ne0 (by omega) (by omega))]
      have hs : f_Jx4a65c_size_8abf5 N (nI (ms_L x).length) = some (nI (ms_L x).length) := rfl
      have hz : ∀ {β : Type} (y : Option β), zk_n64 (FP.ddiv (FP.i2d s) (FP.i2d (nI (ms_L x).length))) y = y := fun y => by
        have n := fl_n64 (fl_div s (nI (ms_L x).length) (nI_ne0 (by omega) (by omega)))
        unfold zk_n64
        first | exact if_pos n | simp [n]
      rw [he, Option.bind_some, if_pos rfl, hs, Option.bind_some, hz]
      exact ⟨_, _, _, _, rfl, rfl⟩
    · have hlt : i < (ms_L x).length := by omega
      have hg : (ms_L x).getD i 0 < 16 := (ms_l_getD hlt).1
      rw [if_neg (nI_ge (by omega) (by omega)), if_neg (fun q => hi ((nI_eq (by omega) (by omega)).mp q)), Option.bind_some, if_neg (show ¬ (1 : Int32) = 0 by decide), nI_clamp (n := i) (by omega), nI_clamp (n := (ms_L x).length) (by omega), hp i hlt, mg_g (show i < 16 by omega) (by omega), mg_g hlt (by omega), mg_g hg (by omega), nI_clamp (show (ms_L x).getD i 0 < 2 ^ 31 by omega), nI_1]
      simp only [mg_g hg (show 16 < 2 ^ 31 by omega), nI_clamp (show (ms_L x).getD i 0 < 2 ^ 31 by omega)]
      rw [hf _ hg]
      exact ih (i + 1) _ thr (nI i) (by omega) (by omega)
set_option maxHeartbeats 2000000 in
theorem lr_meanPhase : lw_S_meanPhase ma_Rel := by
  intro j hj v_x_ticksPassed v_x_noiseShare v_x_lot v_x_aheadKnown v_x_aheadEnds v_x_swings_stiffness v_x_swings_pull v_x_swings_there v_x_swings_angles v_x_setting_beaters v_x_setting_mask v_x_setting_links v_x_setting_answers v_x_setting_periods v_x_setting_quiets v_x_setting_places v_x_now_row v_x_now_phases v_x_flashCounts v_x_lastFlashes v_x_ahead_leadTicks v_x_ahead_cycleTicks v_x_ahead_behind_row v_x_ahead_behind_phases v_x_now_coming v_x_ahead_behind_coming v_x_ahead_front_row v_x_ahead_front_phases v_x_ahead_front_coming v_x_setting_froms v_x_setting_delays v_x_setting_tos v_x_setting_strengths v_x_ahead_flashed v_x_swings_speeds v_x_marks_count v_x_marks_ticks v_x_ahead_groupNumbers v_x_trial_leadTicks v_x_trial_cycleTicks v_x_trial_behind_row v_x_trial_behind_phases v_x_trial_behind_coming v_x_trial_front_row v_x_trial_front_phases v_x_trial_front_coming v_x_trial_flashed v_x_trial_groupNumbers v_x_trialStart_row v_x_trialStart_phases v_x_trialStart_coming v_x_pair_beaters v_x_pair_mask v_x_pair_links v_x_pair_places v_x_pair_periods v_x_pair_quiets v_x_pair_answers v_x_pair_froms v_x_pair_tos v_x_pair_delays v_x_pair_strengths v_t_thrown v_t_noise v_t_z v_t_lead v_t_cycle v_t_stiffness v_t_pull v_t_swings v_t_angles v_t_now_time v_t_now_isThere v_t_answers v_t_now_period v_t_now_phase v_t_now_quiet v_t_flashed v_t_last v_t_start_time v_t_start_isThere v_t_start_period v_t_start_phase v_t_start_quiet v_t_start_waiting v_t_now_waiting v_t_slow_time v_t_slow_isThere v_t_slow_period v_t_slow_phase v_t_slow_quiet v_t_slow_waiting v_t_fast_time v_t_fast_isThere v_t_fast_period v_t_fast_phase v_t_fast_quiet v_t_fast_waiting v_t_fast_flashes v_t_slow_flashes v_t_beats v_t_areApart v_t_speeds v_t_now_flashes nl fr tt de st nk vv hR v_out v_outD ml mk cl hl1 hl2 
  obtain ⟨h, t, z, fr0, to0, de0, S, ⟨r1, r2, r3, r4⟩, hx, ⟨rfl, rfl, rfl, rfl, rfl, rfl, rfl, rfl⟩, C, E, hf, hinv, hR, hrm, hA, hc, hl, htr, hmk, hsw, hqb⟩ := hR
  have hb := zb_L (fun q hq => (hf q hq).1) 16 (Nat.le_refl _)
  have hb : zs_b v_t_now_isThere 16 = ms_L v_x_setting_mask := hb
  by_cases h1 : 1 ≤ (ms_L v_x_setting_mask).length
  · have hlen : (ms_L v_x_setting_mask).length ≤ 16 := ms_l_len v_x_setting_mask 16
    obtain ⟨v, a, b, c, e1, e2⟩ := mp_loop (N := 100) C.2.2.1 (fun p hp => (hrm.1 p hp).trans ((Exists.elim hR fun r q => (q.2.2.1 p hp)).symm)) h1 100 0 0 v_t_thrown (-1) (by omega) (by omega)
    have e1 : f_X5_meanPhase_28 100 v_x_setting_places v_x_now_phases (nI (ms_L v_x_setting_mask).length) 100 (0 : Int32) (0 : Int32) = some (v, a) := e1
    have e2 : f_X8_meanPhase_12 100 v_t_now_phase (nI (ms_L v_x_setting_mask).length) (fun i => nI ((ms_L v_x_setting_mask).getD i 0)) 100 0 v_t_thrown 0 (-1) = _ := e2
    have nn := fl_div v (nI (ms_L v_x_setting_mask).length) (nI_ne0 (by omega) (by omega))
    have hz : ∀ {β : Type} (y : Option β), zk_n64 (FP.ddiv (FP.i2d v) (FP.i2d (nI (ms_L v_x_setting_mask).length))) y = y := fun y => by
      have n := fl_n64 nn
      unfold zk_n64
      first | exact if_pos n | simp [n]
    refine ⟨100, 100, (0, vf_upd v_outD 0 (FP.ddiv (FP.i2d v) (FP.i2d (nI (ms_L v_x_setting_mask).length)))), (FP.ddiv (FP.i2d v) (FP.i2d (nI (ms_L v_x_setting_mask).length)), 0), ?_, ?_, ⟨rfl, fun _ => ?_⟩, ⟨h, t, z, fr0, to0, de0, S, ⟨by omega, by omega, r3, r4⟩, hx, ⟨rfl, rfl, rfl, rfl, rfl, rfl, rfl, rfl⟩, C, E, hf, hinv, hR, hrm, hA, hc, hl, htr, hmk, hsw, hqb⟩⟩
    · unfold f_L_meanPhase f_X5_meanPhase
      rw [if_pos (show (1 : Int32) ≤ nI (ms_L v_x_setting_mask).length from nI_le (a := 1) h1 (by omega)), e1, Option.bind_some, hz]
      rfl
    · unfold f_X8_meanPhase
      rw [hb, e2]
      rfl
    · have hu : vf_upd v_outD 0 (FP.ddiv (FP.i2d v) (FP.i2d (nI (ms_L v_x_setting_mask).length))) 0 = FP.ddiv (FP.i2d v) (FP.i2d (nI (ms_L v_x_setting_mask).length)) := by simp [vf_upd]
      show Op.cmpValue (FP.dcmp (vf_upd v_outD 0 (FP.ddiv (FP.i2d v) (FP.i2d (nI (ms_L v_x_setting_mask).length))) 0) (FP.ddiv (FP.i2d v) (FP.i2d (nI (ms_L v_x_setting_mask).length)))) CmpOp.l = 0
      rw [hu]
      exact fl_eq nn
  · have h0 : (ms_L v_x_setting_mask).length = 0 := by omega
    refine ⟨100, 100, (1, v_outD), (FP.dconst0, 1), ?_, ?_, ⟨rfl, fun q => absurd (show (1 : Int32) = 0 from q) (by decide)⟩, ⟨h, t, z, fr0, to0, de0, S, ⟨by omega, by omega, r3, r4⟩, hx, ⟨rfl, rfl, rfl, rfl, rfl, rfl, rfl, rfl⟩, C, E, hf, hinv, hR, hrm, hA, hc, hl, htr, hmk, hsw, hqb⟩⟩
    · unfold f_L_meanPhase f_X5_meanPhase
      rw [h0, if_neg (by decide)]
      rfl
    · unfold f_X8_meanPhase
      rw [hb, h0]
      rfl

/-! rows of mine (pure): one beater alone: pushes, noise, another period -/
theorem bc0 (N : Nat) : f_J6_bitCount_0f7a4 N 0 = some 0 := rfl
theorem x7_16 (p : Nat) (h : 16 ≤ p) : bt x7 p = false := by rw [bt7, decide_eq_false (by omega)]
theorem l1_B {P a : Nat} {fr to de : Nat → Nat} {S : ma_S} {s : Ob} (h1 : S.1 7 = nI a) (h2 : ∀ d, 1 ≤ d → d ≤ 30 → S.2 7 d = 0) (h3 : o_setting_periods s 7 = nI P) (h4 : a < P) (h5 : P < 100) (h6 : 2 ≤ P) : lp_B x7 (o_setting_periods s) (o_setting_quiets s) (fun p q => o_setting_answers s (p * 4 + q)) 0 fr to de (o_setting_strengths s) S 0 := by
  have e0 : lp_S x7 (o_setting_periods s) S 0 = S := by
    unfold lp_S
    simp
  refine ⟨0, P, ?_, by omega, fun t ht p q hp hq hb1 hb2 => ?_⟩
  · rw [e0]
    exact l1_min h1 h2 h3 h4 h5 h6
  · rw [bt7] at hb1 hb2
    rw [of_decide_eq_true hb1, of_decide_eq_true hb2]
theorem l1_M {P a : Nat} {S : ma_S} {s : Ob} (h1 : S.1 7 = nI a) (h3 : o_setting_periods s 7 = nI P) (h4 : a < P) (h5 : P < 100) : lp_M x7 (o_setting_periods s) S = [] := by
  unfold lp_M lp_pp
  rw [L7]
  have e : (if o_setting_periods s 7 - (1 : Int32) < S.1 (([7] : List Nat).getD 0 0) then o_setting_periods s 7 - (1 : Int32) else S.1 (([7] : List Nat).getD 0 0)) = S.1 7 := by
    show (if o_setting_periods s 7 - (1 : Int32) < S.1 7 then o_setting_periods s 7 - (1 : Int32) else S.1 7) = S.1 7
    rw [h1, h3, nI_p1 (by omega), if_neg]
    intro w
    have := (nI_ltI (by omega) (by omega)).mp w
    omega
  rw [List.filter_cons_of_neg (by rw [e]; simp), List.filter_nil]
theorem l1_X {P a : Nat} {s : Ob} (L : L1 P a 0 s) (v : Nat → Int32) : ∃ s2, A_X 3000 s 0 v = some (0, s2) ∧ L1 P a 0 s2 ∧ kp s s2 := by
  obtain ⟨fr, to, de, S, J, B, h1, h2, h3, h4, h6, h5⟩ := L
  have J' := J
  obtain ⟨hmm, hbt, hln, hh, hlt, C, I, R⟩ := J'
  have e1 : (ms_L x7).length = 1 := by rw [L7]; rfl
  have hmv := lp_mv (N := 3000) (qui := o_setting_quiets s) (by decide) x7_16 (by rw [e1]; omega) C I R
  rw [l1_M h1 h3 h4 h5, show nI (pm []) = 0 from rfl, e1] at hmv
  have key : ∃ Y, f_X5_leastPush 3000 (o_noiseShare s) (o_setting_beaters s) (o_setting_mask s) (o_setting_links s) (o_setting_places s) (o_now_row s) (o_now_phases s) (o_setting_periods s) (o_trialStart_row s) (o_trialStart_phases s) (o_now_coming s) (o_trialStart_coming s) (o_trial_leadTicks s) (o_trial_cycleTicks s) (o_trial_behind_row s) (o_trial_behind_phases s) (o_trial_behind_coming s) (o_trial_front_row s) (o_trial_front_phases s) (o_trial_front_coming s) (o_setting_quiets s) (o_setting_answers s) (o_setting_froms s) (o_setting_delays s) (o_setting_tos s) (o_setting_strengths s) (o_trial_flashed s) = some (.inr Y) ∧ Y.1 = 0 := by
    obtain ⟨o, eo, ho2, ho⟩ := lp_brings (N := 2999 + 1) (a := 0) (qui := o_setting_quiets s) (by decide) (by omega) x7_16 (by rw [e1]; omega) C I R (o_trialStart_phases s) (o_trialStart_coming s) (o_trial_leadTicks s) (o_trial_cycleTicks s) (o_trial_behind_phases s) (o_trial_behind_coming s) (o_trial_front_phases s) (o_trial_front_coming s) (o_trial_flashed s)
    rcases ho with ⟨ho, -⟩ | ⟨-, ho⟩
    · unfold f_X5_leastPush
      rw [hh, show f_X5_checkNoNoise 3000 (nI 0) = some (.inr ()) from if_pos (by decide), Option.bind_some, Sum.elim_inr, hbt, e1, if_neg (show ¬ nI 1 < (1 : Int32) by decide), if_pos (show nI 1 ≤ (8 : Int32) by decide), hmv, Option.bind_some, show (3000 : Nat) = 2999 + 1 from rfl, f_X5_leastPush_45, bc0, Option.bind_some, if_neg (show ¬ (0 : Int32) < 0 by decide)]
      unfold f_X5_firstInStepSet
      rw [f_X5_firstInStepSet_5, bc0, Option.bind_some, if_neg (show ¬ ((1 : Int32) <<< ((0 : Int32) &&& 31)) ≤ 0 by decide), Option.bind_some, if_pos rfl, hmm, hln]
      rw [e1] at eo
      have eo' := eo
      rw [show nI 0 = (0 : Int32) from rfl] at eo' ⊢
      rw [eo', Option.bind_some, if_neg (by rw [ho]; decide), Option.bind_some, Sum.elim_inl, Option.bind_some, if_neg (show ¬ (0 : Int32) < 0 by decide), Option.bind_some, Sum.elim_inl]
      exact ⟨_, rfl, rfl⟩
    · exact absurd (l1_B h1 h2 h3 h4 h5 h6) ho
  obtain ⟨⟨y1, y⟩, ey, rfl⟩ := key
  unfold A_X f_L_ask_X f_L_asked_X
  rw [ey]
  exact ⟨_, rfl, ⟨fr, to, de, S, J, B, h1, h2, h3, h4, h6, h5⟩, rfl, rfl, rfl, rfl, rfl⟩
theorem ln_pos {h : Nat} (h0 : 0 < h) (h1 : h < 100) : f_X5_checkNoNoise 3000 (nI h) = some (.inl "java/lang/UnsupportedOperationException") := by
  unfold f_X5_checkNoNoise
  rw [if_neg]
  exact nI_ge (a := 0) h0 (by omega)
theorem ln_c {s : Ob} {h : Nat} (h0 : 0 < h) (h1 : h < 100) (hh : o_noiseShare s = nI h) (v : Nat → Int32) : A_c 3000 s 0 v = some (-2000000004, s) := by
  unfold A_c f_L_ask_c f_X5_cycle f_X5_wayAhead
  rw [hh, ln_pos h0 h1]
  rfl
theorem ln_X {s : Ob} {h : Nat} (h0 : 0 < h) (h1 : h < 100) (hh : o_noiseShare s = nI h) (v : Nat → Int32) : A_X 3000 s 0 v = some (-2000000004, s) := by
  unfold A_X f_L_ask_X f_L_asked_X f_X5_leastPush
  rw [hh, ln_pos h0 h1]
  rfl
theorem ln_M {s : Ob} {h : Nat} (h0 : 0 < h) (h1 : h < 100) (hh : o_noiseShare s = nI h) : M_1 3000 s = some (-2000000004, s) := by
  unfold M_1 f_L_mean_1 f_X5_stepShare
  rw [hh, ln_pos h0 h1]
  rfl

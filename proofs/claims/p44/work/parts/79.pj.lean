/-! rows of mine (pure): objects that are as they should be -/
def PJ (x : Int32) (n h : Nat) (fr to de : Nat → Nat) (S : ma_S) (s : Ob) : Prop :=
  o_setting_mask s = x ∧ o_setting_beaters s = nI (ms_L x).length ∧ o_setting_links s = nI n ∧ o_noiseShare s = nI h ∧ h < 100 ∧ ma_C x n (o_setting_places s) (o_setting_answers s) (o_setting_froms s) (o_setting_tos s) (o_setting_delays s) (o_setting_strengths s) fr to de ∧ ma_inv x (o_setting_periods s) S ∧ ma_R (o_now_row s) (o_now_phases s) (o_now_coming s) S
abbrev PX (x : Int32) (n : Nat) (fr to de : Nat → Nat) (S : ma_S) (s : Ob) : Nat → ma_S := ma_X x (o_setting_periods s) (o_setting_quiets s) (fun p q => o_setting_answers s (p * 4 + q)) n fr to de (o_setting_strengths s) S
abbrev PF (x : Int32) (n : Nat) (fr to de : Nat → Nat) (S : ma_S) (s : Ob) : Nat → Nat → Bool := ma_F x (o_setting_periods s) (o_setting_quiets s) (fun p q => o_setting_answers s (p * 4 + q)) (PX x n fr to de S s)
def PA (x : Int32) (n : Nat) (fr to de : Nat → Nat) (S : ma_S) (s : Ob) : Prop :=
  ma_ahead x (o_setting_periods s) (o_setting_quiets s) (fun p q => o_setting_answers s (p * 4 + q)) (PX x n fr to de S s) (o_aheadKnown s) (o_aheadEnds s) (o_ahead_leadTicks s) (o_ahead_cycleTicks s) (o_ahead_flashed s)
theorem pj_isTrue {x : Int32} {n h : Nat} {fr to de : Nat → Nat} {S : ma_S} {s : Ob} (J : PJ x n h fr to de S s) : ∃ tr, T_isTrue 3000 s = some (1, (s.1, s.2.1, s.2.2.1, s.2.2.2.1, s.2.2.2.2.1, s.2.2.2.2.2.1, s.2.2.2.2.2.2.1, tr, s.2.2.2.2.2.2.2.2.1, s.2.2.2.2.2.2.2.2.2)) := by
  obtain ⟨hm, hb, hl, hh, hlt, C, I, R⟩ := J
  obtain ⟨w2, w3, w4, w5, w6, w7, w8, w9, w10, w11, e⟩ := mx_isTrue (N := 3000) (qui := o_setting_quiets s) (by decide) hlt C I R (o_trial_leadTicks s) (o_trial_cycleTicks s) (o_trial_behind_row s) (o_trial_behind_phases s) (o_trial_behind_coming s) (o_trial_front_row s) (o_trial_front_phases s) (o_trial_front_coming s) (o_trial_flashed s) (o_trial_groupNumbers s)
  refine ⟨(w2, w3, w10, w11, (w4, w5, w6), (w7, w8, w9)), ?_⟩
  unfold T_isTrue
  rw [hb, hl, hh, e]
  rfl
theorem pj_way {x : Int32} {n l c : Nat} {fr to de : Nat → Nat} {S : ma_S} {s : Ob} (J : PJ x n 0 fr to de S s) (B : PA x n fr to de S s) (hm : pr_min (ma_eqv x) (PX x n fr to de S s) l c) (hlc : l + c ≤ 1000) : ∃ (kn' en' br' : Int32) (bp' bc' : Nat → Int32) (fr' : Int32) (fp' fc' fl' : Nat → Int32), ma_ahead x (o_setting_periods s) (o_setting_quiets s) (fun p q => o_setting_answers s (p * 4 + q)) (PX x n fr to de S s) kn' en' (nI l) (nI c) fl' ∧ ma_W (fun t => PF x n fr to de S s (l + t)) l c fl' ∧ f_X5_wayAhead 3000 (o_noiseShare s) (o_aheadKnown s) (o_aheadEnds s) (o_ahead_leadTicks s) (o_ahead_cycleTicks s) (o_now_row s) (o_ahead_behind_row s) (o_now_phases s) (o_ahead_behind_phases s) (o_now_coming s) (o_ahead_behind_coming s) (o_ahead_front_row s) (o_ahead_front_phases s) (o_ahead_front_coming s) (o_setting_beaters s) (o_setting_links s) (o_setting_places s) (o_setting_periods s) (o_setting_quiets s) (o_setting_answers s) (o_setting_froms s) (o_setting_delays s) (o_setting_tos s) (o_setting_strengths s) (o_ahead_flashed s) = some (.inr (kn', en', nI l, nI c, br', bp', bc', fr', fp', fc', fl')) := by
  obtain ⟨hm0, hb, hl, hh, hlt, C, I, R⟩ := J
  obtain ⟨kn', en', lt', ct', br', bp', bc', fr', fp', fc', fl', hA', hw⟩ := mx_wayAhead (N := 3000) (by decide) hlt C I (X := PX x n fr to de S s) rfl R B (o_ahead_behind_row s) (o_ahead_behind_phases s) (o_ahead_behind_coming s) (o_ahead_front_row s) (o_ahead_front_phases s) (o_ahead_front_coming s)
  rw [if_neg (by omega)] at hw
  rcases hw with ⟨l2, c2, rfl, rfl, q3, q4, q5⟩ | ⟨q1, q2⟩
  · obtain ⟨rfl, rfl⟩ := pr_min_uniq (ma_X_ok C) q3 hm
    refine ⟨kn', en', br', bp', bc', fr', fp', fc', fl', hA', q4, ?_⟩
    rw [hb, hl, hh]
    exact q5
  · have := q1 l c hm
    omega
def PS0 : ma_S := (fun _ => 0, fun _ _ => 0)
theorem pob_0 {s : Ob} (h1 : s.1.2.1 = 0) (h2 : s.2.1 = ob_0.2.1) (h3 : s.2.2.1 = ob_0.2.2.1) : PJ 0 0 0 (fun _ => 0) (fun _ => 0) (fun _ => 0) PS0 s := by
  unfold PJ o_noiseShare o_setting_mask o_setting_beaters o_setting_links o_setting_places o_setting_answers o_setting_froms o_setting_tos o_setting_delays o_setting_strengths o_setting_periods o_now_row o_now_phases o_now_coming
  rw [h1, h2, h3]
  refine ⟨rfl, rfl, rfl, rfl, by omega, ⟨by omega, fun k hk => absurd hk (Nat.not_lt_zero _), fun i hi => absurd hi (by rw [show (ms_L 0).length = 0 by decide +kernel]; exact Nat.not_lt_zero _), fun p q _ _ => (show -9 ≤ (0 : Int32).toInt ∧ (0 : Int32).toInt ≤ 9 by decide), fun k hk => absurd hk (Nat.not_lt_zero _)⟩, ⟨fun p _ hb => absurd hb (by rw [b_0]; exact Bool.false_ne_true), fun p d _ _ _ => ⟨0, Nat.zero_le _, rfl⟩⟩, 0, rfl, ⟨by omega, fun _ _ => rfl, fun _ _ _ _ _ => rfl, fun _ _ => rfl, fun _ _ => rfl⟩⟩
theorem pob_0X {s : Ob} : pr_min (ma_eqv 0) (PX 0 0 (fun _ => 0) (fun _ => 0) (fun _ => 0) PS0 s) 0 1 :=
  ⟨Nat.le_refl _, fun p _ hb => absurd hb (by rw [b_0]; exact Bool.false_ne_true), fun d h1 h2 => by omega, fun k hk => absurd hk (Nat.not_lt_zero _)⟩

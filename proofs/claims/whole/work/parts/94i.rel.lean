/-! rows of mine: cut keeps the relation -/
def ct_f (n i : Nat) (F : Nat → Int32) (r : Nat) : Int32 := if i ≤ r ∧ r < n - 1 then F (r + 1) else F r
theorem ct_step {n i : Nat} (F : Nat → Int32) (h : i < n - 1) : ct_f n (i + 1) (upd F i (F (i + 1))) = ct_f n i F := by
  funext r
  unfold ct_f
  by_cases h1 : i + 1 ≤ r ∧ r < n - 1
  · rw [if_pos h1, if_pos (show i ≤ r ∧ r < n - 1 by omega)]
    simp [upd, show r + 1 ≠ i by omega]
  · rw [if_neg h1]
    by_cases h2 : r = i
    · subst h2
      rw [if_pos (show r ≤ r ∧ r < n - 1 by omega)]
      simp [upd]
    · rw [if_neg (show ¬ (i ≤ r ∧ r < n - 1) by omega)]
      simp [upd, h2]
theorem ct_end {n i : Nat} (F : Nat → Int32) (h : n - 1 ≤ i) : ct_f n i F = F := by
  funext r
  unfold ct_f
  rw [if_neg (by omega)]
theorem ct_loop {N n : Nat} (hn : n ≤ 60) (hn1 : 1 ≤ n) : ∀ (f i : Nat) (F T D S : Nat → Int32), n ≤ f + i → i ≤ n - 1 → 1 ≤ f → ∃ y, f_X1_removeLink_2 N (nI n) f (nI i) F T D S = some (y, ct_f n i F, ct_f n i T, ct_f n i D, ct_f n i S) := by
  intro f
  induction f with
  | zero => intro i F T D S h1 h2 h3; omega
  | succ f ih =>
    intro i F T D S h1 h2 h3
    rw [f_X1_removeLink_2.eq_def]
    simp only []
    rw [nI_p1 hn1]
    by_cases h : n - 1 ≤ i
    · rw [if_pos (nI_le h (by omega)), ct_end F h, ct_end T h, ct_end D h, ct_end S h]
      exact ⟨_, rfl⟩
    · rw [if_neg (nI_ge (by omega) (by omega)), nI_1]
      simp only [mg_g (show i + 1 < 60 by omega) (show 60 < 2 ^ 31 by omega), mg_g (show i < 60 by omega) (show 60 < 2 ^ 31 by omega), nI_clamp (show i < 2 ^ 31 by omega), nI_clamp (show i + 1 < 2 ^ 31 by omega)]
      obtain ⟨y, e⟩ := ih (i + 1) (upd F i (F (i + 1))) (upd T i (T (i + 1))) (upd D i (D (i + 1))) (upd S i (S (i + 1))) (by omega) (by omega) (by omega)
      rw [ct_step F (by omega), ct_step T (by omega), ct_step D (by omega), ct_step S (by omega)] at e
      exact ⟨y, e⟩
theorem ct_lt {n c k : Nat} (F : Nat → Int32) (hk : k < n - 1) : ct_f n c F k = F (zs_sk c k) := by
  unfold ct_f zs_sk
  by_cases h : c ≤ k
  · rw [if_pos ⟨h, hk⟩, if_neg (by omega)]
  · rw [if_neg (by omega), if_pos (by omega)]
theorem ct_sk {n c k : Nat} (hc : c < n) (hk : k < n - 1) : zs_sk c k < n := by
  unfold zs_sk
  split <;> omega
theorem ct_lk {n c : Nat} {froms tos delays F T D : Nat → Int32} {fr to de : Nat → Nat} (h : ma_lk n froms tos delays fr to de) (hc : c < n) (hF : ∀ k, k < n - 1 → F k = froms (zs_sk c k)) (hT : ∀ k, k < n - 1 → T k = tos (zs_sk c k)) (hD : ∀ k, k < n - 1 → D k = delays (zs_sk c k)) : ma_lk (n - 1) F T D (fun k => fr (zs_sk c k)) (fun k => to (zs_sk c k)) (fun k => de (zs_sk c k)) := by
  intro k hk
  rw [hF k hk, hT k hk, hD k hk]
  exact h (zs_sk c k) (ct_sk hc hk)
theorem ct_st2 {n c : Nat} {st : Nat → Int32} (h : ma_st n st) (hc : c < n) : ma_st (n - 1) (ct_f n c st) := fun k hk => by
  rw [ct_lt _ hk]
  exact h _ (ct_sk hc hk)
theorem ct_ss {n c : Nat} {a b : Nat → Int32} (h : ∀ k, k < n → a k = b k) (hc : c < n) : ∀ k, k < n - 1 → zs_rmI a c k = ct_f n c b k := fun k hk => by
  rw [ct_lt _ hk]
  exact h _ (ct_sk hc hk)
set_option maxHeartbeats 2000000 in
theorem lr_cut : lw_S_cut ma_Rel := by
  intro j hj v_x_ticksPassed v_x_noiseShare v_x_lot v_x_aheadKnown v_x_aheadEnds v_x_swings_stiffness v_x_swings_pull v_x_swings_there v_x_swings_angles v_x_setting_beaters v_x_setting_mask v_x_setting_links v_x_setting_answers v_x_setting_periods v_x_setting_quiets v_x_setting_places v_x_now_row v_x_now_phases v_x_flashCounts v_x_lastFlashes v_x_ahead_leadTicks v_x_ahead_cycleTicks v_x_ahead_behind_row v_x_ahead_behind_phases v_x_now_coming v_x_ahead_behind_coming v_x_ahead_front_row v_x_ahead_front_phases v_x_ahead_front_coming v_x_setting_froms v_x_setting_delays v_x_setting_tos v_x_setting_strengths v_x_ahead_flashed v_x_swings_speeds v_x_marks_count v_x_marks_ticks v_x_ahead_groupNumbers v_x_trial_leadTicks v_x_trial_cycleTicks v_x_trial_behind_row v_x_trial_behind_phases v_x_trial_behind_coming v_x_trial_front_row v_x_trial_front_phases v_x_trial_front_coming v_x_trial_flashed v_x_trial_groupNumbers v_x_trialStart_row v_x_trialStart_phases v_x_trialStart_coming v_x_pair_beaters v_x_pair_mask v_x_pair_links v_x_pair_places v_x_pair_periods v_x_pair_quiets v_x_pair_answers v_x_pair_froms v_x_pair_tos v_x_pair_delays v_x_pair_strengths v_t_thrown v_t_noise v_t_z v_t_lead v_t_cycle v_t_stiffness v_t_pull v_t_swings v_t_angles v_t_now_time v_t_now_isThere v_t_answers v_t_now_period v_t_now_phase v_t_now_quiet v_t_flashed v_t_last v_t_start_time v_t_start_isThere v_t_start_period v_t_start_phase v_t_start_quiet v_t_start_waiting v_t_now_waiting v_t_slow_time v_t_slow_isThere v_t_slow_period v_t_slow_phase v_t_slow_quiet v_t_slow_waiting v_t_fast_time v_t_fast_isThere v_t_fast_period v_t_fast_phase v_t_fast_quiet v_t_fast_waiting v_t_fast_flashes v_t_slow_flashes v_t_beats v_t_areApart v_t_speeds v_t_now_flashes nl fr tt de st nk vv hR v_out v_outD ml mk cl hl1 hl2 x1
  obtain ⟨h, t, z, fr0, to0, de0, S, ⟨r1, r2, r3, r4⟩, hx, ⟨rfl, rfl, rfl, rfl, rfl, rfl, rfl, rfl⟩, C, E, hf, hinv, hR, hrm, hA, hc, hl, htr, hmk, hsw, hqb⟩ := hR
  have bad : f_L_cut 100 v_x_aheadKnown (nI nl) v_x_setting_froms v_x_setting_tos v_x_setting_delays v_x_setting_strengths v_out x1 = some (1, v_x_aheadKnown, nI nl, v_x_setting_froms, v_x_setting_tos, v_x_setting_delays, v_x_setting_strengths, v_out) → f_X8_cut 100 v_t_thrown ml nl fr tt de st x1 = some (0, 1, ml, nl, fr, tt, de, st) → (∃ (N1 N2 : Nat) (o1 : Int32 × Int32 × Int32 × (Nat → Int32) × (Nat → Int32) × (Nat → Int32) × (Nat → Int32) × (Nat → Int64)) (o2 : Int32 × Int32 × Int32 × Nat × (Nat → Int32) × (Nat → Int32) × (Nat → Int32) × (Nat → Int32)), f_L_cut N1 v_x_aheadKnown (nI nl) v_x_setting_froms v_x_setting_tos v_x_setting_delays v_x_setting_strengths v_out x1 = some o1 ∧ f_X8_cut N2 v_t_thrown ml nl fr tt de st x1 = some o2 ∧ (o2.2.1 = o1.1 ∧ (o1.1 = 0 → o1.2.2.2.2.2.2.2 0 = o2.1.toInt64)) ∧ ma_Rel (j + 1) (nI t) (nI h) (nI z) o1.2.1 v_x_aheadEnds v_x_swings_stiffness v_x_swings_pull v_x_swings_there v_x_swings_angles (nI (ms_L v_x_setting_mask).length) v_x_setting_mask o1.2.2.1 v_x_setting_answers v_x_setting_periods v_x_setting_quiets v_x_setting_places v_x_now_row v_x_now_phases v_x_flashCounts v_x_lastFlashes v_x_ahead_leadTicks v_x_ahead_cycleTicks v_x_ahead_behind_row v_x_ahead_behind_phases v_x_now_coming v_x_ahead_behind_coming v_x_ahead_front_row v_x_ahead_front_phases v_x_ahead_front_coming o1.2.2.2.1 o1.2.2.2.2.2.1 o1.2.2.2.2.1 o1.2.2.2.2.2.2.1 v_x_ahead_flashed v_x_swings_speeds v_x_marks_count v_x_marks_ticks v_x_ahead_groupNumbers v_x_trial_leadTicks v_x_trial_cycleTicks v_x_trial_behind_row v_x_trial_behind_phases v_x_trial_behind_coming v_x_trial_front_row v_x_trial_front_phases v_x_trial_front_coming v_x_trial_flashed v_x_trial_groupNumbers v_x_trialStart_row v_x_trialStart_phases v_x_trialStart_coming v_x_pair_beaters v_x_pair_mask v_x_pair_links v_x_pair_places v_x_pair_periods v_x_pair_quiets v_x_pair_answers v_x_pair_froms v_x_pair_tos v_x_pair_delays v_x_pair_strengths o2.2.1 (nI h) (lN z) v_t_lead v_t_cycle v_t_stiffness v_t_pull v_t_swings v_t_angles (nI t) v_t_now_isThere v_t_answers v_t_now_period v_t_now_phase v_t_now_quiet v_t_flashed v_t_last v_t_start_time v_t_start_isThere v_t_start_period v_t_start_phase v_t_start_quiet v_t_start_waiting v_t_now_waiting v_t_slow_time v_t_slow_isThere v_t_slow_period v_t_slow_phase v_t_slow_quiet v_t_slow_waiting v_t_fast_time v_t_fast_isThere v_t_fast_period v_t_fast_phase v_t_fast_quiet v_t_fast_waiting v_t_fast_flashes v_t_slow_flashes v_t_beats v_t_areApart v_t_speeds v_t_now_flashes o2.2.2.2.1 o2.2.2.2.2.1 o2.2.2.2.2.2.1 o2.2.2.2.2.2.2.1 o2.2.2.2.2.2.2.2 nk vv) := fun b c => ⟨100, 100, (1, v_x_aheadKnown, nI nl, v_x_setting_froms, v_x_setting_tos, v_x_setting_delays, v_x_setting_strengths, v_out), (0, 1, ml, nl, fr, tt, de, st), b, c, ⟨rfl, fun q => absurd (show (1 : Int32) = 0 from q) (by decide)⟩, ⟨h, t, z, fr0, to0, de0, S, ⟨by omega, by omega, r3, r4⟩, hx, ⟨rfl, rfl, rfl, rfl, rfl, rfl, rfl, rfl⟩, C, E, hf, hinv, hR, hrm, hA, hc, hl, htr, hmk, hsw, hqb⟩⟩
  have hn60 := C.1
  have e0 : (0 : Int64).toInt = 0 := by decide
  have hin : f_X8_in 100 x1.toInt64 (0 : Int64) ((nI nl - (1 : Int32)).toInt64) = some (if 0 ≤ x1.toInt ∧ x1.toInt < (nl : Int) then 1 else 0) := by
    rw [mx_in, e0, Int32.toInt_toInt64, Int32.toInt_sub, nI_toInt (by omega), show (1 : Int32).toInt = 1 from by decide, Int.bmod_eq_of_le (by omega) (by omega)]
    by_cases q : 0 ≤ x1.toInt ∧ x1.toInt < (nl : Int)
    · rw [if_pos q, if_pos (by omega)]
    · rw [if_neg q, if_neg (by omega)]
  have h80 : ∀ v : Int32, f_X8_in 100 x1.toInt64 (0 : Int64) ((nI nl - (1 : Int32)).toInt64) = some v → f_X8_cut_0 100 (nI nl) x1 1 v_t_thrown = if v = 0 then some (.inl (1, 0)) else some (.inr 0) := fun v e => by
    unfold f_X8_cut_0
    have hs : f_Jx4a65c_size_8abf5 100 (nI nl) = some (nI nl) := rfl
    rw [hs, Option.bind_some, e, Option.bind_some]
  by_cases hx1 : 0 ≤ x1.toInt ∧ x1.toInt < (nl : Int)
  · obtain ⟨c, hcn, rfl⟩ : ∃ c : Nat, c < nl ∧ x1 = nI c := ⟨x1.toInt.toNat, by omega, by
      apply Int32.toInt_inj.mp
      rw [nI_toInt (by omega)]
      omega⟩
    rw [if_pos hx1] at hin
    obtain ⟨y, e⟩ := ct_loop (N := 100) hn60 (by omega) 100 c v_x_setting_froms v_x_setting_tos v_x_setting_delays v_x_setting_strengths (by omega) (by omega) (by omega)
    refine ⟨100, 100, (0, 0, nI (nl - 1), ct_f nl c v_x_setting_froms, ct_f nl c v_x_setting_tos, ct_f nl c v_x_setting_delays, ct_f nl c v_x_setting_strengths, vp_updL v_out 0 (nI (nl - 1)).toInt64), (nI (nl - 1), 0, ml + 1, nl - 1, zs_rmI fr c, zs_rmI tt c, zs_rmI de c, zs_rmI st c), ?_, ?_, ⟨rfl, fun _ => lr_u0 v_out _⟩, ⟨h, t, z, (fun k => fr0 (zs_sk c k)), (fun k => to0 (zs_sk c k)), (fun k => de0 (zs_sk c k)), S, ⟨by omega, by omega, r3, r4⟩, hx, ⟨rfl, rfl, rfl, rfl, rfl, rfl, rfl, rfl⟩, ⟨show nl - 1 ≤ 60 by omega, ct_lk C.2.1 hcn (fun k hk => ct_lt _ hk) (fun k hk => ct_lt _ hk) (fun k hk => ct_lt _ hk), C.2.2.1, C.2.2.2.1, ct_st2 C.2.2.2.2 hcn⟩, ⟨show nl - 1 ≤ 60 by omega, Nat.le_refl _, ct_lk E.2.2.1 hcn (fun k hk => rfl) (fun k hk => rfl) (fun k hk => rfl), ct_ss E.2.2.2.1 hcn, E.2.2.2.2⟩, hf, hinv, hR, hrm, Or.inl rfl, hc, hl, htr, hmk, hsw, hqb⟩⟩
    · unfold f_L_cut f_X5_cut f_X1_removeLink
      rw [if_neg (nI_pos (by omega)), if_pos (nI_lt hcn (by omega)), e]
      simp only [Option.bind_some, Sum.elim_inr, nI_p1 (show 1 ≤ nl by omega)]
      rfl
    · unfold f_X8_cut
      rw [h80 1 hin, if_neg (by decide), Option.bind_some, Sum.elim_inr, nI_clamp (by omega), if_pos ⟨hcn, rfl⟩]
  · rw [if_neg hx1] at hin
    refine bad ?_ ?_
    · unfold f_L_cut f_X5_cut
      by_cases q : x1 < 0
      · rw [if_pos q]
        rfl
      · rw [if_neg q, if_neg (show ¬ x1 < nI nl from fun q2 => ?_)]
        · rfl
        · have a1 := Int32.lt_iff_toInt_lt.mp q2
          have a2 : ¬ x1.toInt < (0 : Int32).toInt := fun z => q (Int32.lt_iff_toInt_lt.mpr z)
          rw [nI_toInt (by omega)] at a1
          have z : (0 : Int32).toInt = 0 := by decide
          omega
    · unfold f_X8_cut
      rw [h80 0 hin, if_pos rfl]
      rfl

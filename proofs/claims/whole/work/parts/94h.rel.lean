/-! rows of mine: link keeps the relation -/
theorem lk_place {N : Nat} (v : Int32) : (∃ a : Nat, a < 16 ∧ v = nI a ∧ f_X8_in N v.toInt64 (0 : Int64) (15 : Int64) = some 1) ∨ ((v < 0 ∨ (¬ v < 0 ∧ (16 : Int32) ≤ v)) ∧ f_X8_in N v.toInt64 (0 : Int64) (15 : Int64) = some 0) := by
  have e0 : (0 : Int64).toInt = 0 := by decide
  have e15 : (15 : Int64).toInt = 15 := by decide
  rw [mx_in, e0, e15]
  rcases i32_cases v with hv | ⟨k, hk, rfl⟩
  · have h := Int32.lt_iff_toInt_lt.mp hv
    have z : (0 : Int32).toInt = 0 := by decide
    exact Or.inr ⟨Or.inl hv, by rw [if_neg (by omega)]⟩
  · rw [nI_toInt hk]
    by_cases h : k < 16
    · exact Or.inl ⟨k, h, rfl, by rw [if_pos (by omega)]⟩
    · exact Or.inr ⟨Or.inr ⟨nI_pos hk, nI_le (a := 16) (by omega) hk⟩, by rw [if_neg (by omega)]⟩
theorem lk_up {α : Type} {n k : Nat} {f : Nat → Int32} {v : Int32} (hk : k < n) : upd f n v k = f k := by simp [upd, show k ≠ n by omega]
theorem lk_self {n : Nat} {f : Nat → Int32} {v : Int32} : upd f n v n = v := by simp [upd]
theorem lk_add {n a b d : Nat} {froms tos delays : Nat → Int32} {fr to de : Nat → Nat} (h : ma_lk n froms tos delays fr to de) (ha : a < 16) (hb : b < 16) (hd1 : 1 ≤ d) (hd : d ≤ 30) : ma_lk (n + 1) (upd froms n (nI a)) (upd tos n (nI b)) (upd delays n (nI d)) (fun k => if k = n then a else fr k) (fun k => if k = n then b else to k) (fun k => if k = n then d else de k) := by
  intro k hk
  by_cases e : k = n
  · subst e
    dsimp only
    rw [lk_self, lk_self, lk_self, if_pos rfl, if_pos rfl, if_pos rfl]
    exact ⟨rfl, rfl, rfl, ha, hb, hd1, hd⟩
  · have hk2 : k < n := by omega
    dsimp only
    rw [lk_up (α := Nat) hk2, lk_up (α := Nat) hk2, lk_up (α := Nat) hk2, if_neg e, if_neg e, if_neg e]
    exact h k hk2
theorem lk_st {n w : Nat} {st : Nat → Int32} (h : ma_st n st) (hw : w ≤ 9) : ma_st (n + 1) (upd st n (nI w)) := by
  intro k hk
  by_cases e : k = n
  · subst e
    exact ⟨w, hw, lk_self⟩
  · rw [lk_up (α := Nat) (show k < n by omega)]
    exact h k (by omega)
theorem lk_ss {n : Nat} {a b : Nat → Int32} {v : Int32} (h : ∀ k, k < n → a k = b k) : ∀ k, k < n + 1 → upd a n v k = upd b n v k := by
  intro k hk
  by_cases e : k = n
  · subst e
    rw [lk_self, lk_self]
  · rw [lk_up (α := Nat) (show k < n by omega), lk_up (α := Nat) (show k < n by omega)]
    exact h k (by omega)
set_option maxHeartbeats 2000000 in
theorem lr_link : lw_S_link ma_Rel := by
  intro j hj v_x_ticksPassed v_x_noiseShare v_x_lot v_x_aheadKnown v_x_aheadEnds v_x_swings_stiffness v_x_swings_pull v_x_swings_there v_x_swings_angles v_x_setting_beaters v_x_setting_mask v_x_setting_links v_x_setting_answers v_x_setting_periods v_x_setting_quiets v_x_setting_places v_x_now_row v_x_now_phases v_x_flashCounts v_x_lastFlashes v_x_ahead_leadTicks v_x_ahead_cycleTicks v_x_ahead_behind_row v_x_ahead_behind_phases v_x_now_coming v_x_ahead_behind_coming v_x_ahead_front_row v_x_ahead_front_phases v_x_ahead_front_coming v_x_setting_froms v_x_setting_delays v_x_setting_tos v_x_setting_strengths v_x_ahead_flashed v_x_swings_speeds v_x_marks_count v_x_marks_ticks v_x_ahead_groupNumbers v_x_trial_leadTicks v_x_trial_cycleTicks v_x_trial_behind_row v_x_trial_behind_phases v_x_trial_behind_coming v_x_trial_front_row v_x_trial_front_phases v_x_trial_front_coming v_x_trial_flashed v_x_trial_groupNumbers v_x_trialStart_row v_x_trialStart_phases v_x_trialStart_coming v_x_pair_beaters v_x_pair_mask v_x_pair_links v_x_pair_places v_x_pair_periods v_x_pair_quiets v_x_pair_answers v_x_pair_froms v_x_pair_tos v_x_pair_delays v_x_pair_strengths v_t_thrown v_t_noise v_t_z v_t_lead v_t_cycle v_t_stiffness v_t_pull v_t_swings v_t_angles v_t_now_time v_t_now_isThere v_t_answers v_t_now_period v_t_now_phase v_t_now_quiet v_t_flashed v_t_last v_t_start_time v_t_start_isThere v_t_start_period v_t_start_phase v_t_start_quiet v_t_start_waiting v_t_now_waiting v_t_slow_time v_t_slow_isThere v_t_slow_period v_t_slow_phase v_t_slow_quiet v_t_slow_waiting v_t_fast_time v_t_fast_isThere v_t_fast_period v_t_fast_phase v_t_fast_quiet v_t_fast_waiting v_t_fast_flashes v_t_slow_flashes v_t_beats v_t_areApart v_t_speeds v_t_now_flashes nl fr tt de st nk vv hR v_out v_outD ml mk cl hl1 hl2 x1 x2 x3 x4
  obtain ⟨h, t, z, fr0, to0, de0, S, ⟨r1, r2, r3, r4⟩, hx, ⟨rfl, rfl, rfl, rfl, rfl, rfl, rfl, rfl⟩, C, E, hf, hinv, hR, hrm, hA, hc, hl, htr, hmk, hsw, hqb⟩ := hR
  have bad : ∀ (k : Int32), ¬ k = 0 → f_L_link 0 v_x_aheadKnown (nI nl) v_x_setting_froms v_x_setting_tos v_x_setting_delays v_x_setting_strengths v_out x1 x2 x3 x4 = some (k, v_x_aheadKnown, nI nl, v_x_setting_froms, v_x_setting_tos, v_x_setting_delays, v_x_setting_strengths, v_out) → f_X8_link 0 v_t_thrown ml nl fr tt de st x1 x2 x3 x4 = some (0, k, ml, nl, fr, tt, de, st) → (∃ (N1 N2 : Nat) (o1 : Int32 × Int32 × Int32 × (Nat → Int32) × (Nat → Int32) × (Nat → Int32) × (Nat → Int32) × (Nat → Int64)) (o2 : Int32 × Int32 × Int32 × Nat × (Nat → Int32) × (Nat → Int32) × (Nat → Int32) × (Nat → Int32)), f_L_link N1 v_x_aheadKnown (nI nl) v_x_setting_froms v_x_setting_tos v_x_setting_delays v_x_setting_strengths v_out x1 x2 x3 x4 = some o1 ∧ f_X8_link N2 v_t_thrown ml nl fr tt de st x1 x2 x3 x4 = some o2 ∧ (o2.2.1 = o1.1 ∧ (o1.1 = 0 → o1.2.2.2.2.2.2.2 0 = o2.1.toInt64)) ∧ ma_Rel (j + 1) (nI t) (nI h) (nI z) o1.2.1 v_x_aheadEnds v_x_swings_stiffness v_x_swings_pull v_x_swings_there v_x_swings_angles (nI (ms_L v_x_setting_mask).length) v_x_setting_mask o1.2.2.1 v_x_setting_answers v_x_setting_periods v_x_setting_quiets v_x_setting_places v_x_now_row v_x_now_phases v_x_flashCounts v_x_lastFlashes v_x_ahead_leadTicks v_x_ahead_cycleTicks v_x_ahead_behind_row v_x_ahead_behind_phases v_x_now_coming v_x_ahead_behind_coming v_x_ahead_front_row v_x_ahead_front_phases v_x_ahead_front_coming o1.2.2.2.1 o1.2.2.2.2.2.1 o1.2.2.2.2.1 o1.2.2.2.2.2.2.1 v_x_ahead_flashed v_x_swings_speeds v_x_marks_count v_x_marks_ticks v_x_ahead_groupNumbers v_x_trial_leadTicks v_x_trial_cycleTicks v_x_trial_behind_row v_x_trial_behind_phases v_x_trial_behind_coming v_x_trial_front_row v_x_trial_front_phases v_x_trial_front_coming v_x_trial_flashed v_x_trial_groupNumbers v_x_trialStart_row v_x_trialStart_phases v_x_trialStart_coming v_x_pair_beaters v_x_pair_mask v_x_pair_links v_x_pair_places v_x_pair_periods v_x_pair_quiets v_x_pair_answers v_x_pair_froms v_x_pair_tos v_x_pair_delays v_x_pair_strengths o2.2.1 (nI h) (lN z) v_t_lead v_t_cycle v_t_stiffness v_t_pull v_t_swings v_t_angles (nI t) v_t_now_isThere v_t_answers v_t_now_period v_t_now_phase v_t_now_quiet v_t_flashed v_t_last v_t_start_time v_t_start_isThere v_t_start_period v_t_start_phase v_t_start_quiet v_t_start_waiting v_t_now_waiting v_t_slow_time v_t_slow_isThere v_t_slow_period v_t_slow_phase v_t_slow_quiet v_t_slow_waiting v_t_fast_time v_t_fast_isThere v_t_fast_period v_t_fast_phase v_t_fast_quiet v_t_fast_waiting v_t_fast_flashes v_t_slow_flashes v_t_beats v_t_areApart v_t_speeds v_t_now_flashes o2.2.2.2.1 o2.2.2.2.2.1 o2.2.2.2.2.2.1 o2.2.2.2.2.2.2.1 o2.2.2.2.2.2.2.2 nk vv) := fun k hk b c => ⟨0, 0, (k, v_x_aheadKnown, nI nl, v_x_setting_froms, v_x_setting_tos, v_x_setting_delays, v_x_setting_strengths, v_out), (0, k, ml, nl, fr, tt, de, st), b, c, ⟨rfl, fun q => absurd (show k = 0 from q) hk⟩, ⟨h, t, z, fr0, to0, de0, S, ⟨by omega, by omega, r3, r4⟩, hx, ⟨rfl, rfl, rfl, rfl, rfl, rfl, rfl, rfl⟩, C, E, hf, hinv, hR, hrm, hA, hc, hl, htr, hmk, hsw, hqb⟩⟩
  have n1 : ¬ (1 : Int32) = 0 := by decide
  rcases lk_place (N := 0) x1 with ⟨a, ha, rfl, p1⟩ | ⟨p0, p1⟩
  · have a1 : ¬ nI a < (0 : Int32) := nI_pos (by omega)
    have a2 : ¬ (16 : Int32) ≤ nI a := nI_ge (a := a) (b := 16) ha (by omega)
    rcases lk_place (N := 0) x2 with ⟨b, hb, rfl, p2⟩ | ⟨p0, p2⟩
    · have b1 : ¬ nI b < (0 : Int32) := nI_pos (by omega)
      have b2 : nI b < (16 : Int32) := nI_lt (b := 16) hb (by omega)
      by_cases hab : nI a = nI b
      · have ha2 : f_X5_checkOther 0 (nI a) (nI b) = some (.inl "java/lang/IllegalArgumentException") := by unfold f_X5_checkOther; rw [if_pos hab]
        refine bad 2 (by decide) ?_ ?_
        · unfold f_L_link f_X5_link
          rw [if_neg a1, if_neg a2, if_neg b1, if_pos b2, ha2]
          rfl
        · unfold f_X8_link f_X8_link_0
          rw [p1, Option.bind_some, if_neg n1, p2, Option.bind_some, if_neg n1, if_pos hab]
          rfl
      · have ha2 : f_X5_checkOther 0 (nI a) (nI b) = some (.inr ()) := by unfold f_X5_checkOther; rw [if_neg hab]
        rcases mx_range (N := 0) x3 1 30 (by omega) (by omega) with ⟨e1, e2⟩ | ⟨d, hd1, hd2, rfl, e1, e2⟩
        · have e1 : f_X5_checkRange 0 x3 (1 : Int32) (30 : Int32) = _ := e1
          have e2 : f_X8_in 0 x3.toInt64 (1 : Int64) (30 : Int64) = _ := e2
          refine bad 2 (by decide) ?_ ?_
          · unfold f_L_link f_X5_link
            rw [if_neg a1, if_neg a2, if_neg b1, if_pos b2, ha2, Option.bind_some, Sum.elim_inr, e1]
            rfl
          · unfold f_X8_link f_X8_link_0 f_X8_isLink
            rw [p1, Option.bind_some, if_neg n1, p2, Option.bind_some, if_neg n1, if_neg hab, e2]
            rfl
        · have e1 : f_X5_checkRange 0 (nI d) (1 : Int32) (30 : Int32) = _ := e1
          have e2 : f_X8_in 0 (nI d).toInt64 (1 : Int64) (30 : Int64) = _ := e2
          rcases mx_range (N := 0) x4 1 9 (by omega) (by omega) with ⟨e3, e4⟩ | ⟨w, hw1, hw2, rfl, e3, e4⟩
          · have e3 : f_X5_checkRange 0 x4 (1 : Int32) (9 : Int32) = _ := e3
            have e4 : f_X8_in 0 x4.toInt64 (1 : Int64) (9 : Int64) = _ := e4
            refine bad 2 (by decide) ?_ ?_
            · unfold f_L_link f_X5_link
              rw [if_neg a1, if_neg a2, if_neg b1, if_pos b2, ha2, Option.bind_some, Sum.elim_inr, e1, Option.bind_some, Sum.elim_inr, e3]
              rfl
            · unfold f_X8_link f_X8_link_0 f_X8_isLink
              rw [p1, Option.bind_some, if_neg n1, p2, Option.bind_some, if_neg n1, if_neg hab, e2, Option.bind_some, if_neg n1, e4]
              rfl
          · have e3 : f_X5_checkRange 0 (nI w) (1 : Int32) (9 : Int32) = _ := e3
            have e4 : f_X8_in 0 (nI w).toInt64 (1 : Int64) (9 : Int64) = _ := e4
            have hn60 := C.1
            by_cases h60 : nl = 60
            · refine bad 3 (by decide) ?_ ?_
              · unfold f_L_link f_X5_link
                rw [if_neg a1, if_neg a2, if_neg b1, if_pos b2, ha2, Option.bind_some, Sum.elim_inr, e1, Option.bind_some, Sum.elim_inr, e3, Option.bind_some, Sum.elim_inr, if_neg (show ¬ nI nl < (60 : Int32) from nI_nlt (a := nl) (b := 60) (by omega) (by omega))]
                rfl
              · unfold f_X8_link f_X8_link_0 f_X8_isLink
                rw [p1, Option.bind_some, if_neg n1, p2, Option.bind_some, if_neg n1, if_neg hab, e2, Option.bind_some, if_neg n1, e4, Option.bind_some, if_neg n1, Option.bind_some, if_neg n1]
                show ((if nI nl = (60 : Int32) then _ else _ : Option _).bind _) = _
                rw [if_pos (show nI nl = (60 : Int32) by rw [h60]; rfl)]
                rfl
            · have hlt : nI nl < (60 : Int32) := nI_lt (b := 60) (by omega) (by omega)
              refine ⟨0, 0, (0, 0, nI (nl + 1), upd v_x_setting_froms nl (nI a), upd v_x_setting_tos nl (nI b), upd v_x_setting_delays nl (nI d), upd v_x_setting_strengths nl (nI w), vp_updL v_out 0 (nI nl).toInt64), (nI nl, 0, ml + 1, nl + 1, upd fr nl (nI a), upd tt nl (nI b), upd de nl (nI d), upd st nl (nI w)), ?_, ?_, ⟨rfl, fun _ => lr_u0 v_out _⟩, ⟨h, t, z, (fun k => if k = nl then a else fr0 k), (fun k => if k = nl then b else to0 k), (fun k => if k = nl then d else de0 k), S, ⟨by omega, by omega, r3, r4⟩, hx, ⟨rfl, rfl, rfl, rfl, rfl, rfl, rfl, rfl⟩, ⟨show nl + 1 ≤ 60 by omega, lk_add C.2.1 ha hb hd1 hd2, C.2.2.1, C.2.2.2.1, fun k hk => lk_st C.2.2.2.2 hw2 k hk⟩, ⟨show nl + 1 ≤ 60 by omega, Nat.le_refl _, lk_add E.2.2.1 ha hb hd1 hd2, fun k hk => lk_ss E.2.2.2.1 k hk, E.2.2.2.2⟩, hf, hinv, hR, hrm, Or.inl rfl, hc, hl, htr, hmk, hsw, hqb⟩⟩
              · unfold f_L_link f_X5_link f_X1_addLink
                rw [if_neg a1, if_neg a2, if_neg b1, if_pos b2, ha2, Option.bind_some, Sum.elim_inr, e1, Option.bind_some, Sum.elim_inr, e3, Option.bind_some, Sum.elim_inr, if_pos hlt, if_neg (show ¬ (60 : Int32) ≤ nI nl from nI_ge (a := nl) (b := 60) (by omega) (by omega))]
                simp only [mg_g (show nl < 60 by omega) (show 60 < 2 ^ 31 by omega), nI_clamp (show nl < 2 ^ 31 by omega), nI_1, Option.bind_some, Sum.elim_inr, nI_pred]
                rfl
              · unfold f_X8_link f_X8_link_0 f_X8_isLink
                rw [p1, Option.bind_some, if_neg n1, p2, Option.bind_some, if_neg n1, if_neg hab, e2, Option.bind_some, if_neg n1, e4, Option.bind_some, if_neg n1, Option.bind_some, if_neg n1]
                show ((if nI nl = (60 : Int32) then _ else _ : Option _).bind _) = _
                rw [if_neg (show ¬ nI nl = (60 : Int32) from fun q => h60 ((nI_eq (by omega) (by omega)).mp (show nI nl = nI 60 from q)))]
                show (if nl ≤ 59 then _ else _) = _
                rw [if_pos (by omega)]
    · refine bad 1 (by decide) ?_ ?_
      · unfold f_L_link f_X5_link
        rw [if_neg a1, if_neg a2]
        rcases p0 with q | ⟨q1, q2⟩
        · rw [if_pos q]
          rfl
        · rw [if_neg q1, if_neg (Int32.not_lt.mpr q2)]
          rfl
      · unfold f_X8_link f_X8_link_0
        rw [p1, Option.bind_some, if_neg n1, p2]
        rfl
  · refine bad 1 (by decide) ?_ ?_
    · unfold f_L_link f_X5_link
      rcases p0 with q | ⟨q1, q2⟩
      · rw [if_pos q]
        rfl
      · rw [if_neg q1, if_pos q2]
        rfl
    · unfold f_X8_link f_X8_link_0
      rw [p1]
      rfl

/-! rows of mine: leastPush agrees and keeps the relation -/
theorem pj_le : ∀ k a, pj k a ≤ k := by
  intro k
  induction k with
  | zero => intro a; exact Nat.le_refl _
  | succ k ih =>
    intro a
    show a % 2 + pj k (a / 2) ≤ k + 1
    have := ih (a / 2)
    omega
theorem pn_le {k i : Nat} (hk : k ≤ 16) (hi : i < 2 ^ k) : pn i ≤ k := by
  unfold pn
  rw [pj_c]
  have := pj_st k (16 - k) i hi
  rw [show k + (16 - k) = 16 by omega] at this
  rw [this]
  exact pj_le k i
theorem lp_cnt {p q : Nat → Bool} : ∀ (l : List Nat), (∀ x, x ∈ l → p x = true → q x = true) → ∀ y, y ∈ l → q y = true → ¬ p y = true → l.countP p < l.countP q := by
  intro l
  induction l with
  | nil => intro _ y hy; exact absurd hy (by simp)
  | cons a r ih =>
    intro h y hy hq hp
    rw [List.countP_cons, List.countP_cons]
    have hle : r.countP p ≤ r.countP q := List.countP_mono_left (fun x hx hpx => h x (List.mem_cons_of_mem _ hx) hpx)
    rw [List.mem_cons] at hy
    rcases hy with rfl | hy
    · rw [if_neg hp, if_pos hq]
      omega
    · have := ih (fun x hx => h x (List.mem_cons_of_mem _ hx)) y hy hq hp
      by_cases hpa : p a = true
      · rw [if_pos hpa, if_pos (h a List.mem_cons_self hpa)]
        omega
      · rw [if_neg hpa]
        split <;> omega
theorem pn_sub {a b : Nat} (hb : b < 65536) (h : ∀ q, a.testBit q = true → b.testBit q = true) : pn a ≤ pn b ∧ (pn a = pn b → a = b) := by
  refine ⟨List.countP_mono_left (fun q _ hq => h q hq), fun e => ?_⟩
  apply Nat.eq_of_testBit_eq
  intro q
  cases ha : a.testBit q with
  | true => exact (h q ha).symm
  | false =>
    cases hbq : b.testBit q with
    | false => rfl
    | true =>
      exfalso
      have hq : q < 16 := by
        rcases Nat.lt_or_ge q 16 with w | w
        · exact w
        · rw [lp_hi hb q w] at hbq; cases hbq
      have := lp_cnt (p := fun q => a.testBit q) (q := fun q => b.testBit q) (List.range 16) (fun q _ hq => h q hq) q (List.mem_range.mpr hq) hbq (by rw [ha]; decide)
      unfold pn at e
      omega
theorem lp_same {x : Int32} {per : Nat → Int32} {S : ma_S} {a b : Nat} (ha : ∀ q, a.testBit q = true → q ∈ ms_L x) (hb : ∀ q, b.testBit q = true → q ∈ ms_L x) (h : ∀ q, q ∈ lp_M x per S → a.testBit q = b.testBit q) : lp_S x per S a = lp_S x per S b := by
  unfold lp_S
  congr 1
  funext p
  by_cases hp : p ∈ ms_L x
  · by_cases hm : lp_pp x per S p = S.1 p
    · rw [hm]
      split <;> split <;> rfl
    · rw [h p (List.mem_filter.mpr ⟨hp, decide_eq_true hm⟩)]
  · rw [if_neg (fun q => hp (ha p q)), if_neg (fun q => hp (hb p q))]
theorem lp_sameB {x : Int32} {per qui : Nat → Int32} {an : Nat → Nat → Int32} {n : Nat} {fr to de : Nat → Nat} {st : Nat → Int32} {S : ma_S} {a b : Nat} (h : lp_S x per S a = lp_S x per S b) (hB : lp_B x per qui an n fr to de st S a) : lp_B x per qui an n fr to de st S b := by
  unfold lp_B at hB ⊢
  rw [← h]
  exact hB
/-- the least set among all and the least among the movable -/
theorem lp_two {x : Int32} {per : Nat → Int32} {S : ma_S} {Bq : Nat → Prop} (h8 : (ms_L x).length ≤ 8) (hB : ∀ a b, (∀ q, a.testBit q = true → q ∈ ms_L x) → (∀ q, b.testBit q = true → q ∈ ms_L x) → (∀ q, q ∈ lp_M x per S → a.testBit q = b.testBit q) → Bq a → Bq b) {i2 s2 : Nat} (r1 : i2 < 2 ^ (ms_L x).length) (r2 : pn i2 = s2) (r3 : Bq (ps (ms_L x) i2)) (r4 : ∀ i, i < i2 → ¬ (pn i = s2 ∧ Bq (ps (ms_L x) i))) (r5 : ∀ s3, s3 < s2 → ∀ i, i < 2 ^ (ms_L x).length → ¬ (pn i = s3 ∧ Bq (ps (ms_L x) i))) : ∃ i0, i0 < 2 ^ (lp_M x per S).length ∧ ps (lp_M x per S) i0 = ps (ms_L x) i2 ∧ pn (ps (lp_M x per S) i0) = s2 := by
  have hl := lp_asc x
  have h16 : ∀ p, p ∈ ms_L x → p < 16 := fun p hp => (ms_l_mem.mp hp).1
  have hlM : (lp_M x per S).Pairwise (· < ·) := List.Pairwise.filter _ (lp_asc x)
  have hML : ∀ q, q ∈ lp_M x per S → q ∈ ms_L x := fun q hq => (List.mem_filter.mp hq).1
  have ha : ps (ms_L x) i2 < 65536 := ps_16 hl h16 _
  have hpa : pn (ps (ms_L x) i2) = s2 := by rw [ps_pn hl h16 r1 (by omega), r2]
  obtain ⟨i0, g1, g2⟩ := ps_surj (lp_M x per S) hlM (ps (ms_L x) i2 &&& pm (lp_M x per S)) (fun q hq => by
    rw [Nat.testBit_and, Bool.and_eq_true] at hq
    exact (pm_bit hlM q).mp hq.2)
  have hsub : ∀ q, (ps (lp_M x per S) i0).testBit q = true → (ps (ms_L x) i2).testBit q = true := fun q hq => by
    rw [g2, Nat.testBit_and, Bool.and_eq_true] at hq
    exact hq.1
  obtain ⟨c1, c2⟩ := pn_sub ha hsub
  have hB0 : Bq (ps (lp_M x per S) i0) := hB _ _ (fun q hq => ps_mem hl hq) (fun q hq => hML q (ps_mem hlM hq)) (fun q hq => by
    rw [g2, Nat.testBit_and, (pm_bit hlM q).mpr hq, Bool.and_true]) r3
  obtain ⟨k0, d1, d2⟩ := ps_surj (ms_L x) hl (ps (lp_M x per S) i0) (fun q hq => hML q (ps_mem hlM hq))
  have hk0 : pn k0 = pn (ps (lp_M x per S) i0) := by rw [← d2, ps_pn hl h16 d1 (by omega)]
  have e : pn (ps (lp_M x per S) i0) = pn (ps (ms_L x) i2) := by
    rcases Nat.lt_or_ge (pn (ps (lp_M x per S) i0)) (pn (ps (ms_L x) i2)) with w | w
    · exfalso
      exact r5 _ (by rw [hpa] at w; exact w) k0 d1 ⟨hk0, by rw [d2]; exact hB0⟩
    · omega
  exact ⟨i0, g1, c2 e, by rw [e, hpa]⟩
set_option maxHeartbeats 4000000 in
theorem lr_leastPush : lw_S_leastPush ma_Rel := by
  intro j hj v_x_ticksPassed v_x_noiseShare v_x_lot v_x_aheadKnown v_x_aheadEnds v_x_swings_stiffness v_x_swings_pull v_x_swings_there v_x_swings_angles v_x_setting_beaters v_x_setting_mask v_x_setting_links v_x_setting_answers v_x_setting_periods v_x_setting_quiets v_x_setting_places v_x_now_row v_x_now_phases v_x_flashCounts v_x_lastFlashes v_x_ahead_leadTicks v_x_ahead_cycleTicks v_x_ahead_behind_row v_x_ahead_behind_phases v_x_now_coming v_x_ahead_behind_coming v_x_ahead_front_row v_x_ahead_front_phases v_x_ahead_front_coming v_x_setting_froms v_x_setting_delays v_x_setting_tos v_x_setting_strengths v_x_ahead_flashed v_x_swings_speeds v_x_marks_count v_x_marks_ticks v_x_ahead_groupNumbers v_x_trial_leadTicks v_x_trial_cycleTicks v_x_trial_behind_row v_x_trial_behind_phases v_x_trial_behind_coming v_x_trial_front_row v_x_trial_front_phases v_x_trial_front_coming v_x_trial_flashed v_x_trial_groupNumbers v_x_trialStart_row v_x_trialStart_phases v_x_trialStart_coming v_x_pair_beaters v_x_pair_mask v_x_pair_links v_x_pair_places v_x_pair_periods v_x_pair_quiets v_x_pair_answers v_x_pair_froms v_x_pair_tos v_x_pair_delays v_x_pair_strengths v_t_thrown v_t_noise v_t_z v_t_lead v_t_cycle v_t_stiffness v_t_pull v_t_swings v_t_angles v_t_now_time v_t_now_isThere v_t_answers v_t_now_period v_t_now_phase v_t_now_quiet v_t_flashed v_t_last v_t_start_time v_t_start_isThere v_t_start_period v_t_start_phase v_t_start_quiet v_t_start_waiting v_t_now_waiting v_t_slow_time v_t_slow_isThere v_t_slow_period v_t_slow_phase v_t_slow_quiet v_t_slow_waiting v_t_fast_time v_t_fast_isThere v_t_fast_period v_t_fast_phase v_t_fast_quiet v_t_fast_waiting v_t_fast_flashes v_t_slow_flashes v_t_beats v_t_areApart v_t_speeds v_t_now_flashes nl fr tt de st nk vv hR v_out v_outD ml mk cl hl1 hl2 
  obtain ⟨h, t, z, fr0, to0, de0, S, ⟨r1, r2, r3, r4⟩, hx, ⟨rfl, rfl, rfl, rfl, rfl, rfl, rfl, rfl⟩, C, E, hf, hinv, hR, hrm, hA, hc, hl, htr, hmk, hsw, hqb⟩ := hR
  have E' : ma_E v_x_setting_mask nl cl v_t_answers (fun p q => v_x_setting_answers (p * 4 + q)) fr tt de st fr0 to0 de0 v_x_setting_strengths := ⟨E.1, hl1, E.2.2⟩
  have hb : zs_b v_t_now_isThere 16 = ms_L v_x_setting_mask := zb_L (fun q hq => (hf q hq).1) 16 (Nat.le_refl _)
  have hlen : (ms_L v_x_setting_mask).length ≤ 16 := ms_l_len v_x_setting_mask 16
  have hsz : f_Jx4a65c_size_8abf5 6000 (nI (ms_L v_x_setting_mask).length) = some (nI (ms_L v_x_setting_mask).length) := rfl
  have hin := mx_in (N := 6000) (nI (ms_L v_x_setting_mask).length) 1 8
  have e1' : (1 : Int64).toInt = 1 := by decide
  have e8' : (8 : Int64).toInt = 8 := by decide
  rw [e1', e8', nI_toInt (by omega)] at hin
  by_cases h0 : h = 0
  · have n0 : nI h ≤ (0 : Int32) := by rw [h0]; decide
    have n0' : ¬ (0 : Int32) < nI h := by rw [h0]; decide
    have cn : f_X5_checkNoNoise 6000 (nI h) = some (.inr ()) := by unfold f_X5_checkNoNoise; rw [if_pos n0]
    by_cases hl1 : (ms_L v_x_setting_mask).length < 1
    · have hlt : nI (ms_L v_x_setting_mask).length < (1 : Int32) := nI_lt (b := 1) hl1 (by omega)
      rw [if_neg (by omega)] at hin
      have HC : ∃ o1, f_L_leastPush 6000 (nI h) (nI (ms_L v_x_setting_mask).length) v_x_setting_mask (nI nl) v_x_setting_places v_x_now_row v_x_now_phases v_x_setting_periods v_x_trialStart_row v_x_trialStart_phases v_x_now_coming v_x_trialStart_coming v_x_trial_leadTicks v_x_trial_cycleTicks v_x_trial_behind_row v_x_trial_behind_phases v_x_trial_behind_coming v_x_trial_front_row v_x_trial_front_phases v_x_trial_front_coming v_x_setting_quiets v_x_setting_answers v_x_setting_froms v_x_setting_delays v_x_setting_tos v_x_setting_strengths v_x_trial_flashed v_out = some o1 ∧ o1.1 = 1 ∧ ∃ r, o1.2.1 = nI r ∧ r < 32 := by
        apply Exists.intro
        apply And.intro
        · unfold f_L_leastPush f_X5_leastPush
          rw [cn, Option.bind_some, Sum.elim_inr, if_pos hlt]
          rfl
        · exact ⟨rfl, htr⟩
      have HR : ∃ o2, f_X8_leastPush 6000 v_t_thrown (nI h) (lN z) v_t_lead v_t_cycle (nI t) v_t_now_isThere v_t_now_phase v_t_start_time v_t_start_isThere v_t_now_period v_t_start_period v_t_start_phase v_t_now_quiet v_t_start_quiet v_t_start_waiting v_t_now_waiting v_t_slow_time v_t_slow_isThere v_t_slow_period v_t_slow_phase v_t_slow_quiet v_t_slow_waiting v_t_fast_time v_t_fast_isThere v_t_fast_period v_t_fast_phase v_t_fast_quiet v_t_fast_waiting v_t_fast_flashes v_t_answers (nI nl) cl fr tt de st v_t_slow_flashes v_t_beats v_t_areApart = some o2 ∧ o2.2.1 = 1 ∧ o2.2.2.1 = lN z := by
        apply Exists.intro
        apply And.intro
        · unfold f_X8_leastPush
          rw [f_X8_leastPush_5.eq_def]
          simp only []
          rw [if_neg n0', hb, hsz, Option.bind_some, hin, Option.bind_some, if_pos rfl]
          rfl
        · exact ⟨rfl, rfl⟩
      obtain ⟨o1, a1, a2, a4⟩ := HC
      obtain ⟨o2, b1, b2, b3⟩ := HR
      exact ⟨6000, 6000, o1, o2, a1, b1, ⟨by rw [b2, a2], fun q => absurd (a2.symm.trans q) (by decide)⟩, ⟨h, t, z, fr0, to0, de0, S, ⟨by omega, by omega, r3, r4⟩, hx, ⟨rfl, rfl, rfl, rfl, rfl, rfl, rfl, b3⟩, C, E, hf, hinv, hR, hrm, hA, hc, hl, a4, hmk, hsw, hqb⟩⟩
    · have hlt : ¬ nI (ms_L v_x_setting_mask).length < (1 : Int32) := nI_nlt (b := 1) (by omega) (by omega)
      by_cases hl8 : (ms_L v_x_setting_mask).length ≤ 8
      · have hle : nI (ms_L v_x_setting_mask).length ≤ (8 : Int32) := nI_le (b := 8) hl8 (by omega)
        rw [if_pos (by omega)] at hin
        have h1 : 1 ≤ (ms_L v_x_setting_mask).length := by omega
        have hlM : (lp_M v_x_setting_mask v_x_setting_periods S).Pairwise (· < ·) := List.Pairwise.filter _ (lp_asc v_x_setting_mask)
        have hM16 : ∀ p, p ∈ lp_M v_x_setting_mask v_x_setting_periods S → p < 16 := fun p hp => (ms_l_mem.mp (List.mem_filter.mp hp).1).1
        have hM8 : (lp_M v_x_setting_mask v_x_setting_periods S).length ≤ 8 := Nat.le_trans (List.length_filter_le _ _) hl8
        have hlA := lp_asc v_x_setting_mask
        have h16 : ∀ p, p ∈ ms_L v_x_setting_mask → p < 16 := fun p hp => (ms_l_mem.mp hp).1
        have hML : ∀ q, q ∈ lp_M v_x_setting_mask v_x_setting_periods S → q ∈ ms_L v_x_setting_mask := fun q hq => (List.mem_filter.mp hq).1
        have mv := lp_mv (N := 6000) (qui := v_x_setting_quiets) (by decide) hx h1 C hinv hR
        obtain ⟨oc, c1, c2⟩ := lp_45 (N := 6000) (by decide) hlM hM16 hM8 hx h1 C hinv (qui := v_x_setting_quiets) hR ((lp_M v_x_setting_mask v_x_setting_periods S).length + 1) 0 6000 v_x_trialStart_row v_x_trialStart_phases v_x_trialStart_coming v_x_trial_leadTicks v_x_trial_cycleTicks v_x_trial_behind_row v_x_trial_behind_phases v_x_trial_behind_coming v_x_trial_front_row v_x_trial_front_phases v_x_trial_front_coming v_x_trial_flashed (by omega) (by omega) htr
        obtain ⟨orr, d1, d2⟩ := lp_67 (N := 6000) (t0 := t) (z := z) (by decide) (by omega) r4 hx h1 hl8 E' (fun a => ma_X_inv C (lp_inv hinv h1 a)) hf hrm ((ms_L v_x_setting_mask).length + 1) 0 6000 v_t_lead v_t_cycle v_t_start_time v_t_start_isThere v_t_start_period v_t_start_phase v_t_start_quiet v_t_start_waiting v_t_slow_time v_t_slow_isThere v_t_slow_period v_t_slow_phase v_t_slow_quiet v_t_slow_waiting v_t_fast_time v_t_fast_isThere v_t_fast_period v_t_fast_phase v_t_fast_quiet v_t_fast_waiting v_t_fast_flashes v_t_slow_flashes v_t_beats v_t_areApart (by omega) (by omega)
        have c1 : f_X5_leastPush_45 6000 (nI (ms_L v_x_setting_mask).length) v_x_setting_mask (nI nl) v_x_setting_places v_x_now_row v_x_now_phases v_x_setting_periods v_x_now_coming v_x_setting_quiets v_x_setting_answers v_x_setting_froms v_x_setting_delays v_x_setting_tos v_x_setting_strengths (nI (pm (lp_M v_x_setting_mask v_x_setting_periods S))) 6000 (0 : Int32) v_x_trialStart_row v_x_trialStart_phases v_x_trialStart_coming v_x_trial_leadTicks v_x_trial_cycleTicks v_x_trial_behind_row v_x_trial_behind_phases v_x_trial_behind_coming v_x_trial_front_row v_x_trial_front_phases v_x_trial_front_coming v_x_trial_flashed = some oc := c1
        have hB : ∀ a b, (∀ q, a.testBit q = true → q ∈ ms_L v_x_setting_mask) → (∀ q, b.testBit q = true → q ∈ ms_L v_x_setting_mask) → (∀ q, q ∈ lp_M v_x_setting_mask v_x_setting_periods S → a.testBit q = b.testBit q) → (lp_B v_x_setting_mask v_x_setting_periods v_x_setting_quiets (fun p q => v_x_setting_answers (p * 4 + q)) nl fr0 to0 de0 v_x_setting_strengths S) a → (lp_B v_x_setting_mask v_x_setting_periods v_x_setting_quiets (fun p q => v_x_setting_answers (p * 4 + q)) nl fr0 to0 de0 v_x_setting_strengths S) b := fun a b g1 g2 g3 g4 => lp_sameB (lp_same g1 g2 g3) g4
        have asL : ∀ i, i < 2 ^ (lp_M v_x_setting_mask v_x_setting_periods S).length → ∃ k, k < 2 ^ (ms_L v_x_setting_mask).length ∧ ps (ms_L v_x_setting_mask) k = ps (lp_M v_x_setting_mask v_x_setting_periods S) i ∧ pn k = pn (ps (lp_M v_x_setting_mask v_x_setting_periods S) i) := fun i hi => by
          obtain ⟨k, k1, k2⟩ := ps_surj (ms_L v_x_setting_mask) hlA (ps (lp_M v_x_setting_mask v_x_setting_periods S) i) (fun q hq => hML q (ps_mem hlM hq))
          exact ⟨k, k1, k2, by rw [← k2, ps_pn hlA h16 k1 (by omega)]⟩
        have hV0 : v_t_now_phase ((ms_L v_x_setting_mask).getD 0 0) = S.1 ((ms_L v_x_setting_mask).getD 0 0) := hrm.1 _ (ms_l_getD (x := v_x_setting_mask) (p := 16) (i := 0) h1).1
        have gL0 : (ms_L v_x_setting_mask).getD 0 0 < 16 := (ms_l_getD (x := v_x_setting_mask) (p := 16) (i := 0) h1).1
        have zz : (0 : Int32).toNatClampNeg = 0 := by decide
        have hz0 : ∀ {β : Type} (y : Option β), zk_g (0 : Int32) (ms_L v_x_setting_mask).length y = y := fun y => mg_g (show 0 < (ms_L v_x_setting_mask).length by omega) (by omega) y
        have hz1 : ∀ {β : Type} (y : Option β), zk_g (nI ((ms_L v_x_setting_mask).getD 0 0)) 16 y = y := fun y => mg_g gL0 (by omega) y
        have d1 : f_X8_leastPush_67 6000 (nI t) v_t_now_isThere (nI (ms_L v_x_setting_mask).length) (fun i => nI ((ms_L v_x_setting_mask).getD i 0)) v_t_now_phase v_t_now_period v_t_now_quiet v_t_now_waiting v_t_answers (nI nl) cl fr tt de st (v_t_now_phase ((ms_L v_x_setting_mask).getD 0 0)) 6000 (0 : Int32) (lN z) v_t_lead v_t_cycle v_t_start_time v_t_start_isThere v_t_start_period v_t_start_phase v_t_start_quiet v_t_start_waiting v_t_slow_time v_t_slow_isThere v_t_slow_period v_t_slow_phase v_t_slow_quiet v_t_slow_waiting v_t_fast_time v_t_fast_isThere v_t_fast_period v_t_fast_phase v_t_fast_quiet v_t_fast_waiting v_t_fast_flashes v_t_slow_flashes v_t_beats v_t_areApart = some orr := by
          rw [hV0]
          exact d1
        rcases d2 with ⟨s2, i2, tr, rfl, z1, z2, -, z4, z5, z6, z7, z8, z9⟩ | ⟨tr, rfl, z1, z2⟩
        · -- the reference finds one
          obtain ⟨i0, y1, y2, y3⟩ := lp_two (per := v_x_setting_periods) (S := S) (Bq := (lp_B v_x_setting_mask v_x_setting_periods v_x_setting_quiets (fun p q => v_x_setting_answers (p * 4 + q)) nl fr0 to0 de0 v_x_setting_strengths S)) hl8 hB z5 z6 z7 z8 (fun s3 hs3 => z9 s3 (Nat.zero_le _) hs3)
          have hpi0 : pn (ps (lp_M v_x_setting_mask v_x_setting_periods S) i0) ≤ (lp_M v_x_setting_mask v_x_setting_periods S).length := by
            rw [ps_pn hlM hM16 y1 (by omega)]
            exact pn_le (by omega) y1
          have hBi0 : (lp_B v_x_setting_mask v_x_setting_periods v_x_setting_quiets (fun p q => v_x_setting_answers (p * 4 + q)) nl fr0 to0 de0 v_x_setting_strengths S) (ps (lp_M v_x_setting_mask v_x_setting_periods S) i0) := by rw [y2]; exact z7
          rcases c2 with ⟨s3, i3, tc, rfl, -, x2', x3', x4', x5', x6', x7', x8', x9'⟩ | ⟨tc, rfl, x1', x2'⟩
          · obtain ⟨k3, w1, w2, w3⟩ := asL i3 x3'
            have hss : s3 = s2 := by
              rcases Nat.lt_trichotomy s3 s2 with w | w | w
              · exact absurd ⟨w3.trans x6', by rw [w2]; exact x7'⟩ (z9 s3 (Nat.zero_le _) w k3 w1)
              · exact w
              · exact absurd ⟨y3, hBi0⟩ (x9' s2 (Nat.zero_le _) w i0 y1)
            subst hss
            have g1 : i2 ≤ k3 := by
              rcases Nat.lt_or_ge k3 i2 with w | w
              · exact absurd ⟨w3.trans x6', by rw [w2]; exact x7'⟩ (z8 k3 w)
              · exact w
            have g2 : i3 ≤ i0 := by
              rcases Nat.lt_or_ge i0 i3 with w | w
              · exact absurd ⟨y3, hBi0⟩ (x8' i0 w)
              · exact w
            have g3 : ps (ms_L v_x_setting_mask) i2 ≤ ps (ms_L v_x_setting_mask) k3 := by
              rcases Nat.lt_or_eq_of_le g1 with w | w
              · exact Nat.le_of_lt (ps_mono _ hlA i2 k3 w w1)
              · rw [w]; exact Nat.le_refl _
            have g4 : ps (lp_M v_x_setting_mask v_x_setting_periods S) i3 ≤ ps (lp_M v_x_setting_mask v_x_setting_periods S) i0 := by
              rcases Nat.lt_or_eq_of_le g2 with w | w
              · exact Nat.le_of_lt (ps_mono _ hlM i3 i0 w y1)
              · rw [w]; exact Nat.le_refl _
            have heq : ps (lp_M v_x_setting_mask v_x_setting_periods S) i3 = ps (ms_L v_x_setting_mask) i2 := by omega
            have HC : ∃ o1, f_L_leastPush 6000 (nI h) (nI (ms_L v_x_setting_mask).length) v_x_setting_mask (nI nl) v_x_setting_places v_x_now_row v_x_now_phases v_x_setting_periods v_x_trialStart_row v_x_trialStart_phases v_x_now_coming v_x_trialStart_coming v_x_trial_leadTicks v_x_trial_cycleTicks v_x_trial_behind_row v_x_trial_behind_phases v_x_trial_behind_coming v_x_trial_front_row v_x_trial_front_phases v_x_trial_front_coming v_x_setting_quiets v_x_setting_answers v_x_setting_froms v_x_setting_delays v_x_setting_tos v_x_setting_strengths v_x_trial_flashed v_out = some o1 ∧ o1.1 = 0 ∧ (∃ r, o1.2.1 = nI r ∧ r < 32) ∧ o1.2.2.2.2.2.2.2.2.2.2.2.2.2 0 = (tc.2.2.2.2.2.2.2.2.2.2.2.2.2).toInt64 := by
              apply Exists.intro
              apply And.intro
              · unfold f_L_leastPush f_X5_leastPush
                rw [cn, Option.bind_some, Sum.elim_inr, if_neg hlt, if_pos hle, mv, Option.bind_some, c1, Option.bind_some, Sum.elim_inl]
                rfl
              · exact ⟨rfl, x5', lr_u0 v_out _⟩
            have HR : ∃ o2, f_X8_leastPush 6000 v_t_thrown (nI h) (lN z) v_t_lead v_t_cycle (nI t) v_t_now_isThere v_t_now_phase v_t_start_time v_t_start_isThere v_t_now_period v_t_start_period v_t_start_phase v_t_now_quiet v_t_start_quiet v_t_start_waiting v_t_now_waiting v_t_slow_time v_t_slow_isThere v_t_slow_period v_t_slow_phase v_t_slow_quiet v_t_slow_waiting v_t_fast_time v_t_fast_isThere v_t_fast_period v_t_fast_phase v_t_fast_quiet v_t_fast_waiting v_t_fast_flashes v_t_answers (nI nl) cl fr tt de st v_t_slow_flashes v_t_beats v_t_areApart = some o2 ∧ o2.2.1 = 0 ∧ o2.2.2.1 = lN z ∧ o2.1 = tr.2.2.2.2.2.2.2.2.2.2.2.2.2.2.2.2.2.2.2.2.2.2.2.2.2.2 := by
              apply Exists.intro
              apply And.intro
              · unfold f_X8_leastPush
                rw [hb, f_X8_leastPush_5.eq_def]
                simp only []
                rw [if_neg n0', hsz, Option.bind_some, hin, Option.bind_some, if_neg (show ¬ (1 : Int32) = 0 by decide), zz, nI_clamp (n := (ms_L v_x_setting_mask).length) (by omega), nI_clamp (n := (ms_L v_x_setting_mask).getD 0 0) (by omega), hz0, hz1, d1, Option.bind_some, Sum.elim_inl, Option.bind_some, Sum.elim_inr, Sum.elim_inl]
              · exact ⟨rfl, z1, rfl⟩
            obtain ⟨o1, a1, a2, a4, a5⟩ := HC
            obtain ⟨o2, b1, b2, b3, b4⟩ := HR
            exact ⟨6000, 6000, o1, o2, a1, b1, ⟨by rw [b2, a2], fun q => by rw [a5, b4, x4', z2, heq]⟩, ⟨h, t, z, fr0, to0, de0, S, ⟨by omega, by omega, r3, r4⟩, hx, ⟨rfl, rfl, rfl, rfl, rfl, rfl, rfl, b3⟩, C, E, hf, hinv, hR, hrm, hA, hc, hl, a4, hmk, hsw, hqb⟩⟩
          · exact absurd ⟨rfl, hBi0⟩ (x2' _ (Nat.zero_le _) hpi0 i0 y1)
        · rcases c2 with ⟨s3, i3, tc, rfl, -, x2', x3', x4', x5', x6', x7', x8', x9'⟩ | ⟨tc, rfl, x1', x2'⟩
          · obtain ⟨k3, w1, w2, w3⟩ := asL i3 x3'
            exact absurd ⟨rfl, by rw [w2]; exact x7'⟩ (z2 (pn k3) (Nat.zero_le _) (pn_le (by omega) w1) k3 w1)
          · have HC : ∃ o1, f_L_leastPush 6000 (nI h) (nI (ms_L v_x_setting_mask).length) v_x_setting_mask (nI nl) v_x_setting_places v_x_now_row v_x_now_phases v_x_setting_periods v_x_trialStart_row v_x_trialStart_phases v_x_now_coming v_x_trialStart_coming v_x_trial_leadTicks v_x_trial_cycleTicks v_x_trial_behind_row v_x_trial_behind_phases v_x_trial_behind_coming v_x_trial_front_row v_x_trial_front_phases v_x_trial_front_coming v_x_setting_quiets v_x_setting_answers v_x_setting_froms v_x_setting_delays v_x_setting_tos v_x_setting_strengths v_x_trial_flashed v_out = some o1 ∧ o1.1 = 2 ∧ ∃ r, o1.2.1 = nI r ∧ r < 32 := by
              apply Exists.intro
              apply And.intro
              · unfold f_L_leastPush f_X5_leastPush
                rw [cn, Option.bind_some, Sum.elim_inr, if_neg hlt, if_pos hle, mv, Option.bind_some, c1, Option.bind_some, Sum.elim_inr]
                rfl
              · exact ⟨rfl, x1'⟩
            have HR : ∃ o2, f_X8_leastPush 6000 v_t_thrown (nI h) (lN z) v_t_lead v_t_cycle (nI t) v_t_now_isThere v_t_now_phase v_t_start_time v_t_start_isThere v_t_now_period v_t_start_period v_t_start_phase v_t_now_quiet v_t_start_quiet v_t_start_waiting v_t_now_waiting v_t_slow_time v_t_slow_isThere v_t_slow_period v_t_slow_phase v_t_slow_quiet v_t_slow_waiting v_t_fast_time v_t_fast_isThere v_t_fast_period v_t_fast_phase v_t_fast_quiet v_t_fast_waiting v_t_fast_flashes v_t_answers (nI nl) cl fr tt de st v_t_slow_flashes v_t_beats v_t_areApart = some o2 ∧ o2.2.1 = 2 ∧ o2.2.2.1 = lN z := by
              apply Exists.intro
              apply And.intro
              · unfold f_X8_leastPush
                rw [hb, f_X8_leastPush_5.eq_def]
                simp only []
                rw [if_neg n0', hsz, Option.bind_some, hin, Option.bind_some, if_neg (show ¬ (1 : Int32) = 0 by decide), zz, nI_clamp (n := (ms_L v_x_setting_mask).length) (by omega), nI_clamp (n := (ms_L v_x_setting_mask).getD 0 0) (by omega), hz0, hz1, d1, Option.bind_some, Sum.elim_inr, Option.bind_some, Sum.elim_inr, Sum.elim_inr]
              · exact ⟨rfl, z1⟩
            obtain ⟨o1, a1, a2, a4⟩ := HC
            obtain ⟨o2, b1, b2, b3⟩ := HR
            exact ⟨6000, 6000, o1, o2, a1, b1, ⟨by rw [b2, a2], fun q => absurd (a2.symm.trans q) (by decide)⟩, ⟨h, t, z, fr0, to0, de0, S, ⟨by omega, by omega, r3, r4⟩, hx, ⟨rfl, rfl, rfl, rfl, rfl, rfl, rfl, b3⟩, C, E, hf, hinv, hR, hrm, hA, hc, hl, a4, hmk, hsw, hqb⟩⟩
      · have hle : ¬ nI (ms_L v_x_setting_mask).length ≤ (8 : Int32) := nI_ge (a := 8) (by omega) (by omega)
        rw [if_neg (by omega)] at hin
        have HC : ∃ o1, f_L_leastPush 6000 (nI h) (nI (ms_L v_x_setting_mask).length) v_x_setting_mask (nI nl) v_x_setting_places v_x_now_row v_x_now_phases v_x_setting_periods v_x_trialStart_row v_x_trialStart_phases v_x_now_coming v_x_trialStart_coming v_x_trial_leadTicks v_x_trial_cycleTicks v_x_trial_behind_row v_x_trial_behind_phases v_x_trial_behind_coming v_x_trial_front_row v_x_trial_front_phases v_x_trial_front_coming v_x_setting_quiets v_x_setting_answers v_x_setting_froms v_x_setting_delays v_x_setting_tos v_x_setting_strengths v_x_trial_flashed v_out = some o1 ∧ o1.1 = 1 ∧ ∃ r, o1.2.1 = nI r ∧ r < 32 := by
          apply Exists.intro
          apply And.intro
          · unfold f_L_leastPush f_X5_leastPush
            rw [cn, Option.bind_some, Sum.elim_inr, if_neg hlt, if_neg hle]
            rfl
          · exact ⟨rfl, htr⟩
        have HR : ∃ o2, f_X8_leastPush 6000 v_t_thrown (nI h) (lN z) v_t_lead v_t_cycle (nI t) v_t_now_isThere v_t_now_phase v_t_start_time v_t_start_isThere v_t_now_period v_t_start_period v_t_start_phase v_t_now_quiet v_t_start_quiet v_t_start_waiting v_t_now_waiting v_t_slow_time v_t_slow_isThere v_t_slow_period v_t_slow_phase v_t_slow_quiet v_t_slow_waiting v_t_fast_time v_t_fast_isThere v_t_fast_period v_t_fast_phase v_t_fast_quiet v_t_fast_waiting v_t_fast_flashes v_t_answers (nI nl) cl fr tt de st v_t_slow_flashes v_t_beats v_t_areApart = some o2 ∧ o2.2.1 = 1 ∧ o2.2.2.1 = lN z := by
          apply Exists.intro
          apply And.intro
          · unfold f_X8_leastPush
            rw [f_X8_leastPush_5.eq_def]
            simp only []
            rw [if_neg n0', hb, hsz, Option.bind_some, hin, Option.bind_some, if_pos rfl]
            rfl
          · exact ⟨rfl, rfl⟩
        obtain ⟨o1, a1, a2, a4⟩ := HC
        obtain ⟨o2, b1, b2, b3⟩ := HR
        exact ⟨6000, 6000, o1, o2, a1, b1, ⟨by rw [b2, a2], fun q => absurd (a2.symm.trans q) (by decide)⟩, ⟨h, t, z, fr0, to0, de0, S, ⟨by omega, by omega, r3, r4⟩, hx, ⟨rfl, rfl, rfl, rfl, rfl, rfl, rfl, b3⟩, C, E, hf, hinv, hR, hrm, hA, hc, hl, a4, hmk, hsw, hqb⟩⟩
  · have n0 : ¬ nI h ≤ (0 : Int32) := nI_ge (a := 0) (by omega) (by omega)
    have n0' : (0 : Int32) < nI h := nI_lt (a := 0) (by omega) (by omega)
    have cn : f_X5_checkNoNoise 6000 (nI h) = some (.inl "java/lang/UnsupportedOperationException") := by unfold f_X5_checkNoNoise; rw [if_neg n0]
    have HC : ∃ o1, f_L_leastPush 6000 (nI h) (nI (ms_L v_x_setting_mask).length) v_x_setting_mask (nI nl) v_x_setting_places v_x_now_row v_x_now_phases v_x_setting_periods v_x_trialStart_row v_x_trialStart_phases v_x_now_coming v_x_trialStart_coming v_x_trial_leadTicks v_x_trial_cycleTicks v_x_trial_behind_row v_x_trial_behind_phases v_x_trial_behind_coming v_x_trial_front_row v_x_trial_front_phases v_x_trial_front_coming v_x_setting_quiets v_x_setting_answers v_x_setting_froms v_x_setting_delays v_x_setting_tos v_x_setting_strengths v_x_trial_flashed v_out = some o1 ∧ o1.1 = 1 ∧ ∃ r, o1.2.1 = nI r ∧ r < 32 := by
      apply Exists.intro
      apply And.intro
      · unfold f_L_leastPush f_X5_leastPush
        rw [cn]
        rfl
      · exact ⟨rfl, htr⟩
    have HR : ∃ o2, f_X8_leastPush 6000 v_t_thrown (nI h) (lN z) v_t_lead v_t_cycle (nI t) v_t_now_isThere v_t_now_phase v_t_start_time v_t_start_isThere v_t_now_period v_t_start_period v_t_start_phase v_t_now_quiet v_t_start_quiet v_t_start_waiting v_t_now_waiting v_t_slow_time v_t_slow_isThere v_t_slow_period v_t_slow_phase v_t_slow_quiet v_t_slow_waiting v_t_fast_time v_t_fast_isThere v_t_fast_period v_t_fast_phase v_t_fast_quiet v_t_fast_waiting v_t_fast_flashes v_t_answers (nI nl) cl fr tt de st v_t_slow_flashes v_t_beats v_t_areApart = some o2 ∧ o2.2.1 = 1 ∧ o2.2.2.1 = lN z := by
      apply Exists.intro
      apply And.intro
      · unfold f_X8_leastPush
        rw [f_X8_leastPush_5.eq_def]
        simp only []
        rw [if_pos n0']
        rfl
      · exact ⟨rfl, rfl⟩
    obtain ⟨o1, a1, a2, a4⟩ := HC
    obtain ⟨o2, b1, b2, b3⟩ := HR
    exact ⟨6000, 6000, o1, o2, a1, b1, ⟨by rw [b2, a2], fun q => absurd (a2.symm.trans q) (by decide)⟩, ⟨h, t, z, fr0, to0, de0, S, ⟨by omega, by omega, r3, r4⟩, hx, ⟨rfl, rfl, rfl, rfl, rfl, rfl, rfl, b3⟩, C, E, hf, hinv, hR, hrm, hA, hc, hl, a4, hmk, hsw, hqb⟩⟩

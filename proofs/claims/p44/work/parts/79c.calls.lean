/-! rows of mine (pure): run without noise -/
def rn_tot (F : Nat → Nat → Bool) : Nat → Nat → Nat
  | _, 0 => 0
  | i, k + 1 => (List.range 16).countP (F i) + rn_tot F (i + 1) k
def rn_c (F : Nat → Nat → Bool) (p : Nat) : Nat → Nat → Int32 → Int32
  | _, 0, c => c
  | i, k + 1, c => rn_c F p (i + 1) k (if F i p = true then c + 1 else c)
def rn_l (F : Nat → Nat → Bool) (p : Nat) : Nat → Nat → Nat → Int32 → Int32
  | _, 0, _, l => l
  | i, k + 1, t, l => rn_l F p (i + 1) k (t + 1) (if F i p = true then nI (t + 1) else l)
theorem mx_runC {n T : Nat} (hT : T ≤ 500) {x : Int32} {places per qui ans froms tos delays st : Nat → Int32} {fr to de : Nat → Nat} {S : ma_S} (C : ma_C x n places ans froms tos delays st fr to de) (hinv : ma_inv x per S) {X : Nat → ma_S} (hX : X = ma_X x per qui (fun p q => ans (p * 4 + q)) n fr to de st S) (lot : Int32) : ∀ (k i m cnt t : Nat) (row : Int32) (ph co c l : Nat → Int32), i + k = T → k < m → t + k < 2 ^ 29 → ma_R row ph co (X i) → ∃ (row' : Int32) (ph' co' c' l' : Nat → Int32), f_X5_run_12 3000 0 (nI (ms_L x).length) (nI n) places per qui ans froms delays tos st (nI T) m (nI cnt) (nI i) (nI t) lot row ph co c l = some (nI (cnt + rn_tot (ma_F x per qui (fun p q => ans (p * 4 + q)) X) i k), nI T, nI (t + k), lot, row', ph', co', c', l') ∧ ma_R row' ph' co' (X T) ∧ (∀ p, p < 16 → c' p = rn_c (ma_F x per qui (fun p q => ans (p * 4 + q)) X) p i k (c p)) ∧ ∀ p, p < 16 → l' p = rn_l (ma_F x per qui (fun p q => ans (p * 4 + q)) X) p i k t (l p)
  | 0, i, m, cnt, t, row, ph, co, c, l, hi, hm, ht, hR => by
    obtain ⟨m, rfl⟩ : ∃ j, m = j + 1 := ⟨m - 1, by omega⟩
    obtain rfl : i = T := by omega
    exact ⟨row, ph, co, c, l, by rw [f_X5_run_12, if_pos (nI_le (Nat.le_refl _) (by omega))]; rfl, hR, fun _ _ => rfl, fun _ _ => rfl⟩
  | k + 1, i, m, cnt, t, row, ph, co, c, l, hi, hm, ht, hR => by
    obtain ⟨m, rfl⟩ : ∃ j, m = j + 1 := ⟨m - 1, by omega⟩
    have hinv' : ma_inv x per (X i) := by rw [hX]; exact ma_X_inv C hinv i
    obtain ⟨fb, row', ph', co', e2, hbits, hR'⟩ := mx_adv0 (qui := qui) (by decide : 61 ≤ 3000) C hinv' hR
    obtain ⟨c', l', e3, hc', hl'⟩ := mx_noteFlashes (N := 3000) (by decide) (t := nI (t + 1)) hbits c l
    have hR2 : ma_R row' ph' co' (X (i + 1)) := by
      rw [hX] at hR' ⊢
      exact hR'
    obtain ⟨row'', ph'', co'', c'', l'', d1, d2, d3, d4⟩ := mx_runC hT C hinv hX lot k (i + 1) m (cnt + (List.range 16).countP (ma_F x per qui (fun p q => ans (p * 4 + q)) X i)) (t + 1) row' ph' co' c' l' (by omega) (by omega) (by omega) hR2
    rw [show t + 1 + k = t + (k + 1) by omega] at d1
    refine ⟨row'', ph'', co'', c'', l'', ?_, d2, fun p hp => ?_, fun p hp => ?_⟩
    · rw [f_X5_run_12, if_neg (nI_ge (show i < T by omega) (by omega)), show f_X5_drawLots 3000 0 lot (nI (ms_L x).length) places = some (0, lot) from if_pos rfl, Option.bind_some, e2, Option.bind_some, nI_1, e3, Option.bind_some, nI_1]
      show f_X5_run_12 3000 0 (nI (ms_L x).length) (nI n) places per qui ans froms delays tos st (nI T) m (nI cnt + nI _) (nI (i + 1)) (nI (t + 1)) lot row' ph' co' c' l' = _
      rw [nI_add]
      rw [show rn_tot (ma_F x per qui (fun p q => ans (p * 4 + q)) X) i (k + 1) = (List.range 16).countP (ma_F x per qui (fun p q => ans (p * 4 + q)) X i) + rn_tot (ma_F x per qui (fun p q => ans (p * 4 + q)) X) (i + 1) k from rfl, ← Nat.add_assoc]
      exact d1
    · rw [d3 p hp, hc' p hp]
      rfl
    · rw [d4 p hp, hl' p hp]
      rfl
abbrev pR (s : Ob) (T t : Nat) (lot row : Int32) (ph co fc lf : Nat → Int32) : Ob := ((nI (t + T), s.1.2.1, lot, 0, s.1.2.2.2.2), s.2.1, (row, ph, co), (fc, lf), s.2.2.2.2.1, s.2.2.2.2.2.1, s.2.2.2.2.2.2.1, s.2.2.2.2.2.2.2.1, s.2.2.2.2.2.2.2.2.1, s.2.2.2.2.2.2.2.2.2)
theorem pc_r500 : ∀ T, T < 501 → 1 ≤ T → f_X5_checkRange 3000 (nI T) 1 500 = some (.inr ()) := by decide +kernel
theorem pj_run {x : Int32} {n T t : Nat} {fr to de : Nat → Nat} {S : ma_S} {s : Ob} (J : PJ x n 0 fr to de S s) (hT1 : 1 ≤ T) (hT : T ≤ 500) (ht : o_ticksPassed s = nI t) (ht2 : t < 2 ^ 28) {v : Nat → Int32} (h0 : v (0 : Int32).toNatClampNeg = nI T) : ∃ (row : Int32) (ph co fc lf : Nat → Int32), A_R 3000 s 1 v = some (nI (rn_tot (PF x n fr to de S s) 0 T), pR s T t (o_lot s) row ph co fc lf) ∧ PJ x n 0 fr to de (PX x n fr to de S s T) (pR s T t (o_lot s) row ph co fc lf) ∧ (∀ p, p < 16 → fc p = rn_c (PF x n fr to de S s) p 0 T (o_flashCounts s p)) ∧ ∀ p, p < 16 → lf p = rn_l (PF x n fr to de S s) p 0 T t (o_lastFlashes s p) := by
  obtain ⟨hm, hbt, hl, hh, hlt, C, I, R⟩ := J
  obtain ⟨row, ph, co, fc, lf, e, R', h1, h2⟩ := mx_runC hT C I (X := PX x n fr to de S s) rfl (o_lot s) T 0 3000 0 t (o_now_row s) (o_now_phases s) (o_now_coming s) (o_flashCounts s) (o_lastFlashes s) (by omega) (by omega) (by omega) R
  refine ⟨row, ph, co, fc, lf, ?_, ⟨hm, hbt, hl, hh, hlt, C, ma_X_inv C I T, R'⟩, h1, h2⟩
  have ee : f_X5_run 3000 (o_ticksPassed s) (o_noiseShare s) (o_lot s) (o_aheadKnown s) (o_setting_beaters s) (o_setting_links s) (o_setting_places s) (o_now_row s) (o_now_phases s) (o_now_coming s) (o_setting_periods s) (o_setting_quiets s) (o_setting_answers s) (o_setting_froms s) (o_setting_delays s) (o_setting_tos s) (o_setting_strengths s) (o_flashCounts s) (o_lastFlashes s) (nI T) = some (.inr (nI (rn_tot (PF x n fr to de S s) 0 T), nI (t + T), o_lot s, 0, row, ph, co, fc, lf)) := by
    unfold f_X5_run
    rw [pc_r500 T (by omega) hT1, Option.bind_some, Sum.elim_inr, ht, hh, hbt, hl]
    have e2 : f_X5_run_12 3000 (nI 0) (nI (ms_L x).length) (nI n) (o_setting_places s) (o_setting_periods s) (o_setting_quiets s) (o_setting_answers s) (o_setting_froms s) (o_setting_delays s) (o_setting_tos s) (o_setting_strengths s) (nI T) 3000 (0 : Int32) (0 : Int32) (nI t) (o_lot s) (o_now_row s) (o_now_phases s) (o_now_coming s) (o_flashCounts s) (o_lastFlashes s) = _ := e
    rw [e2, Option.bind_some, Nat.zero_add]
  unfold A_R f_L_ask_R
  rw [h0, ee]
  rfl

/-! rows of mine (pure): one beater alone: groups, islands, order -/
theorem l7_ld (F : Nat → Nat → Bool) (c q : Nat) : ma_ld x7 F c q = decide (q = 7) := by
  unfold ma_ld
  rw [bt7]
  by_cases w : q = 7
  · subst w
    rw [decide_eq_true rfl, Bool.true_and]
    refine List.all_eq_true.mpr (fun r hr => ?_)
    rw [bt7, decide_eq_false (by have := List.mem_range.mp hr; omega)]
    rfl
  · rw [decide_eq_false w, Bool.false_and]
theorem l7_led (F : Nat → Nat → Bool) (c k : Nat) : ma_led x7 F c k = (List.range k).countP (fun q => decide (q = 7)) := by
  unfold ma_led
  congr 1
  funext q
  exact l7_ld F c q
theorem l7_first (F : Nat → Nat → Bool) (c : Nat) : ma_first x7 F c 7 7 := ⟨by omega, by rw [bt7]; rfl, ma_ap_self F 7 c, fun q hq hb => by rw [bt7] at hb; have := of_decide_eq_true hb; omega⟩
theorem l1_g {P a : Nat} {s : Ob} (L : L1 P a 0 s) (v : Nat → Int32) : ∃ s2, A_g 3000 s 0 v = some (1, s2) ∧ L1 P a 0 s2 ∧ kp s s2 := by
  obtain ⟨fr, to, de, S, J, B, h1, h2, h3, h4, h6, h5⟩ := L
  obtain ⟨kn', en', br', bp', bc', fr', fp', fc', fl', hA', hW, e⟩ := pj_way J B (l1_min h1 h2 h3 h4 h5 h6) (by omega)
  obtain ⟨G', eg, -⟩ := mx_gather (N := 3000) (by decide) J.2.2.2.2.2.1.2.2.1 hW (o_ahead_groupNumbers s)
  rw [l7_led, show (List.range 16).countP (fun q => decide (q = 7)) = 1 by decide] at eg
  refine ⟨pW s kn' en' (nI 0) (nI P) fl' G' br' bp' bc' fr' fp' fc', ?_, ⟨fr, to, de, S, J, hA', h1, h2, h3, h4, h6, h5⟩, rfl, rfl, rfl, rfl, rfl⟩
  unfold A_g f_L_ask_g f_L_asked_g f_X5_groups
  rw [e, J.2.1, Option.bind_some, Sum.elim_inr]
  simp only [eg, Option.bind_some]
  rfl
theorem l1_G {P a : Nat} {s : Ob} (L : L1 P a 0 s) {v : Nat → Int32} (h0 : v (0 : Int32).toNatClampNeg = nI 7) : ∃ s2, A_G 3000 s 1 v = some (0, s2) ∧ L1 P a 0 s2 ∧ kp s s2 := by
  obtain ⟨fr, to, de, S, J, B, h1, h2, h3, h4, h6, h5⟩ := L
  obtain ⟨kn', en', br', bp', bc', fr', fp', fc', fl', hA', hW, e⟩ := pj_way J B (l1_min h1 h2 h3 h4 h5 h6) (by omega)
  obtain ⟨G', eg, hg⟩ := mx_gather (N := 3000) (by decide) J.2.2.2.2.2.1.2.2.1 hW (o_ahead_groupNumbers s)
  have hg7 := hg 7 (by omega) (by rw [bt7]; rfl) 7 (l7_first _ _)
  rw [l7_led, show (List.range 7).countP (fun q => decide (q = 7)) = 0 by decide] at hg7
  refine ⟨pW s kn' en' (nI 0) (nI P) fl' G' br' bp' bc' fr' fp' fc', ?_, ⟨fr, to, de, S, J, hA', h1, h2, h3, h4, h6, h5⟩, rfl, rfl, rfl, rfl, rfl⟩
  unfold A_G f_L_ask_G f_L_asked_G f_X5_groupOf
  rw [h0, J.1, pc_beater (by omega) (by rw [bt7]; rfl), Option.bind_some, Sum.elim_inr, e, J.2.1, Option.bind_some, Sum.elim_inr]
  simp only [eg, Option.bind_some]
  have hc : (nI 7).toNatClampNeg = 7 := nI_clamp (by omega)
  rw [mg_g (show 7 < 16 by omega) (by omega), hc, hg7]
  rfl
theorem l1_I {P a : Nat} {s : Ob} (L : L1 P a 0 s) (v : Nat → Int32) : ∃ s2, A_I 3000 s 0 v = some (1, s2) ∧ L1 P a 0 s2 ∧ kp s s2 := by
  obtain ⟨fr, to, de, S, J, B, h1, h2, h3, h4, h6, h5⟩ := L
  obtain ⟨kn', en', br', bp', bc', fr', fp', fc', fl', hA', hW, e⟩ := pj_way J B (l1_min h1 h2 h3 h4 h5 h6) (by omega)
  refine ⟨pW s kn' en' (nI 0) (nI P) fl' (o_ahead_groupNumbers s) br' bp' bc' fr' fp' fc', ?_, ⟨fr, to, de, S, J, hA', h1, h2, h3, h4, h6, h5⟩, rfl, rfl, rfl, rfl, rfl⟩
  have ec := mx_keepsStep (N := 3000) (p := 7) (q := 7) (by decide) (by omega) (by omega) hW
  rw [ma_ap_self] at ec
  have ec' : f_X4_keepsStep 3000 (nI 0) (nI P) fl' (nI 7) (nI 7) = some 1 := ec
  have hpl : o_setting_places s 0 = nI 7 := by
    have h := J.2.2.2.2.2.1.2.2.1 0 (by rw [L7]; decide)
    rw [L7] at h
    exact h
  have e1 : (ms_L x7).length = 1 := by rw [L7]; rfl
  have eb : f_X4_countBreaks 3000 (nI 1) (o_setting_places s) (nI 0) (nI P) fl' = some 0 := by
    unfold f_X4_countBreaks
    have k0 : f_X4_countBreaks_4 3000 (nI 1) (o_setting_places s) (nI 0) (nI P) fl' (2998 + 1 + 1) (0 : Int32) (0 : Int32) = some (0, 1) := by
      rw [f_X4_countBreaks_4, if_neg (by decide), if_pos (by decide), zg_l (by decide), show (0 : Int32).toNatClampNeg = 0 from rfl, hpl, ec', Option.bind_some, if_neg (by decide), f_X4_countBreaks_4, if_pos (by decide)]
      rfl
    rw [show f_X4_countBreaks_4 3000 (nI 1) (o_setting_places s) (nI 0) (nI P) fl' 3000 (0 : Int32) (0 : Int32) = some (0, 1) from k0]
    rfl
  unfold A_I f_L_ask_I f_L_asked_I f_X5_islands
  rw [e, J.2.1, e1, Option.bind_some, Sum.elim_inr]
  simp only [eb, Option.bind_some]
  rfl
theorem or_one {F : Nat → Nat → Bool} : ∀ (k t n : Nat), ma_or F [7] k t n = if n < (List.range k).countP (fun j => F (t + j) 7) then some 7 else none
  | 0, t, n => by rw [if_neg (by simp)]; rfl
  | k + 1, t, n => by
    have ec : (List.range (k + 1)).countP (fun j => F (t + j) 7) = (if F t 7 = true then 1 else 0) + (List.range k).countP (fun j => F (t + 1 + j) 7) := by
      rw [List.range_succ_eq_map, List.countP_cons, List.countP_map]
      rw [Nat.add_comm]
      congr 1
      congr 1
      funext j
      show F (t + (j + 1)) 7 = F (t + 1 + j) 7
      congr 1
      omega
    rw [ec]
    unfold ma_or
    cases hF : F t 7 with
    | false =>
      have e1 : ma_sc (F t) [7] n = .inr n := by simp [ma_sc, hF]
      rw [e1]
      show ma_or F [7] k (t + 1) n = _
      rw [or_one k (t + 1) n]
      simp
    | true =>
      cases n with
      | zero =>
        have e1 : ma_sc (F t) [7] 0 = .inl 7 := by simp [ma_sc, hF]
        rw [e1]
        show some 7 = _
        rw [if_pos (by simp; omega)]
      | succ n =>
        have e1 : ma_sc (F t) [7] (n + 1) = .inr n := by simp [ma_sc, hF]
        rw [e1]
        show ma_or F [7] k (t + 1) n = _
        rw [or_one k (t + 1) n]
        by_cases w : n < (List.range k).countP (fun j => F (t + 1 + j) 7)
        · rw [if_pos w, if_pos (by simp; omega)]
        · rw [if_neg w, if_neg (by simp; omega)]
theorem l1_o {P a : Nat} {s : Ob} (L : L1 P a 0 s) {v : Nat → Int32} {i : Nat} (hi : i < 2) (h0 : v (0 : Int32).toNatClampNeg = nI i) : ∃ s2, A_o 3000 s 1 v = some (if i = 0 then 7 else -2000000005, s2) ∧ L1 P a 0 s2 ∧ kp s s2 := by
  obtain ⟨fr, to, de, S, J, B, h1, h2, h3, h4, h6, h5⟩ := L
  obtain ⟨kn', en', br', bp', bc', fr', fp', fc', fl', hA', hW, e⟩ := pj_way J B (l1_min h1 h2 h3 h4 h5 h6) (by omega)
  obtain ⟨r, er, hr⟩ := mx_flasherAt (N := 3000) (n := i) (by decide) (by omega) J.2.2.2.2.2.1.2.2.1 hW
  have hc : (List.range P).countP (fun j => PF x7 0 fr to de S s (0 + (0 + j)) 7) = 1 := by
    have h := l1_cnt (fr := fr) (to := to) (de := de) h1 h2 h3 h4 h5
    simp only [Nat.zero_add] at h ⊢
    exact h
  have er' : f_X4_flasherAt 3000 (nI 0) (nI P) fl' (o_setting_beaters s) (o_setting_places s) (nI i) = some r := by rw [J.2.1]; exact er
  rw [L7, or_one, hc] at hr
  refine ⟨pW s kn' en' (nI 0) (nI P) fl' (o_ahead_groupNumbers s) br' bp' bc' fr' fp' fc', ?_, ⟨fr, to, de, S, J, hA', h1, h2, h3, h4, h6, h5⟩, rfl, rfl, rfl, rfl, rfl⟩
  unfold A_o f_L_ask_o f_L_asked_o f_X5_order
  rw [h0, e, Option.bind_some, Sum.elim_inr]
  simp only [er', Option.bind_some]
  by_cases w : i = 0
  · subst w
    rcases hr with ⟨p, hp, e1, e2⟩ | ⟨e1, e2⟩
    · rw [if_pos (by omega)] at e2
      obtain rfl := Option.some.inj e2
      rw [e1, if_pos (show (0 : Int32) ≤ nI 7 by decide)]
      rfl
    · rw [if_pos (by omega)] at e2
      cases e2
  · obtain rfl : i = 1 := by omega
    rcases hr with ⟨p, hp, e1, e2⟩ | ⟨e1, e2⟩
    · rw [if_neg (by omega)] at e2
      cases e2
    · rw [e1, if_neg (show ¬ (0 : Int32) ≤ -1 by decide)]
      rfl

/-! rows of mine (pure): one beater alone: running -/
theorem dv1 {P n : Nat} (hP : 0 < P) (h : (n + 1) % P = 0) : (n + 1) / P = n / P + 1 := by
  have e1 := Nat.div_add_mod (n + 1) P
  have e2 := Nat.div_add_mod n P
  have l := Nat.mod_lt n hP
  rw [h] at e1
  generalize (n + 1) / P = q1 at *
  generalize n / P = q at *
  generalize n % P = r at *
  have e3 : P * q1 = P * q + r + 1 := by omega
  apply Nat.le_antisymm
  · apply Nat.le_of_mul_le_mul_left _ hP
    rw [Nat.mul_add, Nat.mul_one]
    omega
  · apply Nat.lt_of_mul_lt_mul_left (a := P)
    omega
theorem dv0 {P n : Nat} (hP : 0 < P) (h : (n + 1) % P ≠ 0) : (n + 1) / P = n / P := by
  have e1 := Nat.div_add_mod (n + 1) P
  have e2 := Nat.div_add_mod n P
  have l := Nat.mod_lt n hP
  have l1 := Nat.mod_lt (n + 1) hP
  generalize (n + 1) / P = q1 at *
  generalize n / P = q at *
  generalize n % P = r at *
  generalize (n + 1) % P = r1 at *
  apply Nat.le_antisymm
  · apply Nat.le_of_lt_succ
    apply Nat.lt_of_mul_lt_mul_left (a := P)
    rw [Nat.succ_eq_add_one, Nat.mul_add, Nat.mul_one]
    omega
  · apply Nat.le_of_lt_succ
    apply Nat.lt_of_mul_lt_mul_left (a := P)
    rw [Nat.succ_eq_add_one, Nat.mul_add, Nat.mul_one]
    omega
theorem dvk {P n k : Nat} (hP : 0 < P) (h : n % P = 0) (h2 : (n + k) / P = n / P) : (n + k) % P = k := by
  have e1 := Nat.div_add_mod (n + k) P
  have e2 := Nat.div_add_mod n P
  rw [h2] at e1
  omega
theorem dvl {P n k : Nat} (hP : 0 < P) (h2 : (n + k) / P ≠ n / P) : (n + k) % P + 1 ≤ k + (n % P) - (n % P) + 0 + 1 := by
  have e1 := Nat.div_add_mod (n + k) P
  have e2 := Nat.div_add_mod n P
  have l := Nat.mod_lt n hP
  have l1 := Nat.mod_lt (n + k) hP
  have h3 : n / P ≤ (n + k) / P := Nat.div_le_div_right (by omega)
  have h4 : P * (n / P + 1) ≤ P * ((n + k) / P) := Nat.mul_le_mul_left _ (by omega)
  rw [Nat.mul_add, Nat.mul_one] at h4
  omega
theorem rn_tot1 {P a : Nat} (hP : 0 < P) {F : Nat → Nat → Bool} (h1 : ∀ t, F t 7 = decide ((a + t + 1) % P = 0)) (h2 : ∀ t p, p ≠ 7 → F t p = false) : ∀ k i, rn_tot F i k + (a + i) / P = (a + i + k) / P
  | 0, i => by simp [rn_tot]
  | k + 1, i => by
    have ih := rn_tot1 hP h1 h2 k (i + 1)
    have ec : (List.range 16).countP (F i) = if (a + i + 1) % P = 0 then 1 else 0 := by
      have ef : F i = fun p => (decide (p = 7) && F i 7) := by
        funext p
        by_cases w : p = 7
        · subst w; simp
        · rw [h2 i p w]; simp [w]
      rw [ef, h1 i]
      by_cases w : (a + i + 1) % P = 0
      · rw [if_pos w, decide_eq_true w]
        decide
      · rw [if_neg w, decide_eq_false w]
        decide
    show (List.range 16).countP (F i) + rn_tot F (i + 1) k + (a + i) / P = _
    rw [ec, show a + i + (k + 1) = a + (i + 1) + k by omega, ← ih]
    by_cases w : (a + i + 1) % P = 0
    · rw [if_pos w, show a + (i + 1) = a + i + 1 by omega, dv1 hP w]
      omega
    · rw [if_neg w, show a + (i + 1) = a + i + 1 by omega, dv0 hP w]
      omega
theorem rn_c1 {P a : Nat} (hP : 0 < P) {F : Nat → Nat → Bool} (h1 : ∀ t, F t 7 = decide ((a + t + 1) % P = 0)) : ∀ k i c, rn_c F 7 i k (nI c) = nI (c + ((a + i + k) / P - (a + i) / P))
  | 0, i, c => by simp [rn_c]
  | k + 1, i, c => by
    show rn_c F 7 (i + 1) k (if F i 7 = true then nI c + 1 else nI c) = _
    have hle : (a + i + 1) / P ≤ (a + i + 1 + k) / P := Nat.div_le_div_right (by omega)
    by_cases w : (a + i + 1) % P = 0
    · rw [h1 i, if_pos (decide_eq_true w), nI_1, rn_c1 hP h1 k (i + 1) (c + 1)]
      have e := dv1 hP w
      rw [show a + (i + 1) + k = a + i + 1 + k by omega, show a + (i + 1) = a + i + 1 by omega, show a + i + (k + 1) = a + i + 1 + k by omega]
      congr 1
      omega
    · rw [h1 i, if_neg (by rw [decide_eq_false w]; decide), rn_c1 hP h1 k (i + 1) c]
      have e := dv0 hP w
      rw [show a + (i + 1) + k = a + i + 1 + k by omega, show a + (i + 1) = a + i + 1 by omega, show a + i + (k + 1) = a + i + 1 + k by omega, e]
theorem rn_l1 {P a : Nat} (hP : 0 < P) {F : Nat → Nat → Bool} (h1 : ∀ t, F t 7 = decide ((a + t + 1) % P = 0)) : ∀ k i t l, rn_l F 7 i k t l = if (a + i + k) / P = (a + i) / P then l else nI (t + (k - (a + i + k) % P))
  | 0, i, t, l => by simp [rn_l]
  | k + 1, i, t, l => by
    show rn_l F 7 (i + 1) k (t + 1) (if F i 7 = true then nI (t + 1) else l) = _
    rw [rn_l1 hP h1 k (i + 1) (t + 1), show a + (i + 1) + k = a + i + 1 + k by omega, show a + (i + 1) = a + i + 1 by omega, show a + i + (k + 1) = a + i + 1 + k by omega]
    have hle : (a + i + 1) / P ≤ (a + i + 1 + k) / P := Nat.div_le_div_right (by omega)
    by_cases w : (a + i + 1) % P = 0
    · have e := dv1 hP w
      rw [h1 i, if_pos (decide_eq_true w), if_neg (show ¬ (a + i + 1 + k) / P = (a + i) / P by omega)]
      by_cases w2 : (a + i + 1 + k) / P = (a + i + 1) / P
      · rw [if_pos w2, dvk hP w w2]
        congr 1
        omega
      · rw [if_neg w2]
        have := dvl hP w2
        congr 1
        omega
    · have e := dv0 hP w
      rw [h1 i, if_neg (show ¬ decide ((a + i + 1) % P = 0) = true by rw [decide_eq_false w]; decide), e]
      by_cases w2 : (a + i + 1 + k) / P = (a + i) / P
      · rw [if_pos w2, if_pos w2]
      · rw [if_neg w2, if_neg w2]
        rw [← e] at w2
        have := dvl hP w2
        congr 1
        omega
theorem l1_R {P a T : Nat} {s : Ob} (L : L1 P a 0 s) (hT1 : 1 ≤ T) (hT : T ≤ 500) (ht : o_ticksPassed s = 0) (hf : o_flashCounts s 7 = 0) (hl : o_lastFlashes s 7 = 0) {v : Nat → Int32} (h0 : v (0 : Int32).toNatClampNeg = nI T) : ∃ s2, A_R 3000 s 1 v = some (nI ((a + T) / P), s2) ∧ L1 P ((a + T) % P) 0 s2 ∧ o_flashCounts s2 7 = nI ((a + T) / P) ∧ o_lastFlashes s2 7 = (if (a + T) / P = 0 then 0 else nI (T - (a + T) % P)) ∧ o_now_phases s2 7 = nI ((a + T) % P) := by
  obtain ⟨fr, to, de, S, J, B, h1, h2, h3, h4, h6, h5⟩ := L
  obtain ⟨row, ph, co, fc, lf, e, J2, hfc, hlf⟩ := pj_run J hT1 hT (t := 0) ht (by omega) h0
  have F7 := l1_F (fr := fr) (to := to) (de := de) h1 h2 h3 h4 h5
  have F0 := fun t p hp => l1_F0 (fr := fr) (to := to) (de := de) (S := S) (s := s) t p hp
  have ed : a / P = 0 := Nat.div_eq_of_lt h4
  have et := rn_tot1 (by omega : 0 < P) F7 F0 T 0
  rw [Nat.add_zero, ed, Nat.add_zero] at et
  have ec := rn_c1 (by omega : 0 < P) F7 T 0 0
  rw [Nat.add_zero, ed, Nat.zero_add, Nat.sub_zero] at ec
  have el := rn_l1 (by omega : 0 < P) F7 T 0 0 0
  rw [Nat.add_zero, ed, Nat.zero_add] at el
  have A := one_X (x := x7) (per := o_setting_periods s) (qui := o_setting_quiets s) (an := fun p q => o_setting_answers s (p * 4 + q)) (fr := fr) (to := to) (de := de) (st := o_setting_strengths s) (by rw [bt7]; rfl) h1 h3 h4 h5 h2 T
  rw [et] at e
  refine ⟨_, e, ⟨fr, to, de, _, J2, Or.inl rfl, A.1, A.2.1, h3, Nat.mod_lt _ (by omega), h6, h5⟩, ?_, ?_, ?_⟩
  · show fc 7 = _
    rw [hfc 7 (by omega), hf]
    exact ec
  · show lf 7 = _
    rw [hlf 7 (by omega), hl]
    exact el
  · show ph 7 = _
    obtain ⟨r, q1, q2, q3, q4⟩ := J2.2.2.2.2.2.2.2
    exact (q3 7 (by omega)).trans A.1
abbrev pP (s : Ob) (p : Nat) (P q f : Int32) : Ob := ((s.1.1, s.1.2.1, s.1.2.2.1, 0, s.1.2.2.2.2), (s.2.1.1, s.2.1.2.1, s.2.1.2.2.1, s.2.1.2.2.2.1, upd (o_setting_periods s) p P, upd (o_setting_quiets s) p q, s.2.1.2.2.2.2.2.2.1, s.2.1.2.2.2.2.2.2.2.1, s.2.1.2.2.2.2.2.2.2.2.1, s.2.1.2.2.2.2.2.2.2.2.2.1, s.2.1.2.2.2.2.2.2.2.2.2.2), (s.2.2.1.1, upd (o_now_phases s) p f, s.2.2.1.2.2), s.2.2.2.1, s.2.2.2.2.1, s.2.2.2.2.2.1, s.2.2.2.2.2.2.1, s.2.2.2.2.2.2.2.1, s.2.2.2.2.2.2.2.2.1, s.2.2.2.2.2.2.2.2.2)
theorem l1_P {P a : Nat} {s : Ob} (L : L1 P a 0 s) {v : Nat → Int32} (h0 : v (0 : Int32).toNatClampNeg = nI 7) (h0b : v (1 : Int32).toNatClampNeg = nI 2) : ∃ s2 b, A_P 3000 s 2 v = some (nI P, s2) ∧ b < 2 ∧ L1 2 b 0 s2 ∧ o_now_phases s2 7 = nI b := by
  obtain ⟨fr, to, de, S, J, B, h1, h2, h3, h4, h6, h5⟩ := L
  obtain ⟨hm, hbt, hln, hh, hlt, C, I, R⟩ := J
  obtain ⟨b, hb2, hb⟩ : ∃ b, b < 2 ∧ (if nI 2 - (1 : Int32) < o_now_phases s 7 then nI 2 - (1 : Int32) else o_now_phases s 7) = nI b := by
    obtain ⟨r, q1, q2, q3, q4⟩ := R
    rw [q3 7 (by omega), h1, show nI 2 - (1 : Int32) = nI 1 from nI_p1 (by omega)]
    by_cases w : nI 1 < nI a
    · exact ⟨1, by omega, if_pos w⟩
    · exact ⟨a, Nat.lt_succ_of_le (Nat.le_of_not_lt (fun u => w ((nI_ltI (by omega) (by omega)).mpr u))), if_neg w⟩
  have g1 : ∀ {α : Type} (x : Option α), zk_g (nI 7) 16 x = x := fun x => mg_g (by omega) (by omega) x
  have k1 : (nI 7).toNatClampNeg = 7 := nI_clamp (by omega)
  have ee : f_X5_period 3000 (o_aheadKnown s) (o_setting_mask s) (o_setting_periods s) (o_setting_quiets s) (o_now_phases s) (nI 7) (nI 2) = some (.inr (nI P, 0, upd (o_setting_periods s) 7 (nI 2), upd (o_setting_quiets s) 7 (if nI 2 - (1 : Int32) < o_setting_quiets s 7 then nI 2 - (1 : Int32) else o_setting_quiets s 7), upd (o_now_phases s) 7 (nI b))) := by
    unfold f_X5_period
    rw [pc_place 7 (by omega), Option.bind_some, Sum.elim_inr, pc_r99 2 (by omega) (by omega), Option.bind_some, Sum.elim_inr, hm, pc_beater (by omega) (by rw [bt7]; rfl), Option.bind_some, Sum.elim_inr, g1, g1, g1, g1, g1, g1, k1, hb, h3]
  refine ⟨pP s 7 (nI 2) (if nI 2 - (1 : Int32) < o_setting_quiets s 7 then nI 2 - (1 : Int32) else o_setting_quiets s 7) (nI b), b, ?_, hb2, ⟨fr, to, de, (upd S.1 7 (nI b), S.2), ⟨hm, hbt, hln, hh, hlt, C, ⟨fun q hq hbq => ?_, I.2⟩, ?_⟩, Or.inl rfl, rfl, h2, rfl, hb2, by omega, by omega⟩, rfl⟩
  · unfold A_P f_L_ask_P
    rw [h0, h0b, ee]
    rfl
  · rw [bt7] at hbq
    obtain rfl : q = 7 := of_decide_eq_true hbq
    exact ⟨b, 2, rfl, rfl, hb2, by omega⟩
  · obtain ⟨r, q1, q2, q3, q4⟩ := R
    refine ⟨r, q1, q2, fun q hq => ?_, q4⟩
    show upd (o_now_phases s) 7 (nI b) q = upd S.1 7 (nI b) q
    unfold upd
    rw [q3 q hq]
theorem l1_m {P a : Nat} {s : Ob} (L : L1 P a 0 s) {v : Nat → Int32} (h0 : v (0 : Int32).toNatClampNeg = nI 7) (h0b : v (1 : Int32).toNatClampNeg = nI 8) : A_m 3000 s 3 v = some (-2000000005, s) := by
  obtain ⟨fr, to, de, S, J, B, h1, h2, h3, h4, h6, h5⟩ := L
  have ec : f_X5_checkPair 3000 (o_setting_mask s) (nI 7) (nI 8) = some (.inl "java/util/NoSuchElementException") := by
    unfold f_X5_checkPair
    rw [J.1, pc_place 7 (by omega), Option.bind_some, Sum.elim_inr, pc_place 8 (by omega), Option.bind_some, Sum.elim_inr, show f_X5_checkOther 3000 (nI 7) (nI 8) = some (.inr ()) from if_neg (by decide), Option.bind_some, Sum.elim_inr, pc_beater (by omega) (by rw [bt7]; rfl), Option.bind_some, Sum.elim_inr, pc_none (by omega) (by rw [bt7]; rfl)]
    rfl
  unfold A_m f_L_ask_m f_L_asked_m f_X5_map
  rw [h0, h0b, ec]
  rfl

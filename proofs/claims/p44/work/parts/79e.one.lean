/-! rows of mine (pure): one beater alone -/
abbrev x7 : Int32 := pmk 0 7
theorem bt7 (p : Nat) : bt x7 p = decide (p = 7) := by rw [show bt x7 p = _ from mx_bit (by omega), b_0, Bool.false_or]
theorem L7 : ms_L x7 = [7] := by decide +kernel
theorem ma_val0 {per qui ph co : Nat → Int32} {an : Nat → Nat → Int32} {p a : Nat} (hc : co p = 0) (ha : ph p = nI a) (h : a < 2 ^ 31) : ma_val per qui an ph co p = nI a := by
  unfold ma_val
  rw [hc, Int32.mul_zero, ite_self, Int32.add_zero, ha]
  exact ms_pos h
theorem np0 {per qui : Nat → Int32} {an : Nat → Nat → Int32} {S : ma_S} {p a : Nat} (hc : S.2 p 1 = 0) (ha : S.1 p = nI a) (h : a < 2 ^ 30) : ma_np per qui an S.1 (fun p => S.2 p 1) (fun _ => 0) p = nI (a + 1) := by
  unfold ma_np
  rw [ma_val0 (co := fun p => S.2 p 1) hc ha (by omega), nI_1, Int32.add_zero]
theorem fl0 {per qui : Nat → Int32} {an : Nat → Nat → Int32} {S : ma_S} {p a c : Nat} (hc : S.2 p 1 = 0) (ha : S.1 p = nI a) (hp : per p = nI c) (h : a < c) (h2 : c < 100) : ma_fl per qui an S.1 (fun p => S.2 p 1) (fun _ => 0) p = decide (a + 1 = c) := by
  unfold ma_fl
  rw [np0 hc ha (by omega), hp]
  by_cases w : a + 1 = c
  · rw [decide_eq_true w, decide_eq_true]
    intro u
    have := (nI_ltI (by omega) (by omega)).mp u
    omega
  · rw [decide_eq_false w, decide_eq_false]
    intro u
    exact u ((nI_ltI (by omega) (by omega)).mpr (by omega))
theorem one_X {x : Int32} {per qui : Nat → Int32} {an : Nat → Nat → Int32} {fr to de : Nat → Nat} {st : Nat → Int32} {S : ma_S} {p a c : Nat} (hb : bt x p = true) (ha : S.1 p = nI a) (hp : per p = nI c) (h : a < c) (h2 : c < 100) (h0 : ∀ d, 1 ≤ d → d ≤ 30 → S.2 p d = 0) : ∀ t, (ma_X x per qui an 0 fr to de st S t).1 p = nI ((a + t) % c) ∧ (∀ d, 1 ≤ d → d ≤ 30 → (ma_X x per qui an 0 fr to de st S t).2 p d = 0) ∧ ma_flS x per qui an (fun _ => 0) (ma_X x per qui an 0 fr to de st S t) p = decide ((a + t + 1) % c = 0) := by
  have key : ∀ t, (ma_X x per qui an 0 fr to de st S t).1 p = nI ((a + t) % c) → (∀ d, 1 ≤ d → d ≤ 30 → (ma_X x per qui an 0 fr to de st S t).2 p d = 0) → ma_flS x per qui an (fun _ => 0) (ma_X x per qui an 0 fr to de st S t) p = decide ((a + t + 1) % c = 0) ∧ (ma_X x per qui an 0 fr to de st S (t + 1)).1 p = nI ((a + (t + 1)) % c) := by
    intro t q1 q2
    have hlt : (a + t) % c < c := Nat.mod_lt _ (by omega)
    have e9 : (a + t + 1) % c = ((a + t) % c + 1) % c := (Nat.mod_add_mod _ _ _).symm
    have ef := fl0 (per := per) (qui := qui) (an := an) (q2 1 (by omega) (by omega)) q1 hp hlt h2
    constructor
    · unfold ma_flS
      rw [hb, Bool.true_and, ef, e9]
      by_cases w : (a + t) % c + 1 = c
      · rw [w, Nat.mod_self, decide_eq_true rfl]
        rfl
      · rw [Nat.mod_eq_of_lt (show (a + t) % c + 1 < c by omega), decide_eq_false w, decide_eq_false (by omega)]
    · show (if bt x p then (if ma_fl per qui an (ma_X x per qui an 0 fr to de st S t).1 (fun p => (ma_X x per qui an 0 fr to de st S t).2 p 1) (fun _ => 0) p then 0 else ma_np per qui an (ma_X x per qui an 0 fr to de st S t).1 (fun p => (ma_X x per qui an 0 fr to de st S t).2 p 1) (fun _ => 0) p) else _) = _
      rw [if_pos hb, ef, np0 (q2 1 (by omega) (by omega)) q1 (by omega), show a + (t + 1) = a + t + 1 from rfl, e9]
      by_cases w : (a + t) % c + 1 = c
      · rw [if_pos (by rw [decide_eq_true w]), w, Nat.mod_self]
        rfl
      · rw [if_neg (by rw [decide_eq_false w]; decide), Nat.mod_eq_of_lt (show (a + t) % c + 1 < c by omega)]
  have main : ∀ t, (ma_X x per qui an 0 fr to de st S t).1 p = nI ((a + t) % c) ∧ ∀ d, 1 ≤ d → d ≤ 30 → (ma_X x per qui an 0 fr to de st S t).2 p d = 0 := by
    intro t
    induction t with
    | zero => exact ⟨by rw [Nat.add_zero, Nat.mod_eq_of_lt h]; exact ha, h0⟩
    | succ t ih =>
      refine ⟨(key t ih.1 ih.2).2, fun d hd1 hd2 => ?_⟩
      show (if d < 30 then (ma_X x per qui an 0 fr to de st S t).2 p (d + 1) else 0) + 0 = 0
      rw [Int32.add_zero]
      by_cases w : d < 30
      · rw [if_pos w]
        exact ih.2 (d + 1) (by omega) (by omega)
      · rw [if_neg w]
  exact fun t => ⟨(main t).1, (main t).2, (key t (main t).1 (main t).2).1⟩
def L1 (P a h : Nat) (s : Ob) : Prop := ∃ (fr to de : Nat → Nat) (S : ma_S), PJ x7 0 h fr to de S s ∧ PA x7 0 fr to de S s ∧ S.1 7 = nI a ∧ (∀ d, 1 ≤ d → d ≤ 30 → S.2 7 d = 0) ∧ o_setting_periods s 7 = nI P ∧ a < P ∧ 2 ≤ P ∧ P < 100
def kp (s s2 : Ob) : Prop := s2.1.1 = s.1.1 ∧ s2.1.2.1 = s.1.2.1 ∧ s2.2.1 = s.2.1 ∧ s2.2.2.1 = s.2.2.1 ∧ s2.2.2.2.1 = s.2.2.2.1
theorem l1_F {P a : Nat} {fr to de : Nat → Nat} {S : ma_S} {s : Ob} (h1 : S.1 7 = nI a) (h2 : ∀ d, 1 ≤ d → d ≤ 30 → S.2 7 d = 0) (h3 : o_setting_periods s 7 = nI P) (h4 : a < P) (h5 : P < 100) (t : Nat) : PF x7 0 fr to de S s t 7 = decide ((a + t + 1) % P = 0) := (one_X (by rw [bt7]; rfl) h1 h3 h4 h5 h2 t).2.2
theorem l1_F0 {fr to de : Nat → Nat} {S : ma_S} {s : Ob} (t p : Nat) (hp : p ≠ 7) : PF x7 0 fr to de S s t p = false := by
  show (bt x7 p && _) = false
  rw [bt7, decide_eq_false hp, Bool.false_and]
theorem l1_min {P a : Nat} {fr to de : Nat → Nat} {S : ma_S} {s : Ob} (h1 : S.1 7 = nI a) (h2 : ∀ d, 1 ≤ d → d ≤ 30 → S.2 7 d = 0) (h3 : o_setting_periods s 7 = nI P) (h4 : a < P) (h5 : P < 100) (h6 : 2 ≤ P) : pr_min (ma_eqv x7) (PX x7 0 fr to de S s) 0 P := by
  have A := one_X (x := x7) (per := o_setting_periods s) (qui := o_setting_quiets s) (an := fun p q => o_setting_answers s (p * 4 + q)) (fr := fr) (to := to) (de := de) (st := o_setting_strengths s) (by rw [bt7]; rfl) h1 h3 h4 h5 h2
  refine ⟨by omega, fun p hp hb => ?_, fun d hd1 hd2 hr => ?_, fun k hk => absurd hk (Nat.not_lt_zero _)⟩
  · rw [bt7] at hb
    obtain rfl : p = 7 := of_decide_eq_true hb
    refine ⟨?_, fun d e1 e2 => ?_⟩
    · rw [(A (0 + P)).1, (A 0).1, Nat.zero_add, Nat.add_zero, Nat.add_mod_right]
    · rw [(A (0 + P)).2.1 d e1 e2, (A 0).2.1 d e1 e2]
  · have h := (hr 7 (by omega) (by rw [bt7]; rfl)).1
    rw [(A (0 + d)).1, (A 0).1, Nat.zero_add, Nat.add_zero, Nat.mod_eq_of_lt h4] at h
    have h' := (nI_eq (Nat.lt_of_lt_of_le (Nat.mod_lt _ (by omega : 0 < P)) (by omega)) (by omega)).mp h
    by_cases w : a + d < P
    · rw [Nat.mod_eq_of_lt w] at h'
      omega
    · rw [Nat.mod_eq_sub_mod (by omega), Nat.mod_eq_of_lt (by omega)] at h'
      omega
abbrev pW (s : Ob) (kn en l c : Int32) (fl gn : Nat → Int32) (br : Int32) (bp bc : Nat → Int32) (fr : Int32) (fp fc : Nat → Int32) : Ob := ((s.1.1, s.1.2.1, s.1.2.2.1, kn, en), s.2.1, s.2.2.1, s.2.2.2.1, (l, c, fl, gn, (br, bp, bc), (fr, fp, fc)), s.2.2.2.2.2.1, s.2.2.2.2.2.2.1, s.2.2.2.2.2.2.2.1, s.2.2.2.2.2.2.2.2.1, s.2.2.2.2.2.2.2.2.2)
theorem l1_c {P a : Nat} {s : Ob} (L : L1 P a 0 s) (v : Nat → Int32) : ∃ s2, A_c 3000 s 0 v = some (nI P, s2) ∧ L1 P a 0 s2 ∧ kp s s2 := by
  obtain ⟨fr, to, de, S, J, B, h1, h2, h3, h4, h6, h5⟩ := L
  obtain ⟨kn', en', br', bp', bc', fr', fp', fc', fl', hA', hW, e⟩ := pj_way J B (l1_min h1 h2 h3 h4 h5 h6) (by omega)
  refine ⟨pW s kn' en' (nI 0) (nI P) fl' (o_ahead_groupNumbers s) br' bp' bc' fr' fp' fc', ?_, ⟨fr, to, de, S, J, hA', h1, h2, h3, h4, h6, h5⟩, rfl, rfl, rfl, rfl, rfl⟩
  unfold A_c f_L_ask_c f_X5_cycle
  rw [e]
  rfl
theorem l1_d {P a : Nat} {s : Ob} (L : L1 P a 0 s) (v : Nat → Int32) : ∃ s2, A_d 3000 s 0 v = some (0, s2) ∧ L1 P a 0 s2 ∧ kp s s2 := by
  obtain ⟨fr, to, de, S, J, B, h1, h2, h3, h4, h6, h5⟩ := L
  obtain ⟨kn', en', br', bp', bc', fr', fp', fc', fl', hA', hW, e⟩ := pj_way J B (l1_min h1 h2 h3 h4 h5 h6) (by omega)
  refine ⟨pW s kn' en' (nI 0) (nI P) fl' (o_ahead_groupNumbers s) br' bp' bc' fr' fp' fc', ?_, ⟨fr, to, de, S, J, hA', h1, h2, h3, h4, h6, h5⟩, rfl, rfl, rfl, rfl, rfl⟩
  unfold A_d f_L_ask_d f_X5_lead
  rw [e]
  rfl
theorem l1_cnt {P a : Nat} {fr to de : Nat → Nat} {S : ma_S} {s : Ob} (h1 : S.1 7 = nI a) (h2 : ∀ d, 1 ≤ d → d ≤ 30 → S.2 7 d = 0) (h3 : o_setting_periods s 7 = nI P) (h4 : a < P) (h5 : P < 100) : (List.range P).countP (fun t => PF x7 0 fr to de S s (0 + t) 7) = 1 := by
  rw [← one_cnt P h5 a h4]
  congr 1
  funext t
  rw [Nat.zero_add]
  exact l1_F h1 h2 h3 h4 h5 t
theorem l1_b {P a : Nat} {s : Ob} (L : L1 P a 0 s) {v : Nat → Int32} (h0 : v (0 : Int32).toNatClampNeg = nI 7) : ∃ s2, A_b 3000 s 1 v = some (1, s2) ∧ L1 P a 0 s2 ∧ kp s s2 := by
  obtain ⟨fr, to, de, S, J, B, h1, h2, h3, h4, h6, h5⟩ := L
  obtain ⟨kn', en', br', bp', bc', fr', fp', fc', fl', hA', hW, e⟩ := pj_way J B (l1_min h1 h2 h3 h4 h5 h6) (by omega)
  refine ⟨pW s kn' en' (nI 0) (nI P) fl' (o_ahead_groupNumbers s) br' bp' bc' fr' fp' fc', ?_, ⟨fr, to, de, S, J, hA', h1, h2, h3, h4, h6, h5⟩, rfl, rfl, rfl, rfl, rfl⟩
  have ec := mx_countFlashes (N := 3000) (p := 7) (by decide) (by omega) hW
  rw [show ma_cnt (fun t => PF x7 0 fr to de S s (0 + t)) 7 P = 1 from l1_cnt h1 h2 h3 h4 h5] at ec
  unfold A_b f_L_ask_b f_X5_beats
  rw [h0, J.1, pc_beater (by omega) (by rw [bt7]; rfl), Option.bind_some, Sum.elim_inr, e, Option.bind_some, Sum.elim_inr]
  have ec' : f_X4_countFlashes 3000 (nI 0) (nI P) fl' (nI 7) = some 1 := ec
  simp only [ec', Option.bind_some]
  rfl
theorem l1_i {P a : Nat} {s : Ob} (L : L1 P a 0 s) {v : Nat → Int32} (h0 : v (0 : Int32).toNatClampNeg = nI 7) (h0b : v (1 : Int32).toNatClampNeg = nI 7) : ∃ s2, A_i 3000 s 2 v = some (1, s2) ∧ L1 P a 0 s2 ∧ kp s s2 := by
  obtain ⟨fr, to, de, S, J, B, h1, h2, h3, h4, h6, h5⟩ := L
  obtain ⟨kn', en', br', bp', bc', fr', fp', fc', fl', hA', hW, e⟩ := pj_way J B (l1_min h1 h2 h3 h4 h5 h6) (by omega)
  refine ⟨pW s kn' en' (nI 0) (nI P) fl' (o_ahead_groupNumbers s) br' bp' bc' fr' fp' fc', ?_, ⟨fr, to, de, S, J, hA', h1, h2, h3, h4, h6, h5⟩, rfl, rfl, rfl, rfl, rfl⟩
  have ec := mx_keepsStep (N := 3000) (p := 7) (q := 7) (by decide) (by omega) (by omega) hW
  rw [ma_ap_self] at ec
  have ec' : f_X4_keepsStep 3000 (nI 0) (nI P) fl' (nI 7) (nI 7) = some 1 := ec
  unfold A_i f_L_ask_i f_L_asked_i f_X5_inStep
  rw [h0, h0b, J.1, pc_place 7 (by omega), Option.bind_some, Sum.elim_inr, Option.bind_some, Sum.elim_inr, pc_beater (by omega) (by rw [bt7]; rfl), Option.bind_some, Sum.elim_inr, Option.bind_some, Sum.elim_inr, e, Option.bind_some, Sum.elim_inr]
  simp only [ec', Option.bind_some]
  rfl

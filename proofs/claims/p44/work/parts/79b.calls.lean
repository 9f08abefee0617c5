/-! rows of mine (pure): calls of an object that is as it should be -/
theorem zg_l {α : Type} {i : Int32} {n : Nat} (h : ¬ (i < 0 ∨ n ≤ i.toNatClampNeg)) (x : Option α) : zk_g i n x = x := if_neg h
theorem pc_place : ∀ p, p < 16 → f_X5_checkPlace 3000 (nI p) = some (.inr ()) := by decide +kernel
theorem pc_r99 : ∀ P, P < 100 → 2 ≤ P → f_X5_checkRange 3000 (nI P) 2 99 = some (.inr ()) := by decide +kernel
theorem pc_r0 {a P : Nat} (ha : a < P) (hP : P < 100) : f_X5_checkRange 3000 (nI a) 0 (nI P - (1 : Int32)) = some (.inr ()) := by
  rw [nI_p1 (by omega), mx_checkRange, if_pos]
  rw [nI_toInt (by omega), nI_toInt (by omega)]
  exact ⟨by rw [show (0 : Int32).toInt = 0 by decide]; omega, by omega⟩
theorem pc_beater {x : Int32} {p : Nat} (hp : p < 16) (hb : bt x p = true) : f_X5_checkBeater 3000 x (nI p) = some (.inr ()) := by
  unfold f_X5_checkBeater
  rw [pc_place p hp, Option.bind_some, Sum.elim_inr, mx_has hp, hb]
  rfl
theorem pc_none {x : Int32} {p : Nat} (hp : p < 16) (hb : bt x p = false) : f_X5_checkBeater 3000 x (nI p) = some (.inl "java/util/NoSuchElementException") := by
  unfold f_X5_checkBeater
  rw [pc_place p hp, Option.bind_some, Sum.elim_inr, mx_has hp, hb]
  rfl
/-- the bits of a set with one place more -/
abbrev pmk (x : Int32) (p : Nat) : Int32 := x ||| ((1 : Int32) <<< (nI p &&& 31))
abbrev pB (s : Ob) (x2 : Int32) (ans pl : Nat → Int32) (p P a b : Nat) : Ob := ((s.1.1, s.1.2.1, s.1.2.2.1, 0, s.1.2.2.2.2), (nI (ms_L x2).length, x2, s.2.1.2.2.1, pl, upd (o_setting_periods s) p (nI P), upd (o_setting_quiets s) p (nI b), ans, s.2.1.2.2.2.2.2.2.2.1, s.2.1.2.2.2.2.2.2.2.2.1, s.2.1.2.2.2.2.2.2.2.2.2.1, s.2.1.2.2.2.2.2.2.2.2.2.2), (s.2.2.1.1, upd (o_now_phases s) p (nI a), s.2.2.1.2.2), (upd (o_flashCounts s) p 0, upd (o_lastFlashes s) p 0), s.2.2.2.2.1, s.2.2.2.2.2.1, s.2.2.2.2.2.2.1, s.2.2.2.2.2.2.2.1, s.2.2.2.2.2.2.2.2.1, s.2.2.2.2.2.2.2.2.2)
theorem pj_beater {x : Int32} {n h : Nat} {fr to de : Nat → Nat} {S : ma_S} {s : Ob} (J : PJ x n h fr to de S s) {p P a b : Nat} (hp : p < 16) (hP1 : 2 ≤ P) (hP : P < 100) (ha : a < P) (hb : b < P) {v : Nat → Int32} (h0 : v (0 : Int32).toNatClampNeg = nI p) (h1 : v (1 : Int32).toNatClampNeg = nI P) (h2 : v (2 : Int32).toNatClampNeg = nI a) (h3 : v (3 : Int32).toNatClampNeg = nI b) : ∃ ans pl : Nat → Int32, A_B 3000 s 4 v = some (if bt x p then 1 else 0, pB s (pmk x p) ans pl p P a b) ∧ PJ (pmk x p) n h fr to de (upd S.1 p (nI a), S.2) (pB s (pmk x p) ans pl p P a b) ∧ ∀ j, ans j = if p * 4 ≤ j ∧ j < p * 4 + 4 then 1 else o_setting_answers s j := by
  obtain ⟨hm, hbt, hl, hh, hlt, C, I, R⟩ := J
  obtain ⟨ans, pl, ep, C', h4⟩ := mx_put (N := 3000) (per := o_setting_periods s) (qui := o_setting_quiets s) (by decide) hp C (nI P) (nI b)
  have l16 : nI p < (16 : Int32) := nI_lt (b := 16) hp (by omega)
  have g1 : ∀ {α : Type} (x : Option α), zk_g (nI p) 16 x = x := fun x => mg_g hp (by omega) x
  have k1 : (nI p).toNatClampNeg = p := nI_clamp (by omega)
  have up : ∀ (f : Nat → Int32) (v : Int32) (q : Nat), upd f p v q = if q = p then v else f q := fun f v q => rfl
  have hbx : ∀ q, bt (pmk x p) q = (bt x q || decide (q = p)) := fun q => mx_bit hp
  have hbo : ∀ q, q ≠ p → bt (pmk x p) q = bt x q := fun q hq => by rw [hbx, decide_eq_false hq, Bool.or_false]
  refine ⟨ans, pl, ?_, ⟨rfl, rfl, hl, hh, hlt, C', ⟨fun q hq hbq => ?_, I.2⟩, ?_⟩, h4⟩
  · have ee : f_X5_beater 3000 (o_aheadKnown s) (o_setting_beaters s) (o_setting_mask s) (o_setting_periods s) (o_setting_quiets s) (o_setting_answers s) (o_setting_places s) (o_now_phases s) (o_flashCounts s) (o_lastFlashes s) (nI p) (nI P) (nI a) (nI b) = some (.inr (if bt x p then 1 else 0, 0, nI (ms_L (pmk x p)).length, pmk x p, upd (o_setting_periods s) p (nI P), upd (o_setting_quiets s) p (nI b), ans, pl, upd (o_now_phases s) p (nI a), upd (o_flashCounts s) p 0, upd (o_lastFlashes s) p 0)) := by
      unfold f_X5_beater
      rw [pc_place p hp, Option.bind_some, Sum.elim_inr, pc_r99 P hP hP1, Option.bind_some, Sum.elim_inr, pc_r0 ha hP, Option.bind_some, Sum.elim_inr, pc_r0 hb hP, Option.bind_some, Sum.elim_inr, if_pos l16, hm, mx_has hp, Option.bind_some, ep, Option.bind_some, g1, g1, g1, k1]
      cases bt x p <;> rfl
    unfold A_B f_L_ask_B
    rw [h0, h1, h2, h3, ee]
    cases bt x p <;> rfl
  · show ∃ a' c', upd S.1 p (nI a) q = nI a' ∧ upd (o_setting_periods s) p (nI P) q = nI c' ∧ _
    rw [up, up]
    by_cases w : q = p
    · rw [if_pos w, if_pos w]
      exact ⟨a, P, rfl, rfl, by omega, by omega⟩
    · rw [if_neg w, if_neg w]
      rw [hbo q w] at hbq
      exact I.1 q hq hbq
  · obtain ⟨r, q1, q2, q3, q4⟩ := R
    refine ⟨r, q1, q2, fun q hq => ?_, q4⟩
    show upd (o_now_phases s) p (nI a) q = upd S.1 p (nI a) q
    rw [up, up, q3 q hq]
abbrev pU (s : Ob) (p : Nat) (r : Int32) : Ob := ((s.1.1, s.1.2.1, s.1.2.2.1, 0, s.1.2.2.2.2), s.2.1, (s.2.2.1.1, upd (o_now_phases s) p r, s.2.2.1.2.2), s.2.2.2.1, s.2.2.2.2.1, s.2.2.2.2.2.1, s.2.2.2.2.2.2.1, s.2.2.2.2.2.2.2.1, s.2.2.2.2.2.2.2.2.1, s.2.2.2.2.2.2.2.2.2)
theorem pj_push {x : Int32} {n h : Nat} {fr to de : Nat → Nat} {S : ma_S} {s : Ob} (J : PJ x n h fr to de S s) {p : Nat} {w : Int32} (hp : p < 16) (hb : bt x p = true) (hw : f_X5_checkRange 3000 w (-99) 99 = some (.inr ())) {v : Nat → Int32} (h0 : v (0 : Int32).toNatClampNeg = nI p) (h1 : v (1 : Int32).toNatClampNeg = w) : A_x 3000 s 2 v = some (ma_pu (o_now_phases s p) (o_setting_periods s p) w, pU s p (ma_pu (o_now_phases s p) (o_setting_periods s p) w)) ∧ PJ x n h fr to de (upd S.1 p (ma_pu (o_now_phases s p) (o_setting_periods s p) w), S.2) (pU s p (ma_pu (o_now_phases s p) (o_setting_periods s p) w)) := by
  obtain ⟨hm, hbt, hl, hh, hlt, C, I, R⟩ := J
  have g1 : ∀ {α : Type} (x : Option α), zk_g (nI p) 16 x = x := fun x => mg_g hp (by omega) x
  have k1 : (nI p).toNatClampNeg = p := nI_clamp (by omega)
  have up : ∀ (f : Nat → Int32) (v : Int32) (q : Nat), upd f p v q = if q = p then v else f q := fun f v q => rfl
  refine ⟨?_, hm, hbt, hl, hh, hlt, C, ⟨fun q hq hbq => ?_, I.2⟩, ?_⟩
  · have ee : f_X5_push 3000 (o_aheadKnown s) (o_setting_mask s) (o_setting_periods s) (o_now_phases s) (nI p) w = some (.inr (ma_pu (o_now_phases s p) (o_setting_periods s p) w, 0, upd (o_now_phases s) p (ma_pu (o_now_phases s p) (o_setting_periods s p) w))) := by
      unfold f_X5_push
      rw [pc_place p hp, Option.bind_some, Sum.elim_inr, hw, Option.bind_some, Sum.elim_inr, hm, pc_beater hp hb, Option.bind_some, Sum.elim_inr, g1, g1, g1, g1, k1]
      unfold ma_pu
      simp only [upd, if_true]
    unfold A_x f_L_ask_x f_L_asked_x
    rw [h0, h1, ee]
    rfl
  · show ∃ a' c', upd S.1 p _ q = nI a' ∧ o_setting_periods s q = nI c' ∧ _
    rw [up]
    by_cases w' : q = p
    · rw [if_pos w', w']
      obtain ⟨a, c, e1, e2, e3, e4⟩ := I.1 p hp hb
      obtain ⟨b, hb1, hb2⟩ := ma_pu_nI (d := c) (o_now_phases s p) w (by omega) (by omega)
      exact ⟨b, c, by rw [e2, hb2], e2, hb1, e4⟩
    · rw [if_neg w']
      exact I.1 q hq hbq
  · obtain ⟨r, q1, q2, q3, q4⟩ := R
    refine ⟨r, q1, q2, fun q hq => ?_, q4⟩
    show upd (o_now_phases s) p _ q = upd S.1 p _ q
    rw [up, up, q3 q hq]
theorem pj_waiting {x : Int32} {n h : Nat} {fr to de : Nat → Nat} {S : ma_S} {s : Ob} (J : PJ x n h fr to de S s) {p : Nat} (hp : p < 16) (hb : bt x p = true) {v : Nat → Int32} (h0 : v (0 : Int32).toNatClampNeg = nI p) : A_w 3000 s 1 v = some (ma_way S p, s) := by
  obtain ⟨hm, hbt, hl, hh, hlt, C, I, R⟩ := J
  have ee : f_X5_waiting 3000 (o_setting_mask s) (o_now_row s) (o_now_coming s) (nI p) = some (.inr (ma_way S p)) := by
    unfold f_X5_waiting
    rw [hm, pc_beater hp hb, Option.bind_some, Sum.elim_inr, mx_underWayTo (by decide) hp R]
    rfl
  unfold A_w f_L_ask_w
  rw [h0, ee]
  rfl
theorem pj_last {x : Int32} {s : Ob} (hm : o_setting_mask s = x) {p : Nat} (hp : p < 16) (hb : bt x p = true) {v : Nat → Int32} (h0 : v (0 : Int32).toNatClampNeg = nI p) : A_l 3000 s 1 v = some (o_lastFlashes s p, s) := by
  have ee : f_X5_last 3000 (o_setting_mask s) (o_lastFlashes s) (nI p) = some (.inr (o_lastFlashes s p)) := by
    unfold f_X5_last
    rw [hm, pc_beater hp hb, Option.bind_some, Sum.elim_inr, mg_g hp (by omega), nI_clamp (by omega)]
  unfold A_l f_L_ask_l
  rw [h0, ee]
  rfl
theorem pj_flashes {x : Int32} {s : Ob} (hm : o_setting_mask s = x) {p : Nat} (hp : p < 16) (hb : bt x p = true) {v : Nat → Int32} (h0 : v (0 : Int32).toNatClampNeg = nI p) : A_f 3000 s 1 v = some (o_flashCounts s p, s) := by
  have ee : f_X5_flashes 3000 (o_setting_mask s) (o_flashCounts s) (nI p) = some (.inr (o_flashCounts s p)) := by
    unfold f_X5_flashes
    rw [hm, pc_beater hp hb, Option.bind_some, Sum.elim_inr, mg_g hp (by omega), nI_clamp (by omega)]
  unfold A_f f_L_ask_f
  rw [h0, ee]
  rfl
theorem pj_phase {x : Int32} {s : Ob} (hm : o_setting_mask s = x) {p : Nat} (hp : p < 16) (hb : bt x p = true) {v : Nat → Int32} (h0 : v (0 : Int32).toNatClampNeg = nI p) : A_p 3000 s 1 v = some (o_now_phases s p, s) := by
  have ee : f_X5_phase 3000 (o_setting_mask s) (o_now_phases s) (nI p) = some (.inr (o_now_phases s p)) := by
    unfold f_X5_phase
    rw [hm, pc_beater hp hb, Option.bind_some, Sum.elim_inr, mg_g hp (by omega), nI_clamp (by omega)]
  unfold A_p f_L_ask_p
  rw [h0, ee]
  rfl
abbrev pN (s : Ob) (h : Int32) : Ob := ((s.1.1, h, s.1.2.2.1, s.1.2.2.2.1, s.1.2.2.2.2), s.2.1, s.2.2.1, s.2.2.2.1, s.2.2.2.2.1, s.2.2.2.2.2.1, s.2.2.2.2.2.2.1, s.2.2.2.2.2.2.2.1, s.2.2.2.2.2.2.2.2.1, s.2.2.2.2.2.2.2.2.2)
theorem pc_r09 : ∀ a, a < 100 → f_X5_checkRange 3000 (nI a) 0 99 = some (.inr ()) := by decide +kernel
theorem pj_noise {x : Int32} {n h : Nat} {fr to de : Nat → Nat} {S : ma_S} {s : Ob} (J : PJ x n h fr to de S s) {a : Nat} (ha : a < 100) {v : Nat → Int32} (h0 : v (0 : Int32).toNatClampNeg = nI a) : A_n 3000 s 1 v = some (nI h, pN s (nI a)) ∧ PJ x n a fr to de S (pN s (nI a)) := by
  obtain ⟨hm, hbt, hl, hh, hlt, C, I, R⟩ := J
  refine ⟨?_, hm, hbt, hl, rfl, ha, C, I, R⟩
  have ee : f_X5_noise 3000 (o_noiseShare s) (nI a) = some (.inr (nI h, nI a)) := by
    unfold f_X5_noise
    rw [pc_r09 a ha, Option.bind_some, Sum.elim_inr, hh]
  unfold A_n f_L_ask_n f_L_asked_n
  rw [h0, ee]
  rfl

/-! rows of mine (pure): remainders -/
theorem nI_subI {a b : Nat} (h : b ≤ a) : nI a - nI b = nI (a - b) := by
  rw [show nI a = nI (a - b) + nI b by rw [nI_add, Nat.sub_add_cancel h], Int32.add_sub_cancel]
theorem nI_rem {n P : Nat} (hn : n < 2 ^ 31) (hP : 0 < P) (hP2 : P < 2 ^ 31) : nI n - nI n / nI P * nI P = nI (n % P) := by
  have e := Nat.div_add_mod n P
  rw [pk_div hn hP hP2, pk_mul, nI_subI (by rw [Nat.mul_comm]; omega)]
  congr 1
  rw [Nat.mul_comm]
  omega
/-! rows of mine (pure): a full object -/
theorem pj_link {x : Int32} {n h : Nat} {fr to de : Nat → Nat} {S : ma_S} {s : Ob} (J : PJ x n h fr to de S s) (hn : n < 60) {a b d w : Nat} (ha : a < 16) (hb : b < 16) (hab : a ≠ b) (hd1 : 1 ≤ d) (hd : d ≤ 30) (hw1 : 1 ≤ w) (hw : w ≤ 9) {v : Nat → Int32} (h0 : v (0 : Int32).toNatClampNeg = nI a) (h1 : v (1 : Int32).toNatClampNeg = nI b) (h2 : v (2 : Int32).toNatClampNeg = nI d) (h3 : v (3 : Int32).toNatClampNeg = nI w) : ∃ (o : Int32 × (Nat → Int32) × (Nat → Int32) × (Nat → Int32) × (Nat → Int32)) (fr2 to2 de2 : Nat → Nat), A_L 3000 s 4 v = some (nI n, pT s o) ∧ PJ x (n + 1) h fr2 to2 de2 S (pT s o) := by
  obtain ⟨hm, hbt, hl, hh, hlt, C, I, R⟩ := J
  refine ⟨(nI (n + 1), upd (o_setting_froms s) n (nI a), upd (o_setting_tos s) n (nI b), upd (o_setting_delays s) n (nI d), upd (o_setting_strengths s) n (nI w)), _, _, _, ?_, hm, hbt, rfl, hh, hlt, ⟨by omega, lk_add C.2.1 ha hb hd1 hd, C.2.2.1, C.2.2.2.1, lk_st C.2.2.2.2 hw⟩, I, R⟩
  have g : ∀ {α : Type} (x : Option α), zk_g (nI n) 60 x = x := fun x => mg_g hn (by omega) x
  have ee : f_X5_link 3000 (o_aheadKnown s) (o_setting_links s) (o_setting_froms s) (o_setting_tos s) (o_setting_delays s) (o_setting_strengths s) (nI a) (nI b) (nI d) (nI w) = some (.inr (nI n, 0, nI (n + 1), upd (o_setting_froms s) n (nI a), upd (o_setting_tos s) n (nI b), upd (o_setting_delays s) n (nI d), upd (o_setting_strengths s) n (nI w))) := by
    unfold f_X5_link
    rw [if_neg (show ¬ nI a < 0 from nI_pos (by omega)), if_neg (show ¬ (16 : Int32) ≤ nI a from nI_ge (a := a) (b := 16) ha (by omega)), if_neg (show ¬ nI b < 0 from nI_pos (by omega)), if_pos (show nI b < (16 : Int32) from nI_lt (b := 16) hb (by omega)), show f_X5_checkOther 3000 (nI a) (nI b) = some (.inr ()) from if_neg (fun e => hab ((nI_eq (by omega) (by omega)).mp e)), Option.bind_some, Sum.elim_inr, pc_r30 d (by omega) hd1, Option.bind_some, Sum.elim_inr, pc_r9 w (by omega) hw1, Option.bind_some, Sum.elim_inr, hl, if_pos (show nI n < (60 : Int32) from nI_lt (b := 60) hn (by omega))]
    unfold f_X1_addLink
    rw [if_neg (show ¬ (60 : Int32) ≤ nI n from nI_ge (a := n) (b := 60) hn (by omega)), g, g, g, g, nI_clamp (by omega), Option.bind_some, nI_1]
    show some (Sum.inr (nI (n + 1) - (1 : Int32), _)) = _
    rw [nI_p1 (by omega)]
    rfl
  unfold A_L f_L_ask_L
  rw [h0, h1, h2, h3, ee]
  rfl
def tk (k : Nat) : Nat → Int32 := fun i => if i < k then nI (7 * i) else 0
theorem tk_up (k : Nat) : upd (tk k) k (nI (7 * k)) = tk (k + 1) := by
  funext i
  unfold upd tk
  by_cases h : i = k
  · rw [if_pos h, if_pos (by omega), h]
  · rw [if_neg h]
    by_cases h2 : i < k
    · rw [if_pos h2, if_pos (by omega)]
    · rw [if_neg h2, if_neg (by omega)]
theorem tk_0 : tk 0 = fun _ => 0 := by
  funext i
  unfold tk
  rw [if_neg (by omega)]
theorem pc_mark : ∀ k, k < 20 → f_X5_checkRange 3000 (nI (7 * k)) 0 9999 = some (.inr ()) := by decide +kernel
abbrev pM (s : Ob) (mk : Int32 × (Nat → Int32)) : Ob := (s.1, s.2.1, s.2.2.1, s.2.2.2.1, s.2.2.2.2.1, s.2.2.2.2.2.1, s.2.2.2.2.2.2.1, s.2.2.2.2.2.2.2.1, mk, s.2.2.2.2.2.2.2.2.2)
theorem pf_mark {s : Ob} {k : Nat} (hk : k < 20) (hm : s.2.2.2.2.2.2.2.2.1 = (nI k, tk k)) {v : Nat → Int32} (h0 : v (0 : Int32).toNatClampNeg = nI (7 * k)) : A_M 3000 s 1 v = some (nI (k + 1), pM s (nI (k + 1), tk (k + 1))) := by
  have ee : f_X5_mark 3000 (o_marks_count s) (o_marks_ticks s) (nI (7 * k)) = some (.inr (nI (k + 1), nI (k + 1), tk (k + 1))) := by
    unfold f_X5_mark o_marks_count o_marks_ticks
    rw [pc_mark k hk, Option.bind_some, Sum.elim_inr, hm]
    show (if nI k < (20 : Int32) then _ else _) = _
    rw [if_pos (show nI k < (20 : Int32) from nI_lt (b := 20) hk (by omega))]
    unfold f_X0_add
    rw [if_neg (show ¬ (20 : Int32) ≤ nI k from nI_ge (a := k) (b := 20) hk (by omega)), mg_g hk (by omega), nI_clamp (by omega), tk_up, nI_1]
    rfl
  unfold A_M f_L_ask_M f_L_asked_M
  rw [h0, ee]
  rfl
def xk : Nat → Int32
  | 0 => 0
  | k + 1 => pmk (xk k) k
theorem xk_bt : ∀ k, k ≤ 16 → ∀ p, bt (xk k) p = decide (p < k)
  | 0, _, p => by rw [xk, b_0, decide_eq_false (by omega)]
  | k + 1, hk, p => by
    rw [show bt (xk (k + 1)) p = _ from mx_bit (by omega), xk_bt k (by omega) p]
    by_cases h : p < k
    · rw [decide_eq_true h, decide_eq_true (by omega : p < k + 1), Bool.true_or]
    · rw [decide_eq_false h, Bool.false_or]
      by_cases h2 : p = k
      · rw [decide_eq_true h2, decide_eq_true (by omega)]
      · rw [decide_eq_false h2, decide_eq_false (by omega)]
theorem xk_9 : (ms_L (xk 9)).length = 9 := by decide +kernel
/-- so many links, marks, beaters -/
def FS (n k m : Nat) (s : Ob) : Prop := ∃ (fr to de : Nat → Nat) (S : ma_S), PJ (xk m) n 0 fr to de S s ∧ s.2.2.2.2.2.2.2.2.1 = (nI k, tk k)
theorem fs_0 : FS 0 0 0 ob_0 := ⟨_, _, _, _, pob_0 rfl rfl rfl, by rw [tk_0]; rfl⟩
theorem fs_link {n : Nat} {s : Ob} (F : FS n 0 0 s) (hn : n < 60) {v : Nat → Int32} (h0 : v (0 : Int32).toNatClampNeg = nI n - nI n / 16 * 16) (h1 : v (1 : Int32).toNatClampNeg = (nI n + 1) - (nI n + 1) / 16 * 16) (h2 : v (2 : Int32).toNatClampNeg = 1 + (nI n - nI n / 30 * 30)) (h3 : v (3 : Int32).toNatClampNeg = 1 + (nI n - nI n / 9 * 9)) : ∃ s2, A_L 3000 s 4 v = some (nI n, s2) ∧ FS (n + 1) 0 0 s2 := by
  obtain ⟨fr, to, de, S, J, hm⟩ := F
  have e0 : nI n - nI n / 16 * 16 = nI (n % 16) := by
    have h : nI n - nI n / nI 16 * nI 16 = nI (n % 16) := nI_rem (by omega) (by omega) (by omega)
    exact h
  have e1 : (nI n + 1) - (nI n + 1) / 16 * 16 = nI ((n + 1) % 16) := by
    have h : nI (n + 1) - nI (n + 1) / nI 16 * nI 16 = nI ((n + 1) % 16) := nI_rem (by omega) (by omega) (by omega)
    rw [← nI_1] at h
    exact h
  have e2 : 1 + (nI n - nI n / 30 * 30) = nI (1 + n % 30) := by
    have h : nI n - nI n / nI 30 * nI 30 = nI (n % 30) := nI_rem (by omega) (by omega) (by omega)
    have h' : nI n - nI n / 30 * 30 = nI (n % 30) := h
    rw [h', ← nI_add]
    rfl
  have e3 : 1 + (nI n - nI n / 9 * 9) = nI (1 + n % 9) := by
    have h : nI n - nI n / nI 9 * nI 9 = nI (n % 9) := nI_rem (by omega) (by omega) (by omega)
    have h' : nI n - nI n / 9 * 9 = nI (n % 9) := h
    rw [h', ← nI_add]
    rfl
  obtain ⟨o, fr2, to2, de2, e, J2⟩ := pj_link J hn (a := n % 16) (b := (n + 1) % 16) (d := 1 + n % 30) (w := 1 + n % 9) (by omega) (by omega) (by omega) (by omega) (by omega) (by omega) (by omega) (h0.trans e0) (h1.trans e1) (h2.trans e2) (h3.trans e3)
  exact ⟨_, e, fr2, to2, de2, S, J2, hm⟩
theorem fs_mark {k : Nat} {s : Ob} (F : FS 60 k 0 s) (hk : k < 20) {v : Nat → Int32} (h0 : v (0 : Int32).toNatClampNeg = 7 * nI k) : ∃ s2, A_M 3000 s 1 v = some (nI (k + 1), s2) ∧ FS 60 (k + 1) 0 s2 := by
  obtain ⟨fr, to, de, S, J, hm⟩ := F
  refine ⟨_, pf_mark hk hm (h0.trans ?_), fr, to, de, S, J, rfl⟩
  rw [show (7 : Int32) = nI 7 from rfl, pk_mul]
theorem fs_beater {m : Nat} {s : Ob} (F : FS 60 20 m s) (hm : m < 9) {v : Nat → Int32} (h0 : v (0 : Int32).toNatClampNeg = nI m) (h1 : v (1 : Int32).toNatClampNeg = nI 97) (h2 : v (2 : Int32).toNatClampNeg = nI 0) (h3 : v (3 : Int32).toNatClampNeg = nI 0) : ∃ s2, A_B 3000 s 4 v = some (0, s2) ∧ FS 60 20 (m + 1) s2 := by
  obtain ⟨fr, to, de, S, J, hk⟩ := F
  obtain ⟨ans, pl, e, J2, -⟩ := pj_beater J (p := m) (P := 97) (a := 0) (b := 0) (by omega) (by omega) (by omega) (by omega) (by omega) h0 h1 h2 h3
  rw [xk_bt m (by omega) m, decide_eq_false (by omega)] at e
  exact ⟨_, e, _, _, _, _, J2, hk⟩
theorem ff_link {s : Ob} (F : FS 60 20 9 s) {v : Nat → Int32} (h0 : v (0 : Int32).toNatClampNeg = nI 0) (h1 : v (1 : Int32).toNatClampNeg = nI 1) (h2 : v (2 : Int32).toNatClampNeg = nI 1) (h3 : v (3 : Int32).toNatClampNeg = nI 1) : A_L 3000 s 4 v = some (-2000000003, s) := by
  obtain ⟨fr, to, de, S, J, hk⟩ := F
  unfold A_L f_L_ask_L f_X5_link
  rw [h0, h1, h2, h3, if_neg (by decide), if_neg (by decide), if_neg (by decide), if_pos (by decide), show f_X5_checkOther 3000 (nI 0) (nI 1) = some (.inr ()) from if_neg (by decide), Option.bind_some, Sum.elim_inr, pc_r30 1 (by omega) (by omega), Option.bind_some, Sum.elim_inr, pc_r9 1 (by omega) (by omega), Option.bind_some, Sum.elim_inr, if_neg (show ¬ o_setting_links s < (60 : Int32) by rw [J.2.2.1]; decide)]
  rfl
theorem ff_mark {s : Ob} (F : FS 60 20 9 s) {v : Nat → Int32} (h0 : v (0 : Int32).toNatClampNeg = nI (7 * 0)) : A_M 3000 s 1 v = some (-2000000003, s) := by
  obtain ⟨fr, to, de, S, J, hk⟩ := F
  unfold A_M f_L_ask_M f_L_asked_M f_X5_mark
  rw [h0, pc_mark 0 (by omega), Option.bind_some, Sum.elim_inr, if_neg (show ¬ o_marks_count s < (20 : Int32) by unfold o_marks_count; rw [hk]; decide)]
  rfl
theorem ff_F0 : f_L_ask_F 3000 20 (tk 20) = some 1 := by decide +kernel
theorem ff_u0 : f_L_ask_u 3000 20 (tk 20) 1 (fun _ => 0) = some 7 := by decide +kernel
theorem ff_F {s : Ob} (F : FS 60 20 9 s) (v : Nat → Int32) : A_F 3000 s 0 v = some (1, s) := by
  obtain ⟨fr, to, de, S, J, hk⟩ := F
  unfold A_F o_marks_count o_marks_ticks
  rw [hk]
  show (f_L_ask_F 3000 20 (tk 20)).map _ = _
  rw [ff_F0]
  rfl
theorem ff_u {s : Ob} (F : FS 60 20 9 s) {v : Nat → Int32} (h0 : v (0 : Int32).toNatClampNeg = 0) : A_u 3000 s 1 v = some (7, s) := by
  obtain ⟨fr, to, de, S, J, hk⟩ := F
  have e : f_L_ask_u 3000 20 (tk 20) 1 v = f_L_ask_u 3000 20 (tk 20) 1 (fun _ => 0) := by
    unfold f_L_ask_u f_L_asked_u
    rw [h0]
  unfold A_u o_marks_count o_marks_ticks
  rw [hk]
  show (f_L_ask_u 3000 20 (tk 20) 1 v).map _ = _
  rw [e, ff_u0]
  rfl
theorem ff_X {s : Ob} (F : FS 60 20 9 s) (v : Nat → Int32) : A_X 3000 s 0 v = some (-2000000004, s) := by
  obtain ⟨fr, to, de, S, J, hk⟩ := F
  unfold A_X f_L_ask_X f_L_asked_X f_X5_leastPush
  rw [show f_X5_checkNoNoise 3000 (o_noiseShare s) = some (.inr ()) from if_pos (by rw [J.2.2.2.1]; decide), Option.bind_some, Sum.elim_inr, if_neg (show ¬ o_setting_beaters s < (1 : Int32) by rw [J.2.1, xk_9]; decide), if_neg (show ¬ o_setting_beaters s ≤ (8 : Int32) by rw [J.2.1, xk_9]; decide)]
  rfl
theorem ff_Na {s : Ob} (F : FS 60 20 9 s) {v : Nat → Int32} (h0 : v (0 : Int32).toNatClampNeg = nI 97) (h1 : v (1 : Int32).toNatClampNeg = nI 1) (h2 : v (2 : Int32).toNatClampNeg = nI 1) : A_N 3000 s 3 v = some (-2000000004, s) := by
  obtain ⟨fr, to, de, S, J, hk⟩ := F
  unfold A_N f_L_ask_N f_X5_net
  rw [h0, h1, h2, show ((nI 97).toUInt32 % 65536).toInt32 = nI 97 by decide, if_neg (show ¬ nI 97 = (114 : Int32) by decide), if_neg (show ¬ nI 97 = (108 : Int32) by decide), if_neg (show ¬ nI 97 = (104 : Int32) by decide), if_pos (show nI 97 = (97 : Int32) from rfl), pc_r30 1 (by omega) (by omega), Option.bind_some, Sum.elim_inr, pc_r9 1 (by omega) (by omega), Option.bind_some, Sum.elim_inr, if_neg (show ¬ o_setting_beaters s < (2 : Int32) by rw [J.2.1, xk_9]; decide), show f_X5_netSize 3000 (nI 97) (o_setting_beaters s) = some 72 by rw [J.2.1, xk_9]; decide, Option.bind_some, if_neg (show ¬ (72 : Int32) ≤ 60 by decide)]
  rfl
theorem ff_C {s : Ob} (F : FS 60 20 9 s) {v : Nat → Int32} (h0 : v (0 : Int32).toNatClampNeg = nI 59) : ∃ s2, A_C 3000 s 1 v = some (59, s2) ∧ FS 59 20 9 s2 := by
  obtain ⟨fr, to, de, S, J, hk⟩ := F
  obtain ⟨hm, hbt, hl, hh, hlt, C, I, R⟩ := J
  refine ⟨pT s (nI 59, o_setting_froms s, o_setting_tos s, o_setting_delays s, o_setting_strengths s), ?_, fr, to, de, S, ⟨hm, hbt, rfl, hh, hlt, ⟨by omega, fun k hk => C.2.1 k (by omega), C.2.2.1, C.2.2.2.1, fun k hk => C.2.2.2.2 k (by omega)⟩, I, R⟩, hk⟩
  have e2 : f_X1_removeLink_2 3000 (nI 60) (2999 + 1) (nI 59) (o_setting_froms s) (o_setting_tos s) (o_setting_delays s) (o_setting_strengths s) = some (nI 59, o_setting_froms s, o_setting_tos s, o_setting_delays s, o_setting_strengths s) := by
    rw [f_X1_removeLink_2, if_pos (by decide)]
  have ee : f_X5_cut 3000 (o_aheadKnown s) (o_setting_links s) (o_setting_froms s) (o_setting_tos s) (o_setting_delays s) (o_setting_strengths s) (nI 59) = some (.inr (nI 59, 0, nI 59, o_setting_froms s, o_setting_tos s, o_setting_delays s, o_setting_strengths s)) := by
    unfold f_X5_cut f_X1_removeLink
    rw [hl, if_neg (show ¬ nI 59 < 0 by decide), if_pos (show nI 59 < nI 60 by decide), show f_X1_removeLink_2 3000 (nI 60) 3000 (nI 59) (o_setting_froms s) (o_setting_tos s) (o_setting_delays s) (o_setting_strengths s) = _ from e2]
    rfl
  unfold A_C f_L_ask_C
  rw [h0, ee]
  rfl
theorem ff_Nh {s : Ob} (F : FS 59 20 9 s) {v : Nat → Int32} (h0 : v (0 : Int32).toNatClampNeg = nI 104) (h1 : v (1 : Int32).toNatClampNeg = nI 1) (h2 : v (2 : Int32).toNatClampNeg = nI 1) : ∃ s2, A_N 3000 s 3 v = some (16, s2) ∧ FS 16 20 9 s2 := by
  obtain ⟨fr, to, de, S, J, hk⟩ := F
  have e16 : (nt_all (nI 104) 9 9 0).length = 16 := by decide +kernel
  obtain ⟨o, e, -, J2⟩ := pj_net J (K := 104) (m := 9) (d := 1) (w := 1) (Or.inr (Or.inr (Or.inl rfl))) xk_9 (by omega) (by omega) (by omega) (by omega) (by omega) (by rw [e16]; omega) h0 h1 h2
  rw [e16] at e J2
  exact ⟨_, e, _, _, _, S, J2, hk⟩
theorem ff_C16 {s : Ob} (F : FS 16 20 9 s) {v : Nat → Int32} (h0 : v (0 : Int32).toNatClampNeg = nI 16) : A_C 3000 s 1 v = some (-2000000001, s) := by
  obtain ⟨fr, to, de, S, J, hk⟩ := F
  unfold A_C f_L_ask_C f_X5_cut
  rw [h0, if_neg (show ¬ nI 16 < 0 by decide), if_neg (show ¬ nI 16 < o_setting_links s by rw [J.2.2.1]; decide)]
  rfl

/-! rows of mine (pure): nets of an object that is as it should be -/
theorem pc_r30 : ∀ d, d < 31 → 1 ≤ d → f_X5_checkRange 3000 (nI d) 1 30 = some (.inr ()) := by decide +kernel
theorem pc_r9 : ∀ w, w < 10 → 1 ≤ w → f_X5_checkRange 3000 (nI w) 1 9 = some (.inr ()) := by decide +kernel
theorem nt_go {K : Nat} (hK : K = 114 ∨ K = 108 ∨ K = 104 ∨ K = 97) {m d w : Nat} {V : Nat → Nat} {pl : Nat → Int32} (hp : ∀ a, a < m → pl a = nI (V a)) (hm : m ≤ 16) (hm2 : 2 ≤ m) (hd1 : 1 ≤ d) (hd : d ≤ 30) (hw1 : 1 ≤ w) (hw : w ≤ 9) (hl : (nt_all (nI K) m m 0).length ≤ 60) (kn links : Int32) (f t de st : Nat → Int32) : ∃ o, f_X5_net 3000 kn (nI m) links pl f t de st (nI K) (nI d) (nI w) = some (.inr (o.1, 0, o.1, o.2.1, o.2.2.1, o.2.2.2.1, o.2.2.2.2)) ∧ nt_C V d w (nt_all (nI K) m m 0) o := by
  obtain ⟨q1, q2, q3, q4, q5⟩ := nt_q1 m (by omega)
  have c5 : ¬ nI m < (2 : Int32) := fun h => by have := q5.mp h; omega
  rcases hK with rfl | rfl | rfl | rfl
  · obtain ⟨o, e, h⟩ := nt_cR (N := 3000) (d := d) (w := w) (f := f) (t := t) (de := de) (st := st) (by decide) hp hm hm2 hl
    refine ⟨o, ?_, h⟩
    have hl' : (nt_all 114 m m 0).length ≤ 60 := hl
    rw [(nt_eR m (by omega) hm2).2] at hl'
    unfold f_X5_net
    rw [if_pos (show nI 114 = (114 : Int32) from rfl), pc_r30 d (by omega) hd1, Option.bind_some, Sum.elim_inr, pc_r9 w (by omega) hw1, Option.bind_some, Sum.elim_inr, if_neg c5, show f_X5_netSize 3000 (nI 114) (nI m) = some (nI m) from if_pos rfl, Option.bind_some, if_pos (q1.mpr hl'), if_neg (show ¬ nI 114 = (104 : Int32) by decide), if_neg (show ¬ nI 114 = (97 : Int32) by decide), if_pos (show nI 114 = (114 : Int32) from rfl), e]
    rfl
  · obtain ⟨o, e, h⟩ := nt_cL (N := 3000) (d := d) (w := w) (f := f) (t := t) (de := de) (st := st) (by decide) hp hm hm2 hl
    refine ⟨o, ?_, h⟩
    have hl' : (nt_all 108 m m 0).length ≤ 60 := hl
    rw [(nt_eL m (by omega) hm2).2] at hl'
    unfold f_X5_net
    rw [if_neg (show ¬ nI 108 = (114 : Int32) by decide), if_pos (show nI 108 = (108 : Int32) from rfl), pc_r30 d (by omega) hd1, Option.bind_some, Sum.elim_inr, pc_r9 w (by omega) hw1, Option.bind_some, Sum.elim_inr, if_neg c5, show f_X5_netSize 3000 (nI 108) (nI m) = some (nI m - (1 : Int32)) from rfl, Option.bind_some, if_pos (q2.mpr hl'), if_neg (show ¬ nI 108 = (104 : Int32) by decide), if_neg (show ¬ nI 108 = (97 : Int32) by decide), e]
    rfl
  · obtain ⟨o, e, h⟩ := nt_cH (N := 3000) (d := d) (w := w) (f := f) (t := t) (de := de) (st := st) (by decide) hp hm hm2 hl
    refine ⟨o, ?_, h⟩
    have hl' : (nt_all 104 m m 0).length ≤ 60 := hl
    rw [(nt_eH m (by omega) hm2).2] at hl'
    unfold f_X5_net
    rw [if_neg (show ¬ nI 104 = (114 : Int32) by decide), if_neg (show ¬ nI 104 = (108 : Int32) by decide), if_pos (show nI 104 = (104 : Int32) from rfl), pc_r30 d (by omega) hd1, Option.bind_some, Sum.elim_inr, pc_r9 w (by omega) hw1, Option.bind_some, Sum.elim_inr, if_neg c5, show f_X5_netSize 3000 (nI 104) (nI m) = some ((2 : Int32) * (nI m - (1 : Int32))) from rfl, Option.bind_some, if_pos ((q3 hm2).mpr hl'), if_pos (show nI 104 = (104 : Int32) from rfl), e]
    rfl
  · obtain ⟨o, e, h⟩ := nt_cA (N := 3000) (d := d) (w := w) (f := f) (t := t) (de := de) (st := st) (by decide) hp hm hl
    refine ⟨o, ?_, h⟩
    have hl' : (nt_all 97 m m 0).length ≤ 60 := hl
    rw [nt_eA m (by omega) hm2] at hl'
    unfold f_X5_net
    rw [if_neg (show ¬ nI 97 = (114 : Int32) by decide), if_neg (show ¬ nI 97 = (108 : Int32) by decide), if_neg (show ¬ nI 97 = (104 : Int32) by decide), if_pos (show nI 97 = (97 : Int32) from rfl), pc_r30 d (by omega) hd1, Option.bind_some, Sum.elim_inr, pc_r9 w (by omega) hw1, Option.bind_some, Sum.elim_inr, if_neg c5, show f_X5_netSize 3000 (nI 97) (nI m) = some (nI m * (nI m - (1 : Int32))) from rfl, Option.bind_some, if_pos (q4.mpr hl'), if_neg (show ¬ nI 97 = (104 : Int32) by decide), if_pos (show nI 97 = (97 : Int32) from rfl), e]
    rfl
abbrev pV (x : Int32) (a : Nat) : Nat := (ms_L x).getD a 0
theorem pV_lt (x : Int32) (a : Nat) : pV x a < 16 := by
  by_cases h : a < (ms_L x).length
  · exact (ms_l_getD h).1
  · rw [show pV x a = 0 by simp [pV, List.getD_eq_getElem?_getD, List.getElem?_eq_none (Nat.not_lt.mp h)]]
    omega
abbrev pT (s : Ob) (o : Int32 × (Nat → Int32) × (Nat → Int32) × (Nat → Int32) × (Nat → Int32)) : Ob := ((s.1.1, s.1.2.1, s.1.2.2.1, 0, s.1.2.2.2.2), (s.2.1.1, s.2.1.2.1, o.1, s.2.1.2.2.2.1, s.2.1.2.2.2.2.1, s.2.1.2.2.2.2.2.1, s.2.1.2.2.2.2.2.2.1, o.2.1, o.2.2.1, o.2.2.2.1, o.2.2.2.2), s.2.2.1, s.2.2.2.1, s.2.2.2.2.1, s.2.2.2.2.2.1, s.2.2.2.2.2.2.1, s.2.2.2.2.2.2.2.1, s.2.2.2.2.2.2.2.2.1, s.2.2.2.2.2.2.2.2.2)
theorem pj_net {x : Int32} {n h : Nat} {fr to de : Nat → Nat} {S : ma_S} {s : Ob} (J : PJ x n h fr to de S s) {K m d w : Nat} (hK : K = 114 ∨ K = 108 ∨ K = 104 ∨ K = 97) (hm : (ms_L x).length = m) (hm2 : 2 ≤ m) (hd1 : 1 ≤ d) (hd : d ≤ 30) (hw1 : 1 ≤ w) (hw : w ≤ 9) (hl : (nt_all (nI K) m m 0).length ≤ 60) {v : Nat → Int32} (h0 : v (0 : Int32).toNatClampNeg = nI K) (h1 : v (1 : Int32).toNatClampNeg = nI d) (h2 : v (2 : Int32).toNatClampNeg = nI w) : ∃ o : Int32 × (Nat → Int32) × (Nat → Int32) × (Nat → Int32) × (Nat → Int32), A_N 3000 s 3 v = some (nI (nt_all (nI K) m m 0).length, pT s o) ∧ nt_S (pV x) d w (nt_all (nI K) m m 0) (nt_all (nI K) m m 0).length o.2.1 o.2.2.1 o.2.2.2.1 o.2.2.2.2 ∧ PJ x (nt_all (nI K) m m 0).length h (fun k => pV x ((nt_all (nI K) m m 0).getD k (0, 0)).1) (fun k => pV x ((nt_all (nI K) m m 0).getD k (0, 0)).2) (fun _ => d) S (pT s o) := by
  obtain ⟨hmm, hbt, hln, hh, hlt, C, I, R⟩ := J
  have hm16 : m ≤ 16 := by rw [← hm]; exact ms_l_len x 16
  have hpl : ∀ a, a < m → o_setting_places s a = nI (pV x a) := fun a ha => C.2.2.1 a (by omega)
  obtain ⟨⟨o1, o⟩, e, nn, e1, hS⟩ := nt_go hK hpl hm16 hm2 hd1 hd hw1 hw hl (o_aheadKnown s) (o_setting_links s) (o_setting_froms s) (o_setting_tos s) (o_setting_delays s) (o_setting_strengths s)
  have en : nn = (nt_all (nI K) m m 0).length := hS.1
  subst en
  have e1 : o1 = nI (nt_all (nI K) m m 0).length := e1
  subst e1
  have i2c : ((nI K).toUInt32 % 65536).toInt32 = nI K := by rcases hK with rfl | rfl | rfl | rfl <;> decide
  refine ⟨(_, o), ?_, hS, hmm, hbt, rfl, hh, hlt, ⟨hl, fun k hk => ?_, C.2.2.1, C.2.2.2.1, fun k hk => ⟨w, hw, (hS.2 k hk).2.2.2⟩⟩, I, R⟩
  · unfold A_N f_L_ask_N
    rw [h0, h1, h2, i2c, hbt, hm, e]
    rfl
  · obtain ⟨a1, a2, a3, a4⟩ := hS.2 k hk
    exact ⟨a1, a2, a3, pV_lt x _, pV_lt x _, hd1, hd⟩

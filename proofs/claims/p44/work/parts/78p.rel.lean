/-! rows of mine: the least push's loops: class -/
theorem lp_row {row : Int32} {ph co : Nat → Int32} {S : ma_S} (h : ma_R row ph co S) : ∃ r, row = nI r ∧ r < 32 := by
  obtain ⟨r, e, hr, -⟩ := h
  exact ⟨r, e, hr⟩
theorem lp_shl : ∀ r, r < 17 → (1 : Int32) <<< (nI r &&& 31) = nI (2 ^ r) := by decide +kernel
theorem lp_5 {N n s : Nat} (hN : 2100 ≤ N) (hs : s ≤ 16) {l : List Nat} (hl : l.Pairwise (· < ·)) (h16 : ∀ p, p ∈ l → p < 16) (h8 : l.length ≤ 8) {x : Int32} (hx : ∀ p, 16 ≤ p → bt x p = false) (h1 : 1 ≤ (ms_L x).length) {places per qui ans froms tos delays st : Nat → Int32} {fr to de : Nat → Nat} {S : ma_S} (C : ma_C x n places ans froms tos delays st fr to de) (hinv : ma_inv x per S) {row : Int32} {nph co : Nat → Int32} (hR : ma_R row nph co S) : ∀ (j i f : Nat) (x3 : Int32) (rw : Int32) (tph tco : Nat → Int32) (lt ct br : Int32) (bp bc : Nat → Int32) (frw : Int32) (fp fc fl : Nat → Int32), i + j = 2 ^ l.length → j < f → (i < 2 ^ l.length → x3 = nI (ps l i)) → (∃ r, rw = nI r ∧ r < 32) → ∃ o, f_X5_firstInStepSet_5 N row nph co (nI (ms_L x).length) x (nI n) places per qui ans froms delays tos st (nI (pm l)) (nI s) f x3 (nI i) rw tph tco lt ct br bp bc frw fp fc fl = some o ∧ ((∃ i2 t, o = .inl t ∧ i ≤ i2 ∧ i2 < 2 ^ l.length ∧ t.1 = nI (ps l i2) ∧ (∃ r, t.2.2.1 = nI r ∧ r < 32) ∧ pn (ps l i2) = s ∧ lp_B x per qui (fun p q => ans (p * 4 + q)) n fr to de st S (ps l i2) ∧ ∀ k, i ≤ k → k < i2 → ¬ (pn (ps l k) = s ∧ lp_B x per qui (fun p q => ans (p * 4 + q)) n fr to de st S (ps l k))) ∨ (∃ t, o = .inr t ∧ (∃ r, t.2.2.1 = nI r ∧ r < 32) ∧ ∀ k, i ≤ k → k < 2 ^ l.length → ¬ (pn (ps l k) = s ∧ lp_B x per qui (fun p q => ans (p * 4 + q)) n fr to de st S (ps l k)))) := by
  have hm : pm l < 65536 := ps_16 hl h16 _
  have hp : 2 ^ l.length ≤ 256 := Nat.pow_le_pow_right (n := 2) (by decide) h8
  have ebc : f_J6_bitCount_0f7a4 N (nI (pm l)) = some (nI l.length) := by rw [lp_bc hm, pm_pn hl h16 (by omega)]
  intro j
  induction j with
  | zero =>
    intro i f x3 rw tph tco lt ct br bp bc frw fp fc fl hi hf hx3 hrw
    obtain ⟨f, rfl⟩ : ∃ g, f = g + 1 := ⟨f - 1, by omega⟩
    rw [f_X5_firstInStepSet_5.eq_def]
    simp only []
    rw [ebc, Option.bind_some, lp_shl _ (by omega), if_pos (show nI (2 ^ l.length) ≤ nI i from nI_le (by omega) (by omega))]
    exact ⟨_, rfl, Or.inr ⟨_, rfl, hrw, fun k h2 h3 => by omega⟩⟩
  | succ j ih =>
    intro i f x3 rw tph tco lt ct br bp bc frw fp fc fl hi hf hx3 hrw
    obtain ⟨f, rfl⟩ : ∃ g, f = g + 1 := ⟨f - 1, by omega⟩
    have hil : i < 2 ^ l.length := by omega
    obtain rfl := hx3 hil
    have ha : ps l i < 65536 := ps_16 hl h16 i
    have hpn : pn (ps l i) ≤ 16 := by
      unfold pn
      exact Nat.le_trans List.countP_le_length (by simp)
    have hnext : i + 1 < 2 ^ l.length → (nI (ps l i) - nI (pm l)) &&& nI (pm l) = nI (ps l (i + 1)) := fun h => ps_next hl h16 h
    rw [f_X5_firstInStepSet_5.eq_def]
    simp only []
    rw [ebc, Option.bind_some, lp_shl _ (by omega), if_neg (show ¬ nI (2 ^ l.length) ≤ nI i from nI_ge (by omega) (by omega)), lp_bc ha, Option.bind_some, nI_1]
    have ext : ¬ (pn (ps l i) = s ∧ lp_B x per qui (fun p q => ans (p * 4 + q)) n fr to de st S (ps l i)) → ∀ o : (Int32 × Int32 × Int32 × (Nat → Int32) × (Nat → Int32) × Int32 × Int32 × Int32 × (Nat → Int32) × (Nat → Int32) × Int32 × (Nat → Int32) × (Nat → Int32) × (Nat → Int32)) ⊕ (Int32 × Int32 × Int32 × (Nat → Int32) × (Nat → Int32) × Int32 × Int32 × Int32 × (Nat → Int32) × (Nat → Int32) × Int32 × (Nat → Int32) × (Nat → Int32) × (Nat → Int32)), ((∃ i2 t, o = .inl t ∧ i + 1 ≤ i2 ∧ i2 < 2 ^ l.length ∧ t.1 = nI (ps l i2) ∧ (∃ r, t.2.2.1 = nI r ∧ r < 32) ∧ pn (ps l i2) = s ∧ lp_B x per qui (fun p q => ans (p * 4 + q)) n fr to de st S (ps l i2) ∧ ∀ k, i + 1 ≤ k → k < i2 → ¬ (pn (ps l k) = s ∧ lp_B x per qui (fun p q => ans (p * 4 + q)) n fr to de st S (ps l k))) ∨ (∃ t, o = .inr t ∧ (∃ r, t.2.2.1 = nI r ∧ r < 32) ∧ ∀ k, i + 1 ≤ k → k < 2 ^ l.length → ¬ (pn (ps l k) = s ∧ lp_B x per qui (fun p q => ans (p * 4 + q)) n fr to de st S (ps l k)))) → ((∃ i2 t, o = .inl t ∧ i ≤ i2 ∧ i2 < 2 ^ l.length ∧ t.1 = nI (ps l i2) ∧ (∃ r, t.2.2.1 = nI r ∧ r < 32) ∧ pn (ps l i2) = s ∧ lp_B x per qui (fun p q => ans (p * 4 + q)) n fr to de st S (ps l i2) ∧ ∀ k, i ≤ k → k < i2 → ¬ (pn (ps l k) = s ∧ lp_B x per qui (fun p q => ans (p * 4 + q)) n fr to de st S (ps l k))) ∨ (∃ t, o = .inr t ∧ (∃ r, t.2.2.1 = nI r ∧ r < 32) ∧ ∀ k, i ≤ k → k < 2 ^ l.length → ¬ (pn (ps l k) = s ∧ lp_B x per qui (fun p q => ans (p * 4 + q)) n fr to de st S (ps l k)))) := by
      intro hno o h
      rcases h with ⟨i2, t, a1, a2, a3, a4, a5, a6, a7, a8⟩ | ⟨t, a1, a2, a3⟩
      · refine Or.inl ⟨i2, t, a1, by omega, a3, a4, a5, a6, a7, fun k h2 h3 => ?_⟩
        rcases Nat.lt_or_eq_of_le h2 with w | w
        · exact a8 k (by omega) h3
        · rw [← w]; exact hno
      · refine Or.inr ⟨t, a1, a2, fun k h2 h3 => ?_⟩
        rcases Nat.lt_or_eq_of_le h2 with w | w
        · exact a3 k (by omega) h3
        · rw [← w]; exact hno
    by_cases hsz : pn (ps l i) = s
    · rw [if_pos (show nI (pn (ps l i)) = nI s by rw [hsz])]
      obtain ⟨o, e1, e2, e3⟩ := lp_brings hN ha hx h1 C hinv (qui := qui) hR tph tco lt ct bp bc fp fc fl
      rw [e1, Option.bind_some]
      rcases e3 with ⟨k1, k2⟩ | ⟨k1, k2⟩
      · rw [if_neg (show ¬ o.1 = 0 by rw [k1]; decide)]
        exact ⟨_, rfl, Or.inl ⟨i, _, rfl, Nat.le_refl _, hil, rfl, by
          obtain ⟨r, q1, q2⟩ := lp_row hR
          exact ⟨r, e2.trans q1, q2⟩, hsz, k2, fun k h2 h3 => by omega⟩⟩
      · rw [if_pos k1]
        obtain ⟨o2, f1, f2⟩ := ih (i + 1) f _ o.2.1 o.2.2.1 o.2.2.2.1 o.2.2.2.2.1 o.2.2.2.2.2.1 o.2.2.2.2.2.2.1 o.2.2.2.2.2.2.2.1 o.2.2.2.2.2.2.2.2.1 o.2.2.2.2.2.2.2.2.2.1 o.2.2.2.2.2.2.2.2.2.2.1 o.2.2.2.2.2.2.2.2.2.2.2.1 o.2.2.2.2.2.2.2.2.2.2.2.2 (by omega) (by omega) hnext (by
          obtain ⟨r, q1, q2⟩ := lp_row hR
          exact ⟨r, e2.trans q1, q2⟩)
        exact ⟨o2, f1, ext (fun q => k2 q.2) o2 f2⟩
    · rw [if_neg (show ¬ nI (pn (ps l i)) = nI s from fun q => hsz ((nI_eq (by omega) (by omega)).mp q))]
      obtain ⟨o2, f1, f2⟩ := ih (i + 1) f _ rw tph tco lt ct br bp bc frw fp fc fl (by omega) (by omega) hnext hrw
      exact ⟨o2, f1, ext (fun q => hsz q.1) o2 f2⟩
theorem lp_fs {N n s : Nat} (hN : 2100 ≤ N) (hs : s ≤ 16) {l : List Nat} (hl : l.Pairwise (· < ·)) (h16 : ∀ p, p ∈ l → p < 16) (h8 : l.length ≤ 8) {x : Int32} (hx : ∀ p, 16 ≤ p → bt x p = false) (h1 : 1 ≤ (ms_L x).length) {places per qui ans froms tos delays st : Nat → Int32} {fr to de : Nat → Nat} {S : ma_S} (C : ma_C x n places ans froms tos delays st fr to de) (hinv : ma_inv x per S) {row : Int32} {nph co : Nat → Int32} (hR : ma_R row nph co S) (rw : Int32) (tph tco : Nat → Int32) (lt ct br : Int32) (bp bc : Nat → Int32) (frw : Int32) (fp fc fl : Nat → Int32) (hrw : ∃ r, rw = nI r ∧ r < 32) : ∃ o, f_X5_firstInStepSet N row rw nph tph co tco (nI (ms_L x).length) x (nI n) places per lt ct br bp bc frw fp fc qui ans froms delays tos st fl (nI (pm l)) (nI s) = some o ∧ (∃ r, o.2.1 = nI r ∧ r < 32) ∧ ((∃ i2, i2 < 2 ^ l.length ∧ o.1 = nI (ps l i2) ∧ pn (ps l i2) = s ∧ lp_B x per qui (fun p q => ans (p * 4 + q)) n fr to de st S (ps l i2) ∧ ∀ k, k < i2 → ¬ (pn (ps l k) = s ∧ lp_B x per qui (fun p q => ans (p * 4 + q)) n fr to de st S (ps l k))) ∨ (o.1 = -1 ∧ ∀ k, k < 2 ^ l.length → ¬ (pn (ps l k) = s ∧ lp_B x per qui (fun p q => ans (p * 4 + q)) n fr to de st S (ps l k)))) := by
  have hp : 2 ^ l.length ≤ 256 := Nat.pow_le_pow_right (n := 2) (by decide) h8
  have e0 : (0 : Int32) = nI (ps l 0) := by
    have : ps l 0 = 0 := by
      apply Nat.eq_of_testBit_eq
      intro q
      rw [Nat.zero_testBit]
      cases h : (ps l 0).testBit q with
      | false => rfl
      | true =>
        obtain ⟨j, hj, -, hb⟩ := (ps_bit l 0 q hl).mp h
        rw [Nat.zero_testBit] at hb
        cases hb
    rw [this]
    rfl
  obtain ⟨o, e1, e2⟩ := lp_5 hN hs hl h16 h8 hx h1 C hinv (qui := qui) hR (2 ^ l.length) 0 N (0 : Int32) rw tph tco lt ct br bp bc frw fp fc fl (by omega) (by omega) (fun _ => e0) hrw
  have e1 : f_X5_firstInStepSet_5 N row nph co (nI (ms_L x).length) x (nI n) places per qui ans froms delays tos st (nI (pm l)) (nI s) N (0 : Int32) (0 : Int32) rw tph tco lt ct br bp bc frw fp fc fl = some o := e1
  rcases e2 with ⟨i2, t, rfl, a2, a3, a4, a5, a6, a7, a8⟩ | ⟨t, rfl, a2, a3⟩
  · have HC : ∃ o, f_X5_firstInStepSet N row rw nph tph co tco (nI (ms_L x).length) x (nI n) places per lt ct br bp bc frw fp fc qui ans froms delays tos st fl (nI (pm l)) (nI s) = some o ∧ o.1 = t.1 ∧ o.2.1 = t.2.2.1 := by
      apply Exists.intro
      apply And.intro
      · unfold f_X5_firstInStepSet
        rw [e1, Option.bind_some, Sum.elim_inl]
      · exact ⟨rfl, rfl⟩
    obtain ⟨o, b1, b2, b3⟩ := HC
    exact ⟨o, b1, by rw [b3]; exact a5, Or.inl ⟨i2, a3, b2.trans a4, a6, a7, fun k hk => a8 k (Nat.zero_le _) hk⟩⟩
  · have HC : ∃ o, f_X5_firstInStepSet N row rw nph tph co tco (nI (ms_L x).length) x (nI n) places per lt ct br bp bc frw fp fc qui ans froms delays tos st fl (nI (pm l)) (nI s) = some o ∧ o.1 = -1 ∧ o.2.1 = t.2.2.1 := by
      apply Exists.intro
      apply And.intro
      · unfold f_X5_firstInStepSet
        rw [e1, Option.bind_some, Sum.elim_inr]
      · exact ⟨rfl, rfl⟩
    obtain ⟨o, b1, b2, b3⟩ := HC
    exact ⟨o, b1, by rw [b3]; exact a2, Or.inr ⟨b2, fun k hk => a3 k (Nat.zero_le _) hk⟩⟩
theorem lp_45 {N n : Nat} (hN : 2100 ≤ N) {l : List Nat} (hl : l.Pairwise (· < ·)) (h16 : ∀ p, p ∈ l → p < 16) (h8 : l.length ≤ 8) {x : Int32} (hx : ∀ p, 16 ≤ p → bt x p = false) (h1 : 1 ≤ (ms_L x).length) {places per qui ans froms tos delays st : Nat → Int32} {fr to de : Nat → Nat} {S : ma_S} (C : ma_C x n places ans froms tos delays st fr to de) (hinv : ma_inv x per S) {row : Int32} {nph co : Nat → Int32} (hR : ma_R row nph co S) : ∀ (j s f : Nat) (rw : Int32) (tph tco : Nat → Int32) (lt ct br : Int32) (bp bc : Nat → Int32) (frw : Int32) (fp fc fl : Nat → Int32), s + j = l.length + 1 → j < f → (∃ r, rw = nI r ∧ r < 32) → ∃ o, f_X5_leastPush_45 N (nI (ms_L x).length) x (nI n) places row nph per co qui ans froms delays tos st (nI (pm l)) f (nI s) rw tph tco lt ct br bp bc frw fp fc fl = some o ∧ ((∃ s2 i2 t, o = .inl t ∧ s ≤ s2 ∧ s2 ≤ l.length ∧ i2 < 2 ^ l.length ∧ t.2.2.2.2.2.2.2.2.2.2.2.2.2 = nI (ps l i2) ∧ (∃ r, t.2.1 = nI r ∧ r < 32) ∧ pn (ps l i2) = s2 ∧ lp_B x per qui (fun p q => ans (p * 4 + q)) n fr to de st S (ps l i2) ∧ (∀ k, k < i2 → ¬ (pn (ps l k) = s2 ∧ lp_B x per qui (fun p q => ans (p * 4 + q)) n fr to de st S (ps l k))) ∧ ∀ s3, s ≤ s3 → s3 < s2 → ∀ k, k < 2 ^ l.length → ¬ (pn (ps l k) = s3 ∧ lp_B x per qui (fun p q => ans (p * 4 + q)) n fr to de st S (ps l k))) ∨ (∃ t, o = .inr t ∧ (∃ r, t.2.1 = nI r ∧ r < 32) ∧ ∀ s3, s ≤ s3 → s3 ≤ l.length → ∀ k, k < 2 ^ l.length → ¬ (pn (ps l k) = s3 ∧ lp_B x per qui (fun p q => ans (p * 4 + q)) n fr to de st S (ps l k)))) := by
  have hm : pm l < 65536 := ps_16 hl h16 _
  have ebc : f_J6_bitCount_0f7a4 N (nI (pm l)) = some (nI l.length) := by rw [lp_bc hm, pm_pn hl h16 (by omega)]
  intro j
  induction j with
  | zero =>
    intro s f rw tph tco lt ct br bp bc frw fp fc fl hi hf hrw
    obtain ⟨f, rfl⟩ : ∃ g, f = g + 1 := ⟨f - 1, by omega⟩
    rw [f_X5_leastPush_45.eq_def]
    simp only []
    rw [ebc, Option.bind_some, if_pos (show nI l.length < nI s from nI_lt (by omega) (by omega))]
    exact ⟨_, rfl, Or.inr ⟨_, rfl, hrw, fun s3 h2 h3 => by omega⟩⟩
  | succ j ih =>
    intro s f rw tph tco lt ct br bp bc frw fp fc fl hi hf hrw
    obtain ⟨f, rfl⟩ : ∃ g, f = g + 1 := ⟨f - 1, by omega⟩
    rw [f_X5_leastPush_45.eq_def]
    simp only []
    rw [ebc, Option.bind_some, if_neg (show ¬ nI l.length < nI s from nI_nlt (by omega) (by omega)), nI_1]
    obtain ⟨o, e1, e2, e3⟩ := lp_fs hN (show s ≤ 16 by omega) hl h16 h8 hx h1 C hinv (qui := qui) hR rw tph tco lt ct br bp bc frw fp fc fl hrw
    rw [e1, Option.bind_some]
    rcases e3 with ⟨i2, a1, a2, a3, a4, a5⟩ | ⟨a1, a2⟩
    · have ha : ps l i2 < 65536 := ps_16 hl h16 i2
      rw [if_neg (show ¬ o.1 < 0 by rw [a2]; exact nI_pos (by omega))]
      exact ⟨_, rfl, Or.inl ⟨s, i2, _, rfl, Nat.le_refl _, by omega, a1, a2, e2, a3, a4, a5, fun s3 h2 h3 => by omega⟩⟩
    · rw [if_pos (show o.1 < 0 by rw [a1]; decide)]
      obtain ⟨o2, f1, f2⟩ := ih (s + 1) f o.2.1 o.2.2.1 o.2.2.2.1 o.2.2.2.2.1 o.2.2.2.2.2.1 o.2.2.2.2.2.2.1 o.2.2.2.2.2.2.2.1 o.2.2.2.2.2.2.2.2.1 o.2.2.2.2.2.2.2.2.2.1 o.2.2.2.2.2.2.2.2.2.2.1 o.2.2.2.2.2.2.2.2.2.2.2.1 o.2.2.2.2.2.2.2.2.2.2.2.2 (by omega) (by omega) e2
      refine ⟨o2, f1, ?_⟩
      rcases f2 with ⟨s2, i2, t, b1, b2, b3, b4, b5, b6, b7, b8, b9, b10⟩ | ⟨t, b1, b2, b3⟩
      · refine Or.inl ⟨s2, i2, t, b1, by omega, b3, b4, b5, b6, b7, b8, b9, fun s3 h2 h3 k hk => ?_⟩
        rcases Nat.lt_or_eq_of_le h2 with w | w
        · exact b10 s3 (by omega) h3 k hk
        · rw [← w]; exact a2 k hk
      · refine Or.inr ⟨t, b1, b2, fun s3 h2 h3 k hk => ?_⟩
        rcases Nat.lt_or_eq_of_le h2 with w | w
        · exact b3 s3 (by omega) h3 k hk
        · rw [← w]; exact a2 k hk
def lp_M (x : Int32) (per : Nat → Int32) (S : ma_S) : List Nat := (ms_L x).filter (fun p => decide (lp_pp x per S p ≠ S.1 p))
theorem lp_asc (x : Int32) : (ms_L x).Pairwise (· < ·) := List.Pairwise.filter _ List.pairwise_lt_range
theorem lp_mv {N n : Nat} (hN : 2100 ≤ N) {x : Int32} (hx : ∀ p, 16 ≤ p → bt x p = false) (h1 : 1 ≤ (ms_L x).length) {places per qui ans froms tos delays st : Nat → Int32} {fr to de : Nat → Nat} {S : ma_S} (C : ma_C x n places ans froms tos delays st fr to de) (hinv : ma_inv x per S) {row : Int32} {nph co : Nat → Int32} (hR : ma_R row nph co S) : f_X5_movableByPush N (nI (ms_L x).length) places nph per = some (nI (pm (lp_M x per S))) := by
  have hlen : (ms_L x).length ≤ 16 := ms_l_len x 16
  have hph : ∀ p, p < 16 → nph p = S.1 p := fun p hp => ma_R_ph hR hp
  have hl : (lp_M x per S).Pairwise (· < ·) := List.Pairwise.filter _ (lp_asc x)
  have h16 : ∀ p, p ∈ lp_M x per S → p < 16 := fun p hp => (ms_l_mem.mp (List.mem_filter.mp hp).1).1
  have key : ∀ (j i f : Nat) (y : Int32), i + j = (ms_L x).length → j < f → (∀ q, q < 32 → (bt y q = true ↔ q ∈ ((ms_L x).take i).filter (fun p => decide (lp_pp x per S p ≠ S.1 p)))) → ∃ y2 w, f_X5_movableByPush_4 N (nI (ms_L x).length) places nph per f y (nI i) = some (y2, w) ∧ ∀ q, q < 32 → (bt y2 q = true ↔ q ∈ lp_M x per S) := by
    intro j
    induction j with
    | zero =>
      intro i f y hi hf hy
      obtain ⟨f, rfl⟩ : ∃ g, f = g + 1 := ⟨f - 1, by omega⟩
      rw [f_X5_movableByPush_4.eq_def]
      simp only []
      rw [if_pos (show nI (ms_L x).length ≤ nI i from nI_le (by omega) (by omega))]
      refine ⟨_, _, rfl, fun q hq => ?_⟩
      rw [hy q hq, List.take_of_length_le (by omega)]
      exact Iff.rfl
    | succ j ih =>
      intro i f y hi hf hy
      obtain ⟨f, rfl⟩ : ∃ g, f = g + 1 := ⟨f - 1, by omega⟩
      have hil : i < (ms_L x).length := by omega
      have g : (ms_L x).getD i 0 < 16 := (ms_l_getD (x := x) (p := 16) hil).1
      rw [f_X5_movableByPush_4.eq_def]
      simp only []
      rw [if_neg (show ¬ nI (ms_L x).length ≤ nI i from nI_ge hil (by omega)), mg_g (show i < 16 by omega) (by omega), nI_clamp (n := i) (by omega), C.2.2.1 i hil, lp_push g h1 C.2.2.1 hph, Option.bind_some, mg_g g (by omega), nI_clamp (show (ms_L x).getD i 0 < 2 ^ 31 by omega), hph _ g, nI_1]
      by_cases hm : lp_pp x per S ((ms_L x).getD i 0) = S.1 ((ms_L x).getD i 0)
      · rw [if_pos hm]
        refine ih (i + 1) f y (by omega) (by omega) (fun q hq => ?_)
        rw [ms_take hil, List.filter_append, List.mem_append, hy q hq]
        generalize (ms_L x).getD i 0 = p at hm
        simp only [List.mem_filter, List.mem_singleton, decide_eq_true_eq]
        constructor
        · exact Or.inl
        · rintro (h | ⟨rfl, h⟩)
          · exact h
          · exact absurd hm h
      · rw [if_neg hm]
        refine ih (i + 1) f _ (by omega) (by omega) (fun q hq => ?_)
        rw [ms_take hil, List.filter_append, List.mem_append, ms_sb _ (by omega) hq, Bool.or_eq_true, hy q hq, decide_eq_true_eq]
        generalize (ms_L x).getD i 0 = p at hm
        simp only [List.mem_filter, List.mem_singleton, decide_eq_true_eq]
        constructor
        · rintro (h | rfl)
          · exact Or.inl h
          · exact Or.inr ⟨rfl, hm⟩
        · rintro (h | ⟨rfl, h⟩)
          · exact Or.inl h
          · exact Or.inr rfl
  obtain ⟨y2, w, e1, e2⟩ := key (ms_L x).length 0 N 0 (by omega) (by omega) (fun q hq => by rw [b_0]; simp)
  have e1 : f_X5_movableByPush_4 N (nI (ms_L x).length) places nph per N (0 : Int32) (0 : Int32) = _ := e1
  have ey : y2 = nI (pm (lp_M x per S)) := by
    apply b_ext
    intro q hq
    apply Bool.eq_iff_iff.mpr
    rw [e2 q hq, lp_bt (a := pm (lp_M x per S)) (ps_16 hl h16 _), pm_bit hl]
  unfold f_X5_movableByPush
  rw [e1, Option.bind_some, ey]

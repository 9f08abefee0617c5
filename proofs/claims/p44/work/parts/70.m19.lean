/-! rows of mine (pure): lots and flashes of a run, class -/
theorem mx_dl_13 {N h z0 : Nat} (h0 : 0 < h) (hh : h < 100) (hz0 : z0 < 2147483647) {x : Int32} {places : Nat → Int32} (hpl : ∀ i, i < (ms_L x).length → places i = nI ((ms_L x).getD i 0)) : ∀ (k i m : Nat) (y : Int32), i + k = (ms_L x).length → k < m → (∀ p, p < 32 → bt y p = (bt x p && decide (p < ma_pos x i) && decide (ma_z z0 ((ms_l x p).length + 1) % 100 < h))) → ∃ y', f_X5_drawLots_13 N (nI h) (nI (ms_L x).length) places m y (nI i) (nI (ma_z z0 i)) = some (y', nI (ms_L x).length, nI (ma_z z0 (ms_L x).length)) ∧ ∀ p, p < 32 → bt y' p = (bt x p && decide (p < 16) && decide (ma_z z0 ((ms_l x p).length + 1) % 100 < h))
  | 0, i, m, y, hi, hm, hy => by
    obtain ⟨m, rfl⟩ : ∃ j, m = j + 1 := ⟨m - 1, by omega⟩
    have hlen : (ms_L x).length ≤ 16 := ms_l_len x 16
    have hi : i = (ms_L x).length := by omega
    have e16 : ma_pos x i = 16 := by unfold ma_pos; rw [if_neg (by omega)]
    rw [e16] at hy
    refine ⟨y, ?_, hy⟩
    rw [f_X5_drawLots_13, if_pos (nI_le (by omega) (by omega)), hi]
  | k + 1, i, m, y, hi, hm, hy => by
    obtain ⟨m, rfl⟩ : ∃ j, m = j + 1 := ⟨m - 1, by omega⟩
    have hlen : (ms_L x).length ≤ 16 := ms_l_len x 16
    have hil : i < (ms_L x).length := by omega
    have hq16 : (ms_L x).getD i 0 < 16 := (ms_l_getD hil).1
    have hqb : bt x ((ms_L x).getD i 0) = true := (ms_l_getD hil).2
    have hz : ∀ i, ma_z z0 i < 2147483647 := ma_z_lt hz0
    have hzi := hz i
    have hzi1 := hz (i + 1)
    have ez : (nI (ma_z z0 i)).toInt64 * (48271 : Int64) - (nI (ma_z z0 i)).toInt64 * (48271 : Int64) / (2147483647 : Int64) * (2147483647 : Int64) = lN (ma_z z0 (i + 1)) := by
      rw [nI_l (by omega), show (48271 : Int64) = lN 48271 from rfl, show (2147483647 : Int64) = lN 2147483647 from rfl, lN_mul, pk_lRem (by omega) (by omega) (by omega)]
      rfl
    have ez2 : (lN (ma_z z0 (i + 1))).toInt32 = nI (ma_z z0 (i + 1)) := lN_i _
    have epos : ma_pos x i = (ms_L x).getD i 0 := by unfold ma_pos; rw [if_pos hil]
    have hlp : (ms_l x ((ms_L x).getD i 0)).length = i := by rw [← epos]; exact ms_l_pos i (by omega)
    obtain ⟨g1, g2, g3⟩ := ma_pos_gap hil
    have hsame : ∀ p, p < 32 → p ≠ (ms_L x).getD i 0 → (bt x p && decide (p < ma_pos x i)) = (bt x p && decide (p < ma_pos x (i + 1))) := fun p hp hne => by
      cases hb : bt x p with
      | false => rw [Bool.false_and, Bool.false_and]
      | true =>
        rw [Bool.true_and, Bool.true_and, epos]
        apply Bool.eq_iff_iff.mpr
        simp only [decide_eq_true_eq]
        constructor
        · intro h; omega
        · intro h
          rcases Nat.lt_trichotomy p ((ms_L x).getD i 0) with w | w | w
          · exact w
          · exact absurd w hne
          · have := g3 p (by omega) h
            rw [hb] at this
            cases this
    rw [f_X5_drawLots_13, if_neg (nI_ge hil (by omega)), ez, ez2, show (100 : Int32) = nI 100 from rfl, pk_rem (by omega) (by omega) (by omega), nI_1]
    by_cases c : ma_z z0 (i + 1) % 100 < h
    · rw [if_neg (nI_ge c (by omega)), mg_g (show i < 16 by omega) (by omega), nI_clamp (show i < 2 ^ 31 by omega), hpl i hil]
      refine mx_dl_13 h0 hh hz0 hpl k (i + 1) m _ (by omega) (by omega) (fun p hp => ?_)
      rw [ms_sb y (show (ms_L x).getD i 0 < 32 by omega) hp, hy p hp]
      by_cases q : p = (ms_L x).getD i 0
      · rw [q, hqb, hlp, decide_eq_true c, decide_eq_true g1]
        simp
      · rw [hsame p hp q, decide_eq_false q, Bool.or_false]
    · rw [if_pos (nI_le (by omega) (by omega))]
      refine mx_dl_13 h0 hh hz0 hpl k (i + 1) m _ (by omega) (by omega) (fun p hp => ?_)
      rw [hy p hp]
      by_cases q : p = (ms_L x).getD i 0
      · rw [q, hlp, decide_eq_false c]
        simp
      · rw [hsame p hp q]
theorem mx_drawLots {N h z : Nat} (hN : 17 ≤ N) (hh : h < 100) (hz : z < 2147483647) {x : Int32} {places : Nat → Int32} (hx : ∀ p, 16 ≤ p → bt x p = false) (hpl : ∀ i, i < (ms_L x).length → places i = nI ((ms_L x).getD i 0)) : ∃ y, f_X5_drawLots N (nI h) (nI z) (nI (ms_L x).length) places = some (y, nI (ma_ze x h z 16)) ∧ ∀ p, bt x p = true → (if bt y p then (1 : Int32) else 0) = ma_b x h z p := by
  have hlen : (ms_L x).length ≤ 16 := ms_l_len x 16
  unfold f_X5_drawLots
  by_cases h0 : h = 0
  · subst h0
    refine ⟨0, by rw [if_pos (by decide)]; rfl, fun p _ => ?_⟩
    rw [b_0, ma_b_0]
    rfl
  · obtain ⟨y, e, hy⟩ := mx_dl_13 (N := N) (show 0 < h by omega) hh hz hpl (ms_L x).length 0 N 0 (by omega) (by omega) (fun p hp => by
      rw [b_0]
      have : (bt x p && decide (p < ma_pos x 0)) = false := by
        cases hb : bt x p with
        | false => rfl
        | true =>
          rw [Bool.true_and]
          apply decide_eq_false
          intro hq
          have hp16 : p < 16 := by
            rcases Nat.lt_or_ge p 16 with w | w
            · exact w
            · rw [hx p w] at hb; cases hb
          obtain ⟨j, hj, e⟩ := ms_idx hp16 hb
          have h0 : 0 < (ms_L x).length := by omega
          unfold ma_pos at hq
          rw [if_pos h0] at hq
          rcases Nat.eq_zero_or_pos j with g | g
          · subst g; omega
          · have := ms_mono g hj
            omega
      rw [this, Bool.false_and])
    have e : f_X5_drawLots_13 N (nI h) (nI (ms_L x).length) places N (0 : Int32) (0 : Int32) (nI z) = _ := e
    refine ⟨y, ?_, fun p hb => ?_⟩
    · rw [if_neg (show ¬ nI h = 0 from fun q => h0 ((nI_eq (a := h) (b := 0) (by omega) (by omega)).mp q)), e, Option.bind_some]
      unfold ma_ze
      rw [if_neg h0]
    · have hp16 : p < 16 := by
        rcases Nat.lt_or_ge p 16 with w | w
        · exact w
        · rw [hx p w] at hb; cases hb
      rw [hy p (by omega), hb, decide_eq_true hp16]
      unfold ma_b
      by_cases c : ma_z z ((ms_l x p).length + 1) % 100 < h
      · rw [decide_eq_true c, if_pos (show (true && true && true) = true by decide), if_pos ⟨by omega, c⟩]
      · rw [decide_eq_false c, if_neg (show ¬ (true && true && false) = true by decide), if_neg (fun w => c w.2)]
theorem mx_nf_6 {N : Nat} {v t : Int32} {F : Nat → Bool} (hv : ∀ p, p < 16 → bt v p = F p) {c0 l0 : Nat → Int32} : ∀ (k i m : Nat) (c l : Nat → Int32), i + k = 16 → k < m → (∀ p, p < 16 → c p = if p < i ∧ F p = true then c0 p + 1 else c0 p) → (∀ p, p < 16 → l p = if p < i ∧ F p = true then t else l0 p) → ∃ c' l' : Nat → Int32, f_X5_noteFlashes_6 N t v m (nI i) c l = some (nI 16, c', l') ∧ (∀ p, p < 16 → c' p = if F p = true then c0 p + 1 else c0 p) ∧ ∀ p, p < 16 → l' p = if F p = true then t else l0 p
  | 0, i, m, c, l, hi, hm, hc, hl => by
    obtain ⟨m, rfl⟩ : ∃ j, m = j + 1 := ⟨m - 1, by omega⟩
    obtain rfl : i = 16 := by omega
    refine ⟨c, l, by rw [f_X5_noteFlashes_6, if_pos (show (16 : Int32) ≤ nI 16 by decide)], fun p hp => ?_, fun p hp => ?_⟩
    · rw [hc p hp]; simp only [hp, true_and]
    · rw [hl p hp]; simp only [hp, true_and]
  | k + 1, i, m, c, l, hi, hm, hc, hl => by
    obtain ⟨m, rfl⟩ : ∃ j, m = j + 1 := ⟨m - 1, by omega⟩
    have hi16 : i < 16 := by omega
    have ci : (nI i).toNatClampNeg = i := nI_clamp (by omega)
    have g1 : ∀ {α : Type} (x : Option α), zk_g (nI i) 16 x = x := fun x => mg_g hi16 (by omega) x
    rw [f_X5_noteFlashes_6, if_neg (show ¬ (16 : Int32) ≤ nI i from nI_ge (a := i) (b := 16) hi16 (by omega)), ms_tb v (show i < 32 by omega), hv i hi16]
    simp only [g1, ci, nI_1]
    cases hF : F i with
    | false =>
      rw [if_pos (by rfl)]
      have hlt : ∀ p, p < i + 1 → F p = true → p < i := fun p h1 h2 => by
        rcases Nat.lt_or_ge p i with u | u
        · exact u
        · have e : p = i := by omega
          rw [e, hF] at h2
          cases h2
      refine mx_nf_6 hv k (i + 1) m c l (by omega) (by omega) (fun p hp => ?_) (fun p hp => ?_)
      · rw [hc p hp]
        by_cases q : p < i ∧ F p = true
        · rw [if_pos q, if_pos ⟨by omega, q.2⟩]
        · rw [if_neg q, if_neg (fun w => q ⟨hlt p w.1 w.2, w.2⟩)]
      · rw [hl p hp]
        by_cases q : p < i ∧ F p = true
        · rw [if_pos q, if_pos ⟨by omega, q.2⟩]
        · rw [if_neg q, if_neg (fun w => q ⟨hlt p w.1 w.2, w.2⟩)]
    | true =>
      rw [if_neg (by decide)]
      refine mx_nf_6 hv k (i + 1) m _ _ (by omega) (by omega) (fun p hp => ?_) (fun p hp => ?_)
      · unfold upd
        by_cases q : p = i
        · subst q
          rw [if_pos rfl, if_pos ⟨by omega, hF⟩, hc p hp, if_neg (by omega)]
        · rw [if_neg q, hc p hp]
          by_cases q2 : p < i ∧ F p = true
          · rw [if_pos q2, if_pos ⟨by omega, q2.2⟩]
          · rw [if_neg q2, if_neg (fun w => q2 ⟨by omega, w.2⟩)]
      · unfold upd
        by_cases q : p = i
        · subst q
          rw [if_pos rfl, if_pos ⟨by omega, hF⟩]
        · rw [if_neg q, hl p hp]
          by_cases q2 : p < i ∧ F p = true
          · rw [if_pos q2, if_pos ⟨by omega, q2.2⟩]
          · rw [if_neg q2, if_neg (fun w => q2 ⟨by omega, w.2⟩)]
theorem mx_noteFlashes {N : Nat} (hN : 17 ≤ N) {v t : Int32} {F : Nat → Bool} (hv : ∀ q, q < 32 → bt v q = (decide (q < 16) && F q)) (c l : Nat → Int32) : ∃ c' l' : Nat → Int32, f_X5_noteFlashes N t c l v = some (nI ((List.range 16).countP F), c', l') ∧ (∀ p, p < 16 → c' p = if F p = true then c p + 1 else c p) ∧ ∀ p, p < 16 → l' p = if F p = true then t else l p := by
  have h16 : ∀ p, 16 ≤ p → bt v p = false := fun p hp => by
    rcases Nat.lt_or_ge p 32 with w | w
    · rw [hv p w, decide_eq_false (by omega), Bool.false_and]
    · exact b_big w
  have hF : ∀ p, p < 16 → bt v p = F p := fun p hp => by rw [hv p (by omega), decide_eq_true hp, Bool.true_and]
  have hcnt : (List.range 16).countP (fun p => bt v p) = (List.range 16).countP F := by
    apply List.countP_congr
    intro p hp
    rw [hF p (List.mem_range.mp hp)]
  have hbc := mb_c (N := N) h16
  rw [hcnt] at hbc
  unfold f_X5_noteFlashes
  by_cases h0 : v = 0
  · rw [if_pos h0, hbc, Option.bind_some]
    have hf0 : ∀ p, p < 16 → F p = false := fun p hp => by rw [← hF p hp, h0, b_0]
    exact ⟨c, l, rfl, fun p hp => by rw [hf0 p hp, if_neg (by decide)], fun p hp => by rw [hf0 p hp, if_neg (by decide)]⟩
  · obtain ⟨c', l', e, h1, h2⟩ := mx_nf_6 (N := N) (t := t) hF (c0 := c) (l0 := l) 16 0 N c l (by omega) (by omega) (fun p hp => by rw [if_neg (by omega)]) (fun p hp => by rw [if_neg (by omega)])
    have e : f_X5_noteFlashes_6 N t v N (0 : Int32) c l = _ := e
    rw [if_neg h0, e, Option.bind_some, hbc, Option.bind_some]
    exact ⟨c', l', rfl, h1, h2⟩

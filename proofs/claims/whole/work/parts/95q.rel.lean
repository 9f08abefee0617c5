/-! rows of mine: the least push's loops: reference -/
theorem ps_take {l : List Nat} (hl : l.Pairwise (· < ·)) {i k q : Nat} (hi : i < l.length) : (ps (l.take (i + 1)) k).testBit q = true ↔ ((ps (l.take i) k).testBit q = true ∨ (q = l.getD i 0 ∧ k.testBit i = true)) := by
  have p1 : (l.take (i + 1)).Pairwise (· < ·) := hl.sublist (List.take_sublist _ _)
  have p2 : (l.take i).Pairwise (· < ·) := hl.sublist (List.take_sublist _ _)
  rw [ps_bit _ k q p1, ps_bit _ k q p2]
  have hg : l.getD i 0 = l[i] := ms_gd hi
  constructor
  · rintro ⟨j, hj, e, hb⟩
    have hj2 : j < i + 1 := by rw [List.length_take] at hj; omega
    rw [List.getElem_take] at e
    rcases Nat.lt_or_eq_of_le (Nat.le_of_lt_succ hj2) with w | w
    · exact Or.inl ⟨j, by rw [List.length_take]; omega, by rw [List.getElem_take]; exact e, hb⟩
    · subst w
      exact Or.inr ⟨by rw [hg]; exact e.symm, hb⟩
  · rintro (⟨j, hj, e, hb⟩ | ⟨e, hb⟩)
    · rw [List.getElem_take] at e
      exact ⟨j, by rw [List.length_take] at hj ⊢; omega, by rw [List.getElem_take]; exact e, hb⟩
    · exact ⟨i, by rw [List.length_take]; omega, by rw [List.getElem_take, e, hg], hb⟩
theorem lp_115 {N k : Nat} (hk : k < 65536) {x : Int32} {per qui nT np nq : Nat → Int32} {S : ma_S} (hf : ma_fd x per qui nT np nq) : ∀ (j i f : Nat) (y : Int32) (sph : Nat → Int32), i + j = (ms_L x).length → j < f → (∀ q, q < 32 → bt y q = (ps ((ms_L x).take i) k).testBit q) → ∃ w sph2, f_X8_leastPush_115 N (nI (ms_L x).length) (fun i => nI ((ms_L x).getD i 0)) np (S.1 ((ms_L x).getD 0 0)) (nI k) f y (nI i) sph = some (nI (ps (ms_L x) k), w, sph2) ∧ ∀ p, p < 16 → sph2 p = if (ps (ms_L x) k).testBit p = true ∧ ¬ (ps ((ms_L x).take i) k).testBit p = true then lp_pp x per S p else sph p := by
  have hlen : (ms_L x).length ≤ 16 := ms_l_len x 16
  have hs : f_Jx4a65c_size_8abf5 N (nI (ms_L x).length) = some (nI (ms_L x).length) := rfl
  have hl := lp_asc x
  have h16 : ∀ p, p ∈ ms_L x → p < 16 := fun p hp => (ms_l_mem.mp hp).1
  intro j
  induction j with
  | zero =>
    intro i f y sph hi hf2 hy
    obtain ⟨f, rfl⟩ : ∃ g, f = g + 1 := ⟨f - 1, by omega⟩
    rw [f_X8_leastPush_115.eq_def]
    simp only []
    rw [List.take_of_length_le (by omega)] at hy ⊢
    have ey : y = nI (ps (ms_L x) k) := by
      apply b_ext
      intro q hq
      rw [hy q hq, lp_bt (ps_16 hl h16 k)]
    rw [hs, Option.bind_some, if_pos (show nI (ms_L x).length ≤ nI i from nI_le (by omega) (by omega)), ey]
    exact ⟨_, _, rfl, fun p hp => by rw [if_neg (fun q => q.2 q.1)]⟩
  | succ j ih =>
    intro i f y sph hi hf2 hy
    obtain ⟨f, rfl⟩ : ∃ g, f = g + 1 := ⟨f - 1, by omega⟩
    have hil : i < (ms_L x).length := by omega
    obtain ⟨g1, g2⟩ := ms_l_getD (x := x) (p := 16) (i := i) hil
    have g1 : (ms_L x).getD i 0 < 16 := g1
    have hnp : np ((ms_L x).getD i 0) = per ((ms_L x).getD i 0) := ((hf _ g1).2 g2).1
    rw [f_X8_leastPush_115.eq_def]
    simp only []
    rw [hs, Option.bind_some, if_neg (show ¬ nI (ms_L x).length ≤ nI i from nI_ge hil (by omega)), nI_clamp (n := i) (by omega), nI_clamp (n := (ms_L x).length) (by omega), mg_g hil (by omega), ms_tb _ (show i < 32 by omega), lp_bt hk, nI_1]
    simp only [mg_g g1 (show 16 < 2 ^ 31 by omega), nI_clamp (show (ms_L x).getD i 0 < 2 ^ 31 by omega)]
    have nodup : ¬ (ps ((ms_L x).take i) k).testBit ((ms_L x).getD i 0) = true := fun q => ms_not (ms_l_nodup x 16) hil (ps_mem (hl.sublist (List.take_sublist _ _)) q)
    have full : k.testBit i = true → (ps (ms_L x) k).testBit ((ms_L x).getD i 0) = true := fun q => (ps_bit _ k _ hl).mpr ⟨i, hil, (ms_gd hil).symm, q⟩
    have full2 : k.testBit i = false → ¬ (ps (ms_L x) k).testBit ((ms_L x).getD i 0) = true := fun q h => by
      obtain ⟨j2, hj2, e, hb⟩ := (ps_bit _ k _ hl).mp h
      rw [ms_gd hil] at e
      have : j2 = i := by
        rcases Nat.lt_trichotomy j2 i with w | w | w
        · have := List.pairwise_iff_getElem.mp hl j2 i hj2 hil w; omega
        · exact w
        · have := List.pairwise_iff_getElem.mp hl i j2 hil hj2 w; omega
      subst this
      rw [q] at hb
      cases hb
    have step : ∀ q, (ps ((ms_L x).take (i + 1)) k).testBit q = true ↔ ((ps ((ms_L x).take i) k).testBit q = true ∨ (q = (ms_L x).getD i 0 ∧ k.testBit i = true)) := fun q => ps_take hl hil
    cases hb : k.testBit i with
    | true =>
      rw [if_pos (show (if true = true then (1 : Int32) else 0) = 1 from rfl)]
      obtain ⟨w, sph2, e1, e2⟩ := ih (i + 1) f (y ||| ((1 : Int32) <<< (nI ((ms_L x).getD i 0) &&& 31))) (upd sph ((ms_L x).getD i 0) (lp_pp x per S ((ms_L x).getD i 0))) (by omega) (by omega) (fun q hq => by
        apply Bool.eq_iff_iff.mpr
        rw [ms_sb _ (by omega) hq, step q, Bool.or_eq_true, hy q hq, hb, decide_eq_true_eq]
        simp)
      refine ⟨w, sph2, ?_, fun p hp => ?_⟩
      · rw [hnp]
        exact e1
      · rw [e2 p hp]
        by_cases hpi : p = (ms_L x).getD i 0
        · subst hpi
          rw [if_neg (fun q => q.2 ((step _).mpr (Or.inr ⟨rfl, hb⟩))), if_pos ⟨full hb, nodup⟩]
          simp [upd]
        · have hu : upd sph ((ms_L x).getD i 0) (lp_pp x per S ((ms_L x).getD i 0)) p = sph p := by unfold upd; exact if_neg hpi
          rw [hu]
          by_cases h3 : (ps (ms_L x) k).testBit p = true
          · by_cases h4 : (ps ((ms_L x).take i) k).testBit p = true
            · rw [if_neg (fun q => q.2 ((step p).mpr (Or.inl h4))), if_neg (fun q => q.2 h4)]
            · rw [if_pos ⟨h3, fun q => by rcases (step p).mp q with w | ⟨w, -⟩; exact h4 w; exact hpi w⟩, if_pos ⟨h3, h4⟩]
          · rw [if_neg (fun q => h3 q.1), if_neg (fun q => h3 q.1)]
    | false =>
      rw [if_neg (show ¬ (if false = true then (1 : Int32) else 0) = 1 by decide)]
      obtain ⟨w, sph2, e1, e2⟩ := ih (i + 1) f (y ||| (0 : Int32)) (upd sph ((ms_L x).getD i 0) (sph ((ms_L x).getD i 0))) (by omega) (by omega) (fun q hq => by
        apply Bool.eq_iff_iff.mpr
        rw [b_or, b_0, Bool.or_false, hy q hq, step q, hb]
        simp)
      refine ⟨w, sph2, e1, fun p hp => ?_⟩
      rw [e2 p hp]
      by_cases hpi : p = (ms_L x).getD i 0
      · subst hpi
        rw [if_neg (fun q => full2 hb q.1), if_neg (fun q => full2 hb q.1)]
        simp [upd]
      · have hu : upd sph ((ms_L x).getD i 0) (sph ((ms_L x).getD i 0)) p = sph p := by unfold upd; exact if_neg hpi
        rw [hu]
        by_cases h3 : (ps (ms_L x) k).testBit p = true
        · by_cases h4 : (ps ((ms_L x).take i) k).testBit p = true
          · rw [if_neg (fun q => q.2 ((step p).mpr (Or.inl h4))), if_neg (fun q => q.2 h4)]
          · rw [if_pos ⟨h3, fun q => by rcases (step p).mp q with w | ⟨w, -⟩; exact h4 w; exact hpi w⟩, if_pos ⟨h3, h4⟩]
        · rw [if_neg (fun q => h3 q.1), if_neg (fun q => h3 q.1)]
theorem lp_c1 : ∀ a, a < 16 → (List.range 16).countP (fun q => decide (q = a)) = 1 := by decide +kernel
theorem lp_c2 : ∀ a, a < 16 → ∀ b, b < 16 → a ≠ b → (List.range 16).countP (fun q => decide (q = a) || decide (q = b)) = 2 := by decide +kernel
theorem lp_led {x : Int32} (h1 : 1 ≤ (ms_L x).length) {F : Nat → Nat → Bool} {c : Nat} : ma_led x F c 16 = 1 ↔ ∀ t, t < c → ∀ p q, p < 16 → q < 16 → bt x p = true → bt x q = true → F t p = F t q := by
  obtain ⟨g1, g2⟩ := ms_l_getD (x := x) (p := 16) (i := 0) h1
  have g1 : (ms_L x).getD 0 0 < 16 := g1
  have g2 : bt x ((ms_L x).getD 0 0) = true := g2
  have least : ∀ r, r < (ms_L x).getD 0 0 → bt x r = false := fun r hr => by
    cases hb : bt x r with
    | false => rfl
    | true =>
      obtain ⟨j, hj, e⟩ := ms_idx (x := x) (p := r) (by omega) hb
      rcases Nat.eq_zero_or_pos j with w | w
      · subst w; omega
      · have := ms_mono (x := x) w hj
        omega
  have lead0 : ma_ld x F c ((ms_L x).getD 0 0) = true := by
    unfold ma_ld
    rw [g2, Bool.true_and, List.all_eq_true]
    intro r hr
    rw [least r (List.mem_range.mp hr)]
    rfl
  generalize (ms_L x).getD 0 0 = a at g1 g2 least lead0
  constructor
  · intro h
    have only : ∀ q, q < 16 → ma_ld x F c q = true → q = a := fun q hq hl => by
      apply Classical.byContradiction
      intro hne
      have h2 := lp_c2 a g1 q hq (fun e => hne e.symm)
      have h3 : (List.range 16).countP (fun r => decide (r = a) || decide (r = q)) ≤ (List.range 16).countP (ma_ld x F c) := by
        apply List.countP_mono_left
        intro r _ hr
        rw [Bool.or_eq_true, decide_eq_true_eq, decide_eq_true_eq] at hr
        rcases hr with rfl | rfl
        · exact lead0
        · exact hl
      unfold ma_led at h
      omega
    have step : ∀ k q, q < k → q < 16 → bt x q = true → ∀ t, t < c → F t a = F t q := by
      intro k
      induction k with
      | zero => intro q hq; omega
      | succ k ih =>
        intro q hq hq16 hb t ht
        by_cases hqa : q = a
        · rw [hqa]
        · have nl : ¬ ma_ld x F c q = true := fun hl => hqa (only q hq16 hl)
          unfold ma_ld at nl
          rw [hb, Bool.true_and, List.all_eq_true] at nl
          have : ∃ r, r < q ∧ bt x r = true ∧ ma_ap F r q c = false := by
            apply Classical.byContradiction
            intro hno
            apply nl
            intro r hr
            rw [List.mem_range] at hr
            cases hbr : bt x r with
            | false => rfl
            | true =>
              cases hap : ma_ap F r q c with
              | true => rfl
              | false => exact absurd ⟨r, hr, hbr, hap⟩ hno
          obtain ⟨r, hr, hbr, hap⟩ := this
          rw [ih r (by omega) (by omega) hbr t ht]
          exact ma_ap_f.mp hap t ht
    intro t ht p q hp hq hbp hbq
    rw [← step (p + 1) p (by omega) hp hbp t ht, ← step (q + 1) q (by omega) hq hbq t ht]
  · intro h
    unfold ma_led
    have e : (List.range 16).countP (ma_ld x F c) = (List.range 16).countP (fun q => decide (q = a)) := by
      apply List.countP_congr
      intro q hq
      rw [List.mem_range] at hq
      rw [decide_eq_true_eq]
      constructor
      · intro hl
        apply Classical.byContradiction
        intro hne
        unfold ma_ld at hl
        rw [Bool.and_eq_true, List.all_eq_true] at hl
        obtain ⟨hb, hall⟩ := hl
        have haq : a < q := by
          rcases Nat.lt_trichotomy a q with w | w | w
          · exact w
          · exact absurd w.symm hne
          · rw [least q w] at hb; cases hb
        have := hall a (List.mem_range.mpr haq)
        rw [g2] at this
        have hap : ma_ap F a q c = false := ma_ap_f.mpr (fun s hs => h s hs a q g1 hq g2 hb)
        rw [hap] at this
        cases this
      · rintro rfl
        exact lead0
    rw [e, lp_c1 a g1]
theorem lp_78 {N n cap t0 z s : Nat} (hN : 5100 ≤ N) (ht : t0 < 2 ^ 29) (hz : z < 2147483647) (hs : s ≤ 16) {x : Int32} (hx : ∀ p, 16 ≤ p → bt x p = false) (h1 : 1 ≤ (ms_L x).length) (h8 : (ms_L x).length ≤ 8) {per qui st : Nat → Int32} {an anR : Nat → Nat → Int32} {froms tos delays strs : Nat → Int32} {fr to de : Nat → Nat} {S : ma_S} (E : ma_E x n cap anR an froms tos delays strs fr to de st) (iv : ∀ a i, ma_inv x per (ma_X x per qui an n fr to de st (lp_S x per S a) i)) {nT np nph nq nw : Nat → Int32} (hf : ma_fd x per qui nT np nq) (hrm : ma_rm t0 nph nw S) : ∀ (j k f : Nat) (a2 : Int32) (a3 : Int32) (a4 : Int32) (b2 : Nat → Int32) (b4 : Nat → Int32) (b6 : Nat → Int32) (b8 : Nat → Int32) (b9 : Nat → Int32) (a6 : Int32) (c1 : Nat → Int32) (c2 : Nat → Int32) (c3 : Nat → Int32) (c4 : Nat → Int32) (c5 : Nat → Int32) (a7 : Int32) (d1 : Nat → Int32) (d2 : Nat → Int32) (d3 : Nat → Int32) (d4 : Nat → Int32) (d5 : Nat → Int32) (d6 : Nat → Int32) (sf : Nat → Int32) (B : Nat → Int32) (A : Nat → Nat → Int32), k + j = 2 ^ (ms_L x).length → j < f → ∃ o, f_X8_leastPush_78 N (nI t0) nT (nI (ms_L x).length) (fun i => nI ((ms_L x).getD i 0)) nph np nq nw anR (nI n) cap froms tos delays strs (S.1 ((ms_L x).getD 0 0)) (nI s) f (nI k) (lN z) a2 a3 a4 b2 b4 b6 b8 b9 a6 c1 c2 c3 c4 c5 a7 d1 d2 d3 d4 d5 d6 sf B A = some o ∧ ((∃ i2 t, o = .inl t ∧ t.2.1 = lN z ∧ t.2.2.2.2.2.2.2.2.2.2.2.2.2.2.2.2.2.2.2.2.2.2.2.2.2.2 = nI (ps (ms_L x) i2) ∧ k ≤ i2 ∧ i2 < 2 ^ (ms_L x).length ∧ pn i2 = s ∧ lp_B x per qui an n fr to de st S (ps (ms_L x) i2) ∧ ∀ i, k ≤ i → i < i2 → ¬ (pn i = s ∧ lp_B x per qui an n fr to de st S (ps (ms_L x) i))) ∨ (∃ t, o = .inr t ∧ t.2.1 = lN z ∧ ∀ i, k ≤ i → i < 2 ^ (ms_L x).length → ¬ (pn i = s ∧ lp_B x per qui an n fr to de st S (ps (ms_L x) i)))) := by
  have hp : 2 ^ (ms_L x).length ≤ 256 := Nat.pow_le_pow_right (n := 2) (by decide) h8
  have hsz : f_Jx4a65c_size_8abf5 N (nI (ms_L x).length) = some (nI (ms_L x).length) := rfl
  have hl := lp_asc x
  have h16 : ∀ p, p ∈ ms_L x → p < 16 := fun p hp => (ms_l_mem.mp hp).1
  intro j
  induction j with
  | zero =>
    intro k f a2 a3 a4 b2 b4 b6 b8 b9 a6 c1 c2 c3 c4 c5 a7 d1 d2 d3 d4 d5 d6 sf B A hk hf2
    obtain ⟨f, rfl⟩ : ∃ g, f = g + 1 := ⟨f - 1, by omega⟩
    rw [f_X8_leastPush_78.eq_def]
    simp only []
    rw [hsz, Option.bind_some, lp_shl _ (by omega), if_pos (show nI (2 ^ (ms_L x).length) ≤ nI k from nI_le (by omega) (by omega))]
    exact ⟨_, rfl, Or.inr ⟨_, rfl, rfl, fun i h2 h3 => by omega⟩⟩
  | succ j ih =>
    intro k f a2 a3 a4 b2 b4 b6 b8 b9 a6 c1 c2 c3 c4 c5 a7 d1 d2 d3 d4 d5 d6 sf B A hk hf2
    obtain ⟨f, rfl⟩ : ∃ g, f = g + 1 := ⟨f - 1, by omega⟩
    have hk2 : k < 2 ^ (ms_L x).length := by omega
    have hpn : pn k ≤ 16 := by
      unfold pn
      exact Nat.le_trans List.countP_le_length (by simp)
    rw [f_X8_leastPush_78.eq_def]
    simp only []
    rw [hsz, Option.bind_some, lp_shl _ (by omega), if_neg (show ¬ nI (2 ^ (ms_L x).length) ≤ nI k from nI_ge (by omega) (by omega)), lp_bc (show k < 65536 by omega), Option.bind_some, nI_1]
    by_cases hsize : pn k = s
    · rw [if_pos (show nI (pn k) = nI s by rw [hsize])]
      obtain ⟨s1, s2, s3, s4, s5, t1, t2, t3⟩ := mx_takes (N := N) (t := t0) (by omega) hf hrm b2 b4 b6 b8 b9
      rw [t1, Option.bind_some]
      dsimp only
      obtain ⟨w, sph2, u1, u2⟩ := lp_115 (N := N) (k := k) (S := S) (by omega) hf (ms_L x).length 0 N 0 s3 (by omega) (by omega) (fun q hq => by
        rw [b_0, List.take_zero]
        show false = (0 : Nat).testBit q
        rw [Nat.zero_testBit])
      have u1 : f_X8_leastPush_115 N (nI (ms_L x).length) (fun i => nI ((ms_L x).getD i 0)) np (S.1 ((ms_L x).getD 0 0)) (nI k) N (0 : Int32) (0 : Int32) s3 = _ := u1
      rw [u1, Option.bind_some]
      dsimp only
      have hrm2 : ma_rm t0 sph2 s5 (lp_S x per S (ps (ms_L x) k)) := by
        refine ⟨fun p hp => ?_, t3.2.1, t3.2.2⟩
        rw [u2 p hp, t3.1 p hp]
        show _ = if (ps (ms_L x) k).testBit p = true then lp_pp x per S p else S.1 p
        have h0 : ¬ (ps ((ms_L x).take 0) k).testBit p = true := by
          rw [List.take_zero]
          show ¬ (0 : Nat).testBit p = true
          rw [Nat.zero_testBit]
          decide
        by_cases h3 : (ps (ms_L x) k).testBit p = true
        · rw [if_pos ⟨h3, h0⟩, if_pos h3]
        · rw [if_neg (fun q => h3 q.1), if_neg h3]
      obtain ⟨v, lead, cyc, st', ft, q1, q2, q3, q4, q5, r1, r2, r3, r4, r5, r6, sf', v1, v2⟩ := mx_findCycle (N := N) (t0 := t0) (z := z) hN ht E (X := ma_X x per qui an n fr to de st (lp_S x per S (ps (ms_L x) k))) (fun i => rfl) (iv _) hz t2 hrm2 a2 c1 c2 c3 c4 c5 d1 d2 d3 d4 d5 d6 sf
      rw [v1, Option.bind_some]
      dsimp only
      have ok : pr_ok (ma_eqv x) (ma_X x per qui an n fr to de st (lp_S x per S (ps (ms_L x) k))) := ⟨ma_eqv_equiv x, fun i j h => ma_eqv_tick (fun k hk => (E.2.2.1 k hk).2.2.2.1) h⟩
      rcases v2 with ⟨l, c, rfl, rfl, rfl, w1, w2, rfl, w3, w4⟩ | ⟨rfl, w1⟩
      · rw [if_neg (show ¬ (1 : Int32) = 0 by decide)]
        obtain ⟨B', A', fw', ff', fph', x1, x2, x3, x4⟩ := mx_goRound (N := N) (t0 := t0) (z := z) hN ht E (X := ma_X x per qui an n fr to de st (lp_S x per S (ps (ms_L x) k))) (fun i => rfl) (iv _) hz (c := c) (s := l + c) (by omega) w1 w3 w4 B A (ff := r6)
        rw [x1, Option.bind_some]
        dsimp only
        have hA4 : ∀ a b, a < 16 → b < 16 → A' a b = if ma_ap (fun t => ma_F x per qui an (ma_X x per qui an n fr to de st (lp_S x per S (ps (ms_L x) k))) (l + t)) a b c then 1 else 0 := fun a b ha hb => by
          rw [x4 a b ha hb, ma_ap_cong (fun t => ma_F_per ok w2.2.1 t ha) (fun t => ma_F_per ok w2.2.1 t hb)]
        have hg := mx_groupsUpTo (N := N) (P := 15) (by omega) (by omega) (x := x) (isT := nT) (A := A') (fun q hq => (hf q hq).1) hA4
        have hg : f_X8_groupsUpTo N nT A' (15 : Int32) = some (nI (ma_led x (fun t => ma_F x per qui an (ma_X x per qui an n fr to de st (lp_S x per S (ps (ms_L x) k))) (l + t)) c 16)) := hg
        have hled16 : ma_led x (fun t => ma_F x per qui an (ma_X x per qui an n fr to de st (lp_S x per S (ps (ms_L x) k))) (l + t)) c 16 ≤ 16 := by
          unfold ma_led
          exact Nat.le_trans List.countP_le_length (by simp)
        rw [hg, Option.bind_some]
        by_cases hone : ma_led x (fun t => ma_F x per qui an (ma_X x per qui an n fr to de st (lp_S x per S (ps (ms_L x) k))) (l + t)) c 16 = 1
        · rw [if_pos (show nI (ma_led x (fun t => ma_F x per qui an (ma_X x per qui an n fr to de st (lp_S x per S (ps (ms_L x) k))) (l + t)) c 16) = (1 : Int32) by rw [hone]; rfl)]
          exact ⟨_, rfl, Or.inl ⟨k, _, rfl, rfl, rfl, Nat.le_refl _, hk2, hsize, ⟨l, c, w2, w1, (lp_led h1).mp hone⟩, fun i h2 h3 => by omega⟩⟩
        · rw [if_neg (show ¬ nI (ma_led x (fun t => ma_F x per qui an (ma_X x per qui an n fr to de st (lp_S x per S (ps (ms_L x) k))) (l + t)) c 16) = (1 : Int32) from fun q => hone ((nI_eq (b := 1) (by omega) (by omega)).mp q))]
          have hno : ¬ (pn k = s ∧ lp_B x per qui an n fr to de st S (ps (ms_L x) k)) := by
            rintro ⟨-, l2, c2, y1, y2, y3⟩
            obtain ⟨rfl, rfl⟩ := pr_min_uniq ok w2 y1
            exact hone ((lp_led h1).mpr y3)
          obtain ⟨o2, f1, f2⟩ := ih (k + 1) f _ _ _ _ _ _ _ _ _ _ _ _ _ _ _ _ _ _ _ _ _ _ _ _ (by omega) (by omega)
          refine ⟨o2, f1, ?_⟩
          rcases f2 with ⟨i2, t, y1, y2, y3, y4, y5, y6, y7, y8⟩ | ⟨t, y1, y2, y3⟩
          · refine Or.inl ⟨i2, t, y1, y2, y3, by omega, y5, y6, y7, fun i h2 h3 => ?_⟩
            rcases Nat.lt_or_eq_of_le h2 with w | w
            · exact y8 i (by omega) h3
            · rw [← w]; exact hno
          · refine Or.inr ⟨t, y1, y2, fun i h2 h3 => ?_⟩
            rcases Nat.lt_or_eq_of_le h2 with w | w
            · exact y3 i (by omega) h3
            · rw [← w]; exact hno
      · rw [if_pos rfl]
        have hno : ¬ (pn k = s ∧ lp_B x per qui an n fr to de st S (ps (ms_L x) k)) := by
          rintro ⟨-, l2, c2, y1, y2, y3⟩
          have := w1 l2 c2 y1
          omega
        obtain ⟨o2, f1, f2⟩ := ih (k + 1) f _ _ _ _ _ _ _ _ _ _ _ _ _ _ _ _ _ _ _ _ _ _ _ _ (by omega) (by omega)
        refine ⟨o2, f1, ?_⟩
        rcases f2 with ⟨i2, t, y1, y2, y3, y4, y5, y6, y7, y8⟩ | ⟨t, y1, y2, y3⟩
        · refine Or.inl ⟨i2, t, y1, y2, y3, by omega, y5, y6, y7, fun i h2 h3 => ?_⟩
          rcases Nat.lt_or_eq_of_le h2 with w | w
          · exact y8 i (by omega) h3
          · rw [← w]; exact hno
        · refine Or.inr ⟨t, y1, y2, fun i h2 h3 => ?_⟩
          rcases Nat.lt_or_eq_of_le h2 with w | w
          · exact y3 i (by omega) h3
          · rw [← w]; exact hno
    · rw [if_neg (show ¬ nI (pn k) = nI s from fun q => hsize ((nI_eq (by omega) (by omega)).mp q))]
      have hno : ¬ (pn k = s ∧ lp_B x per qui an n fr to de st S (ps (ms_L x) k)) := fun q => hsize q.1
      obtain ⟨o2, f1, f2⟩ := ih (k + 1) f _ _ _ _ _ _ _ _ _ _ _ _ _ _ _ _ _ _ _ _ _ _ _ _ (by omega) (by omega)
      refine ⟨o2, f1, ?_⟩
      rcases f2 with ⟨i2, t, y1, y2, y3, y4, y5, y6, y7, y8⟩ | ⟨t, y1, y2, y3⟩
      · refine Or.inl ⟨i2, t, y1, y2, y3, by omega, y5, y6, y7, fun i h2 h3 => ?_⟩
        rcases Nat.lt_or_eq_of_le h2 with w | w
        · exact y8 i (by omega) h3
        · rw [← w]; exact hno
      · refine Or.inr ⟨t, y1, y2, fun i h2 h3 => ?_⟩
        rcases Nat.lt_or_eq_of_le h2 with w | w
        · exact y3 i (by omega) h3
        · rw [← w]; exact hno
theorem lp_67 {N n cap t0 z : Nat} (hN : 5100 ≤ N) (ht : t0 < 2 ^ 29) (hz : z < 2147483647) {x : Int32} (hx : ∀ p, 16 ≤ p → bt x p = false) (h1 : 1 ≤ (ms_L x).length) (h8 : (ms_L x).length ≤ 8) {per qui st : Nat → Int32} {an anR : Nat → Nat → Int32} {froms tos delays strs : Nat → Int32} {fr to de : Nat → Nat} {S : ma_S} (E : ma_E x n cap anR an froms tos delays strs fr to de st) (iv : ∀ a i, ma_inv x per (ma_X x per qui an n fr to de st (lp_S x per S a) i)) {nT np nph nq nw : Nat → Int32} (hf : ma_fd x per qui nT np nq) (hrm : ma_rm t0 nph nw S) : ∀ (j s f : Nat) (a2 : Int32) (a3 : Int32) (a4 : Int32) (b2 : Nat → Int32) (b4 : Nat → Int32) (b6 : Nat → Int32) (b8 : Nat → Int32) (b9 : Nat → Int32) (a6 : Int32) (c1 : Nat → Int32) (c2 : Nat → Int32) (c3 : Nat → Int32) (c4 : Nat → Int32) (c5 : Nat → Int32) (a7 : Int32) (d1 : Nat → Int32) (d2 : Nat → Int32) (d3 : Nat → Int32) (d4 : Nat → Int32) (d5 : Nat → Int32) (d6 : Nat → Int32) (sf : Nat → Int32) (B : Nat → Int32) (A : Nat → Nat → Int32), s + j = (ms_L x).length + 1 → j < f → ∃ o, f_X8_leastPush_67 N (nI t0) nT (nI (ms_L x).length) (fun i => nI ((ms_L x).getD i 0)) nph np nq nw anR (nI n) cap froms tos delays strs (S.1 ((ms_L x).getD 0 0)) f (nI s) (lN z) a2 a3 a4 b2 b4 b6 b8 b9 a6 c1 c2 c3 c4 c5 a7 d1 d2 d3 d4 d5 d6 sf B A = some o ∧ ((∃ s2 i2 t, o = .inl t ∧ t.2.1 = lN z ∧ t.2.2.2.2.2.2.2.2.2.2.2.2.2.2.2.2.2.2.2.2.2.2.2.2.2.2 = nI (ps (ms_L x) i2) ∧ s ≤ s2 ∧ s2 ≤ (ms_L x).length ∧ i2 < 2 ^ (ms_L x).length ∧ pn i2 = s2 ∧ lp_B x per qui an n fr to de st S (ps (ms_L x) i2) ∧ (∀ i, i < i2 → ¬ (pn i = s2 ∧ lp_B x per qui an n fr to de st S (ps (ms_L x) i))) ∧ ∀ s3, s ≤ s3 → s3 < s2 → ∀ i, i < 2 ^ (ms_L x).length → ¬ (pn i = s3 ∧ lp_B x per qui an n fr to de st S (ps (ms_L x) i))) ∨ (∃ t, o = .inr t ∧ t.2.1 = lN z ∧ ∀ s3, s ≤ s3 → s3 ≤ (ms_L x).length → ∀ i, i < 2 ^ (ms_L x).length → ¬ (pn i = s3 ∧ lp_B x per qui an n fr to de st S (ps (ms_L x) i)))) := by
  have hp : 2 ^ (ms_L x).length ≤ 256 := Nat.pow_le_pow_right (n := 2) (by decide) h8
  have hsz : f_Jx4a65c_size_8abf5 N (nI (ms_L x).length) = some (nI (ms_L x).length) := rfl
  intro j
  induction j with
  | zero =>
    intro s f a2 a3 a4 b2 b4 b6 b8 b9 a6 c1 c2 c3 c4 c5 a7 d1 d2 d3 d4 d5 d6 sf B A hk hf2
    obtain ⟨f, rfl⟩ : ∃ g, f = g + 1 := ⟨f - 1, by omega⟩
    rw [f_X8_leastPush_67.eq_def]
    simp only []
    rw [hsz, Option.bind_some, if_pos (show nI (ms_L x).length < nI s from nI_lt (by omega) (by omega))]
    exact ⟨_, rfl, Or.inr ⟨_, rfl, rfl, fun s3 h2 h3 => by omega⟩⟩
  | succ j ih =>
    intro s f a2 a3 a4 b2 b4 b6 b8 b9 a6 c1 c2 c3 c4 c5 a7 d1 d2 d3 d4 d5 d6 sf B A hk hf2
    obtain ⟨f, rfl⟩ : ∃ g, f = g + 1 := ⟨f - 1, by omega⟩
    rw [f_X8_leastPush_67.eq_def]
    simp only []
    rw [hsz, Option.bind_some, if_neg (show ¬ nI (ms_L x).length < nI s from nI_nlt (by omega) (by omega)), nI_1]
    obtain ⟨o, e1, e2⟩ := lp_78 hN ht hz (show s ≤ 16 by omega) hx h1 h8 E iv hf hrm (2 ^ (ms_L x).length) 0 N a2 a3 a4 b2 b4 b6 b8 b9 a6 c1 c2 c3 c4 c5 a7 d1 d2 d3 d4 d5 d6 sf B A (by omega) (by omega)
    have e1 : f_X8_leastPush_78 N (nI t0) nT (nI (ms_L x).length) (fun i => nI ((ms_L x).getD i 0)) nph np nq nw anR (nI n) cap froms tos delays strs (S.1 ((ms_L x).getD 0 0)) (nI s) N (0 : Int32) (lN z) a2 a3 a4 b2 b4 b6 b8 b9 a6 c1 c2 c3 c4 c5 a7 d1 d2 d3 d4 d5 d6 sf B A = some o := e1
    rw [e1, Option.bind_some]
    rcases e2 with ⟨i2, t, rfl, a2', a3', a4', a5, a6', a7', a8⟩ | ⟨t, rfl, a2', a3'⟩
    · rw [Sum.elim_inl]
      exact ⟨_, rfl, Or.inl ⟨s, i2, _, rfl, a2', a3', Nat.le_refl _, by omega, a5, a6', a7', fun i hi => a8 i (Nat.zero_le _) hi, fun s3 h2 h3 => by omega⟩⟩
    · rw [Sum.elim_inr, a2']
      obtain ⟨o2, f1, f2⟩ := ih (s + 1) f _ _ _ _ _ _ _ _ _ _ _ _ _ _ _ _ _ _ _ _ _ _ _ _ (by omega) (by omega)
      refine ⟨o2, f1, ?_⟩
      rcases f2 with ⟨s2, i2, t, b1, b2, b3, b4, b5, b6, b7, b8, b9, b10⟩ | ⟨t, b1, b2, b3⟩
      · refine Or.inl ⟨s2, i2, t, b1, b2, b3, by omega, b5, b6, b7, b8, b9, fun s3 h2 h3 i hi => ?_⟩
        rcases Nat.lt_or_eq_of_le h2 with w | w
        · exact b10 s3 (by omega) h3 i hi
        · rw [← w]; exact a3' i (Nat.zero_le _) hi
      · refine Or.inr ⟨t, b1, b2, fun s3 h2 h3 i hi => ?_⟩
        rcases Nat.lt_or_eq_of_le h2 with w | w
        · exact b3 s3 (by omega) h3 i hi
        · rw [← w]; exact a3' i (Nat.zero_le _) hi

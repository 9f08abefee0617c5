/-! rows of mine (pure): the reference's search, whole -/
theorem mx_fc_158 {N n cap t0 z : Nat} (hN : 5100 ≤ N) (ht : t0 < 2 ^ 29) {x : Int32} {per qui : Nat → Int32} {an anR : Nat → Nat → Int32} {froms tos delays strs st : Nat → Int32} {fr to de : Nat → Nat} (E : ma_E x n cap anR an froms tos delays strs fr to de st) {X : Nat → ma_S} (hX : ∀ i, X (i + 1) = ma_step x per qui an n fr to de st (X i)) (iv : ∀ i, ma_inv x per (X i)) (hz : z < 2147483647) {c : Nat} (hc : c < 2 ^ 28) {fT fp fq : Nat → Int32} (hf : ma_fd x per qui fT fp fq) : ∀ (j i m : Nat) (x2 : Int32) (fph fw ff : Nat → Int32), i + j = c → j < m → ma_rm (t0 + i) fph fw (X i) → ∃ (x2' : Int32) (fph' fw' ff' : Nat → Int32), f_X8_findCycle_158 N (nI c) fT fp fq anR (nI n) cap froms tos delays strs m x2 (nI i) (lN z) (nI (t0 + i)) fph fw ff = some (x2', nI c, lN z, nI (t0 + c), fph', fw', ff') ∧ ma_rm (t0 + c) fph' fw' (X c)
  | 0, i, m, x2, fph, fw, ff, hi, hm, h => by
    obtain ⟨m, rfl⟩ : ∃ j, m = j + 1 := ⟨m - 1, by omega⟩
    obtain rfl : i = c := by omega
    exact ⟨x2, fph, fw, ff, by rw [f_X8_findCycle_158, if_pos (nI_le (Nat.le_refl _) (by omega))], h⟩
  | j + 1, i, m, x2, fph, fw, ff, hi, hm, h => by
    obtain ⟨m, rfl⟩ : ∃ j, m = j + 1 := ⟨m - 1, by omega⟩
    obtain ⟨v, fw', ff', fph', et, -, hr⟩ := mx_tick0 (z := z) (by omega : 61 ≤ N) (show t0 + i + 1 < 2 ^ 30 by omega) hz E hf (iv i).1 h ff
    rw [← hX] at hr
    rw [f_X8_findCycle_158, if_neg (nI_ge (show i < c by omega) (by omega)), et, Option.bind_some, nI_1]
    exact mx_fc_158 hN ht E hX iv hz hc hf j (i + 1) m _ fph' fw' ff' (by omega) (by omega) hr
theorem mx_fc_189 {N n cap t0 z : Nat} (hN : 5100 ≤ N) (ht : t0 < 2 ^ 29) {x : Int32} {per qui : Nat → Int32} {an anR : Nat → Nat → Int32} {froms tos delays strs st : Nat → Int32} {fr to de : Nat → Nat} (E : ma_E x n cap anR an froms tos delays strs fr to de st) {X : Nat → ma_S} (hX : ∀ i, X (i + 1) = ma_step x per qui an n fr to de st (X i)) (iv : ∀ i, ma_inv x per (X i)) (hz : z < 2147483647) {c : Nat} (hc : c ≤ 1000) {fT fp fq sT sp sq : Nat → Int32} (hf : ma_fd x per qui fT fp fq) (hs : ma_fd x per qui sT sp sq) : ∀ (j l m : Nat) (x2 : Int32) (sph sw fph fw ff sf : Nat → Int32), l + j = 1001 → j < m → ma_rm (t0 + l) sph sw (X l) → ma_rm (t0 + (l + c)) fph fw (X (l + c)) → ∃ (l' : Nat) (x2' : Int32) (sph' sw' fph' fw' ff' sf' : Nat → Int32), f_X8_findCycle_189 N (nI c) sT sp sq fT fp fq anR (nI n) cap froms tos delays strs m x2 (lN z) (nI l) (nI (t0 + l)) sph sw (nI (t0 + (l + c))) fph fw ff sf = some (x2', lN z, nI l', nI (t0 + l'), sph', sw', nI (t0 + (l' + c)), fph', fw', ff', sf') ∧ ma_rm (t0 + (l' + c)) fph' fw' (X (l' + c)) ∧ l' ≤ 1001 ∧ (∀ k, l ≤ k → k < l' → ¬ pr_ret (ma_eqv x) X k c) ∧ (1000 < l' + c ∨ (l' + c ≤ 1000 ∧ pr_ret (ma_eqv x) X l' c))
  | 0, l, m, x2, sph, sw, fph, fw, ff, sf, hl, hm, h1, h2 => by
    obtain ⟨m, rfl⟩ : ∃ j, m = j + 1 := ⟨m - 1, by omega⟩
    refine ⟨l, x2, sph, sw, fph, fw, ff, sf, ?_, h2, by omega, fun k q1 q2 => by omega, Or.inl (by omega)⟩
    rw [f_X8_findCycle_189, nI_add, if_pos (show (1000 : Int32) < nI (l + c) from nI_lt (a := 1000) (by omega) (by omega))]
  | j + 1, l, m, x2, sph, sw, fph, fw, ff, sf, hl, hm, h1, h2 => by
    obtain ⟨m, rfl⟩ : ∃ j, m = j + 1 := ⟨m - 1, by omega⟩
    rw [f_X8_findCycle_189, nI_add]
    by_cases hlc : 1000 < l + c
    · rw [if_pos (show (1000 : Int32) < nI (l + c) from nI_lt (a := 1000) hlc (by omega))]
      exact ⟨l, x2, sph, sw, fph, fw, ff, sf, rfl, h2, by omega, fun k q1 q2 => by omega, Or.inl hlc⟩
    · rw [if_neg (show ¬ (1000 : Int32) < nI (l + c) from nI_nlt (a := 1000) (by omega) (by omega))]
      obtain ⟨v, e, hv⟩ := mx_likeF (N := N) (by omega) (show t0 + l < 2 ^ 30 by omega) (show t0 + (l + c) < 2 ^ 30 by omega) (fun p hp => (hs p hp).1) h1 h2
      rw [e, Option.bind_some]
      rcases hv with ⟨rfl, hv⟩ | ⟨rfl, hv⟩
      · rw [if_neg (show ¬ (1 : Int32) = 0 by decide)]
        exact ⟨l, x2, sph, sw, fph, fw, ff, sf, rfl, h2, by omega, fun k q1 q2 => by omega, Or.inr ⟨by omega, (ma_eqv_equiv x).symm hv⟩⟩
      · rw [if_pos rfl]
        obtain ⟨v1, w1, f1, p1, e1, -, r1⟩ := mx_tick0 (z := z) (by omega : 61 ≤ N) (show t0 + l + 1 < 2 ^ 30 by omega) hz E hs (iv l).1 h1 sf
        obtain ⟨v2, w2, f2, p2, e2, -, r2⟩ := mx_tick0 (z := z) (by omega : 61 ≤ N) (show t0 + (l + c) + 1 < 2 ^ 30 by omega) hz E hf (iv (l + c)).1 h2 ff
        rw [← hX] at r1 r2
        rw [e1, Option.bind_some, e2, Option.bind_some, nI_1]
        have ee : l + 1 + c = l + c + 1 := by omega
        have := mx_fc_189 hN ht E hX iv hz hc hf hs j (l + 1) m (x2 + (v1 + v2)) p1 w1 p2 w2 f2 f1 (by omega) (by omega) r1 (by rw [ee]; exact r2)
        obtain ⟨l', x2', sph', sw', fph', fw', ff', sf', e3, g1, g2, g3, g4⟩ := this
        refine ⟨l', x2', sph', sw', fph', fw', ff', sf', ?_, g1, g2, fun k q1 q2 => ?_, g4⟩
        · rw [ee] at e3
          exact e3
        · by_cases q : k = l
          · subst q
            exact fun w => hv ((ma_eqv_equiv x).symm w)
          · exact g3 k (by omega) q2
theorem mx_findCycle {N n cap t0 z : Nat} (hN : 5100 ≤ N) (ht : t0 < 2 ^ 29) {x : Int32} {per qui : Nat → Int32} {an anR : Nat → Nat → Int32} {froms tos delays strs st : Nat → Int32} {fr to de : Nat → Nat} (E : ma_E x n cap anR an froms tos delays strs fr to de st) {X : Nat → ma_S} (hX : ∀ i, X (i + 1) = ma_step x per qui an n fr to de st (X i)) (iv : ∀ i, ma_inv x per (X i)) (hz : z < 2147483647) {aT ap aph aq aw : Nat → Int32} (hf : ma_fd x per qui aT ap aq) (hrm : ma_rm t0 aph aw (X 0)) (ld : Int32) (sT sp sph sq sw fT fp fph fq fw ff sf : Nat → Int32) : ∃ (v lead cyc st' ft : Int32) (sT' sp' sph' sq' sw' fT' fp' fph' fq' fw' ff' sf' : Nat → Int32), f_X8_findCycle N (lN z) ld (nI t0) aT sT ap sp aph sph aq sq sw aw fT fp fph fq fw ff anR (nI n) cap froms tos delays strs sf = some (v, lN z, lead, cyc, st', sT', sp', sph', sq', sw', ft, fT', fp', fph', fq', fw', ff', sf') ∧ ((∃ l c : Nat, v = 1 ∧ lead = nI l ∧ cyc = nI c ∧ l + c ≤ 1000 ∧ pr_min (ma_eqv x) X l c ∧ ft = nI (t0 + (l + c)) ∧ ma_fd x per qui fT' fp' fq' ∧ ma_rm (t0 + (l + c)) fph' fw' (X (l + c))) ∨ (v = 0 ∧ ∀ l c, pr_min (ma_eqv x) X l c → 1000 < l + c)) := by
  have ok : pr_ok (ma_eqv x) X := ⟨ma_eqv_equiv x, fun i j h => by rw [hX, hX]; exact ma_eqv_tick (fun k hk => (E.2.2.1 k hk).2.2.2.1) h⟩
  have hN5 : 500 ≤ N := by omega
  obtain ⟨a1, b1, c1, d1, w1, e1, k1, r1⟩ := mx_takes hN5 hf hrm sT sp sph sq sw
  obtain ⟨a2, b2, c2, d2, w2, e2, k2, r2⟩ := mx_takes hN5 hf hrm fT fp fph fq fw
  unfold f_X8_findCycle
  rw [e1, Option.bind_some, e2, Option.bind_some]
  obtain ⟨o, e3, oz, ho⟩ := mx_fc_36 hN ht E hX iv hz k2 5000 0 0 N 0 a1 b1 c1 d1 w1 c2 w2 ff (by omega) (by omega) (by omega) k1 r1 r2 (fun d q1 q2 => by omega) (fun q => by omega)
  have e3 : f_X8_findCycle_36 N a2 b2 d2 anR (nI n) cap froms tos delays strs N (1 : Int32) (0 : Int32) (0 : Int32) (0 : Int32) (lN z) (0 : Int32) (nI t0) a1 b1 c1 d1 w1 (nI t0) c2 w2 ff = some o := e3
  show ∃ (v lead cyc st' ft : Int32) (sT' sp' sph' sq' sw' fT' fp' fph' fq' fw' ff' sf' : Nat → Int32), ((f_X8_findCycle_36 N a2 b2 d2 anR (nI n) cap froms tos delays strs N (1 : Int32) (0 : Int32) (0 : Int32) (0 : Int32) (lN z) (0 : Int32) (nI t0) a1 b1 c1 d1 w1 (nI t0) c2 w2 ff).bind _) = _ ∧ _
  rw [e3, Option.bind_some]
  obtain ⟨o1, o2, o3, o4, o5, o6, o7, o8, o9, o10, o11, o12, o13, o14, o15, o16⟩ := o
  obtain rfl : o5 = lN z := oz
  rcases ho with ⟨of, s', c', oc, hc1, hc2, hr, hd⟩ | ⟨of, s0, hs0, hd⟩
  · obtain rfl : o3 = 1 := of
    obtain rfl : o6 = nI c' := oc
    show ∃ (v lead cyc st' ft : Int32) (sT' sp' sph' sq' sw' fT' fp' fph' fq' fw' ff' sf' : Nat → Int32), (if (1 : Int32) = 0 then _ else (if nI c' ≤ (1000 : Int32) then _ else _)) = _ ∧ _
    rw [if_neg (show ¬ (1 : Int32) = 0 by decide)]
    by_cases hc : c' ≤ 1000
    · rw [if_pos (show nI c' ≤ (1000 : Int32) from nI_le (b := 1000) hc (by omega))]
      obtain ⟨a4, b4, c4, d4, w4, e4, k4, r4⟩ := mx_takes hN5 hf hrm o8 o9 o10 o11 o12
      obtain ⟨a5, b5, c5, d5, w5, e5, k5, r5⟩ := mx_takes hN5 hf hrm a2 b2 o14 d2 o15
      rw [e4, Option.bind_some, e5, Option.bind_some]
      obtain ⟨x2', p6, w6, f6, e6, r6⟩ := mx_fc_158 hN ht E hX iv hz (show c' < 2 ^ 28 by omega) k5 c' 0 N o2 c5 w5 o16 (by omega) (by omega) r5
      have e6 : f_X8_findCycle_158 N (nI c') a5 b5 d5 anR (nI n) cap froms tos delays strs N o2 (0 : Int32) (lN z) (nI t0) c5 w5 o16 = some (x2', nI c', lN z, nI (t0 + c'), p6, w6, f6) := e6
      have r6 : ma_rm (t0 + (0 + c')) p6 w6 (X (0 + c')) := by rw [Nat.zero_add]; exact r6
      obtain ⟨l', x3', sph', sw', fph', fw', ff', sf', e7, g1, g2, g3, g4⟩ := mx_fc_189 hN ht E hX iv hz hc k5 k4 1001 0 N x2' c4 w4 p6 w6 f6 sf (by omega) (by omega) r4 r6
      have e7 : f_X8_findCycle_189 N (nI c') a4 b4 d4 a5 b5 d5 anR (nI n) cap froms tos delays strs N x2' (lN z) (0 : Int32) (nI t0) c4 w4 (nI (t0 + c')) p6 w6 f6 sf = some (x3', lN z, nI l', nI (t0 + l'), sph', sw', nI (t0 + (l' + c')), fph', fw', ff', sf') := by
        rw [Nat.zero_add] at e7
        exact e7
      show ∃ (v lead cyc st' ft : Int32) (sT' sp' sph' sq' sw' fT' fp' fph' fq' fw' ff' sf' : Nat → Int32), ((f_X8_findCycle_158 N (nI c') a5 b5 d5 anR (nI n) cap froms tos delays strs N o2 (0 : Int32) (lN z) (nI t0) c5 w5 o16).bind _) = _ ∧ _
      rw [e6, Option.bind_some]
      show ∃ (v lead cyc st' ft : Int32) (sT' sp' sph' sq' sw' fT' fp' fph' fq' fw' ff' sf' : Nat → Int32), ((f_X8_findCycle_189 N (nI c') a4 b4 d4 a5 b5 d5 anR (nI n) cap froms tos delays strs N x2' (lN z) (0 : Int32) (nI t0) c4 w4 (nI (t0 + c')) p6 w6 f6 sf).bind _) = _ ∧ _
      rw [e7, Option.bind_some]
      show ∃ (v lead cyc st' ft : Int32) (sT' sp' sph' sq' sw' fT' fp' fph' fq' fw' ff' sf' : Nat → Int32), (if (1000 : Int32) < nI l' + nI c' then _ else _) = _ ∧ _
      rw [nI_add]
      rcases g4 with g4 | ⟨g4, g5⟩
      · rw [if_pos (show (1000 : Int32) < nI (l' + c') from nI_lt (a := 1000) g4 (by omega))]
        refine ⟨_, _, _, _, _, _, _, _, _, _, _, _, _, _, _, _, _, rfl, Or.inr ⟨rfl, fun l d hm => ?_⟩⟩
        have hcd := pr_same ok hc1 hr hd hm
        subst hcd
        rcases Nat.lt_or_ge 1000 (l + c') with q | q
        · exact q
        · exact absurd hm.2.1 (g3 l (by omega) (by omega))
      · rw [if_neg (show ¬ (1000 : Int32) < nI (l' + c') from nI_nlt (a := 1000) (by omega) (by omega))]
        exact ⟨_, _, _, _, _, _, _, _, _, _, _, _, _, _, _, _, _, rfl, Or.inl ⟨l', c', rfl, rfl, rfl, g4, pr_min_of ok hc1 hr hd g5 (fun k hk => g3 k (by omega) hk), rfl, k5, g1⟩⟩
    · rw [if_neg (show ¬ nI c' ≤ (1000 : Int32) from nI_ge (a := 1000) (by omega) (by omega))]
      refine ⟨_, _, _, _, _, _, _, _, _, _, _, _, _, _, _, _, _, rfl, Or.inr ⟨rfl, fun l d hm => ?_⟩⟩
      have hcd := pr_same ok hc1 hr hd hm
      omega
  · obtain rfl : o3 = 0 := of
    show ∃ (v lead cyc st' ft : Int32) (sT' sp' sph' sq' sw' fT' fp' fph' fq' fw' ff' sf' : Nat → Int32), (if (0 : Int32) = 0 then _ else _) = _ ∧ _
    rw [if_pos rfl]
    refine ⟨_, _, _, _, _, _, _, _, _, _, _, _, _, _, _, _, _, rfl, Or.inr ⟨rfl, fun l d hm => ?_⟩⟩
    rcases Nat.lt_or_ge 1000 (l + d) with q | q
    · exact q
    · exact absurd (pr_ret_le ok hm.2.1 (show l ≤ s0 by omega)) (hd d hm.1 (by have := hm.1; omega))

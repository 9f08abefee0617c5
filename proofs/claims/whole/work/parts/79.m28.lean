/-! rows of mine (pure): a way ahead, asked of both -/
theorem ca_ways {N n cap h t0 z : Nat} (hN : 5100 ≤ N) (hh : h < 100) (ht : t0 < 2 ^ 29) (hz : z < 2147483647) {x : Int32} {places per qui ans froms tos delays st : Nat → Int32} {fr to de : Nat → Nat} {S : ma_S} (C : ma_C x n places ans froms tos delays st fr to de) (hinv : ma_inv x per S) {X : Nat → ma_S} (hX : X = ma_X x per qui (fun p q => ans (p * 4 + q)) n fr to de st S) {row : Int32} {ph co : Nat → Int32} (hR : ma_R row ph co S) {kn en lt ct : Int32} {fl : Nat → Int32} (hA : ma_ahead x per qui (fun p q => ans (p * 4 + q)) X kn en lt ct fl) {anR : Nat → Nat → Int32} {fromsR tosR delaysR strsR : Nat → Int32} (E : ma_E x n cap anR (fun p q => ans (p * 4 + q)) fromsR tosR delaysR strsR fr to de st) {nT np nph nq nw : Nat → Int32} (hf : ma_fd x per qui nT np nq) (hrm : ma_rm t0 nph nw S) (br : Int32) (bp bc : Nat → Int32) (frw : Int32) (fp fc : Nat → Int32) (a2 a3 a4 : Int32) (b2 b4 b6 b8 b9 : Nat → Int32) (a6 : Int32) (c1 c2 c3 c4 c5 : Nat → Int32) (a7 : Int32) (d1 d2 d3 d4 d5 d6 sf B : Nat → Int32) (A : Nat → Nat → Int32) (x1 : Int32) : ∃ (kn' en' lt' ct' br' : Int32) (bp' bc' : Nat → Int32) (fr' : Int32) (fp' fc' fl' : Nat → Int32), ∃ (lead cyc st' : Int32) (aT ap aph aq aw : Nat → Int32) (sl : Int32) (sT sp sph sq sw : Nat → Int32) (ft : Int32) (fT fp2 fph fq fw ff sf' B' : Nat → Int32) (A' : Nat → Nat → Int32), ma_ahead x per qui (fun p q => ans (p * 4 + q)) X kn' en' lt' ct' fl' ∧ ((f_X5_wayAhead N (nI h) kn en lt ct row br ph bp co bc frw fp fc (nI (ms_L x).length) (nI n) places per qui ans froms delays tos st fl = some (.inl ("java/lang/UnsupportedOperationException", kn', en', lt', ct', br', bp', bc', fr', fp', fc', fl')) ∧ f_X8_noWay N (nI h) (lN z) a2 a3 a4 (nI t0) nT b2 np b4 nph b6 nq b8 b9 nw a6 c1 c2 c3 c4 c5 a7 d1 d2 d3 d4 d5 d6 anR (nI n) cap fromsR tosR delaysR strsR sf B A x1 = some (1, x1, lN z, lead, cyc, st', aT, ap, aph, aq, aw, sl, sT, sp, sph, sq, sw, ft, fT, fp2, fph, fq, fw, ff, sf', B', A')) ∨ (f_X5_wayAhead N (nI h) kn en lt ct row br ph bp co bc frw fp fc (nI (ms_L x).length) (nI n) places per qui ans froms delays tos st fl = some (.inl ("java/lang/ArithmeticException", kn', en', lt', ct', br', bp', bc', fr', fp', fc', fl')) ∧ f_X8_noWay N (nI h) (lN z) a2 a3 a4 (nI t0) nT b2 np b4 nph b6 nq b8 b9 nw a6 c1 c2 c3 c4 c5 a7 d1 d2 d3 d4 d5 d6 anR (nI n) cap fromsR tosR delaysR strsR sf B A x1 = some (1, x1 + 1, lN z, lead, cyc, st', aT, ap, aph, aq, aw, sl, sT, sp, sph, sq, sw, ft, fT, fp2, fph, fq, fw, ff, sf', B', A')) ∨ (h = 0 ∧ ∃ l c : Nat, f_X5_wayAhead N (nI h) kn en lt ct row br ph bp co bc frw fp fc (nI (ms_L x).length) (nI n) places per qui ans froms delays tos st fl = some (.inr (kn', en', lt', ct', br', bp', bc', fr', fp', fc', fl')) ∧ f_X8_noWay N (nI h) (lN z) a2 a3 a4 (nI t0) nT b2 np b4 nph b6 nq b8 b9 nw a6 c1 c2 c3 c4 c5 a7 d1 d2 d3 d4 d5 d6 anR (nI n) cap fromsR tosR delaysR strsR sf B A x1 = some (0, 0, lN z, lead, cyc, st', aT, ap, aph, aq, aw, sl, sT, sp, sph, sq, sw, ft, fT, fp2, fph, fq, fw, ff, sf', B', A') ∧ pr_min (ma_eqv x) X l c ∧ ma_W (fun t => ma_F x per qui (fun p q => ans (p * 4 + q)) X (l + t)) l c fl' ∧ lt' = nI l ∧ ct' = nI c ∧ lead = nI l ∧ cyc = nI c ∧ ft = nI (t0 + (l + c + c)) ∧ ma_fd x per qui fT fp2 fq ∧ ma_rm (t0 + (l + c + c)) fph fw (X (l + c + c)) ∧ (∀ p, p < 16 → B' p = nI (ma_cnt (fun t => ma_F x per qui (fun p q => ans (p * 4 + q)) X (l + t)) p c)) ∧ ∀ a b, a < 16 → b < 16 → A' a b = if ma_ap (fun t => ma_F x per qui (fun p q => ans (p * 4 + q)) X (l + t)) a b c then 1 else 0)) := by
  obtain ⟨kn', en', lt', ct', br', bp', bc', fr', fp', fc', fl', hA', hw⟩ := mx_wayAhead (by omega : 2100 ≤ N) hh C hinv hX hR hA br bp bc frw fp fc
  have ok : pr_ok (ma_eqv x) X := by rw [hX]; exact ma_X_ok C
  by_cases h0 : 0 < h
  · rw [if_pos h0] at hw
    exact ⟨kn', en', lt', ct', br', bp', bc', fr', fp', fc', fl', a2, a3, a4, b2, b4, b6, b8, b9, a6, c1, c2, c3, c4, c5, a7, d1, d2, d3, d4, d5, d6, sf, B, A, hA', Or.inl ⟨hw, mx_noWay_n h0 hh _ _ _ _ _ _ _ _ _ _ _ _ _ _ _ _ _ _ _ _ _ _ _ _ _ _ _ _ _ _ _ _ _ _ _ _ _ _ _⟩⟩
  · rw [if_neg h0] at hw
    have e0 : h = 0 := by omega
    subst e0
    obtain ⟨v, th, lead, cyc, st', aT, ap, aph, aq, aw, sl, sT, sp, sph, sq, sw, ft, fT, fp2, fph, fq, fw, ff, sf', B', A', er, hr⟩ := mx_noWay hN ht E (X := X) (fun i => by rw [hX]; rfl) (by rw [hX]; exact ma_X_inv C hinv) hz hf (by rw [hX]; exact hrm) a2 a3 a4 b2 b4 b6 b8 b9 a6 c1 c2 c3 c4 c5 a7 d1 d2 d3 d4 d5 d6 sf B A x1
    have er : f_X8_noWay N (nI 0) (lN z) a2 a3 a4 (nI t0) nT b2 np b4 nph b6 nq b8 b9 nw a6 c1 c2 c3 c4 c5 a7 d1 d2 d3 d4 d5 d6 anR (nI n) cap fromsR tosR delaysR strsR sf B A x1 = _ := er
    refine ⟨kn', en', lt', ct', br', bp', bc', fr', fp', fc', fl', lead, cyc, st', aT, ap, aph, aq, aw, sl, sT, sp, sph, sq, sw, ft, fT, fp2, fph, fq, fw, ff, sf', B', A', hA', ?_⟩
    rcases hw with ⟨l, c, q1, q2, q3, q4, q5⟩ | ⟨q1, q2⟩
    · rcases hr with ⟨l2, k2, r1, r2, r3, r4, r5, r6, r7, r8, r9, r10, r11⟩ | ⟨r1, r2, r3⟩
      · obtain ⟨u1, u2⟩ := pr_min_uniq ok q3 r6
        subst u1 u2 r1 r2
        exact Or.inr (Or.inr ⟨rfl, l, c, q5, er, q3, q4, q1, q2, r3, r4, r7, r8, r9, r10, r11⟩)
      · have := r3 l c q3
        have := q4.1
        omega
    · rcases hr with ⟨l2, k2, r1, r2, r3, r4, r5, r6, r7⟩ | ⟨r1, r2, r3⟩
      · have := q1 l2 k2 r6
        omega
      · subst r1 r2
        exact Or.inr (Or.inl ⟨q2, er⟩)
theorem ca_cycle {N n cap h t0 z : Nat} (hN : 5100 ≤ N) (hh : h < 100) (ht : t0 < 2 ^ 29) (hz : z < 2147483647) {x : Int32} {places per qui ans froms tos delays st : Nat → Int32} {fr to de : Nat → Nat} {S : ma_S} (C : ma_C x n places ans froms tos delays st fr to de) (hinv : ma_inv x per S) {X : Nat → ma_S} (hX : X = ma_X x per qui (fun p q => ans (p * 4 + q)) n fr to de st S) {row : Int32} {ph co : Nat → Int32} (hR : ma_R row ph co S) {kn en lt ct : Int32} {fl : Nat → Int32} (hA : ma_ahead x per qui (fun p q => ans (p * 4 + q)) X kn en lt ct fl) {anR : Nat → Nat → Int32} {fromsR tosR delaysR strsR : Nat → Int32} (E : ma_E x n cap anR (fun p q => ans (p * 4 + q)) fromsR tosR delaysR strsR fr to de st) {nT np nph nq nw : Nat → Int32} (hf : ma_fd x per qui nT np nq) (hrm : ma_rm t0 nph nw S) (br : Int32) (bp bc : Nat → Int32) (frw : Int32) (fp fc : Nat → Int32) (a2 a3 a4 : Int32) (b2 b4 b6 b8 b9 : Nat → Int32) (a6 : Int32) (c1 c2 c3 c4 c5 : Nat → Int32) (a7 : Int32) (d1 d2 d3 d4 d5 d6 sf B : Nat → Int32) (A : Nat → Nat → Int32) (out : Nat → Int64) : ∃ (k v : Int32) (out' : Nat → Int64), ∃ (kn' en' lt' ct' br' : Int32) (bp' bc' : Nat → Int32) (fr' : Int32) (fp' fc' fl' : Nat → Int32), ∃ (lead cyc st' : Int32) (aT ap aph aq aw : Nat → Int32) (sl : Int32) (sT sp sph sq sw : Nat → Int32) (ft : Int32) (fT fp2 fph fq fw ff sf' B' : Nat → Int32) (A' : Nat → Nat → Int32), ma_ahead x per qui (fun p q => ans (p * 4 + q)) X kn' en' lt' ct' fl' ∧ f_L_cycle N (nI h) kn en lt ct row br ph bp co bc frw fp fc (nI (ms_L x).length) (nI n) places per qui ans froms delays tos st fl out = some (k, kn', en', lt', ct', br', bp', bc', fr', fp', fc', fl', out') ∧ f_X8_cycle N (nI h) (lN z) a2 a3 a4 (nI t0) nT b2 np b4 nph b6 nq b8 b9 nw a6 c1 c2 c3 c4 c5 a7 d1 d2 d3 d4 d5 d6 anR (nI n) cap fromsR tosR delaysR strsR sf B A = some (v, k, lN z, lead, cyc, st', aT, ap, aph, aq, aw, sl, sT, sp, sph, sq, sw, ft, fT, fp2, fph, fq, fw, ff, sf', B', A') ∧ (k = 0 → out' 0 = v.toInt64) := by
  obtain ⟨kn', en', lt', ct', br', bp', bc', fr', fp', fc', fl', lead, cyc, st', aT, ap, aph, aq, aw, sl, sT, sp, sph, sq, sw, ft, fT, fp2, fph, fq, fw, ff, sf', B', A', hA', hw⟩ := ca_ways hN hh ht hz C hinv hX hR hA E hf hrm br bp bc frw fp fc a2 a3 a4 b2 b4 b6 b8 b9 a6 c1 c2 c3 c4 c5 a7 d1 d2 d3 d4 d5 d6 sf B A 1
  rcases hw with ⟨e1, e2⟩ | ⟨e1, e2⟩ | ⟨-, l, c, e1, e2, q1, q2, rfl, rfl, rfl, rfl, q3⟩
  · refine ⟨1, 0, out, kn', en', lt', ct', br', bp', bc', fr', fp', fc', fl', lead, cyc, st', aT, ap, aph, aq, aw, sl, sT, sp, sph, sq, sw, ft, fT, fp2, fph, fq, fw, ff, sf', B', A', hA', ?_, ?_, fun w => absurd w (by decide)⟩
    · unfold f_L_cycle f_X5_cycle
      rw [e1, Option.bind_some]
      rfl
    · unfold f_X8_cycle
      rw [e2, Option.bind_some]
      rfl
  · refine ⟨2, 0, out, kn', en', lt', ct', br', bp', bc', fr', fp', fc', fl', lead, cyc, st', aT, ap, aph, aq, aw, sl, sT, sp, sph, sq, sw, ft, fT, fp2, fph, fq, fw, ff, sf', B', A', hA', ?_, ?_, fun w => absurd w (by decide)⟩
    · unfold f_L_cycle f_X5_cycle
      rw [e1, Option.bind_some]
      rfl
    · unfold f_X8_cycle
      rw [e2, Option.bind_some]
      rfl
  · refine ⟨0, nI c, vp_updL out 0 (nI c).toInt64, kn', en', nI l, nI c, br', bp', bc', fr', fp', fc', fl', nI l, nI c, st', aT, ap, aph, aq, aw, sl, sT, sp, sph, sq, sw, ft, fT, fp2, fph, fq, fw, ff, sf', B', A', hA', ?_, ?_, fun _ => by unfold vp_updL; rw [if_pos rfl]⟩
    · unfold f_L_cycle f_X5_cycle
      rw [e1, Option.bind_some]
      rfl
    · unfold f_X8_cycle
      rw [e2, Option.bind_some]
      rfl
theorem ca_lead {N n cap h t0 z : Nat} (hN : 5100 ≤ N) (hh : h < 100) (ht : t0 < 2 ^ 29) (hz : z < 2147483647) {x : Int32} {places per qui ans froms tos delays st : Nat → Int32} {fr to de : Nat → Nat} {S : ma_S} (C : ma_C x n places ans froms tos delays st fr to de) (hinv : ma_inv x per S) {X : Nat → ma_S} (hX : X = ma_X x per qui (fun p q => ans (p * 4 + q)) n fr to de st S) {row : Int32} {ph co : Nat → Int32} (hR : ma_R row ph co S) {kn en lt ct : Int32} {fl : Nat → Int32} (hA : ma_ahead x per qui (fun p q => ans (p * 4 + q)) X kn en lt ct fl) {anR : Nat → Nat → Int32} {fromsR tosR delaysR strsR : Nat → Int32} (E : ma_E x n cap anR (fun p q => ans (p * 4 + q)) fromsR tosR delaysR strsR fr to de st) {nT np nph nq nw : Nat → Int32} (hf : ma_fd x per qui nT np nq) (hrm : ma_rm t0 nph nw S) (br : Int32) (bp bc : Nat → Int32) (frw : Int32) (fp fc : Nat → Int32) (a2 a3 a4 : Int32) (b2 b4 b6 b8 b9 : Nat → Int32) (a6 : Int32) (c1 c2 c3 c4 c5 : Nat → Int32) (a7 : Int32) (d1 d2 d3 d4 d5 d6 sf B : Nat → Int32) (A : Nat → Nat → Int32) (out : Nat → Int64) : ∃ (k v : Int32) (out' : Nat → Int64), ∃ (kn' en' lt' ct' br' : Int32) (bp' bc' : Nat → Int32) (fr' : Int32) (fp' fc' fl' : Nat → Int32), ∃ (lead cyc st' : Int32) (aT ap aph aq aw : Nat → Int32) (sl : Int32) (sT sp sph sq sw : Nat → Int32) (ft : Int32) (fT fp2 fph fq fw ff sf' B' : Nat → Int32) (A' : Nat → Nat → Int32), ma_ahead x per qui (fun p q => ans (p * 4 + q)) X kn' en' lt' ct' fl' ∧ f_L_lead N (nI h) kn en lt ct row br ph bp co bc frw fp fc (nI (ms_L x).length) (nI n) places per qui ans froms delays tos st fl out = some (k, kn', en', lt', ct', br', bp', bc', fr', fp', fc', fl', out') ∧ f_X8_lead N (nI h) (lN z) a2 a3 a4 (nI t0) nT b2 np b4 nph b6 nq b8 b9 nw a6 c1 c2 c3 c4 c5 a7 d1 d2 d3 d4 d5 d6 anR (nI n) cap fromsR tosR delaysR strsR sf B A = some (v, k, lN z, lead, cyc, st', aT, ap, aph, aq, aw, sl, sT, sp, sph, sq, sw, ft, fT, fp2, fph, fq, fw, ff, sf', B', A') ∧ (k = 0 → out' 0 = v.toInt64) := by
  obtain ⟨kn', en', lt', ct', br', bp', bc', fr', fp', fc', fl', lead, cyc, st', aT, ap, aph, aq, aw, sl, sT, sp, sph, sq, sw, ft, fT, fp2, fph, fq, fw, ff, sf', B', A', hA', hw⟩ := ca_ways hN hh ht hz C hinv hX hR hA E hf hrm br bp bc frw fp fc a2 a3 a4 b2 b4 b6 b8 b9 a6 c1 c2 c3 c4 c5 a7 d1 d2 d3 d4 d5 d6 sf B A 1
  rcases hw with ⟨e1, e2⟩ | ⟨e1, e2⟩ | ⟨-, l, c, e1, e2, q1, q2, rfl, rfl, rfl, rfl, q3⟩
  · refine ⟨1, 0, out, kn', en', lt', ct', br', bp', bc', fr', fp', fc', fl', lead, cyc, st', aT, ap, aph, aq, aw, sl, sT, sp, sph, sq, sw, ft, fT, fp2, fph, fq, fw, ff, sf', B', A', hA', ?_, ?_, fun w => absurd w (by decide)⟩
    · unfold f_L_lead f_X5_lead
      rw [e1, Option.bind_some]
      rfl
    · unfold f_X8_lead
      rw [e2, Option.bind_some]
      rfl
  · refine ⟨2, 0, out, kn', en', lt', ct', br', bp', bc', fr', fp', fc', fl', lead, cyc, st', aT, ap, aph, aq, aw, sl, sT, sp, sph, sq, sw, ft, fT, fp2, fph, fq, fw, ff, sf', B', A', hA', ?_, ?_, fun w => absurd w (by decide)⟩
    · unfold f_L_lead f_X5_lead
      rw [e1, Option.bind_some]
      rfl
    · unfold f_X8_lead
      rw [e2, Option.bind_some]
      rfl
  · refine ⟨0, nI l, vp_updL out 0 (nI l).toInt64, kn', en', nI l, nI c, br', bp', bc', fr', fp', fc', fl', nI l, nI c, st', aT, ap, aph, aq, aw, sl, sT, sp, sph, sq, sw, ft, fT, fp2, fph, fq, fw, ff, sf', B', A', hA', ?_, ?_, fun _ => by unfold vp_updL; rw [if_pos rfl]⟩
    · unfold f_L_lead f_X5_lead
      rw [e1, Option.bind_some]
      rfl
    · unfold f_X8_lead
      rw [e2, Option.bind_some]
      rfl

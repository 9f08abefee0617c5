/-! rows of mine (pure): groups and beats agree -/
theorem ca_groups {N n cap h t0 z : Nat} (hN : 5100 ≤ N) (hh : h < 100) (ht : t0 < 2 ^ 29) (hz : z < 2147483647) {x : Int32} {places per qui ans froms tos delays st : Nat → Int32} {fr to de : Nat → Nat} {S : ma_S} (C : ma_C x n places ans froms tos delays st fr to de) (hinv : ma_inv x per S) {X : Nat → ma_S} (hX : X = ma_X x per qui (fun p q => ans (p * 4 + q)) n fr to de st S) {row : Int32} {ph co : Nat → Int32} (hR : ma_R row ph co S) {kn en lt ct : Int32} {fl : Nat → Int32} (hA : ma_ahead x per qui (fun p q => ans (p * 4 + q)) X kn en lt ct fl) {anR : Nat → Nat → Int32} {fromsR tosR delaysR strsR : Nat → Int32} (E : ma_E x n cap anR (fun p q => ans (p * 4 + q)) fromsR tosR delaysR strsR fr to de st) {nT np nph nq nw : Nat → Int32} (hf : ma_fd x per qui nT np nq) (hrm : ma_rm t0 nph nw S) (br : Int32) (bp bc : Nat → Int32) (frw : Int32) (fp fc : Nat → Int32) (a2 a3 a4 : Int32) (b2 b4 b6 b8 b9 : Nat → Int32) (a6 : Int32) (c1 c2 c3 c4 c5 : Nat → Int32) (a7 : Int32) (d1 d2 d3 d4 d5 d6 sf B : Nat → Int32) (A : Nat → Nat → Int32) (G : Nat → Int32) (out : Nat → Int64) : ∃ (k v : Int32) (out' : Nat → Int64) (G' : Nat → Int32), ∃ (kn' en' lt' ct' br' : Int32) (bp' bc' : Nat → Int32) (fr' : Int32) (fp' fc' fl' : Nat → Int32), ∃ (lead cyc st' : Int32) (aT ap aph aq aw : Nat → Int32) (sl : Int32) (sT sp sph sq sw : Nat → Int32) (ft : Int32) (fT fp2 fph fq fw ff sf' B' : Nat → Int32) (A' : Nat → Nat → Int32), ma_ahead x per qui (fun p q => ans (p * 4 + q)) X kn' en' lt' ct' fl' ∧ f_L_groups N (nI h) kn en lt ct row br ph bp co bc frw fp fc (nI (ms_L x).length) (nI n) places per qui ans froms delays tos st fl G out = some (k, kn', en', lt', ct', br', bp', bc', fr', fp', fc', fl', G', out') ∧ f_X8_groups N (nI h) (lN z) a2 a3 a4 (nI t0) nT b2 np b4 nph b6 nq b8 b9 nw a6 c1 c2 c3 c4 c5 a7 d1 d2 d3 d4 d5 d6 anR (nI n) cap fromsR tosR delaysR strsR sf B A = some (v, k, lN z, lead, cyc, st', aT, ap, aph, aq, aw, sl, sT, sp, sph, sq, sw, ft, fT, fp2, fph, fq, fw, ff, sf', B', A') ∧ (k = 0 → out' 0 = v.toInt64) := by
  obtain ⟨kn', en', lt', ct', br', bp', bc', fr', fp', fc', fl', lead, cyc, st', aT, ap, aph, aq, aw, sl, sT, sp, sph, sq, sw, ft, fT, fp2, fph, fq, fw, ff, sf', B', A', hA', hw⟩ := ca_ways hN hh ht hz C hinv hX hR hA E hf hrm br bp bc frw fp fc a2 a3 a4 b2 b4 b6 b8 b9 a6 c1 c2 c3 c4 c5 a7 d1 d2 d3 d4 d5 d6 sf B A 1
  rcases hw with ⟨e1, e2⟩ | ⟨e1, e2⟩ | ⟨-, l, c, e1, e2, q1, W, rfl, rfl, rfl, rfl, rfl, q4, q5, q6, q7⟩
  · refine ⟨1, 0, out, G, kn', en', lt', ct', br', bp', bc', fr', fp', fc', fl', lead, cyc, st', aT, ap, aph, aq, aw, sl, sT, sp, sph, sq, sw, ft, fT, fp2, fph, fq, fw, ff, sf', B', A', hA', ?_, ?_, fun w => absurd w (by decide)⟩
    · unfold f_L_groups f_X5_groups
      rw [e1, Option.bind_some]
      rfl
    · unfold f_X8_groups
      rw [e2, Option.bind_some]
      rfl
  · refine ⟨2, 0, out, G, kn', en', lt', ct', br', bp', bc', fr', fp', fc', fl', lead, cyc, st', aT, ap, aph, aq, aw, sl, sT, sp, sph, sq, sw, ft, fT, fp2, fph, fq, fw, ff, sf', B', A', hA', ?_, ?_, fun w => absurd w (by decide)⟩
    · unfold f_L_groups f_X5_groups
      rw [e1, Option.bind_some]
      rfl
    · unfold f_X8_groups
      rw [e2, Option.bind_some]
      rfl
  · obtain ⟨G', eg, -⟩ := mx_gather (by omega : 1001 ≤ N) C.2.2.1 W G
    refine ⟨0, nI (ma_led x (fun t => ma_F x per qui (fun p q => ans (p * 4 + q)) X (l + t)) c 16), vp_updL out 0 (nI (ma_led x (fun t => ma_F x per qui (fun p q => ans (p * 4 + q)) X (l + t)) c 16)).toInt64, G', kn', en', nI l, nI c, br', bp', bc', fr', fp', fc', fl', nI l, nI c, st', aT, ap, aph, aq, aw, sl, sT, sp, sph, sq, sw, nI (t0 + (l + c + c)), fT, fp2, fph, fq, fw, ff, sf', B', A', hA', ?_, ?_, fun _ => by unfold vp_updL; rw [if_pos rfl]⟩
    · unfold f_L_groups f_X5_groups
      rw [e1, Option.bind_some]
      simp only [Sum.elim_inr]
      rw [eg, Option.bind_some]
      rfl
    · unfold f_X8_groups
      rw [e2, Option.bind_some]
      have eu := mx_groupsUpTo (N := N) (P := 15) (by omega) (by omega) (fun q hq => (hf q hq).1) q7
      show (if (0 : Int32) = 0 then ((f_X8_groupsUpTo N nT A' (nI 15)).bind _) else _) = _
      rw [if_pos rfl, eu, Option.bind_some]
theorem ca_beats {N n cap h t0 z : Nat} (hN : 5100 ≤ N) (hh : h < 100) (ht : t0 < 2 ^ 29) (hz : z < 2147483647) {x : Int32} {places per qui ans froms tos delays st : Nat → Int32} {fr to de : Nat → Nat} {S : ma_S} (C : ma_C x n places ans froms tos delays st fr to de) (hinv : ma_inv x per S) {X : Nat → ma_S} (hX : X = ma_X x per qui (fun p q => ans (p * 4 + q)) n fr to de st S) {row : Int32} {ph co : Nat → Int32} (hR : ma_R row ph co S) {kn en lt ct : Int32} {fl : Nat → Int32} (hA : ma_ahead x per qui (fun p q => ans (p * 4 + q)) X kn en lt ct fl) {anR : Nat → Nat → Int32} {fromsR tosR delaysR strsR : Nat → Int32} (E : ma_E x n cap anR (fun p q => ans (p * 4 + q)) fromsR tosR delaysR strsR fr to de st) {nT np nph nq nw : Nat → Int32} (hf : ma_fd x per qui nT np nq) (hrm : ma_rm t0 nph nw S) (br : Int32) (bp bc : Nat → Int32) (frw : Int32) (fp fc : Nat → Int32) (a2 a3 a4 : Int32) (b2 b4 b6 b8 b9 : Nat → Int32) (a6 : Int32) (c1 c2 c3 c4 c5 : Nat → Int32) (a7 : Int32) (d1 d2 d3 d4 d5 d6 sf B : Nat → Int32) (A : Nat → Nat → Int32) (out : Nat → Int64) (v1 : Int32) : ∃ (k v : Int32) (out' : Nat → Int64), ∃ (kn' en' lt' ct' br' : Int32) (bp' bc' : Nat → Int32) (fr' : Int32) (fp' fc' fl' : Nat → Int32), ∃ (lead cyc st' : Int32) (aT ap aph aq aw : Nat → Int32) (sl : Int32) (sT sp sph sq sw : Nat → Int32) (ft : Int32) (fT fp2 fph fq fw ff sf' B' : Nat → Int32) (A' : Nat → Nat → Int32), ma_ahead x per qui (fun p q => ans (p * 4 + q)) X kn' en' lt' ct' fl' ∧ f_L_beats N (nI h) kn en (nI (ms_L x).length) x (nI n) lt ct row br ph bp co bc frw fp fc places per qui ans froms delays tos st fl out v1 = some (k, kn', en', lt', ct', br', bp', bc', fr', fp', fc', fl', out') ∧ f_X8_beats N (nI h) (lN z) a2 a3 (nI t0) nT a4 b2 np b4 nph b6 nq b8 b9 nw a6 c1 c2 c3 c4 c5 a7 d1 d2 d3 d4 d5 d6 anR (nI n) cap fromsR tosR delaysR strsR sf B A v1 = some (v, k, lN z, lead, cyc, st', aT, ap, aph, aq, aw, sl, sT, sp, sph, sq, sw, ft, fT, fp2, fph, fq, fw, ff, sf', B', A') ∧ (k = 0 → out' 0 = v.toInt64) := by
  rcases mx_beater (N := N) v1 (x := x) (isT := nT) (fun q hq => (hf q hq).1) with ⟨b1, b2'⟩ | ⟨b1, b2'⟩ | ⟨p, hp, rfl, hbp, b1, b2'⟩
  · refine ⟨1, 0, out, kn, en, lt, ct, br, bp, bc, frw, fp, fc, fl, a2, a3, a4, b2, b4, b6, b8, b9, a6, c1, c2, c3, c4, c5, a7, d1, d2, d3, d4, d5, d6, sf, B, A, hA, ?_, ?_, fun w => absurd w (by decide)⟩
    · unfold f_L_beats f_X5_beats
      rw [b1, Option.bind_some]
      rfl
    · unfold f_X8_beats
      rw [b2', Option.bind_some]
      rfl
  · refine ⟨2, 0, out, kn, en, lt, ct, br, bp, bc, frw, fp, fc, fl, a2, a3, a4, b2, b4, b6, b8, b9, a6, c1, c2, c3, c4, c5, a7, d1, d2, d3, d4, d5, d6, sf, B, A, hA, ?_, ?_, fun w => absurd w (by decide)⟩
    · unfold f_L_beats f_X5_beats
      rw [b1, Option.bind_some]
      rfl
    · unfold f_X8_beats
      rw [b2', Option.bind_some]
      rfl
  · obtain ⟨kn', en', lt', ct', br', bp', bc', fr', fp', fc', fl', lead, cyc, st', aT, ap, aph, aq, aw, sl, sT, sp, sph, sq, sw, ft, fT, fp2, fph, fq, fw, ff, sf', B', A', hA', hw⟩ := ca_ways hN hh ht hz C hinv hX hR hA E hf hrm br bp bc frw fp fc a2 a3 a4 b2 b4 b6 b8 b9 a6 c1 c2 c3 c4 c5 a7 d1 d2 d3 d4 d5 d6 sf B A 3
    rcases hw with ⟨e1, e2⟩ | ⟨e1, e2⟩ | ⟨-, l, c, e1, e2, q1, W, rfl, rfl, rfl, rfl, rfl, q4, q5, q6, q7⟩
    · refine ⟨3, 0, out, kn', en', lt', ct', br', bp', bc', fr', fp', fc', fl', lead, cyc, st', aT, ap, aph, aq, aw, sl, sT, sp, sph, sq, sw, ft, fT, fp2, fph, fq, fw, ff, sf', B', A', hA', ?_, ?_, fun w => absurd w (by decide)⟩
      · unfold f_L_beats f_X5_beats
        rw [b1, Option.bind_some]
        simp only [Sum.elim_inr]
        rw [e1, Option.bind_some]
        rfl
      · unfold f_X8_beats
        rw [b2', Option.bind_some]
        simp only [if_true]
        rw [e2, Option.bind_some]
        rfl
    · refine ⟨4, 0, out, kn', en', lt', ct', br', bp', bc', fr', fp', fc', fl', lead, cyc, st', aT, ap, aph, aq, aw, sl, sT, sp, sph, sq, sw, ft, fT, fp2, fph, fq, fw, ff, sf', B', A', hA', ?_, ?_, fun w => absurd w (by decide)⟩
      · unfold f_L_beats f_X5_beats
        rw [b1, Option.bind_some]
        simp only [Sum.elim_inr]
        rw [e1, Option.bind_some]
        rfl
      · unfold f_X8_beats
        rw [b2', Option.bind_some]
        simp only [if_true]
        rw [e2, Option.bind_some]
        rfl
    · have ec := mx_countFlashes (by omega : 1001 ≤ N) hp W
      refine ⟨0, nI (ma_cnt (fun t => ma_F x per qui (fun p q => ans (p * 4 + q)) X (l + t)) p c), vp_updL out 0 (nI (ma_cnt (fun t => ma_F x per qui (fun p q => ans (p * 4 + q)) X (l + t)) p c)).toInt64, kn', en', nI l, nI c, br', bp', bc', fr', fp', fc', fl', nI l, nI c, st', aT, ap, aph, aq, aw, sl, sT, sp, sph, sq, sw, nI (t0 + (l + c + c)), fT, fp2, fph, fq, fw, ff, sf', B', A', hA', ?_, ?_, fun _ => by unfold vp_updL; rw [if_pos rfl]⟩
      · unfold f_L_beats f_X5_beats
        rw [b1, Option.bind_some]
        simp only [Sum.elim_inr]
        rw [e1, Option.bind_some]
        simp only [Sum.elim_inr]
        rw [ec, Option.bind_some]
        rfl
      · unfold f_X8_beats
        rw [b2', Option.bind_some]
        simp only [if_true]
        rw [e2, Option.bind_some]
        simp only [if_true]
        rw [mg_g hp (by omega), nI_clamp (show p < 2 ^ 31 by omega), q6 p hp]

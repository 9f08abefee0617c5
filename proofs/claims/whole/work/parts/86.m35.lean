/-! rows of mine (pure): inStep agrees -/
theorem ca_inStep {N n cap h t0 z : Nat} (hN : 5100 ≤ N) (hh : h < 100) (ht : t0 < 2 ^ 29) (hz : z < 2147483647) {x : Int32} {places per qui ans froms tos delays st : Nat → Int32} {fr to de : Nat → Nat} {S : ma_S} (C : ma_C x n places ans froms tos delays st fr to de) (hinv : ma_inv x per S) {X : Nat → ma_S} (hX : X = ma_X x per qui (fun p q => ans (p * 4 + q)) n fr to de st S) {row : Int32} {ph co : Nat → Int32} (hR : ma_R row ph co S) {kn en lt ct : Int32} {fl : Nat → Int32} (hA : ma_ahead x per qui (fun p q => ans (p * 4 + q)) X kn en lt ct fl) {anR : Nat → Nat → Int32} {fromsR tosR delaysR strsR : Nat → Int32} (E : ma_E x n cap anR (fun p q => ans (p * 4 + q)) fromsR tosR delaysR strsR fr to de st) {nT np nph nq nw : Nat → Int32} (hf : ma_fd x per qui nT np nq) (hrm : ma_rm t0 nph nw S) (br : Int32) (bp bc : Nat → Int32) (frw : Int32) (fp fc : Nat → Int32) (a2 a3 a4 : Int32) (b2 b4 b6 b8 b9 : Nat → Int32) (a6 : Int32) (c1 c2 c3 c4 c5 : Nat → Int32) (a7 : Int32) (d1 d2 d3 d4 d5 d6 sf B : Nat → Int32) (A : Nat → Nat → Int32) (out : Nat → Int64) (v1 v2 : Int32) : ∃ (k v : Int32) (out' : Nat → Int64), ∃ (kn' en' lt' ct' br' : Int32) (bp' bc' : Nat → Int32) (fr' : Int32) (fp' fc' fl' : Nat → Int32), ∃ (lead cyc st' : Int32) (aT ap aph aq aw : Nat → Int32) (sl : Int32) (sT sp sph sq sw : Nat → Int32) (ft : Int32) (fT fp2 fph fq fw ff sf' B' : Nat → Int32) (A' : Nat → Nat → Int32), ma_ahead x per qui (fun p q => ans (p * 4 + q)) X kn' en' lt' ct' fl' ∧ f_L_inStep N (nI h) kn en (nI (ms_L x).length) x (nI n) lt ct row br ph bp co bc frw fp fc places per qui ans froms delays tos st fl out v1 v2 = some (k, kn', en', lt', ct', br', bp', bc', fr', fp', fc', fl', out') ∧ f_X8_inStep N (nI h) (lN z) a2 a3 (nI t0) nT a4 b2 np b4 nph b6 nq b8 b9 nw a6 c1 c2 c3 c4 c5 a7 d1 d2 d3 d4 d5 d6 anR (nI n) cap fromsR tosR delaysR strsR sf B A v1 v2 = some (v, k, lN z, lead, cyc, st', aT, ap, aph, aq, aw, sl, sT, sp, sph, sq, sw, ft, fT, fp2, fph, fq, fw, ff, sf', B', A') ∧ (k = 0 → out' 0 = v.toInt64) := by
  have hT := fun q hq => (hf q hq).1
  rcases mx_place (N := N) v1 (x := x) (isT := nT) hT with ⟨p1, p2⟩ | ⟨p1, p2, h1⟩
  · refine ⟨1, 0, out, kn, en, lt, ct, br, bp, bc, frw, fp, fc, fl, a2, a3, a4, b2, b4, b6, b8, b9, a6, c1, c2, c3, c4, c5, a7, d1, d2, d3, d4, d5, d6, sf, B, A, hA, ?_, ?_, fun w => absurd w (by decide)⟩
    · unfold f_L_inStep f_X5_inStep
      rw [p1]
      rfl
    · unfold f_X8_inStep
      rw [p2]
      rfl
  rcases mx_place (N := N) v2 (x := x) (isT := nT) hT with ⟨p3, p4⟩ | ⟨p3, p4, h2⟩
  · refine ⟨1, 0, out, kn, en, lt, ct, br, bp, bc, frw, fp, fc, fl, a2, a3, a4, b2, b4, b6, b8, b9, a6, c1, c2, c3, c4, c5, a7, d1, d2, d3, d4, d5, d6, sf, B, A, hA, ?_, ?_, fun w => absurd w (by decide)⟩
    · unfold f_L_inStep f_X5_inStep
      rw [p1, Option.bind_some]
      simp only [Sum.elim_inr]
      rw [p3]
      rfl
    · unfold f_X8_inStep
      rw [p2, Option.bind_some, if_neg (show ¬ (1 : Int32) = 0 by decide)]
      rw [p4]
      rfl
  rcases h1 with ⟨b1, b2'⟩ | ⟨p, hp, rfl, hbp, b1, b2'⟩
  · refine ⟨2, 0, out, kn, en, lt, ct, br, bp, bc, frw, fp, fc, fl, a2, a3, a4, b2, b4, b6, b8, b9, a6, c1, c2, c3, c4, c5, a7, d1, d2, d3, d4, d5, d6, sf, B, A, hA, ?_, ?_, fun w => absurd w (by decide)⟩
    · unfold f_L_inStep f_X5_inStep
      rw [p1, Option.bind_some]
      simp only [Sum.elim_inr]
      rw [p3, Option.bind_some]
      simp only [Sum.elim_inr]
      rw [b1]
      rfl
    · unfold f_X8_inStep
      rw [p2, Option.bind_some, if_neg (show ¬ (1 : Int32) = 0 by decide)]
      rw [p4, Option.bind_some, if_neg (show ¬ (1 : Int32) = 0 by decide)]
      rw [b2']
      rfl
  rcases h2 with ⟨b3, b4'⟩ | ⟨q, hq, rfl, hbq, b3, b4'⟩
  · refine ⟨2, 0, out, kn, en, lt, ct, br, bp, bc, frw, fp, fc, fl, a2, a3, a4, b2, b4, b6, b8, b9, a6, c1, c2, c3, c4, c5, a7, d1, d2, d3, d4, d5, d6, sf, B, A, hA, ?_, ?_, fun w => absurd w (by decide)⟩
    · unfold f_L_inStep f_X5_inStep
      rw [p1, Option.bind_some]
      simp only [Sum.elim_inr]
      rw [p3, Option.bind_some]
      simp only [Sum.elim_inr]
      rw [b1, Option.bind_some]
      simp only [Sum.elim_inr]
      rw [b3]
      rfl
    · unfold f_X8_inStep
      rw [p2, Option.bind_some, if_neg (show ¬ (1 : Int32) = 0 by decide)]
      rw [p4, Option.bind_some, if_neg (show ¬ (1 : Int32) = 0 by decide)]
      rw [b2', Option.bind_some, if_neg (show ¬ (1 : Int32) = 0 by decide)]
      rw [b4']
      rfl
  obtain ⟨kn', en', lt', ct', br', bp', bc', fr', fp', fc', fl', lead, cyc, st', aT, ap, aph, aq, aw, sl, sT, sp, sph, sq, sw, ft, fT, fp2, fph, fq, fw, ff, sf', B', A', hA', hw⟩ := ca_ways hN hh ht hz C hinv hX hR hA E hf hrm br bp bc frw fp fc a2 a3 a4 b2 b4 b6 b8 b9 a6 c1 c2 c3 c4 c5 a7 d1 d2 d3 d4 d5 d6 sf B A 3
  rcases hw with ⟨e1, e2⟩ | ⟨e1, e2⟩ | ⟨-, l, c, e1, e2, q1, W, rfl, rfl, rfl, rfl, rfl, q4, q5, q6, q7⟩
  · refine ⟨3, 0, out, kn', en', lt', ct', br', bp', bc', fr', fp', fc', fl', lead, cyc, st', aT, ap, aph, aq, aw, sl, sT, sp, sph, sq, sw, ft, fT, fp2, fph, fq, fw, ff, sf', B', A', hA', ?_, ?_, fun w => absurd w (by decide)⟩
    · unfold f_L_inStep f_X5_inStep
      rw [p1, Option.bind_some]
      simp only [Sum.elim_inr]
      rw [p3, Option.bind_some]
      simp only [Sum.elim_inr]
      rw [b1, Option.bind_some]
      simp only [Sum.elim_inr]
      rw [b3, Option.bind_some]
      simp only [Sum.elim_inr]
      rw [e1]
      rfl
    · unfold f_X8_inStep
      rw [p2, Option.bind_some, if_neg (show ¬ (1 : Int32) = 0 by decide)]
      rw [p4, Option.bind_some, if_neg (show ¬ (1 : Int32) = 0 by decide)]
      rw [b2', Option.bind_some, if_neg (show ¬ (1 : Int32) = 0 by decide)]
      rw [b4', Option.bind_some, if_neg (show ¬ (1 : Int32) = 0 by decide)]
      rw [e2]
      rfl
  · refine ⟨4, 0, out, kn', en', lt', ct', br', bp', bc', fr', fp', fc', fl', lead, cyc, st', aT, ap, aph, aq, aw, sl, sT, sp, sph, sq, sw, ft, fT, fp2, fph, fq, fw, ff, sf', B', A', hA', ?_, ?_, fun w => absurd w (by decide)⟩
    · unfold f_L_inStep f_X5_inStep
      rw [p1, Option.bind_some]
      simp only [Sum.elim_inr]
      rw [p3, Option.bind_some]
      simp only [Sum.elim_inr]
      rw [b1, Option.bind_some]
      simp only [Sum.elim_inr]
      rw [b3, Option.bind_some]
      simp only [Sum.elim_inr]
      rw [e1]
      rfl
    · unfold f_X8_inStep
      rw [p2, Option.bind_some, if_neg (show ¬ (1 : Int32) = 0 by decide)]
      rw [p4, Option.bind_some, if_neg (show ¬ (1 : Int32) = 0 by decide)]
      rw [b2', Option.bind_some, if_neg (show ¬ (1 : Int32) = 0 by decide)]
      rw [b4', Option.bind_some, if_neg (show ¬ (1 : Int32) = 0 by decide)]
      rw [e2]
      rfl
  · have ek := mx_keepsStep (by omega : 1001 ≤ N) hp hq W
    have gp : ∀ {α : Type} (x : Option α), zk_g (nI p) 16 x = x := fun x => mg_g hp (by omega) x
    have gq : ∀ {α : Type} (x : Option α), zk_g (nI q) 16 x = x := fun x => mg_g hq (by omega) x
    have kp : (nI p).toNatClampNeg = p := nI_clamp (by omega)
    have kq : (nI q).toNatClampNeg = q := nI_clamp (by omega)
    have q7 := q7 p q hp hq
    cases ha : ma_ap (fun t => ma_F x per qui (fun p q => ans (p * 4 + q)) X (l + t)) p q c with
    | true =>
      rw [ha] at ek q7
      refine ⟨0, 0, vp_updL out 0 0, kn', en', nI l, nI c, br', bp', bc', fr', fp', fc', fl', nI l, nI c, st', aT, ap, aph, aq, aw, sl, sT, sp, sph, sq, sw, nI (t0 + (l + c + c)), fT, fp2, fph, fq, fw, ff, sf', B', A', hA', ?_, ?_, fun _ => by unfold vp_updL; rw [if_pos rfl]; rfl⟩
      · unfold f_L_inStep f_X5_inStep
        rw [p1, Option.bind_some]
        simp only [Sum.elim_inr]
        rw [p3, Option.bind_some]
        simp only [Sum.elim_inr]
        rw [b1, Option.bind_some]
        simp only [Sum.elim_inr]
        rw [b3, Option.bind_some]
        simp only [Sum.elim_inr]
        rw [e1, Option.bind_some]
        simp only [Sum.elim_inr]
        rw [ek, Option.bind_some]
        rfl
      · unfold f_X8_inStep
        rw [p2, Option.bind_some, if_neg (show ¬ (1 : Int32) = 0 by decide), p4, Option.bind_some, if_neg (show ¬ (1 : Int32) = 0 by decide), b2', Option.bind_some, if_neg (show ¬ (1 : Int32) = 0 by decide), b4', Option.bind_some, if_neg (show ¬ (1 : Int32) = 0 by decide), e2, Option.bind_some]
        simp only [if_true, gp, gq, kp, kq]
        rw [q7]
        rfl
    | false =>
      rw [ha] at ek q7
      refine ⟨0, 1, vp_updL out 0 1, kn', en', nI l, nI c, br', bp', bc', fr', fp', fc', fl', nI l, nI c, st', aT, ap, aph, aq, aw, sl, sT, sp, sph, sq, sw, nI (t0 + (l + c + c)), fT, fp2, fph, fq, fw, ff, sf', B', A', hA', ?_, ?_, fun _ => by unfold vp_updL; rw [if_pos rfl]; rfl⟩
      · unfold f_L_inStep f_X5_inStep
        rw [p1, Option.bind_some]
        simp only [Sum.elim_inr]
        rw [p3, Option.bind_some]
        simp only [Sum.elim_inr]
        rw [b1, Option.bind_some]
        simp only [Sum.elim_inr]
        rw [b3, Option.bind_some]
        simp only [Sum.elim_inr]
        rw [e1, Option.bind_some]
        simp only [Sum.elim_inr]
        rw [ek, Option.bind_some]
        rfl
      · unfold f_X8_inStep
        rw [p2, Option.bind_some, if_neg (show ¬ (1 : Int32) = 0 by decide), p4, Option.bind_some, if_neg (show ¬ (1 : Int32) = 0 by decide), b2', Option.bind_some, if_neg (show ¬ (1 : Int32) = 0 by decide), b4', Option.bind_some, if_neg (show ¬ (1 : Int32) = 0 by decide), e2, Option.bind_some]
        simp only [if_true, gp, gq, kp, kq]
        rw [q7]
        rfl

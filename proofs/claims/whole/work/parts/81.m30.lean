/-! rows of mine (pure): order and groupOf agree -/
theorem mx_or_14b {N n cap t0 z : Nat} (hN : 5100 ≤ N) (ht : t0 < 2 ^ 29) {x : Int32} {per qui : Nat → Int32} {an anR : Nat → Nat → Int32} {froms tos delays strs st : Nat → Int32} {fr to de : Nat → Nat} (E : ma_E x n cap anR an froms tos delays strs fr to de st) {X : Nat → ma_S} (hX : ∀ i, X (i + 1) = ma_step x per qui an n fr to de st (X i)) (iv : ∀ i, ma_inv x per (X i)) (hz : z < 2147483647) {c s : Nat} (hc : c ≤ 1000) (hs : s ≤ 2000) {fT fp fq : Nat → Int32} (hf : ma_fd x per qui fT fp fq) : ∀ (k i m n' : Nat) (fph fw ff : Nat → Int32), i + k = c → k < m → n' < 2 ^ 31 → ma_rm (t0 + (s + i)) fph fw (X (s + i)) → ∃ o, f_X8_order_14 N (nI c) fT fp fq anR (nI n) cap froms tos delays strs m (nI n') (nI i) (lN z) (nI (t0 + (s + i))) fph fw ff = some o ∧ ((∃ (p : Nat) (w1 w2 ft : Int32) (fph' fw' ff' : Nat → Int32), o = .inl (w1, w2, lN z, ft, fph', fw', ff', nI p) ∧ p < 16 ∧ ma_or (fun t => ma_F x per qui an X (s + t)) (List.range 16) k i n' = some p) ∨ (∃ (w1 w2 ft : Int32) (fph' fw' ff' : Nat → Int32), o = .inr (w1, w2, lN z, ft, fph', fw', ff') ∧ ma_or (fun t => ma_F x per qui an X (s + t)) (List.range 16) k i n' = none))
  | 0, i, m, n', fph, fw, ff, hi, hm, hn, h => by
    obtain ⟨m, rfl⟩ : ∃ j, m = j + 1 := ⟨m - 1, by omega⟩
    exact ⟨_, by rw [f_X8_order_14, if_pos (nI_le (by omega) (by omega))], Or.inr ⟨_, _, _, _, _, _, rfl, rfl⟩⟩
  | k + 1, i, m, n', fph, fw, ff, hi, hm, hn, h => by
    obtain ⟨m, rfl⟩ : ∃ j, m = j + 1 := ⟨m - 1, by omega⟩
    obtain ⟨v, fw', ff', fph', et, hfl, hr⟩ := mx_tick0 (z := z) (by omega : 61 ≤ N) (show t0 + (s + i) + 1 < 2 ^ 30 by omega) hz E hf (iv (s + i)).1 h ff
    rw [← hX] at hr
    obtain ⟨o, e, ho⟩ := mx_or_39 (N := N) (f := ma_F x per qui an X (s + i)) hfl 16 0 N n' (by omega) (by omega) hn
    have e : f_X8_order_39 N ff' N (nI n') (0 : Int32) = some o := e
    rw [List.drop_zero] at ho
    rw [f_X8_order_14, if_neg (nI_ge (show i < c by omega) (by omega)), if_neg (nI_pos hn), et, Option.bind_some]
    show ∃ o, ((f_X8_order_39 N ff' N (nI n') (0 : Int32)).bind _) = some o ∧ _
    rw [e, Option.bind_some]
    unfold ma_or
    rcases ho with ⟨p, w, rfl, h1, h2⟩ | ⟨n2, w, rfl, h2⟩
    · show ∃ o, _ = some o ∧ ((∃ (p : Nat) (w1 w2 ft : Int32) (fph' fw' ff' : Nat → Int32), o = _ ∧ p < 16 ∧ (match ma_sc (ma_F x per qui an X (s + i)) (List.range 16) n' with | .inl p => some p | .inr n' => ma_or (fun t => ma_F x per qui an X (s + t)) (List.range 16) k (i + 1) n') = some p) ∨ _)
      rw [h2]
      exact ⟨_, rfl, Or.inl ⟨p, _, _, _, _, _, _, rfl, h1, rfl⟩⟩
    · have hle := ma_sc_le _ _ _ h2
      have := mx_or_14b hN ht E hX iv hz hc hs hf k (i + 1) m n2 fph' fw' ff' (by omega) (by omega) (by omega) hr
      have h2 : ma_sc ((fun t => ma_F x per qui an X (s + t)) i) (List.range 16) n' = .inr n2 := h2
      rw [h2]
      show ∃ o, f_X8_order_14 N (nI c) fT fp fq anR (nI n) cap froms tos delays strs m (nI n2) (nI i + 1) (lN z) (nI (t0 + (s + i) + 1)) fph' fw' ff' = some o ∧ _
      rw [nI_1]
      exact this
theorem ma_sc_cong {f g : Nat → Bool} : ∀ (l : List Nat) (n : Nat), (∀ p ∈ l, f p = g p) → ma_sc f l n = ma_sc g l n
  | [], n, _ => rfl
  | p :: ps, n, h => by
    have hp := h p List.mem_cons_self
    have ih := fun n => ma_sc_cong ps n (fun q hq => h q (List.mem_cons_of_mem _ hq))
    unfold ma_sc
    rw [hp]
    cases g p with
    | true =>
      cases n with
      | zero => rfl
      | succ n => exact ih n
    | false => exact ih n
theorem ma_or_cong {F G : Nat → Nat → Bool} (h : ∀ t p, p < 16 → F t p = G t p) : ∀ (k t n : Nat), ma_or F (List.range 16) k t n = ma_or G (List.range 16) k t n
  | 0, t, n => rfl
  | k + 1, t, n => by
    have e : ma_sc (F t) (List.range 16) n = ma_sc (G t) (List.range 16) n := ma_sc_cong _ _ (fun p hp => h t p (List.mem_range.mp hp))
    unfold ma_or
    rw [e]
    cases ma_sc (G t) (List.range 16) n with
    | inl p => rfl
    | inr n' => exact ma_or_cong h k (t + 1) n'
theorem ma_F_bt {x : Int32} {per qui : Nat → Int32} {an : Nat → Nat → Int32} {X : Nat → ma_S} {t p : Nat} (h : ma_F x per qui an X t p = true) : bt x p = true := by
  unfold ma_F ma_flS at h
  rw [Bool.and_eq_true] at h
  exact h.1
theorem ca_groupOf {N n cap h t0 z : Nat} (hN : 5100 ≤ N) (hh : h < 100) (ht : t0 < 2 ^ 29) (hz : z < 2147483647) {x : Int32} {places per qui ans froms tos delays st : Nat → Int32} {fr to de : Nat → Nat} {S : ma_S} (C : ma_C x n places ans froms tos delays st fr to de) (hinv : ma_inv x per S) {X : Nat → ma_S} (hX : X = ma_X x per qui (fun p q => ans (p * 4 + q)) n fr to de st S) {row : Int32} {ph co : Nat → Int32} (hR : ma_R row ph co S) {kn en lt ct : Int32} {fl : Nat → Int32} (hA : ma_ahead x per qui (fun p q => ans (p * 4 + q)) X kn en lt ct fl) {anR : Nat → Nat → Int32} {fromsR tosR delaysR strsR : Nat → Int32} (E : ma_E x n cap anR (fun p q => ans (p * 4 + q)) fromsR tosR delaysR strsR fr to de st) {nT np nph nq nw : Nat → Int32} (hf : ma_fd x per qui nT np nq) (hrm : ma_rm t0 nph nw S) (br : Int32) (bp bc : Nat → Int32) (frw : Int32) (fp fc : Nat → Int32) (a2 a3 a4 : Int32) (b2 b4 b6 b8 b9 : Nat → Int32) (a6 : Int32) (c1 c2 c3 c4 c5 : Nat → Int32) (a7 : Int32) (d1 d2 d3 d4 d5 d6 sf B : Nat → Int32) (A : Nat → Nat → Int32) (G : Nat → Int32) (out : Nat → Int64) (v1 : Int32) : ∃ (k v : Int32) (out' : Nat → Int64) (G' : Nat → Int32), ∃ (kn' en' lt' ct' br' : Int32) (bp' bc' : Nat → Int32) (fr' : Int32) (fp' fc' fl' : Nat → Int32), ∃ (lead cyc st' : Int32) (aT ap aph aq aw : Nat → Int32) (sl : Int32) (sT sp sph sq sw : Nat → Int32) (ft : Int32) (fT fp2 fph fq fw ff sf' B' : Nat → Int32) (A' : Nat → Nat → Int32), ma_ahead x per qui (fun p q => ans (p * 4 + q)) X kn' en' lt' ct' fl' ∧ f_L_groupOf N (nI h) kn en (nI (ms_L x).length) x (nI n) lt ct row br ph bp co bc frw fp fc places per qui ans froms delays tos st fl G out v1 = some (k, kn', en', lt', ct', br', bp', bc', fr', fp', fc', fl', G', out') ∧ f_X8_groupOf N (nI h) (lN z) a2 a3 (nI t0) nT a4 b2 np b4 nph b6 nq b8 b9 nw a6 c1 c2 c3 c4 c5 a7 d1 d2 d3 d4 d5 d6 anR (nI n) cap fromsR tosR delaysR strsR sf B A v1 = some (v, k, lN z, lead, cyc, st', aT, ap, aph, aq, aw, sl, sT, sp, sph, sq, sw, ft, fT, fp2, fph, fq, fw, ff, sf', B', A') ∧ (k = 0 → out' 0 = v.toInt64) := by
  rcases mx_beater (N := N) v1 (x := x) (isT := nT) (fun q hq => (hf q hq).1) with ⟨b1, b2'⟩ | ⟨b1, b2'⟩ | ⟨p, hp, rfl, hbp, b1, b2'⟩
  · refine ⟨1, 0, out, G, kn, en, lt, ct, br, bp, bc, frw, fp, fc, fl, a2, a3, a4, b2, b4, b6, b8, b9, a6, c1, c2, c3, c4, c5, a7, d1, d2, d3, d4, d5, d6, sf, B, A, hA, ?_, ?_, fun w => absurd w (by decide)⟩
    · unfold f_L_groupOf f_X5_groupOf
      rw [b1, Option.bind_some]
      rfl
    · unfold f_X8_groupOf
      rw [b2', Option.bind_some]
      rfl
  · refine ⟨2, 0, out, G, kn, en, lt, ct, br, bp, bc, frw, fp, fc, fl, a2, a3, a4, b2, b4, b6, b8, b9, a6, c1, c2, c3, c4, c5, a7, d1, d2, d3, d4, d5, d6, sf, B, A, hA, ?_, ?_, fun w => absurd w (by decide)⟩
    · unfold f_L_groupOf f_X5_groupOf
      rw [b1, Option.bind_some]
      rfl
    · unfold f_X8_groupOf
      rw [b2', Option.bind_some]
      rfl
  · obtain ⟨kn', en', lt', ct', br', bp', bc', fr', fp', fc', fl', lead, cyc, st', aT, ap, aph, aq, aw, sl, sT, sp, sph, sq, sw, ft, fT, fp2, fph, fq, fw, ff, sf', B', A', hA', hw⟩ := ca_ways hN hh ht hz C hinv hX hR hA E hf hrm br bp bc frw fp fc a2 a3 a4 b2 b4 b6 b8 b9 a6 c1 c2 c3 c4 c5 a7 d1 d2 d3 d4 d5 d6 sf B A 3
    rcases hw with ⟨e1, e2⟩ | ⟨e1, e2⟩ | ⟨-, l, c, e1, e2, q1, W, rfl, rfl, rfl, rfl, rfl, q4, q5, q6, q7⟩
    · refine ⟨3, 0, out, G, kn', en', lt', ct', br', bp', bc', fr', fp', fc', fl', lead, cyc, st', aT, ap, aph, aq, aw, sl, sT, sp, sph, sq, sw, ft, fT, fp2, fph, fq, fw, ff, sf', B', A', hA', ?_, ?_, fun w => absurd w (by decide)⟩
      · unfold f_L_groupOf f_X5_groupOf
        rw [b1, Option.bind_some]
        simp only [Sum.elim_inr]
        rw [e1, Option.bind_some]
        rfl
      · unfold f_X8_groupOf
        rw [b2', Option.bind_some]
        simp only [if_true]
        rw [e2, Option.bind_some]
        rfl
    · refine ⟨4, 0, out, G, kn', en', lt', ct', br', bp', bc', fr', fp', fc', fl', lead, cyc, st', aT, ap, aph, aq, aw, sl, sT, sp, sph, sq, sw, ft, fT, fp2, fph, fq, fw, ff, sf', B', A', hA', ?_, ?_, fun w => absurd w (by decide)⟩
      · unfold f_L_groupOf f_X5_groupOf
        rw [b1, Option.bind_some]
        simp only [Sum.elim_inr]
        rw [e1, Option.bind_some]
        rfl
      · unfold f_X8_groupOf
        rw [b2', Option.bind_some]
        simp only [if_true]
        rw [e2, Option.bind_some]
        rfl
    · obtain ⟨G', eg, hG⟩ := mx_gather (by omega : 1001 ≤ N) C.2.2.1 W G
      obtain ⟨r, ef, hr⟩ := mx_firstWith (N := N) (by omega) hp hbp (fun q hq => (hf q hq).1) q7
      have eu := mx_groupsUpTo (N := N) (P := r) (by omega) hr.1 (fun q hq => (hf q hq).1) q7
      have hld : ma_ld x (fun t => ma_F x per qui (fun p q => ans (p * 4 + q)) X (l + t)) c r = true := (ma_ld_t hr.1).mpr (ma_first_ld hr)
      have hs := ma_led_s x (fun t => ma_F x per qui (fun p q => ans (p * 4 + q)) X (l + t)) c r
      rw [hld, if_pos rfl] at hs
      have ev : nI (ma_led x (fun t => ma_F x per qui (fun p q => ans (p * 4 + q)) X (l + t)) c (r + 1)) - (1 : Int32) = nI (ma_led x (fun t => ma_F x per qui (fun p q => ans (p * 4 + q)) X (l + t)) c r) := by rw [hs, nI_p1 (by omega)]; rfl
      refine ⟨0, nI (ma_led x (fun t => ma_F x per qui (fun p q => ans (p * 4 + q)) X (l + t)) c (r + 1)) - (1 : Int32), vp_updL out 0 (G' p).toInt64, G', kn', en', nI l, nI c, br', bp', bc', fr', fp', fc', fl', nI l, nI c, st', aT, ap, aph, aq, aw, sl, sT, sp, sph, sq, sw, nI (t0 + (l + c + c)), fT, fp2, fph, fq, fw, ff, sf', B', A', hA', ?_, ?_, fun _ => by unfold vp_updL; rw [if_pos rfl, ev, hG p hp hbp r hr]⟩
      · unfold f_L_groupOf f_X5_groupOf
        rw [b1, Option.bind_some]
        simp only [Sum.elim_inr]
        rw [e1, Option.bind_some]
        simp only [Sum.elim_inr]
        rw [eg, Option.bind_some, mg_g hp (by omega), nI_clamp (show p < 2 ^ 31 by omega)]
        rfl
      · unfold f_X8_groupOf
        rw [b2', Option.bind_some]
        simp only [if_true]
        rw [e2, Option.bind_some]
        simp only [if_true]
        rw [ef, Option.bind_some, eu, Option.bind_some]
theorem ca_order {N n cap h t0 z : Nat} (hN : 5100 ≤ N) (hh : h < 100) (ht : t0 < 2 ^ 29) (hz : z < 2147483647) {x : Int32} {places per qui ans froms tos delays st : Nat → Int32} {fr to de : Nat → Nat} {S : ma_S} (C : ma_C x n places ans froms tos delays st fr to de) (hinv : ma_inv x per S) {X : Nat → ma_S} (hX : X = ma_X x per qui (fun p q => ans (p * 4 + q)) n fr to de st S) {row : Int32} {ph co : Nat → Int32} (hR : ma_R row ph co S) {kn en lt ct : Int32} {fl : Nat → Int32} (hA : ma_ahead x per qui (fun p q => ans (p * 4 + q)) X kn en lt ct fl) {anR : Nat → Nat → Int32} {fromsR tosR delaysR strsR : Nat → Int32} (E : ma_E x n cap anR (fun p q => ans (p * 4 + q)) fromsR tosR delaysR strsR fr to de st) {nT np nph nq nw : Nat → Int32} (hf : ma_fd x per qui nT np nq) (hrm : ma_rm t0 nph nw S) (br : Int32) (bp bc : Nat → Int32) (frw : Int32) (fp fc : Nat → Int32) (a2 a3 a4 : Int32) (b2 b4 b6 b8 b9 : Nat → Int32) (a6 : Int32) (c1 c2 c3 c4 c5 : Nat → Int32) (a7 : Int32) (d1 d2 d3 d4 d5 d6 sf B : Nat → Int32) (A : Nat → Nat → Int32) (out : Nat → Int64) (v1 : Int32) : ∃ (k v : Int32) (out' : Nat → Int64), ∃ (kn' en' lt' ct' br' : Int32) (bp' bc' : Nat → Int32) (fr' : Int32) (fp' fc' fl' : Nat → Int32), ∃ (lead cyc st' : Int32) (aT ap aph aq aw : Nat → Int32) (sl : Int32) (sT sp sph sq sw : Nat → Int32) (ft : Int32) (fT fp2 fph fq fw ff sf' B' : Nat → Int32) (A' : Nat → Nat → Int32), ma_ahead x per qui (fun p q => ans (p * 4 + q)) X kn' en' lt' ct' fl' ∧ f_L_order N (nI h) kn en lt ct row br ph bp co bc frw fp fc (nI (ms_L x).length) (nI n) places per qui ans froms delays tos st fl out v1 = some (k, kn', en', lt', ct', br', bp', bc', fr', fp', fc', fl', out') ∧ f_X8_order N (nI h) (lN z) a2 a3 a4 (nI t0) nT b2 np b4 nph b6 nq b8 b9 nw a6 c1 c2 c3 c4 c5 a7 d1 d2 d3 d4 d5 d6 anR (nI n) cap fromsR tosR delaysR strsR sf B A v1 = some (v, k, lN z, lead, cyc, st', aT, ap, aph, aq, aw, sl, sT, sp, sph, sq, sw, ft, fT, fp2, fph, fq, fw, ff, sf', B', A') ∧ (k = 0 → out' 0 = v.toInt64) := by
  obtain ⟨kn', en', lt', ct', br', bp', bc', fr', fp', fc', fl', lead, cyc, st', aT, ap, aph, aq, aw, sl, sT, sp, sph, sq, sw, ft, fT, fp2, fph, fq, fw, ff, sf', B', A', hA', hw⟩ := ca_ways hN hh ht hz C hinv hX hR hA E hf hrm br bp bc frw fp fc a2 a3 a4 b2 b4 b6 b8 b9 a6 c1 c2 c3 c4 c5 a7 d1 d2 d3 d4 d5 d6 sf B A 1
  rcases hw with ⟨e1, e2⟩ | ⟨e1, e2⟩ | ⟨-, l, c, e1, e2, q1, W, rfl, rfl, rfl, rfl, rfl, q4, q5, q6, q7⟩
  · refine ⟨1, 0, out, kn', en', lt', ct', br', bp', bc', fr', fp', fc', fl', lead, cyc, st', aT, ap, aph, aq, aw, sl, sT, sp, sph, sq, sw, ft, fT, fp2, fph, fq, fw, ff, sf', B', A', hA', ?_, ?_, fun w => absurd w (by decide)⟩
    · unfold f_L_order f_X5_order
      rw [e1, Option.bind_some]
      rfl
    · unfold f_X8_order
      rw [e2, Option.bind_some]
      rfl
  · refine ⟨2, 0, out, kn', en', lt', ct', br', bp', bc', fr', fp', fc', fl', lead, cyc, st', aT, ap, aph, aq, aw, sl, sT, sp, sph, sq, sw, ft, fT, fp2, fph, fq, fw, ff, sf', B', A', hA', ?_, ?_, fun w => absurd w (by decide)⟩
    · unfold f_L_order f_X5_order
      rw [e1, Option.bind_some]
      rfl
    · unfold f_X8_order
      rw [e2, Option.bind_some]
      rfl
  · have hXi : ∀ i, X (i + 1) = ma_step x per qui (fun p q => ans (p * 4 + q)) n fr to de st (X i) := fun i => by rw [hX]; rfl
    have hiv : ∀ i, ma_inv x per (X i) := by rw [hX]; exact ma_X_inv C hinv
    have ok : pr_ok (ma_eqv x) X := by rw [hX]; exact ma_X_ok C
    have hc1 : 1 ≤ c := q1.1
    have hlc := W.1
    rcases i32_cases v1 with hv | ⟨m, hm, rfl⟩
    · refine ⟨3, 0, out, kn', en', nI l, nI c, br', bp', bc', fr', fp', fc', fl', nI l, nI c, st', aT, ap, aph, aq, aw, sl, sT, sp, sph, sq, sw, nI (t0 + (l + c + c)), fT, fp2, fph, fq, fw, ff, sf', B', A', hA', ?_, ?_, fun w => absurd w (by decide)⟩
      · have e3 := mx_flasherAt_neg (N := N) (l := l) (c := c) (fl := fl') (places := places) (b := nI (ms_L x).length) (by omega) hc1 (by omega) hv
        unfold f_L_order f_X5_order
        rw [e1, Option.bind_some]
        simp only [Sum.elim_inr]
        rw [e3, Option.bind_some]
        rfl
      · obtain ⟨M, rfl⟩ : ∃ j, N = j + 1 := ⟨N - 1, by omega⟩
        have e3 : f_X8_order_14 (M + 1) (nI c) fT fp2 fq anR (nI n) cap fromsR tosR delaysR strsR (M + 1) v1 (0 : Int32) (lN z) (nI (t0 + (l + c + c))) fph fw ff = some (.inr (v1, 0, lN z, nI (t0 + (l + c + c)), fph, fw, ff)) := by
          rw [f_X8_order_14, if_neg (show ¬ nI c ≤ (0 : Int32) from nI_ge (a := 0) (by omega) (by omega)), if_pos hv]
        unfold f_X8_order
        rw [e2, Option.bind_some]
        simp only [if_true]
        rw [e3, Option.bind_some]
        rfl
    · obtain ⟨w, e3, hw3⟩ := mx_flasherAt (by omega : 1001 ≤ N) hm C.2.2.1 W
      obtain ⟨o, e4, ho⟩ := mx_or_14b hN ht E hXi hiv hz (show c ≤ 1000 by omega) (show l + c + c ≤ 2000 by omega) q4 c 0 N m fph fw ff (by omega) (by omega) hm q5
      have e4 : f_X8_order_14 N (nI c) fT fp2 fq anR (nI n) cap fromsR tosR delaysR strsR N (nI m) (0 : Int32) (lN z) (nI (t0 + (l + c + c))) fph fw ff = some o := e4
      have eor : ma_or (fun t => ma_F x per qui (fun p q => ans (p * 4 + q)) X (l + c + c + t)) (List.range 16) c 0 m = ma_or (fun t => ma_F x per qui (fun p q => ans (p * 4 + q)) X (l + t)) (ms_L x) c 0 m := by
        rw [ma_or_L (fun t p h => ma_F_bt h)]
        refine ma_or_cong (fun t p hp => ?_) c 0 m
        show ma_F x per qui (fun p q => ans (p * 4 + q)) X (l + c + c + t) p = ma_F x per qui (fun p q => ans (p * 4 + q)) X (l + t) p
        rw [ma_F_per ok (pr_ret_up ok q1.2.1 c) t hp, ma_F_per ok q1.2.1 t hp]
      rw [eor] at ho
      rcases hw3 with ⟨p, hp, rfl, hor⟩ | ⟨rfl, hor⟩
      · rw [hor] at ho
        rcases ho with ⟨p', w1, w2, ft2, fph2, fw2, ff2, rfl, hp', h5⟩ | ⟨w1, w2, ft2, fph2, fw2, ff2, rfl, h5⟩
        · obtain rfl : p = p' := Option.some.inj h5
          refine ⟨0, nI p, vp_updL out 0 (nI p).toInt64, kn', en', nI l, nI c, br', bp', bc', fr', fp', fc', fl', nI l, nI c, st', aT, ap, aph, aq, aw, sl, sT, sp, sph, sq, sw, ft2, fT, fp2, fph2, fq, fw2, ff2, sf', B', A', hA', ?_, ?_, fun _ => by unfold vp_updL; rw [if_pos rfl]⟩
          · unfold f_L_order f_X5_order
            rw [e1, Option.bind_some]
            simp only [Sum.elim_inr]
            rw [e3, Option.bind_some, if_pos (show (0 : Int32) ≤ nI p from nI_le (a := 0) (by omega) (by omega))]
            rfl
          · unfold f_X8_order
            rw [e2, Option.bind_some]
            simp only [if_true]
            rw [e4, Option.bind_some]
            rfl
        · cases h5
      · rw [hor] at ho
        rcases ho with ⟨p', w1, w2, ft2, fph2, fw2, ff2, rfl, hp', h5⟩ | ⟨w1, w2, ft2, fph2, fw2, ff2, rfl, h5⟩
        · cases h5
        · refine ⟨3, 0, out, kn', en', nI l, nI c, br', bp', bc', fr', fp', fc', fl', nI l, nI c, st', aT, ap, aph, aq, aw, sl, sT, sp, sph, sq, sw, ft2, fT, fp2, fph2, fq, fw2, ff2, sf', B', A', hA', ?_, ?_, fun w => absurd w (by decide)⟩
          · unfold f_L_order f_X5_order
            rw [e1, Option.bind_some]
            simp only [Sum.elim_inr]
            rw [e3, Option.bind_some]
            rfl
          · unfold f_X8_order
            rw [e2, Option.bind_some]
            simp only [if_true]
            rw [e4, Option.bind_some]
            rfl

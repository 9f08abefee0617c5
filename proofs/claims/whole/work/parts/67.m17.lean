/-! rows of mine (pure): ways ahead, of the class and of the reference -/
theorem ma_F_per {x : Int32} {per qui : Nat → Int32} {an : Nat → Nat → Int32} {X : Nat → ma_S} (ok : pr_ok (ma_eqv x) X) {l c : Nat} (h : pr_ret (ma_eqv x) X l c) (t : Nat) {p : Nat} (hp : p < 16) : ma_F x per qui an X (l + c + t) p = ma_F x per qui an X (l + t) p := by
  unfold ma_F
  exact ma_eqv_fl (pr_shift ok h t) hp
theorem ma_cnt_cong {F G : Nat → Nat → Bool} {p : Nat} (h : ∀ t, F t p = G t p) (c : Nat) : ma_cnt F p c = ma_cnt G p c := by
  unfold ma_cnt
  rw [show (fun t => F t p) = fun t => G t p from funext h]
theorem ma_ap_cong {F G : Nat → Nat → Bool} {a b : Nat} (h1 : ∀ t, F t a = G t a) (h2 : ∀ t, F t b = G t b) (c : Nat) : ma_ap F a b c = ma_ap G a b c := by
  unfold ma_ap
  rw [show (fun t => F t a != F t b) = fun t => G t a != G t b from funext fun t => by rw [h1, h2]]
/-- what the class remembers of the way ahead -/
def ma_ahead (x : Int32) (per qui : Nat → Int32) (an : Nat → Nat → Int32) (X : Nat → ma_S) (kn en lt ct : Int32) (fl : Nat → Int32) : Prop := kn = 0 ∨ (kn = 1 ∧ ((en = 1 ∧ ∃ l c, lt = nI l ∧ ct = nI c ∧ pr_min (ma_eqv x) X l c ∧ ma_W (fun t => ma_F x per qui an X (l + t)) l c fl) ∨ (en = 0 ∧ ∀ l c, pr_min (ma_eqv x) X l c → 1000 < l + c)))
theorem mx_wayAhead {N n h : Nat} (hN : 2100 ≤ N) (hh : h < 100) {x : Int32} {places per qui ans froms tos delays st : Nat → Int32} {fr to de : Nat → Nat} {S : ma_S} (C : ma_C x n places ans froms tos delays st fr to de) (hinv : ma_inv x per S) {X : Nat → ma_S} (hX : X = ma_X x per qui (fun p q => ans (p * 4 + q)) n fr to de st S) {row : Int32} {ph co : Nat → Int32} (hR : ma_R row ph co S) {kn en lt ct : Int32} {fl : Nat → Int32} (hA : ma_ahead x per qui (fun p q => ans (p * 4 + q)) X kn en lt ct fl) (br : Int32) (bp bc : Nat → Int32) (frw : Int32) (fp fc : Nat → Int32) : ∃ (kn' en' lt' ct' br' : Int32) (bp' bc' : Nat → Int32) (fr' : Int32) (fp' fc' fl' : Nat → Int32), ma_ahead x per qui (fun p q => ans (p * 4 + q)) X kn' en' lt' ct' fl' ∧ (if 0 < h then f_X5_wayAhead N (nI h) kn en lt ct row br ph bp co bc frw fp fc (nI (ms_L x).length) (nI n) places per qui ans froms delays tos st fl = some (.inl ("java/lang/UnsupportedOperationException", kn', en', lt', ct', br', bp', bc', fr', fp', fc', fl')) else ((∃ l c, lt' = nI l ∧ ct' = nI c ∧ pr_min (ma_eqv x) X l c ∧ ma_W (fun t => ma_F x per qui (fun p q => ans (p * 4 + q)) X (l + t)) l c fl' ∧ f_X5_wayAhead N (nI h) kn en lt ct row br ph bp co bc frw fp fc (nI (ms_L x).length) (nI n) places per qui ans froms delays tos st fl = some (.inr (kn', en', lt', ct', br', bp', bc', fr', fp', fc', fl'))) ∨ ((∀ l c, pr_min (ma_eqv x) X l c → 1000 < l + c) ∧ f_X5_wayAhead N (nI h) kn en lt ct row br ph bp co bc frw fp fc (nI (ms_L x).length) (nI n) places per qui ans froms delays tos st fl = some (.inl ("java/lang/ArithmeticException", kn', en', lt', ct', br', bp', bc', fr', fp', fc', fl'))))) := by
  by_cases h0 : 0 < h
  · refine ⟨kn, en, lt, ct, br, bp, bc, frw, fp, fc, fl, hA, ?_⟩
    rw [if_pos h0]
    unfold f_X5_wayAhead f_X5_checkNoNoise
    rw [if_neg (show ¬ nI h ≤ 0 from nI_ge (a := 0) h0 (by omega))]
    rfl
  · have e0 : h = 0 := by omega
    subst e0
    rcases hA with rfl | ⟨rfl, ⟨rfl, l, c, rfl, rfl, hm, hW⟩ | ⟨rfl, hm⟩⟩
    · obtain ⟨o, e, ho⟩ := mx_follow hN C hinv hX hR lt ct bp bc fp fc fl
      obtain ⟨o1, o2, o3, o4, o5, o6, o7, o8, o9, o10⟩ := o
      rcases ho with ⟨l, c, a1, a2, a3, a4, a5, a6⟩ | ⟨a1, a2⟩
      · obtain rfl : o1 = 1 := a1
        have hW : ma_W (fun t => ma_F x per qui (fun p q => ans (p * 4 + q)) X (l + t)) l c o10 := ⟨a4, fun t ht p hp => by
          rw [show l + 1 + t = l + t + 1 by omega]
          exact a6 (l + t) (by omega) p hp⟩
        refine ⟨1, 1, o2, o3, o4, o5, o6, o7, o8, o9, o10, Or.inr ⟨rfl, Or.inl ⟨rfl, l, c, a2, a3, a5, hW⟩⟩, ?_⟩
        rw [if_neg (by omega)]
        refine Or.inl ⟨l, c, a2, a3, a5, hW, ?_⟩
        unfold f_X5_wayAhead f_X5_checkNoNoise
        rw [if_pos (show nI 0 ≤ 0 by decide)]
        simp only [Option.bind_some, Sum.elim_inr, if_true]
        rw [e, Option.bind_some, ms_bo1]
        rfl
      · obtain rfl : o1 = 0 := a1
        refine ⟨1, 0, o2, o3, o4, o5, o6, o7, o8, o9, o10, Or.inr ⟨rfl, Or.inr ⟨rfl, a2⟩⟩, ?_⟩
        rw [if_neg (by omega)]
        refine Or.inr ⟨a2, ?_⟩
        unfold f_X5_wayAhead f_X5_checkNoNoise
        rw [if_pos (show nI 0 ≤ 0 by decide)]
        simp only [Option.bind_some, Sum.elim_inr, if_true]
        rw [e, Option.bind_some, ms_bo0]
        rfl
    · refine ⟨1, 1, _, _, br, bp, bc, frw, fp, fc, fl, Or.inr ⟨rfl, Or.inl ⟨rfl, l, c, rfl, rfl, hm, hW⟩⟩, ?_⟩
      rw [if_neg (by omega)]
      refine Or.inl ⟨l, c, rfl, rfl, hm, hW, ?_⟩
      unfold f_X5_wayAhead f_X5_checkNoNoise
      rw [if_pos (show nI 0 ≤ 0 by decide)]
      rfl
    · refine ⟨1, 0, lt, ct, br, bp, bc, frw, fp, fc, fl, Or.inr ⟨rfl, Or.inr ⟨rfl, hm⟩⟩, ?_⟩
      rw [if_neg (by omega)]
      refine Or.inr ⟨hm, ?_⟩
      unfold f_X5_wayAhead f_X5_checkNoNoise
      rw [if_pos (show nI 0 ≤ 0 by decide)]
      rfl
theorem mx_noWay_n {N h : Nat} (h0 : 0 < h) (hh : h < 100) (a1 : Int64) (a2 a3 a4 a5 : Int32) (b1 b2 b3 b4 b5 b6 b7 b8 b9 b10 : Nat → Int32) (a6 : Int32) (c1 c2 c3 c4 c5 : Nat → Int32) (a7 : Int32) (d1 d2 d3 d4 d5 d6 : Nat → Int32) (anR : Nat → Nat → Int32) (ls : Int32) (cap : Nat) (l1 l2 l3 l4 sf B : Nat → Int32) (A : Nat → Nat → Int32) (x1 : Int32) : f_X8_noWay N (nI h) a1 a2 a3 a4 a5 b1 b2 b3 b4 b5 b6 b7 b8 b9 b10 a6 c1 c2 c3 c4 c5 a7 d1 d2 d3 d4 d5 d6 anR ls cap l1 l2 l3 l4 sf B A x1 = some (1, x1, a1, a2, a3, a4, b2, b4, b6, b8, b9, a6, c1, c2, c3, c4, c5, a7, d1, d2, d3, d4, d5, d6, sf, B, A) := by
  unfold f_X8_noWay
  rw [if_neg (show ¬ nI h ≤ 0 from nI_ge (a := 0) h0 (by omega))]
theorem mx_noWay {N n cap t0 z : Nat} (hN : 5100 ≤ N) (ht : t0 < 2 ^ 29) {x : Int32} {per qui : Nat → Int32} {an anR : Nat → Nat → Int32} {froms tos delays strs st : Nat → Int32} {fr to de : Nat → Nat} (E : ma_E x n cap anR an froms tos delays strs fr to de st) {X : Nat → ma_S} (hX : ∀ i, X (i + 1) = ma_step x per qui an n fr to de st (X i)) (iv : ∀ i, ma_inv x per (X i)) (hz : z < 2147483647) {nT np nph nq nw : Nat → Int32} (hf : ma_fd x per qui nT np nq) (hrm : ma_rm t0 nph nw (X 0)) (a2 a3 a4 : Int32) (b2 b4 b6 b8 b9 : Nat → Int32) (a6 : Int32) (c1 c2 c3 c4 c5 : Nat → Int32) (a7 : Int32) (d1 d2 d3 d4 d5 d6 sf B : Nat → Int32) (A : Nat → Nat → Int32) (x1 : Int32) : ∃ (v th lead cyc st' : Int32) (aT ap aph aq aw : Nat → Int32) (sl : Int32) (sT sp sph sq sw : Nat → Int32) (ft : Int32) (fT fp fph fq fw ff sf' B' : Nat → Int32) (A' : Nat → Nat → Int32), f_X8_noWay N (0 : Int32) (lN z) a2 a3 a4 (nI t0) nT b2 np b4 nph b6 nq b8 b9 nw a6 c1 c2 c3 c4 c5 a7 d1 d2 d3 d4 d5 d6 anR (nI n) cap froms tos delays strs sf B A x1 = some (v, th, lN z, lead, cyc, st', aT, ap, aph, aq, aw, sl, sT, sp, sph, sq, sw, ft, fT, fp, fph, fq, fw, ff, sf', B', A') ∧ ((∃ l c : Nat, v = 0 ∧ th = 0 ∧ lead = nI l ∧ cyc = nI c ∧ l + c ≤ 1000 ∧ pr_min (ma_eqv x) X l c ∧ ft = nI (t0 + (l + c + c)) ∧ ma_fd x per qui fT fp fq ∧ ma_rm (t0 + (l + c + c)) fph fw (X (l + c + c)) ∧ (∀ p, p < 16 → B' p = nI (ma_cnt (fun t => ma_F x per qui an X (l + t)) p c)) ∧ ∀ a b, a < 16 → b < 16 → A' a b = if ma_ap (fun t => ma_F x per qui an X (l + t)) a b c then 1 else 0) ∨ (v = 1 ∧ th = x1 + 1 ∧ ∀ l c, pr_min (ma_eqv x) X l c → 1000 < l + c)) := by
  have ok : pr_ok (ma_eqv x) X := ⟨ma_eqv_equiv x, fun i j h => by rw [hX, hX]; exact ma_eqv_tick (fun k hk => (E.2.2.1 k hk).2.2.2.1) h⟩
  obtain ⟨e1, e2, e3, e4, e5, et, k1, r1⟩ := mx_takes (N := N) (by omega) hf hrm b2 b4 b6 b8 b9
  obtain ⟨v, lead, cyc, st', ft, sT', sp', sph', sq', sw', fT', fp', fph', fq', fw', ff', sf', ef, hcase⟩ := mx_findCycle hN ht E hX iv hz k1 r1 a2 c1 c2 c3 c4 c5 d1 d2 d3 d4 d5 d6 sf
  unfold f_X8_noWay
  rw [if_pos (show (0 : Int32) ≤ 0 by decide), et, Option.bind_some]
  show ∃ (v th lead cyc st' : Int32) (aT ap aph aq aw : Nat → Int32) (sl : Int32) (sT sp sph sq sw : Nat → Int32) (ft : Int32) (fT fp fph fq fw ff sf' B' : Nat → Int32) (A' : Nat → Nat → Int32), ((f_X8_findCycle N (lN z) a2 (nI t0) e1 c1 e2 c2 e3 c3 e4 c4 c5 e5 d1 d2 d3 d4 d5 d6 anR (nI n) cap froms tos delays strs sf).bind _) = _ ∧ _
  rw [ef, Option.bind_some]
  rcases hcase with ⟨l, c, rfl, rfl, rfl, hlc, hmin, rfl, kf, rf⟩ | ⟨rfl, hno⟩
  · obtain ⟨B', A', fw2, ff2, fph2, eg, g1, g2, g3⟩ := mx_goRound hN ht E hX iv hz (show c ≤ 1000 by omega) (show l + c ≤ 1000 from hlc) kf rf (ff := ff') B A
    show ∃ (v th lead cyc st' : Int32) (aT ap aph aq aw : Nat → Int32) (sl : Int32) (sT sp sph sq sw : Nat → Int32) (ft : Int32) (fT fp fph fq fw ff sf' B' : Nat → Int32) (A' : Nat → Nat → Int32), (if (1 : Int32) = 0 then _ else (if (1 : Int32) = 0 then _ else ((f_X8_goRound N (lN z) (nI c) B A (nI (t0 + (l + c))) fw' ff' fT' fph' fp' fq' anR (nI n) cap froms tos delays strs).bind _))) = _ ∧ _
    rw [if_neg (show ¬ (1 : Int32) = 0 by decide), if_neg (show ¬ (1 : Int32) = 0 by decide), eg, Option.bind_some, if_neg (show ¬ (1 : Int32) = 0 by decide)]
    refine ⟨_, _, _, _, _, _, _, _, _, _, _, _, _, _, _, _, _, _, _, _, _, _, _, _, _, _, rfl, Or.inl ⟨l, c, rfl, rfl, rfl, rfl, hlc, hmin, rfl, kf, g1, fun p hp => ?_, fun a b ha hb => ?_⟩⟩
    · show B' p = _
      rw [g2 p hp, ma_cnt_cong (fun t => ma_F_per ok hmin.2.1 t hp)]
    · show A' a b = _
      rw [g3 a b ha hb, ma_ap_cong (fun t => ma_F_per ok hmin.2.1 t ha) (fun t => ma_F_per ok hmin.2.1 t hb)]
  · rw [if_pos rfl, if_pos rfl, if_pos rfl]
    exact ⟨_, _, _, _, _, _, _, _, _, _, _, _, _, _, _, _, _, _, _, _, _, _, _, _, _, _, rfl, Or.inr ⟨rfl, rfl, hno⟩⟩

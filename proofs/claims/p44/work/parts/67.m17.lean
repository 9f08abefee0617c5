/-! rows of mine (pure): ways ahead, of the class and of the reference -/
theorem ma_F_per {x : Int32} {per qui : Nat → Int32} {an : Nat → Nat → Int32} {X : Nat → ma_S} (ok : pr_ok (ma_eqv x) X) {l c : Nat} (h : pr_ret (ma_eqv x) X l c) (t : Nat) {p : Nat} (hp : p < 16) : ma_F x per qui an X (l + c + t) p = ma_F x per qui an X (l + t) p := by
  unfold ma_F
  exact ma_eqv_fl (pr_shift ok h t) hp
theorem ma_cnt_cong {F G : Nat → Nat → Bool} {p : Nat} (h : ∀ t, F t p = G t p) (c : Nat) : ma_cnt F p c = ma_cnt G p c := by
  unfold ma_cnt
  rw [show (fun t => F t p) = fun t => G t p from funext h]
theorem ma_ap_cong {F G : Nat → Nat → Bool} {a b : Nat} (h1 : ∀ t, F t a = G t a) (h2 : ∀ t, F t b = G t b) (c : Nat) : ma_ap F a b c = ma_ap G a b c := by
  unfold ma_ap
  rw [show (fun t => F t a != F t b) = fun t => G t a != G t b from funext fun t => by rw [h1, h2]]
/-- what the class remembers of the way ahead -/
def ma_ahead (x : Int32) (per qui : Nat → Int32) (an : Nat → Nat → Int32) (X : Nat → ma_S) (kn en lt ct : Int32) (fl : Nat → Int32) : Prop := kn = 0 ∨ (kn = 1 ∧ ((en = 1 ∧ ∃ l c, lt = nI l ∧ ct = nI c ∧ pr_min (ma_eqv x) X l c ∧ ma_W (fun t => ma_F x per qui an X (l + t)) l c fl) ∨ (en = 0 ∧ ∀ l c, pr_min (ma_eqv x) X l c → 1000 < l + c)))
theorem mx_wayAhead {N n h : Nat} (hN : 2100 ≤ N) (hh : h < 100) {x : Int32} {places per qui ans froms tos delays st : Nat → Int32} {fr to de : Nat → Nat} {S : ma_S} (C : ma_C x n places ans froms tos delays st fr to de) (hinv : ma_inv x per S) {X : Nat → ma_S} (hX : X = ma_X x per qui (fun p q => ans (p * 4 + q)) n fr to de st S) {row : Int32} {ph co : Nat → Int32} (hR : ma_R row ph co S) {kn en lt ct : Int32} {fl : Nat → Int32} (hA : ma_ahead x per qui (fun p q => ans (p * 4 + q)) X kn en lt ct fl) (br : Int32) (bp bc : Nat → Int32) (frw : Int32) (fp fc : Nat → Int32) : ∃ (kn' en' lt' ct' br' : Int32) (bp' bc' : Nat → Int32) (fr' : Int32) (fp' fc' fl' : Nat → Int32), ma_ahead x per qui (fun p q => ans (p * 4 + q)) X kn' en' lt' ct' fl' ∧ (if 0 < h then f_X5_wayAhead N (nI h) kn en lt ct row br ph bp co bc frw fp fc (nI (ms_L x).length) (nI n) places per qui ans froms delays tos st fl = some (.inl ("java/lang/UnsupportedOperationException", kn', en', lt', ct', br', bp', bc', fr', fp', fc', fl')) else ((∃ l c, lt' = nI l ∧ ct' = nI c ∧ pr_min (ma_eqv x) X l c ∧ ma_W (fun t => ma_F x per qui (fun p q => ans (p * 4 + q)) X (l + t)) l c fl' ∧ f_X5_wayAhead N (nI h) kn en lt ct row br ph bp co bc frw fp fc (nI (ms_L x).length) (nI n) places per qui ans froms delays tos st fl = some (.inr (kn', en', lt', ct', br', bp', bc', fr', fp', fc', fl'))) ∨ ((∀ l c, pr_min (ma_eqv x) X l c → 1000 < l + c) ∧ f_X5_wayAhead N (nI h) kn en lt ct row br ph bp co bc frw fp fc (nI (ms_L x).length) (nI n) places per qui ans froms delays tos st fl = some (.inl ("java/lang/ArithmeticException", kn', en', lt', ct', br', bp', bc', fr', fp', fc', fl'))))) := by
  by_cases h0 : 0 < h
  · refine ⟨kn, en, lt, ct, br, bp, bc, frw, fp, fc, fl, hA, ?_⟩
    rw [if_pos h0]
    unfold f_X5_wayAhead f_X5_checkNoNoise
    rw [if_neg (show ¬ nI h ≤ 0 from nI_ge (a := 0) h0 (by omega))]
    rfl
  · have e0 : h = 0 := by omega
    subst e0
    rcases hA with rfl | ⟨rfl, ⟨rfl, l, c, rfl, rfl, hm, hW⟩ | ⟨rfl, hm⟩⟩
    · obtain ⟨o, e, ho⟩ := mx_follow hN C hinv hX hR lt ct bp bc fp fc fl
      obtain ⟨o1, o2, o3, o4, o5, o6, o7, o8, o9, o10⟩ := o
      rcases ho with ⟨l, c, a1, a2, a3, a4, a5, a6⟩ | ⟨a1, a2⟩
      · obtain rfl : o1 = 1 := a1
        have hW : ma_W (fun t => ma_F x per qui (fun p q => ans (p * 4 + q)) X (l + t)) l c o10 := ⟨a4, fun t ht p hp => by
          rw [show l + 1 + t = l + t + 1 by omega]
          exact a6 (l + t) (by omega) p hp⟩
        refine ⟨1, 1, o2, o3, o4, o5, o6, o7, o8, o9, o10, Or.inr ⟨rfl, Or.inl ⟨rfl, l, c, a2, a3, a5, hW⟩⟩, ?_⟩
        rw [if_neg (by omega)]
        refine Or.inl ⟨l, c, a2, a3, a5, hW, ?_⟩
        unfold f_X5_wayAhead f_X5_checkNoNoise
        rw [if_pos (show nI 0 ≤ 0 by decide)]
        simp only [Option.bind_some, Sum.elim_inr, if_true]
        rw [e, Option.bind_some, ms_bo1]
        rfl
      · obtain rfl : o1 = 0 := a1
        refine ⟨1, 0, o2, o3, o4, o5, o6, o7, o8, o9, o10, Or.inr ⟨rfl, Or.inr ⟨rfl, a2⟩⟩, ?_⟩
        rw [if_neg (by omega)]
        refine Or.inr ⟨a2, ?_⟩
        unfold f_X5_wayAhead f_X5_checkNoNoise
        rw [if_pos (show nI 0 ≤ 0 by decide)]
        simp only [Option.bind_some, Sum.elim_inr, if_true]
        rw [e, Option.bind_some, ms_bo0]
        rfl
    · refine ⟨1, 1, _, _, br, bp, bc, frw, fp, fc, fl, Or.inr ⟨rfl, Or.inl ⟨rfl, l, c, rfl, rfl, hm, hW⟩⟩, ?_⟩
      rw [if_neg (by omega)]
      refine Or.inl ⟨l, c, rfl, rfl, hm, hW, ?_⟩
      unfold f_X5_wayAhead f_X5_checkNoNoise
      rw [if_pos (show nI 0 ≤ 0 by decide)]
      rfl
    · refine ⟨1, 0, lt, ct, br, bp, bc, frw, fp, fc, fl, Or.inr ⟨rfl, Or.inr ⟨rfl, hm⟩⟩, ?_⟩
      rw [if_neg (by omega)]
      refine Or.inr ⟨hm, ?_⟩
      unfold f_X5_wayAhead f_X5_checkNoNoise
      rw [if_pos (show nI 0 ≤ 0 by decide)]
      rfl

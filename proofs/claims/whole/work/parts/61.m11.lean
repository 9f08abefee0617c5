/-! rows of mine (pure): the reference's search -/
def ma_E (x : Int32) (n cap : Nat) (anR an : Nat → Nat → Int32) (froms tos delays strs : Nat → Int32) (fr to de : Nat → Nat) (st : Nat → Int32) : Prop := n ≤ 60 ∧ n ≤ cap ∧ ma_lk n froms tos delays fr to de ∧ (∀ k, k < n → strs k = st k) ∧ ∀ p, p < 16 → bt x p = true → ∀ q, q < 4 → anR p q = an p q
theorem ma_np_cong {x : Int32} {per per' qui qui' : Nat → Int32} {an an' : Nat → Nat → Int32} {b b' : Nat → Int32} {S : ma_S} (hok : ma_ok x per S) {p : Nat} (hp : p < 16) (hb : bt x p = true) (h1 : per' p = per p) (h2 : qui' p = qui p) (h3 : ∀ q, q < 4 → an' p q = an p q) (h4 : b' p = b p) : ma_np per' qui' an' S.1 (fun p => S.2 p 1) b' p = ma_np per qui an S.1 (fun p => S.2 p 1) b p := by
  obtain ⟨a, c, ea, ec, hac, hc⟩ := hok p hp hb
  have hq := mx_quarter hac hc
  have hq4 : 4 * a / c < 2 ^ 31 := by omega
  unfold ma_np ma_val
  rw [h1, h2, h4, ea, ec, hq.1, nI_clamp hq4, h3 _ hq.2]
theorem ma_flS_cong {x : Int32} {per per' qui qui' : Nat → Int32} {an an' : Nat → Nat → Int32} {b b' : Nat → Int32} {S : ma_S} (hok : ma_ok x per S) (h : ∀ p, p < 16 → bt x p = true → per' p = per p ∧ qui' p = qui p ∧ (∀ q, q < 4 → an' p q = an p q) ∧ b' p = b p) {p : Nat} (hp : p < 16) : ma_flS x per' qui' an' b' S p = ma_flS x per qui an b S p := by
  unfold ma_flS
  cases hb : bt x p with
  | false => rw [Bool.false_and, Bool.false_and]
  | true =>
    obtain ⟨h1, h2, h3, h4⟩ := h p hp hb
    rw [Bool.true_and, Bool.true_and]
    unfold ma_fl
    rw [ma_np_cong hok hp hb h1 h2 h3 h4, h1]
theorem ma_tick_cong {x : Int32} {per per' qui qui' : Nat → Int32} {an an' : Nat → Nat → Int32} {n : Nat} {fr to de : Nat → Nat} {st st' b b' : Nat → Int32} {S : ma_S} (hok : ma_ok x per S) (h : ∀ p, p < 16 → bt x p = true → per' p = per p ∧ qui' p = qui p ∧ (∀ q, q < 4 → an' p q = an p q) ∧ b' p = b p) (hst : ∀ k, k < n → st' k = st k) (hfr : ∀ k, k < n → fr k < 16) {t : Nat} {ph w : Nat → Int32} (hrm : ma_rm t ph w (ma_tick x per' qui' an' n fr to de st' b' S)) : ma_rm t ph w (ma_tick x per qui an n fr to de st b S) := by
  obtain ⟨r1, r2, r3⟩ := hrm
  refine ⟨fun p hp => ?_, fun p d hp hd1 hd2 => ?_, r3⟩
  · rw [r1 p hp]
    show (if bt x p then _ else _) = (if bt x p then _ else _)
    by_cases hb : bt x p = true
    · obtain ⟨h1, h2, h3, h4⟩ := h p hp hb
      have e := ma_np_cong (b := b) (b' := b') hok hp hb h1 h2 h3 h4
      have e2 : ma_fl per' qui' an' S.1 (fun p => S.2 p 1) b' p = ma_fl per qui an S.1 (fun p => S.2 p 1) b p := by
        unfold ma_fl
        rw [e, h1]
      rw [if_pos hb, if_pos hb, e, e2]
    · rw [if_neg hb, if_neg hb]
  · rw [r2 p d hp hd1 hd2]
    show (if d < 30 then S.2 p (d + 1) else 0) + _ = (if d < 30 then S.2 p (d + 1) else 0) + _
    have hs : ma_sum (fun k => if ma_flS x per' qui' an' b' S (fr k) = true ∧ to k = p ∧ de k = d then st' k else 0) n = ma_sum (fun k => if ma_flS x per qui an b S (fr k) = true ∧ to k = p ∧ de k = d then st k else 0) n := ma_sum_congr (fun k hk => by rw [ma_flS_cong hok h (hfr k hk), hst k hk])
    rw [hs]
theorem mx_tickR {N t n cap h z : Nat} (hN : 61 ≤ N) (ht : t + 1 < 2 ^ 30) (hh : h < 100) (hz : z < 2147483647) {x : Int32} {isT ph w per qui perR quiR fl froms tos delays strs st : Nat → Int32} {an anR : Nat → Nat → Int32} {fr to de : Nat → Nat} {S : ma_S} (E : ma_E x n cap anR an froms tos delays strs fr to de st) (hfd : ma_fd x per qui isT perR quiR) (hok : ma_ok x per S) (hrm : ma_rm t ph w S) :
    ∃ w' fl' ph' : Nat → Int32, f_X6_tick N (nI t) w fl isT ph perR quiR (lN z) anR (nI n) cap froms tos delays strs (nI h) = some (nI ((List.range 16).countP (ma_flS x per qui an (ma_b x h z) S)), nI (t + 1), w', fl', ph', lN (ma_ze x h z 16)) ∧ (∀ q, q < 16 → fl' q = if ma_flS x per qui an (ma_b x h z) S q then 1 else 0) ∧ ma_rm (t + 1) ph' w' (ma_tick x per qui an n fr to de st (ma_b x h z) S) := by
  obtain ⟨hn, hcap, hl, hst, han⟩ := E
  have hok' : ma_ok x perR S := fun p hp hb => by
    rw [((hfd p hp).2 hb).1]
    exact hok p hp hb
  have hc : ∀ p, p < 16 → bt x p = true → perR p = per p ∧ quiR p = qui p ∧ (∀ q, q < 4 → anR p q = an p q) ∧ ma_b x h z p = ma_b x h z p := fun p hp hb => ⟨((hfd p hp).2 hb).1, ((hfd p hp).2 hb).2, han p hp hb, rfl⟩
  obtain ⟨w', fl', ph', e, h1, h2⟩ := mx_tick (N := N) (qui := quiR) (an := anR) (fl := fl) (st := strs) hN ht hn hcap hh hz hl (fun p hp => (hfd p hp).1) hok' hrm
  have hcnt : (List.range 16).countP (ma_flS x perR quiR anR (ma_b x h z) S) = (List.range 16).countP (ma_flS x per qui an (ma_b x h z) S) := by
    apply List.countP_congr
    intro p hp
    rw [ma_flS_cong hok hc (List.mem_range.mp hp)]
  rw [hcnt] at e
  refine ⟨w', fl', ph', e, fun q hq => ?_, ma_tick_cong hok hc hst (fun k hk => (hl k hk).2.2.2.1) h2⟩
  rw [h1 q hq, ma_flS_cong hok hc hq]
theorem ma_b_0 (x : Int32) (z : Nat) : ma_b x 0 z = fun _ => 0 := by
  funext p
  unfold ma_b
  rw [if_neg (by omega)]
theorem mx_tick0 {N t n cap z : Nat} (hN : 61 ≤ N) (ht : t + 1 < 2 ^ 30) (hz : z < 2147483647) {x : Int32} {isT ph w per qui perR quiR froms tos delays strs st : Nat → Int32} {an anR : Nat → Nat → Int32} {fr to de : Nat → Nat} {S : ma_S} (E : ma_E x n cap anR an froms tos delays strs fr to de st) (hfd : ma_fd x per qui isT perR quiR) (hok : ma_ok x per S) (hrm : ma_rm t ph w S) (fl : Nat → Int32) :
    ∃ (v : Int32) (w' fl' ph' : Nat → Int32), f_X6_tick N (nI t) w fl isT ph perR quiR (lN z) anR (nI n) cap froms tos delays strs (0 : Int32) = some (v, nI (t + 1), w', fl', ph', lN z) ∧ (∀ q, q < 16 → fl' q = if ma_flS x per qui an (fun _ => 0) S q then 1 else 0) ∧ ma_rm (t + 1) ph' w' (ma_step x per qui an n fr to de st S) := by
  obtain ⟨w', fl', ph', e, h1, h2⟩ := mx_tickR (h := 0) (fl := fl) hN ht (by omega) hz E hfd hok hrm
  rw [ma_b_0] at h1 h2
  exact ⟨_, w', fl', ph', e, h1, h2⟩
theorem mx_fc_36 {N n cap t0 z : Nat} (hN : 5100 ≤ N) (ht : t0 < 2 ^ 29) {x : Int32} {per qui : Nat → Int32} {an anR : Nat → Nat → Int32} {froms tos delays strs st : Nat → Int32} {fr to de : Nat → Nat} (E : ma_E x n cap anR an froms tos delays strs fr to de st) {X : Nat → ma_S} (hX : ∀ i, X (i + 1) = ma_step x per qui an n fr to de st (X i)) (iv : ∀ i, ma_inv x per (X i)) (hz : z < 2147483647) {fT fp fq : Nat → Int32} (hf : ma_fd x per qui fT fp fq) : ∀ (j s c m : Nat) (x2 : Int32) (sT sp sph sq sw fph fw ff : Nat → Int32), s + c + j = 5000 → j < m → c ≤ s + 1 → ma_fd x per qui sT sp sq → ma_rm (t0 + s) sph sw (X s) → ma_rm (t0 + (s + c)) fph fw (X (s + c)) → (∀ d, 1 ≤ d → d ≤ c → ¬ pr_ret (ma_eqv x) X s d) → (2048 ≤ s + 1 → ∃ s0, 1000 ≤ s0 ∧ ∀ d, 1 ≤ d → d ≤ 1000 → ¬ pr_ret (ma_eqv x) X s0 d) → ∃ o, f_X8_findCycle_36 N fT fp fq anR (nI n) cap froms tos delays strs m (nI (s + 1)) x2 (0 : Int32) (nI (s + c)) (lN z) (nI c) (nI (t0 + s)) sT sp sph sq sw (nI (t0 + (s + c))) fph fw ff = some o ∧ o.2.2.2.2.1 = lN z ∧ ((o.2.2.1 = 1 ∧ ∃ s' c', o.2.2.2.2.2.1 = nI c' ∧ 1 ≤ c' ∧ c' ≤ 5001 ∧ pr_ret (ma_eqv x) X s' c' ∧ ∀ d, 1 ≤ d → d < c' → ¬ pr_ret (ma_eqv x) X s' d) ∨ (o.2.2.1 = 0 ∧ ∃ s0, 1000 ≤ s0 ∧ ∀ d, 1 ≤ d → d ≤ 1000 → ¬ pr_ret (ma_eqv x) X s0 d))
  | 0, s, c, m, x2, sT, sp, sph, sq, sw, fph, fw, ff, hk, hm, hc, h1, h2, h3, hn, hh => by
    obtain ⟨m, rfl⟩ : ∃ j, m = j + 1 := ⟨m - 1, by omega⟩
    refine ⟨_, by rw [f_X8_findCycle_36, if_pos (show (5000 : Int32) ≤ nI (s + c) from nI_le (a := 5000) (by omega) (by omega))], rfl, Or.inr ⟨rfl, hh (by omega)⟩⟩
  | j + 1, s, c, m, x2, sT, sp, sph, sq, sw, fph, fw, ff, hk, hm, hc, h1, h2, h3, hn, hh => by
    obtain ⟨m, rfl⟩ : ∃ j, m = j + 1 := ⟨m - 1, by omega⟩
    rw [f_X8_findCycle_36, if_neg (show ¬ (5000 : Int32) ≤ nI (s + c) from nI_ge (a := s + c) (b := 5000) (by omega) (by omega)), if_pos (show (0 : Int32) = 0 from rfl)]
    obtain ⟨v, fw', ff', fph', et, -, hr⟩ := mx_tick0 (z := z) (by omega : 61 ≤ N) (show t0 + (s + c) + 1 < 2 ^ 30 by omega) hz E hf (iv (s + c)).1 h3 ff
    rw [← hX] at hr
    have step : ∀ (s' c' : Nat) (sT sp sph sq sw : Nat → Int32), s' + c' = s + c → c' < s' + 1 → ma_fd x per qui sT sp sq → ma_rm (t0 + s') sph sw (X s') → (∀ d, 1 ≤ d → d ≤ c' → ¬ pr_ret (ma_eqv x) X s' d) → (2048 ≤ s' + 1 → ∃ s0, 1000 ≤ s0 ∧ ∀ d, 1 ≤ d → d ≤ 1000 → ¬ pr_ret (ma_eqv x) X s0 d) → ∃ o, ((f_X6_isLike N (nI (t0 + s')) sT sph (nI (t0 + (s + c) + 1)) fph' sw fw').bind fun o104 => f_X8_findCycle_36 N fT fp fq anR (nI n) cap froms tos delays strs m (nI (s' + 1)) (x2 + 1) o104 (nI (s + c + 1)) (lN z) (nI (c' + 1)) (nI (t0 + s')) sT sp sph sq sw (nI (t0 + (s + c) + 1)) fph' fw' ff') = some o ∧ o.2.2.2.2.1 = lN z ∧ ((o.2.2.1 = 1 ∧ ∃ s' c', o.2.2.2.2.2.1 = nI c' ∧ 1 ≤ c' ∧ c' ≤ 5001 ∧ pr_ret (ma_eqv x) X s' c' ∧ ∀ d, 1 ≤ d → d < c' → ¬ pr_ret (ma_eqv x) X s' d) ∨ (o.2.2.1 = 0 ∧ ∃ s0, 1000 ≤ s0 ∧ ∀ d, 1 ≤ d → d ≤ 1000 → ¬ pr_ret (ma_eqv x) X s0 d)) := by
      intro s' c' sT sp sph sq sw hsc hc' g1 g2 g3 g4
      obtain ⟨v, e, hv⟩ := mx_likeF (N := N) (by omega) (show t0 + s' < 2 ^ 30 by omega) (show t0 + (s + c) + 1 < 2 ^ 30 by omega) (fun p hp => (g1 p hp).1) g2 hr
      rw [e, Option.bind_some]
      have hret : ma_eqv x (X s') (X (s + c + 1)) ↔ pr_ret (ma_eqv x) X s' (c' + 1) := by
        unfold pr_ret
        rw [show s' + (c' + 1) = s + c + 1 by omega]
        exact ⟨fun h => (ma_eqv_equiv x).symm h, fun h => (ma_eqv_equiv x).symm h⟩
      rcases hv with ⟨rfl, hv⟩ | ⟨rfl, hv⟩
      · obtain ⟨m, rfl⟩ : ∃ j, m = j + 1 := ⟨m - 1, by omega⟩
        refine ⟨(nI (s' + 1), x2 + 1, 1, nI (s + c + 1), lN z, nI (c' + 1), nI (t0 + s'), sT, sp, sph, sq, sw, nI (t0 + (s + c) + 1), fph', fw', ff'), ?_, rfl, Or.inl ⟨rfl, s', c' + 1, rfl, by omega, by omega, hret.mp hv, fun d q1 q2 => g3 d q1 (by omega)⟩⟩
        · rw [f_X8_findCycle_36, if_neg (show ¬ (1 : Int32) = 0 by decide)]
          split <;> rfl
      · have := mx_fc_36 hN ht E hX iv hz hf j s' (c' + 1) m (x2 + 1) sT sp sph sq sw fph' fw' ff' (by omega) (by omega) (by omega) g1 g2 (by rw [show t0 + (s' + (c' + 1)) = t0 + (s + c) + 1 by omega, show s' + (c' + 1) = s + c + 1 by omega]; exact hr) (fun d q1 q2 => by
          by_cases q : d = c' + 1
          · subst q; exact fun w => hv (hret.mpr w)
          · exact g3 d q1 (by omega)) g4
        rw [show t0 + (s' + (c' + 1)) = t0 + (s + c) + 1 by omega, show s' + (c' + 1) = s + c + 1 by omega] at this
        exact this
    by_cases hj : c = s + 1
    · rw [if_pos (show nI c = nI (s + 1) by rw [hj])]
      obtain ⟨a', b', c', d', w', e, k1, k2⟩ := mx_takes (N := N) (by omega) hf h3 sT sp sph sq sw
      rw [e, Option.bind_some]
      show ∃ o, ((f_X6_tick N (nI (t0 + (s + c))) fw ff fT fph fp fq (lN z) anR (nI n) cap froms tos delays strs (0 : Int32)).bind _) = some o ∧ _
      rw [et, Option.bind_some]
      have := step (s + c) 0 a' b' c' d' w' (by omega) (by omega) k1 k2 (fun d q1 q2 => by omega) (fun q => ⟨s, by omega, fun d q1 q2 => hn d q1 (by omega)⟩)
      have e2 : nI (s + 1) * (2 : Int32) = nI (s + c + 1) := by
        rw [show (2 : Int32) = nI 2 from rfl, pk_mul, show (s + 1) * 2 = s + c + 1 by omega]
      rw [e2, nI_1]
      exact this
    · rw [if_neg (show ¬ nI c = nI (s + 1) from fun q => hj ((nI_eq (by omega) (by omega)).mp q)), et, Option.bind_some]
      have := step s c sT sp sph sq sw rfl (by omega) h1 h2 hn hh
      rw [← nI_1 c, ← nI_1 (s + c)] at this
      exact this

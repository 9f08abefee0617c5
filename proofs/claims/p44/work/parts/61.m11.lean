/-! rows of mine (pure): the reference's search -/
def ma_E (x : Int32) (n cap : Nat) (anR an : Nat → Nat → Int32) (froms tos delays strs : Nat → Int32) (fr to de : Nat → Nat) (st : Nat → Int32) : Prop := n ≤ 60 ∧ n ≤ cap ∧ ma_lk n froms tos delays fr to de ∧ (∀ k, k < n → strs k = st k) ∧ ∀ p, p < 16 → bt x p = true → ∀ q, q < 4 → anR p q = an p q
theorem ma_np_cong {x : Int32} {per per' qui qui' : Nat → Int32} {an an' : Nat → Nat → Int32} {b b' : Nat → Int32} {S : ma_S} (hok : ma_ok x per S) {p : Nat} (hp : p < 16) (hb : bt x p = true) (h1 : per' p = per p) (h2 : qui' p = qui p) (h3 : ∀ q, q < 4 → an' p q = an p q) (h4 : b' p = b p) : ma_np per' qui' an' S.1 (fun p => S.2 p 1) b' p = ma_np per qui an S.1 (fun p => S.2 p 1) b p := by
  obtain ⟨a, c, ea, ec, hac, hc⟩ := hok p hp hb
  have hq := mx_quarter hac hc
  have hq4 : 4 * a / c < 2 ^ 31 := by omega
  unfold ma_np ma_val
  rw [h1, h2, h4, ea, ec, hq.1, nI_clamp hq4, h3 _ hq.2]
theorem ma_flS_cong {x : Int32} {per per' qui qui' : Nat → Int32} {an an' : Nat → Nat → Int32} {b b' : Nat → Int32} {S : ma_S} (hok : ma_ok x per S) (h : ∀ p, p < 16 → bt x p = true → per' p = per p ∧ qui' p = qui p ∧ (∀ q, q < 4 → an' p q = an p q) ∧ b' p = b p) {p : Nat} (hp : p < 16) : ma_flS x per' qui' an' b' S p = ma_flS x per qui an b S p := by
  unfold ma_flS
  cases hb : bt x p with
  | false => rw [Bool.false_and, Bool.false_and]
  | true =>
    obtain ⟨h1, h2, h3, h4⟩ := h p hp hb
    rw [Bool.true_and, Bool.true_and]
    unfold ma_fl
    rw [ma_np_cong hok hp hb h1 h2 h3 h4, h1]
theorem ma_tick_cong {x : Int32} {per per' qui qui' : Nat → Int32} {an an' : Nat → Nat → Int32} {n : Nat} {fr to de : Nat → Nat} {st st' b b' : Nat → Int32} {S : ma_S} (hok : ma_ok x per S) (h : ∀ p, p < 16 → bt x p = true → per' p = per p ∧ qui' p = qui p ∧ (∀ q, q < 4 → an' p q = an p q) ∧ b' p = b p) (hst : ∀ k, k < n → st' k = st k) (hfr : ∀ k, k < n → fr k < 16) {t : Nat} {ph w : Nat → Int32} (hrm : ma_rm t ph w (ma_tick x per' qui' an' n fr to de st' b' S)) : ma_rm t ph w (ma_tick x per qui an n fr to de st b S) := by
  obtain ⟨r1, r2, r3⟩ := hrm
  refine ⟨fun p hp => ?_, fun p d hp hd1 hd2 => ?_, r3⟩
  · rw [r1 p hp]
    show (if bt x p then _ else _) = (if bt x p then _ else _)
    by_cases hb : bt x p = true
    · obtain ⟨h1, h2, h3, h4⟩ := h p hp hb
      have e := ma_np_cong (b := b) (b' := b') hok hp hb h1 h2 h3 h4
      have e2 : ma_fl per' qui' an' S.1 (fun p => S.2 p 1) b' p = ma_fl per qui an S.1 (fun p => S.2 p 1) b p := by
        unfold ma_fl
        rw [e, h1]
      rw [if_pos hb, if_pos hb, e, e2]
    · rw [if_neg hb, if_neg hb]
  · rw [r2 p d hp hd1 hd2]
    show (if d < 30 then S.2 p (d + 1) else 0) + _ = (if d < 30 then S.2 p (d + 1) else 0) + _
    have hs : ma_sum (fun k => if ma_flS x per' qui' an' b' S (fr k) = true ∧ to k = p ∧ de k = d then st' k else 0) n = ma_sum (fun k => if ma_flS x per qui an b S (fr k) = true ∧ to k = p ∧ de k = d then st k else 0) n := ma_sum_congr (fun k hk => by rw [ma_flS_cong hok h (hfr k hk), hst k hk])
    rw [hs]
theorem ma_b_0 (x : Int32) (z : Nat) : ma_b x 0 z = fun _ => 0 := by
  funext p
  unfold ma_b
  rw [if_neg (by omega)]

/-! rows of mine (pure): what a tick keeps, and states that are alike -/
theorem ma_sum_nI {t : Nat → Int32} : ∀ {n : Nat}, (∀ k, k < n → ∃ s : Nat, s ≤ 9 ∧ t k = nI s) → ∃ s : Nat, s ≤ 9 * n ∧ ma_sum t n = nI s
  | 0, _ => ⟨0, by omega, rfl⟩
  | n + 1, h => by
    obtain ⟨s, hs, e⟩ := ma_sum_nI (n := n) (fun k hk => h k (by omega))
    obtain ⟨u, hu, e2⟩ := h n (by omega)
    refine ⟨s + u, by omega, ?_⟩
    show ma_sum t n + t n = _
    rw [e, e2, nI_add]
/-- answers from -9 to 9 -/
def ma_an (an : Nat → Nat → Int32) : Prop := ∀ p q, p < 16 → q < 4 → -9 ≤ (an p q).toInt ∧ (an p q).toInt ≤ 9
def ma_st (n : Nat) (st : Nat → Int32) : Prop := ∀ k, k < n → ∃ s : Nat, s ≤ 9 ∧ st k = nI s
def ma_wb (S : ma_S) : Prop := ∀ p d, p < 16 → 1 ≤ d → d ≤ 30 → ∃ w : Nat, w ≤ 540 * (31 - d) ∧ S.2 p d = nI w
def ma_inv (x : Int32) (per : Nat → Int32) (S : ma_S) : Prop := ma_ok x per S ∧ ma_wb S
theorem ma_val_nI {per qui : Nat → Int32} {an : Nat → Nat → Int32} (han : ma_an an) {ph co : Nat → Int32} {p a c w : Nat} (hp : p < 16) (ea : ph p = nI a) (ec : per p = nI c) (hac : a < c) (hc : c < 100) (ew : co p = nI w) (hw : w ≤ 16200) : ∃ v : Nat, v ≤ 150000 ∧ ma_val per qui an ph co p = nI v := by
  have hq := mx_quarter hac hc
  have hq4 : 4 * a / c < 2 ^ 31 := by omega
  unfold ma_val
  rw [ea, ec, ew, hq.1, nI_clamp hq4]
  obtain ⟨b1, b2⟩ := han p (4 * a / c) hp hq.2
  generalize an p (4 * a / c) = e at b1 b2
  have h1 : ∃ y : Int, -146000 ≤ y ∧ y ≤ 146000 ∧ (nI a + (if nI a < qui p then 0 else e * nI w)).toInt = y := by
    have hew : (e * nI w).toInt = e.toInt * w := by
      rw [Int32.toInt_mul, nI_toInt (by omega)]
      apply Int.bmod_eq_of_le
      · have : -145800 ≤ e.toInt * (w : Int) := by
          have : e.toInt * (w : Int) ≥ -9 * (w : Int) := Int.mul_le_mul_of_nonneg_right b1 (by omega)
          omega
        omega
      · have : e.toInt * (w : Int) ≤ 145800 := by
          have : e.toInt * (w : Int) ≤ 9 * (w : Int) := Int.mul_le_mul_of_nonneg_right b2 (by omega)
          omega
        omega
    have hlo : -145800 ≤ e.toInt * (w : Int) := by
      have : e.toInt * (w : Int) ≥ -9 * (w : Int) := Int.mul_le_mul_of_nonneg_right b1 (by omega)
      omega
    have hhi : e.toInt * (w : Int) ≤ 145800 := by
      have : e.toInt * (w : Int) ≤ 9 * (w : Int) := Int.mul_le_mul_of_nonneg_right b2 (by omega)
      omega
    by_cases hqu : nI a < qui p
    · rw [if_pos hqu]
      refine ⟨a, by omega, by omega, ?_⟩
      rw [Int32.add_zero, nI_toInt (by omega)]
    · rw [if_neg hqu]
      refine ⟨a + e.toInt * w, by omega, by omega, ?_⟩
      rw [Int32.toInt_add, hew, nI_toInt (by omega)]
      apply Int.bmod_eq_of_le
      · omega
      · omega
  obtain ⟨y, y1, y2, ey⟩ := h1
  generalize nI a + (if nI a < qui p then 0 else e * nI w) = z at ey
  by_cases h0 : (0 : Int32) < z
  · rw [if_pos h0]
    rw [Int32.lt_iff_toInt_lt] at h0
    have e0 : (0 : Int32).toInt = 0 := by decide
    refine ⟨y.toNat, by omega, ?_⟩
    apply Int32.toInt_inj.mp
    rw [nI_toInt (by omega)]
    omega
  · rw [if_neg h0]
    exact ⟨0, by omega, rfl⟩
theorem ma_inv_tick {x : Int32} {per qui : Nat → Int32} {an : Nat → Nat → Int32} {n : Nat} {fr to de : Nat → Nat} {st b : Nat → Int32} {S : ma_S} (hn : n ≤ 60) (han : ma_an an) (hst : ma_st n st) (hb : ∀ p, b p = 0 ∨ b p = 1) (h : ma_inv x per S) : ma_inv x per (ma_tick x per qui an n fr to de st b S) := by
  obtain ⟨hok, hwb⟩ := h
  refine ⟨?_, ?_⟩
  · intro p hp hbp
    obtain ⟨a, c, ea, ec, hac, hc⟩ := hok p hp hbp
    obtain ⟨w, hw, ew⟩ := hwb p 1 hp (by omega) (by omega)
    obtain ⟨v, hv, ev⟩ := ma_val_nI (qui := qui) (co := fun p => S.2 p 1) han hp ea ec hac hc ew (by omega)
    have enp : ∃ u : Nat, u ≤ 150002 ∧ ma_np per qui an S.1 (fun p => S.2 p 1) b p = nI u := by
      unfold ma_np
      rw [ev, nI_1]
      rcases hb p with h | h
      · exact ⟨v + 1, by omega, by rw [h, Int32.add_zero]⟩
      · exact ⟨v + 1 + 1, by omega, by rw [h, nI_1]⟩
    obtain ⟨u, hu, eu⟩ := enp
    show ∃ a c : Nat, (if bt x p then (if ma_fl per qui an S.1 (fun p => S.2 p 1) b p then 0 else ma_np per qui an S.1 (fun p => S.2 p 1) b p) else S.1 p) = nI a ∧ _
    rw [if_pos hbp]
    by_cases hf : ma_fl per qui an S.1 (fun p => S.2 p 1) b p = true
    · rw [if_pos hf]
      exact ⟨0, c, rfl, ec, by omega, hc⟩
    · rw [if_neg hf, eu]
      refine ⟨u, c, rfl, ec, ?_, hc⟩
      unfold ma_fl at hf
      rw [eu, ec] at hf
      simp only [decide_eq_true_eq, Decidable.not_not] at hf
      exact (nI_ltI (by omega) (by omega)).mp hf
  · intro p d hp hd1 hd2
    have hs : ∃ s : Nat, s ≤ 9 * n ∧ ma_sum (fun k => if ma_flS x per qui an b S (fr k) = true ∧ to k = p ∧ de k = d then st k else 0) n = nI s := by
      apply ma_sum_nI
      intro k hk
      by_cases c : ma_flS x per qui an b S (fr k) = true ∧ to k = p ∧ de k = d
      · obtain ⟨s, hs, es⟩ := hst k hk
        exact ⟨s, hs, by rw [if_pos c, es]⟩
      · exact ⟨0, by omega, by rw [if_neg c]; rfl⟩
    obtain ⟨s, hs, es⟩ := hs
    show ∃ w : Nat, w ≤ 540 * (31 - d) ∧ (if d < 30 then S.2 p (d + 1) else 0) + _ = nI w
    rw [es]
    by_cases hd : d < 30
    · obtain ⟨w, hw, ew⟩ := hwb p (d + 1) hp (by omega) (by omega)
      rw [if_pos hd, ew, nI_add]
      exact ⟨w + s, by omega, rfl⟩
    · rw [if_neg hd, Int32.zero_add]
      exact ⟨s, by omega, rfl⟩
/-- states that go on alike: phases and signals at places with a beater -/
def ma_eqv (x : Int32) (S T : ma_S) : Prop := ∀ p, p < 16 → bt x p = true → S.1 p = T.1 p ∧ ∀ d, 1 ≤ d → d ≤ 30 → S.2 p d = T.2 p d
theorem ma_eqv_equiv (x : Int32) : Equivalence (ma_eqv x) :=
  ⟨fun _ _ _ _ => ⟨rfl, fun _ _ _ => rfl⟩, fun h p hp hb => ⟨(h p hp hb).1.symm, fun d h1 h2 => ((h p hp hb).2 d h1 h2).symm⟩, fun h g p hp hb => ⟨(h p hp hb).1.trans (g p hp hb).1, fun d h1 h2 => ((h p hp hb).2 d h1 h2).trans ((g p hp hb).2 d h1 h2)⟩⟩
theorem ma_eqv_fl {x : Int32} {per qui : Nat → Int32} {an : Nat → Nat → Int32} {b : Nat → Int32} {S T : ma_S} (h : ma_eqv x S T) {p : Nat} (hp : p < 16) : ma_flS x per qui an b S p = ma_flS x per qui an b T p := by
  unfold ma_flS
  cases hb : bt x p with
  | false => rw [Bool.false_and, Bool.false_and]
  | true =>
    obtain ⟨h1, h2⟩ := h p hp hb
    show (true && _) = (true && _)
    rw [ma_fl_congr (c2 := fun p => T.2 p 1) (b2 := b) h1 (h2 1 (by omega) (by omega)) rfl]
theorem ma_eqv_tick {x : Int32} {per qui : Nat → Int32} {an : Nat → Nat → Int32} {n : Nat} {fr to de : Nat → Nat} {st b : Nat → Int32} {S T : ma_S} (hfr : ∀ k, k < n → fr k < 16) (h : ma_eqv x S T) : ma_eqv x (ma_tick x per qui an n fr to de st b S) (ma_tick x per qui an n fr to de st b T) := by
  intro p hp hb
  obtain ⟨h1, h2⟩ := h p hp hb
  refine ⟨?_, ?_⟩
  · show (if bt x p then _ else _) = (if bt x p then _ else _)
    rw [if_pos hb, if_pos hb, ma_fl_congr (c2 := fun p => T.2 p 1) (b2 := b) h1 (h2 1 (by omega) (by omega)) rfl, ma_np_congr (c2 := fun p => T.2 p 1) (b2 := b) h1 (h2 1 (by omega) (by omega)) rfl]
  · intro d hd1 hd2
    show (if d < 30 then S.2 p (d + 1) else 0) + _ = (if d < 30 then T.2 p (d + 1) else 0) + _
    have hs : ma_sum (fun k => if ma_flS x per qui an b S (fr k) = true ∧ to k = p ∧ de k = d then st k else 0) n = ma_sum (fun k => if ma_flS x per qui an b T (fr k) = true ∧ to k = p ∧ de k = d then st k else 0) n := ma_sum_congr (fun k hk => by rw [ma_eqv_fl h (hfr k hk)])
    rw [hs]
    by_cases hd : d < 30
    · rw [if_pos hd, if_pos hd, h2 (d + 1) (by omega) (by omega)]
    · rw [if_neg hd, if_neg hd]

/-! rows of mine (pure): a tick, for the class and for the reference -/
theorem ma_sum_congr {t u : Nat → Int32} : ∀ {n : Nat}, (∀ k, k < n → t k = u k) → ma_sum t n = ma_sum u n
  | 0, _ => rfl
  | n + 1, h => by
    show ma_sum t n + t n = ma_sum u n + u n
    rw [ma_sum_congr (fun k hk => h k (by omega)), h n (by omega)]
theorem ma_sum_0 {t : Nat → Int32} : ∀ {n : Nat}, (∀ k, k < n → t k = 0) → ma_sum t n = 0
  | 0, _ => rfl
  | n + 1, h => by
    show ma_sum t n + t n = 0
    rw [ma_sum_0 (fun k hk => h k (by omega)), h n (by omega)]
    rfl
theorem ma_np_congr {per qui : Nat → Int32} {an : Nat → Nat → Int32} {ph ph2 c c2 b b2 : Nat → Int32} {p : Nat} (h1 : ph p = ph2 p) (h2 : c p = c2 p) (h3 : b p = b2 p) : ma_np per qui an ph c b p = ma_np per qui an ph2 c2 b2 p := by
  unfold ma_np ma_val
  rw [h1, h2, h3]
theorem ma_fl_congr {per qui : Nat → Int32} {an : Nat → Nat → Int32} {ph ph2 c c2 b b2 : Nat → Int32} {p : Nat} (h1 : ph p = ph2 p) (h2 : c p = c2 p) (h3 : b p = b2 p) : ma_fl per qui an ph c b p = ma_fl per qui an ph2 c2 b2 p := by
  unfold ma_fl
  rw [ma_np_congr h1 h2 h3]
/-- phases, and what is under way to a place in so many ticks -/
abbrev ma_S : Type := (Nat → Int32) × (Nat → Nat → Int32)
def ma_flS (x : Int32) (per qui : Nat → Int32) (an : Nat → Nat → Int32) (b : Nat → Int32) (S : ma_S) (p : Nat) : Bool := bt x p && ma_fl per qui an S.1 (fun p => S.2 p 1) b p
def ma_tick (x : Int32) (per qui : Nat → Int32) (an : Nat → Nat → Int32) (n : Nat) (fr to de : Nat → Nat) (st : Nat → Int32) (b : Nat → Int32) (S : ma_S) : ma_S :=
  (fun p => if bt x p then (if ma_fl per qui an S.1 (fun p => S.2 p 1) b p then 0 else ma_np per qui an S.1 (fun p => S.2 p 1) b p) else S.1 p,
   fun p d => (if d < 30 then S.2 p (d + 1) else 0) + ma_sum (fun k => if ma_flS x per qui an b S (fr k) = true ∧ to k = p ∧ de k = d then st k else 0) n)
def ma_rc (r : Nat) (ph co : Nat → Int32) (S : ma_S) : Prop := r < 32 ∧ (∀ p, p < 16 → ph p = S.1 p) ∧ (∀ p d, p < 16 → 1 ≤ d → d ≤ 30 → co ((r + d) % 32 * 16 + p) = S.2 p d) ∧ (∀ p, p < 16 → co (r * 16 + p) = 0) ∧ ∀ p, p < 16 → co ((r + 31) % 32 * 16 + p) = 0
/-- the phases of the beaters that are there -/
def ma_ok (x : Int32) (per : Nat → Int32) (S : ma_S) : Prop := ∀ p, p < 16 → bt x p = true → ∃ a c : Nat, S.1 p = nI a ∧ per p = nI c ∧ a < c ∧ c < 100
theorem mx_advance {N r n : Nat} (hN : 61 ≤ N) (hn : n ≤ 60) {x x2 : Int32} {places ph co per qui ans froms tos delays st : Nat → Int32} {fr to de : Nat → Nat} {S : ma_S} (hl : ma_lk n froms tos delays fr to de) (hpl : ∀ i, i < (ms_L x).length → places i = nI ((ms_L x).getD i 0)) (hok : ma_ok x per S) (hrc : ma_rc r ph co S) :
    ∃ (fb : Int32) (ph' co' : Nat → Int32), f_X2_advance N (nI r) (nI (ms_L x).length) (nI n) places ph co per qui ans froms delays tos st x2 = some (fb, nI ((r + 1) % 32), ph', co') ∧ (∀ q, q < 32 → bt fb q = (decide (q < 16) && ma_flS x per qui (fun p q => ans (p * 4 + q)) (fun p => if bt x2 p then 1 else 0) S q)) ∧ ma_rc ((r + 1) % 32) ph' co' (ma_tick x per qui (fun p q => ans (p * 4 + q)) n fr to de st (fun p => if bt x2 p then 1 else 0) S) := by
  obtain ⟨hr, h1, h2, h3, h4⟩ := hrc
  have hr' : (r + 1) % 32 < 32 := Nat.mod_lt _ (by omega)
  have hlen : (ms_L x).length ≤ 16 := ms_l_len x 16
  have hc1 : ∀ p, p < 16 → co ((r + 1) % 32 * 16 + p) = S.2 p 1 := fun p hp => h2 p 1 hp (by omega) (by omega)
  have hok2 : ∀ p, p < 16 → bt x p = true → ∃ a c : Nat, ph p = nI a ∧ per p = nI c ∧ a < c ∧ c < 100 := fun p hp hb => by
    rw [h1 p hp]
    exact hok p hp hb
  obtain ⟨fb, ph', e25, hb, hp⟩ := mx_adv_25 (N := N) hr' (x2 := x2) (ans := ans) (qui := qui) (coming := co) hpl hok2 rfl rfl (ms_L x).length 0 N 0 ph (by omega) (by omega) (fun q hq => by rw [b_0]; simp) (fun q hq => by simp)
  obtain ⟨co1, e118, hco1⟩ := mx_adv_118 (N := N) hr' co 16 0 N co rfl (by omega) (fun j => by rw [if_neg (by omega)])
  have hfl : ∀ q, q < 16 → ma_fl per qui (fun p q => ans (p * 4 + q)) ph (fun p => co ((r + 1) % 32 * 16 + p)) (fun p => if bt x2 p then 1 else 0) q = ma_fl per qui (fun p q => ans (p * 4 + q)) S.1 (fun p => S.2 p 1) (fun p => if bt x2 p then 1 else 0) q := fun q hq => ma_fl_congr (h1 q hq) (hc1 q hq) rfl
  have hbits : ∀ q, q < 32 → bt fb q = (decide (q < 16) && ma_flS x per qui (fun p q => ans (p * 4 + q)) (fun p => if bt x2 p then 1 else 0) S q) := by
    intro q hq
    rw [hb q hq]
    by_cases h : q < 16
    · rw [hfl q h]
      unfold ma_flS
      have : decide (q ∈ ms_L x) = bt x q := by
        cases hbq : bt x q <;> simp [ms_l_mem, h, hbq]
      rw [this]
      simp [h]
    · have : ¬ q ∈ ms_L x := fun z => h (ms_l_mem.mp z).1
      simp [h, this]
  -- both ways out
  have hout : ∃ co' : Nat → Int32, f_X2_advance N (nI r) (nI (ms_L x).length) (nI n) places ph co per qui ans froms delays tos st x2 = some (fb, nI ((r + 1) % 32), ph', co') ∧ ∀ j, co' j = co1 j + ma_sum (fun k => if bt fb (fr k) ∧ ((r + 1) % 32 + de k) % 32 * 16 + to k = j then st k else 0) n := by
    have er : (nI r + (1 : Int32)) &&& (31 : Int32) = nI ((r + 1) % 32) := by
      rw [nI_1, pk_andN (by omega) 5 (by decide)]
    have e0 : f_X2_startOfRow N (nI ((r + 1) % 32)) (0 : Int32) = some (nI ((r + 1) % 32 * 16)) := by
      have := mx_row (N := N) ((r + 1) % 32) 0 (by omega)
      rw [show (((r + 1) % 32 + 0) % 32) = (r + 1) % 32 by omega] at this
      exact this
    have e25 : f_X2_advance_25 N (nI (ms_L x).length) places co per qui ans x2 (nI ((r + 1) % 32 * 16)) N (0 : Int32) (0 : Int32) ph = some (fb, nI (ms_L x).length, ph') := e25
    have e118 : f_X2_advance_118 N (nI ((r + 1) % 32 * 16)) N (0 : Int32) co = some (nI 16, co1) := e118
    unfold f_X2_advance
    rw [er, e0, Option.bind_some, e25, Option.bind_some, e118, Option.bind_some]
    by_cases hz : fb = 0
    · refine ⟨co1, by rw [if_pos hz], fun j => ?_⟩
      rw [ma_sum_0 (fun k _ => by rw [hz, b_0]; simp), Int32.add_zero]
    · obtain ⟨co2, e2, hco2⟩ := mx_send_2 (N := N) hr' hn hl fb co1 (st := st) n 0 N co1 (by omega) (by omega) (fun j => by show _ = co1 j + 0; rw [Int32.add_zero])
      refine ⟨co2, ?_, hco2⟩
      have e2 : f_X2_sendSignals_2 N (nI n) froms (nI ((r + 1) % 32)) delays tos st fb N (0 : Int32) co1 = some (nI n, co2) := e2
      rw [if_neg hz]
      unfold f_X2_sendSignals
      rw [e2]
      rfl
  obtain ⟨co', e, hco⟩ := hout
  have hsum : ∀ p d, p < 16 → 1 ≤ d → d ≤ 30 → ma_sum (fun k => if bt fb (fr k) ∧ ((r + 1) % 32 + de k) % 32 * 16 + to k = ((r + 1) % 32 + d) % 32 * 16 + p then st k else 0) n = ma_sum (fun k => if ma_flS x per qui (fun p q => ans (p * 4 + q)) (fun p => if bt x2 p then 1 else 0) S (fr k) = true ∧ to k = p ∧ de k = d then st k else 0) n := by
    intro p d hp hd1 hd2
    apply ma_sum_congr
    intro k hk
    obtain ⟨-, -, -, b1, b2, b3, b4⟩ := hl k hk
    have hbk : bt fb (fr k) = ma_flS x per qui (fun p q => ans (p * 4 + q)) (fun p => if bt x2 p then 1 else 0) S (fr k) := by rw [hbits (fr k) (by omega)]; simp [b1]
    have : (((r + 1) % 32 + de k) % 32 * 16 + to k = ((r + 1) % 32 + d) % 32 * 16 + p) ↔ (to k = p ∧ de k = d) := by
      constructor
      · intro q; omega
      · rintro ⟨rfl, rfl⟩; rfl
    simp only [hbk, this]
  have hz : ∀ p d, p < 16 → d = 0 ∨ d = 31 → ma_sum (fun k => if bt fb (fr k) ∧ ((r + 1) % 32 + de k) % 32 * 16 + to k = ((r + 1) % 32 + d) % 32 * 16 + p then st k else 0) n = 0 := by
    intro p d hp hd
    apply ma_sum_0
    intro k hk
    obtain ⟨-, -, -, b1, b2, b3, b4⟩ := hl k hk
    rw [if_neg]
    rintro ⟨-, q⟩
    omega
  refine ⟨fb, ph', co', e, hbits, hr', ?_, ?_, ?_, ?_⟩
  · intro p hp16
    rw [hp p hp16]
    show _ = if bt x p then _ else _
    rw [hfl p hp16, ma_np_congr (c2 := fun p => S.2 p 1) (b2 := fun p => if bt x2 p then 1 else 0) (h1 p hp16) (hc1 p hp16) rfl, h1 p hp16]
    cases hbp : bt x p <;> simp [ms_l_mem, hp16, hbp]
  · intro p d hp16 hd1 hd2
    rw [hco, hsum p d hp16 hd1 hd2, hco1, if_neg (by omega)]
    show _ = (if d < 30 then S.2 p (d + 1) else 0) + _
    by_cases hd : d < 30
    · rw [if_pos hd, ← h2 p (d + 1) hp16 (by omega) (by omega), show ((r + 1) % 32 + d) % 32 = (r + (d + 1)) % 32 by omega]
    · rw [if_neg hd, ← h4 p hp16, show ((r + 1) % 32 + d) % 32 = (r + 31) % 32 by omega]
  · intro p hp16
    have hz0 := hz p 0 hp16 (Or.inl rfl)
    rw [show ((r + 1) % 32 + 0) % 32 = (r + 1) % 32 by omega] at hz0
    rw [hco, hz0, hco1, if_pos (by omega)]
    rfl
  · intro p hp16
    rw [hco, hz p 31 hp16 (Or.inr rfl), hco1, if_neg (by omega), Int32.add_zero, ← h3 p hp16, show ((r + 1) % 32 + 31) % 32 = r by omega]

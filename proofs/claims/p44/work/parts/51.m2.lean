/-! rows of mine (pure): a tick of the class -/
theorem ms_pos {a : Nat} (h : a < 2 ^ 31) : (if (0 : Int32) < nI a then nI a else 0) = nI a := by
  by_cases h0 : a = 0
  · subst h0; rfl
  · rw [if_pos (show (0 : Int32) < nI a from nI_lt (a := 0) (by omega) h)]
/-- where a beater's phase comes to by what comes, before it goes on -/
def ma_val (per qui : Nat → Int32) (an : Nat → Nat → Int32) (ph c : Nat → Int32) (p : Nat) : Int32 :=
  if (0 : Int32) < ph p + (if ph p < qui p then 0 else an p (((4 : Int32) * ph p) / per p).toNatClampNeg * c p) then ph p + (if ph p < qui p then 0 else an p (((4 : Int32) * ph p) / per p).toNatClampNeg * c p) else 0
theorem mx_quarter {a c : Nat} (ha : a < c) (hc : c < 100) : ((4 : Int32) * nI a) / nI c = nI (4 * a / c) ∧ 4 * a / c < 4 := by
  refine ⟨?_, ?_⟩
  · rw [show (4 : Int32) = nI 4 from rfl, pk_mul, pk_div (by omega) (by omega) (by omega)]
  · rw [Nat.div_lt_iff_lt_mul (by omega)]
    omega
theorem mx_pulled {N p a c : Nat} (hp : p < 16) {per qui ans ph co : Nat → Int32} (hph : ph p = nI a) (hper : per p = nI c) (ha : a < c) (hc : c < 100) : f_X1_pulled N per qui ans (nI p) (ph p) (co p) = some (ma_val per qui (fun p q => ans (p * 4 + q)) ph co p) := by
  have hq := mx_quarter ha hc
  have e4 : nI p * (4 : Int32) + (4 : Int32) * nI a / nI c = nI (p * 4 + 4 * a / c) := by
    rw [hq.1, show (4 : Int32) = nI 4 from rfl, pk_mul, nI_add]
  unfold f_X1_pulled ma_val
  simp only [nI_clamp (show p < 2 ^ 31 by omega), hph, hper]
  rw [mg_g hp (by omega)]
  by_cases h0 : co p = 0
  · rw [if_pos h0, h0]
    simp only [Int32.mul_zero, ite_self, Int32.add_zero]
    rw [ms_pos (by omega)]
  · rw [if_neg h0, mg_g hp (by omega)]
    by_cases hqu : nI a < qui p
    · rw [if_pos hqu, if_pos hqu, Int32.add_zero, ms_pos (by omega)]
    · rw [if_neg hqu, if_neg (nI_pos (by omega)), if_pos (nI_lt ha (by omega)), mg_nz (by omega) (by omega), e4, mg_g (by omega) (by omega), if_neg hqu, hq.1, nI_clamp (show p * 4 + 4 * a / c < 2 ^ 31 by omega), nI_clamp (show 4 * a / c < 2 ^ 31 by omega)]
theorem mx_row {N : Nat} (r d : Nat) (h : r + d < 2 ^ 31) : f_X2_startOfRow N (nI r) (nI d) = some (nI ((r + d) % 32 * 16)) := by
  unfold f_X2_startOfRow
  rw [nI_add, pk_andN (by omega) 5 (by decide), show (16 : Int32) = nI 16 from rfl, pk_mul]
/-- a beater's phase ahead of its flash -/
def ma_np (per qui : Nat → Int32) (an : Nat → Nat → Int32) (ph c : Nat → Int32) (b : Nat → Int32) (p : Nat) : Int32 := ma_val per qui an ph c p + 1 + b p
def ma_fl (per qui : Nat → Int32) (an : Nat → Nat → Int32) (ph c : Nat → Int32) (b : Nat → Int32) (p : Nat) : Bool := decide (¬ ma_np per qui an ph c b p < per p)
theorem ms_take {l : List Nat} {i : Nat} (h : i < l.length) : l.take (i + 1) = l.take i ++ [l.getD i 0] := by
  rw [List.take_succ_eq_append_getElem h, ms_gd h]
theorem ms_not {l : List Nat} (hn : l.Nodup) {i : Nat} (h : i < l.length) : l.getD i 0 ∉ l.take i := by
  intro hm
  have h2 : (l.take (i + 1)).Nodup := hn.sublist (List.take_sublist _ _)
  rw [ms_take h, List.nodup_append] at h2
  exact h2.2.2 _ hm _ (List.mem_singleton.mpr rfl) rfl
theorem mx_adv_25 {N s0 : Nat} (hs : s0 < 32) {x x2 : Int32} {places coming per qui ans S1 : Nat → Int32} (hpl : ∀ i, i < (ms_L x).length → places i = nI ((ms_L x).getD i 0)) (hok : ∀ p, p < 16 → bt x p = true → ∃ a c : Nat, S1 p = nI a ∧ per p = nI c ∧ a < c ∧ c < 100) {np : Nat → Int32} {fl : Nat → Bool} (hnp : np = ma_np per qui (fun p q => ans (p * 4 + q)) S1 (fun p => coming (s0 * 16 + p)) (fun p => if bt x2 p then 1 else 0)) (hfl : fl = ma_fl per qui (fun p q => ans (p * 4 + q)) S1 (fun p => coming (s0 * 16 + p)) (fun p => if bt x2 p then 1 else 0)) :
    ∀ (k i m : Nat) (x4 : Int32) (ph : Nat → Int32), i + k = (ms_L x).length → k < m → (∀ q, q < 32 → bt x4 q = (decide (q ∈ (ms_L x).take i) && fl q)) → (∀ q, q < 16 → ph q = if q ∈ (ms_L x).take i then (if fl q then 0 else np q) else S1 q) → ∃ (x4' : Int32) (ph' : Nat → Int32), f_X2_advance_25 N (nI (ms_L x).length) places coming per qui ans x2 (nI (s0 * 16)) m x4 (nI i) ph = some (x4', nI (ms_L x).length, ph') ∧ (∀ q, q < 32 → bt x4' q = (decide (q ∈ ms_L x) && fl q)) ∧ ∀ q, q < 16 → ph' q = if q ∈ ms_L x then (if fl q then 0 else np q) else S1 q
  | 0, i, m, x4, ph, hi, hm, hb, hp => by
    obtain ⟨m, rfl⟩ : ∃ j, m = j + 1 := ⟨m - 1, by omega⟩
    have hi : i = (ms_L x).length := by omega
    subst hi
    rw [List.take_length] at hb hp
    have hlen : (ms_L x).length ≤ 16 := ms_l_len x 16
    exact ⟨x4, ph, by rw [f_X2_advance_25, if_pos (nI_le (Nat.le_refl _) (by omega))], hb, hp⟩
  | k + 1, i, m, x4, ph, hi, hm, hb, hp => by
    obtain ⟨m, rfl⟩ : ∃ j, m = j + 1 := ⟨m - 1, by omega⟩
    have hlen : (ms_L x).length ≤ 16 := ms_l_len x 16
    have hil : i < (ms_L x).length := by omega
    obtain ⟨hp16, hbp⟩ := ms_l_getD hil
    have hpi := hpl i hil
    have hnot := ms_not (ms_l_nodup x 16) hil
    have htk := ms_take hil
    generalize (ms_L x).getD i 0 = p at hp16 hbp hpi hnot htk
    obtain ⟨a, c, ea, ec, hac, hc⟩ := hok p hp16 hbp
    have hphp : ph p = S1 p := by rw [hp p hp16, if_neg hnot]
    have hpull : f_X1_pulled N per qui ans (nI p) (S1 p) (coming (s0 * 16 + p)) = some (ma_val per qui (fun p q => ans (p * 4 + q)) S1 (fun p => coming (s0 * 16 + p)) p) := mx_pulled (co := fun p => coming (s0 * 16 + p)) hp16 ea ec hac hc
    have enp : np p = ma_val per qui (fun p q => ans (p * 4 + q)) S1 (fun p => coming (s0 * 16 + p)) p + 1 + (if bt x2 p then 1 else 0) := by rw [hnp]; rfl
    have efl : fl p = decide (¬ np p < per p) := by rw [hfl, hnp]; rfl
    rw [f_X2_advance_25, if_neg (nI_ge hil (by omega)), mg_g (show i < 16 by omega) (by omega), nI_clamp (show i < 2 ^ 31 by omega), hpi, mg_g hp16 (by omega), nI_add, mg_g (show s0 * 16 + p < 512 by omega) (by omega), nI_clamp (show p < 2 ^ 31 by omega), nI_clamp (show s0 * 16 + p < 2 ^ 31 by omega), hphp, hpull, Option.bind_some, mg_g hp16 (by omega), ms_tb x2 (show p < 32 by omega), ← enp, nI_1]
    by_cases hlt : np p < per p
    · rw [if_pos hlt, mg_g hp16 (by omega)]
      have hf : fl p = false := by rw [efl]; simp [hlt]
      refine mx_adv_25 hs hpl hok hnp hfl k (i + 1) m _ _ (by omega) (by omega) ?_ ?_
      · intro q hq
        rw [hb q hq, htk]
        by_cases e : q = p
        · subst e; simp [hf]
        · simp [e]
      · intro q hq
        rw [htk]
        unfold upd
        by_cases e : q = p
        · subst e; simp [hf]
        · simp [e, hp q hq]
    · rw [if_neg hlt, mg_g hp16 (by omega)]
      have hf : fl p = true := by rw [efl]; simp [hlt]
      refine mx_adv_25 hs hpl hok hnp hfl k (i + 1) m _ _ (by omega) (by omega) ?_ ?_
      · intro q hq
        rw [ms_sb _ (by omega) hq, hb q hq, htk]
        by_cases e : q = p
        · subst e; simp [hf]
        · simp [e]
      · intro q hq
        rw [htk]
        unfold upd
        by_cases e : q = p
        · subst e; simp [hf]
        · simp [e, hp q hq]
theorem mx_adv_118 {N s0 : Nat} (hs : s0 < 32) (c0 : Nat → Int32) : ∀ (k p m : Nat) (co : Nat → Int32), p + k = 16 → k < m → (∀ j, co j = if s0 * 16 ≤ j ∧ j < s0 * 16 + p then 0 else c0 j) → ∃ co' : Nat → Int32, f_X2_advance_118 N (nI (s0 * 16)) m (nI p) co = some (nI 16, co') ∧ ∀ j, co' j = if s0 * 16 ≤ j ∧ j < s0 * 16 + 16 then 0 else c0 j
  | 0, p, m, co, hp, hm, h => by
    obtain ⟨m, rfl⟩ : ∃ j, m = j + 1 := ⟨m - 1, by omega⟩
    have hp : p = 16 := by omega
    subst hp
    exact ⟨co, by rw [f_X2_advance_118, if_pos (show (16 : Int32) ≤ nI 16 from by decide)], h⟩
  | k + 1, p, m, co, hp, hm, h => by
    obtain ⟨m, rfl⟩ : ∃ j, m = j + 1 := ⟨m - 1, by omega⟩
    rw [f_X2_advance_118, if_neg (show ¬ (16 : Int32) ≤ nI p from nI_ge (a := p) (b := 16) (by omega) (by omega)), nI_add, mg_g (show s0 * 16 + p < 512 by omega) (by omega), nI_1, nI_clamp (show s0 * 16 + p < 2 ^ 31 by omega)]
    refine mx_adv_118 hs c0 k (p + 1) m _ (by omega) (by omega) ?_
    intro j
    unfold upd
    by_cases e : j = s0 * 16 + p
    · rw [if_pos e, if_pos (by omega)]
    · rw [if_neg e, h j]
      by_cases h2 : s0 * 16 ≤ j ∧ j < s0 * 16 + p
      · rw [if_pos h2, if_pos (by omega)]
      · rw [if_neg h2, if_neg (by omega)]
/-- what n links give to a place, in the links' order -/
def ma_sum (t : Nat → Int32) : Nat → Int32
  | 0 => 0
  | n + 1 => ma_sum t n + t n
/-- the links' numbers -/
def ma_lk (n : Nat) (froms tos delays : Nat → Int32) (fr to de : Nat → Nat) : Prop := ∀ k, k < n → froms k = nI (fr k) ∧ tos k = nI (to k) ∧ delays k = nI (de k) ∧ fr k < 16 ∧ to k < 16 ∧ 1 ≤ de k ∧ de k ≤ 30
theorem mx_send_2 {N r n : Nat} (hr : r < 32) (hn : n ≤ 60) {froms tos delays st : Nat → Int32} {fr to de : Nat → Nat} (hl : ma_lk n froms tos delays fr to de) (x2 : Int32) (c0 : Nat → Int32) : ∀ (k i m : Nat) (co : Nat → Int32), i + k = n → k < m → (∀ j, co j = c0 j + ma_sum (fun k => if bt x2 (fr k) ∧ (r + de k) % 32 * 16 + to k = j then st k else 0) i) → ∃ co' : Nat → Int32, f_X2_sendSignals_2 N (nI n) froms (nI r) delays tos st x2 m (nI i) co = some (nI n, co') ∧ ∀ j, co' j = c0 j + ma_sum (fun k => if bt x2 (fr k) ∧ (r + de k) % 32 * 16 + to k = j then st k else 0) n
  | 0, i, m, co, hi, hm, h => by
    obtain ⟨m, rfl⟩ : ∃ j, m = j + 1 := ⟨m - 1, by omega⟩
    have hi : i = n := by omega
    subst hi
    exact ⟨co, by rw [f_X2_sendSignals_2, if_pos (nI_le (Nat.le_refl _) (by omega))], h⟩
  | k + 1, i, m, co, hi, hm, h => by
    obtain ⟨m, rfl⟩ : ∃ j, m = j + 1 := ⟨m - 1, by omega⟩
    obtain ⟨e1, e2, e3, b1, b2, b3, b4⟩ := hl i (by omega)
    have hrow : (r + de i) % 32 < 32 := Nat.mod_lt _ (by omega)
    rw [f_X2_sendSignals_2, if_neg (nI_ge (show i < n by omega) (by omega)), mg_g (show i < 60 by omega) (by omega), nI_clamp (show i < 2 ^ 31 by omega), e1, ms_tb x2 (show fr i < 32 by omega)]
    cases hb : bt x2 (fr i) with
    | false =>
      rw [show (if (false = true) then (1 : Int32) else 0) = 0 from rfl, if_pos rfl, nI_1]
      refine mx_send_2 hr hn hl x2 c0 k (i + 1) m _ (by omega) (by omega) ?_
      intro j
      rw [h j]
      show _ = c0 j + (ma_sum _ i + (if bt x2 (fr i) = true ∧ _ then st i else 0))
      rw [if_neg (by simp [hb]), Int32.add_zero]
    | true =>
      rw [show (if (true = true) then (1 : Int32) else 0) = 1 from rfl, if_neg (by decide), mg_g (show i < 60 by omega) (by omega), e3, mx_row r (de i) (by omega), Option.bind_some, mg_g (show i < 60 by omega) (by omega), e2, nI_add, mg_g (show (r + de i) % 32 * 16 + to i < 512 by omega) (by omega), mg_g (show i < 60 by omega) (by omega), mg_g (show (r + de i) % 32 * 16 + to i < 512 by omega) (by omega), nI_1, nI_clamp (show (r + de i) % 32 * 16 + to i < 2 ^ 31 by omega)]
      refine mx_send_2 hr hn hl x2 c0 k (i + 1) m _ (by omega) (by omega) ?_
      intro j
      show _ = c0 j + (ma_sum _ i + (if bt x2 (fr i) = true ∧ _ then st i else 0))
      unfold upd
      by_cases e : j = (r + de i) % 32 * 16 + to i
      · subst e
        rw [if_pos rfl, if_pos ⟨hb, rfl⟩, h, Int32.add_assoc]
      · rw [if_neg e, if_neg (fun z => e z.2.symm), h, Int32.add_zero]

/-! rows of mine (pure): the flashes of a cycle in their order -/
def ma_sc (f : Nat → Bool) : List Nat → Nat → Nat ⊕ Nat
  | [], n => .inr n
  | p :: ps, n => if f p then (match n with | 0 => .inl p | n + 1 => ma_sc f ps n) else ma_sc f ps n
theorem ma_sc_f {f g : Nat → Bool} (h : ∀ p, f p = true → g p = true) : ∀ (l : List Nat) (n : Nat), ma_sc f (l.filter g) n = ma_sc f l n
  | [], n => rfl
  | p :: ps, n => by
    cases hf : f p with
    | true =>
      have hg := h p hf
      rw [List.filter_cons_of_pos hg]
      cases n with
      | zero => simp [ma_sc, hf]
      | succ n => simp only [ma_sc, hf, if_true]; exact ma_sc_f h ps n
    | false =>
      cases hg : g p with
      | true =>
        rw [List.filter_cons_of_pos hg]
        simp only [ma_sc, hf, Bool.false_eq_true, if_false]
        exact ma_sc_f h ps n
      | false =>
        rw [List.filter_cons_of_neg (by rw [hg]; decide)]
        simp only [ma_sc, hf, Bool.false_eq_true, if_false]
        exact ma_sc_f h ps n
theorem ma_sc_le {f : Nat → Bool} : ∀ (l : List Nat) (n n' : Nat), ma_sc f l n = .inr n' → n' ≤ n
  | [], n, n', h => by cases h; exact Nat.le_refl _
  | p :: ps, n, n', h => by
    cases hf : f p with
    | true =>
      cases n with
      | zero => simp [ma_sc, hf] at h
      | succ n =>
        simp only [ma_sc, hf, if_true] at h
        have := ma_sc_le ps n n' h
        omega
    | false =>
      simp only [ma_sc, hf, Bool.false_eq_true, if_false] at h
      exact ma_sc_le ps n n' h
def ma_or (F : Nat → Nat → Bool) (L : List Nat) : Nat → Nat → Nat → Option Nat
  | 0, _, _ => none
  | k + 1, t, n => match ma_sc (F t) L n with | .inl p => some p | .inr n' => ma_or F L k (t + 1) n'
theorem ma_or_L {F : Nat → Nat → Bool} {x : Int32} (h : ∀ t p, F t p = true → bt x p = true) : ∀ (k t n : Nat), ma_or F (ms_L x) k t n = ma_or F (List.range 16) k t n
  | 0, t, n => rfl
  | k + 1, t, n => by
    have e : ma_sc (F t) (ms_L x) n = ma_sc (F t) (List.range 16) n := ma_sc_f (h t) _ _
    unfold ma_or
    rw [e]
    cases ma_sc (F t) (List.range 16) n with
    | inl p => rfl
    | inr n' => exact ma_or_L h k (t + 1) n'
theorem nI_m1 {n : Nat} (h : 0 < n) : nI n + (-1 : Int32) = nI (n - 1) := by
  obtain ⟨m, rfl⟩ : ∃ j, n = j + 1 := ⟨n - 1, by omega⟩
  rw [← nI_1, Int32.add_assoc, show (1 : Int32) + (-1 : Int32) = 0 from by decide, Int32.add_zero]
  rfl
theorem ms_drop {l : List Nat} {i : Nat} (h : i < l.length) : l.drop i = l.getD i 0 :: l.drop (i + 1) := by
  rw [ms_gd h, List.drop_eq_getElem_cons h]
theorem mx_fa_29 {N : Nat} {x v : Int32} {places : Nat → Int32} (hpl : ∀ i, i < (ms_L x).length → places i = nI ((ms_L x).getD i 0)) {f : Nat → Bool} (hf : ∀ p, p < 16 → (v >>> (nI p &&& 31)) &&& (1 : Int32) = if f p then 1 else 0) : ∀ (k i m n : Nat), i + k = (ms_L x).length → k < m → n < 2 ^ 31 → ∃ o, f_X4_flasherAt_29 N (nI (ms_L x).length) places v m (nI n) (nI i) = some o ∧ ((∃ (i' : Nat) (w : Int32), o = .inl (w, nI i') ∧ i' < (ms_L x).length ∧ ma_sc f ((ms_L x).drop i) n = .inl ((ms_L x).getD i' 0)) ∨ (∃ (n' : Nat) (w : Int32), o = .inr (nI n', w) ∧ ma_sc f ((ms_L x).drop i) n = .inr n'))
  | 0, i, m, n, hi, hm, hn => by
    obtain ⟨m, rfl⟩ : ∃ j, m = j + 1 := ⟨m - 1, by omega⟩
    have hlen : (ms_L x).length ≤ 16 := ms_l_len x 16
    refine ⟨_, by rw [f_X4_flasherAt_29, if_pos (nI_le (by omega) (by omega))], Or.inr ⟨n, _, rfl, ?_⟩⟩
    rw [List.drop_eq_nil_of_le (by omega)]
    rfl
  | k + 1, i, m, n, hi, hm, hn => by
    obtain ⟨m, rfl⟩ : ∃ j, m = j + 1 := ⟨m - 1, by omega⟩
    have hlen : (ms_L x).length ≤ 16 := ms_l_len x 16
    have hil : i < (ms_L x).length := by omega
    have hq16 : (ms_L x).getD i 0 < 16 := (ms_l_getD hil).1
    rw [f_X4_flasherAt_29, if_neg (nI_ge hil (by omega)), mg_g (show i < 16 by omega) (by omega), nI_clamp (show i < 2 ^ 31 by omega), hpl i hil, hf _ hq16, ms_drop hil, nI_1]
    cases hb : f ((ms_L x).getD i 0) with
    | false =>
      rw [if_pos (by rfl)]
      simp only [ma_sc, hb, Bool.false_eq_true, if_false]
      exact mx_fa_29 hpl hf k (i + 1) m n (by omega) (by omega) hn
    | true =>
      rw [if_neg (by decide)]
      cases n with
      | zero =>
        rw [if_pos (by rfl)]
        refine ⟨_, rfl, Or.inl ⟨i, _, rfl, hil, ?_⟩⟩
        simp only [ma_sc, hb, if_true]
      | succ n =>
        rw [if_neg (show ¬ nI (n + 1) = 0 from fun e => by have := (nI_eq (a := n + 1) (b := 0) hn (by omega)).mp e; omega), nI_m1 (by omega)]
        simp only [ma_sc, hb, if_true]
        exact mx_fa_29 hpl hf k (i + 1) m n (by omega) (by omega) (by omega)
theorem mx_fa_5 {N l c : Nat} (hN : 20 ≤ N) {x : Int32} {places : Nat → Int32} (hpl : ∀ i, i < (ms_L x).length → places i = nI ((ms_L x).getD i 0)) {F : Nat → Nat → Bool} {fl : Nat → Int32} (W : ma_W F l c fl) : ∀ (k t m n : Nat), t + k = c → k < m → n < 2 ^ 31 → ∃ o, f_X4_flasherAt_5 N (nI l) (nI c) fl (nI (ms_L x).length) places m (nI n) (nI t) = some o ∧ ((∃ (i' : Nat) (w1 w2 : Int32), o = .inl (w1, w2, nI i') ∧ i' < (ms_L x).length ∧ ma_or F (ms_L x) k t n = some ((ms_L x).getD i' 0)) ∨ ((∃ w, o = .inr w) ∧ ma_or F (ms_L x) k t n = none))
  | 0, t, m, n, ht, hm, hn => by
    obtain ⟨m, rfl⟩ : ∃ j, m = j + 1 := ⟨m - 1, by omega⟩
    have := W.1
    exact ⟨_, by rw [f_X4_flasherAt_5, if_pos (nI_le (by omega) (by omega))], Or.inr ⟨⟨_, rfl⟩, rfl⟩⟩
  | k + 1, t, m, n, ht, hm, hn => by
    obtain ⟨m, rfl⟩ : ∃ j, m = j + 1 := ⟨m - 1, by omega⟩
    have := W.1
    have hlen : (ms_L x).length ≤ 16 := ms_l_len x 16
    obtain ⟨o, e, h⟩ := mx_fa_29 (N := N) (v := fl (l + 1 + t)) (f := F t) hpl (fun p hp => ma_W_bit W (by omega) hp) (ms_L x).length 0 N n (by omega) (by omega) hn
    have e : f_X4_flasherAt_29 N (nI (ms_L x).length) places (fl (l + 1 + t)) N (nI n) (0 : Int32) = some o := e
    rw [f_X4_flasherAt_5, if_neg (nI_ge (show t < c by omega) (by omega)), if_neg (nI_pos hn), mx_fic W (by omega), Option.bind_some, e, Option.bind_some]
    rw [List.drop_zero] at h
    unfold ma_or
    rcases h with ⟨i', w, rfl, h1, h2⟩ | ⟨n', w, rfl, h2⟩
    · rw [h2]
      exact ⟨_, rfl, Or.inl ⟨i', _, _, rfl, h1, rfl⟩⟩
    · have hle := ma_sc_le _ _ _ h2
      rw [h2]
      show ∃ o, f_X4_flasherAt_5 N (nI l) (nI c) fl (nI (ms_L x).length) places m (nI n') (nI t + 1) = some o ∧ _
      rw [nI_1]
      exact mx_fa_5 hN hpl W k (t + 1) m n' (by omega) (by omega) (by omega)
theorem mx_flasherAt {N l c n : Nat} (hN : 1001 ≤ N) (hn : n < 2 ^ 31) {x : Int32} {places : Nat → Int32} (hpl : ∀ i, i < (ms_L x).length → places i = nI ((ms_L x).getD i 0)) {F : Nat → Nat → Bool} {fl : Nat → Int32} (W : ma_W F l c fl) : ∃ v, f_X4_flasherAt N (nI l) (nI c) fl (nI (ms_L x).length) places (nI n) = some v ∧ ((∃ p, p < 16 ∧ v = nI p ∧ ma_or F (ms_L x) c 0 n = some p) ∨ (v = -1 ∧ ma_or F (ms_L x) c 0 n = none)) := by
  have := W.1
  have hlen : (ms_L x).length ≤ 16 := ms_l_len x 16
  obtain ⟨o, e, h⟩ := mx_fa_5 (N := N) (by omega) hpl W c 0 N n (by omega) (by omega) hn
  have e : f_X4_flasherAt_5 N (nI l) (nI c) fl (nI (ms_L x).length) places N (nI n) (0 : Int32) = some o := e
  unfold f_X4_flasherAt
  rw [e, Option.bind_some]
  rcases h with ⟨i, w1, w2, rfl, h1, h2⟩ | ⟨⟨w, rfl⟩, h2⟩
  · have hq16 : (ms_L x).getD i 0 < 16 := (ms_l_getD h1).1
    refine ⟨nI ((ms_L x).getD i 0), ?_, Or.inl ⟨_, hq16, rfl, h2⟩⟩
    show zk_g (nI i) 16 (some (places (nI i).toNatClampNeg)) = _
    rw [mg_g (show i < 16 by omega) (by omega), nI_clamp (show i < 2 ^ 31 by omega), hpl i h1]
  · exact ⟨-1, rfl, Or.inr ⟨rfl, h2⟩⟩
theorem mx_flasherAt_neg {N l c : Nat} (hN : 1 ≤ N) (hc : 1 ≤ c) {fl places : Nat → Int32} {b v : Int32} (hcb : c < 2 ^ 31) (hv : v < 0) : f_X4_flasherAt N (nI l) (nI c) fl b places v = some (-1) := by
  obtain ⟨M, rfl⟩ : ∃ j, N = j + 1 := ⟨N - 1, by omega⟩
  have e : f_X4_flasherAt_5 (M + 1) (nI l) (nI c) fl b places (M + 1) v (0 : Int32) = some (.inr (v, 0)) := by
    rw [f_X4_flasherAt_5, if_neg (show ¬ nI c ≤ (0 : Int32) from nI_ge (a := 0) (by omega) hcb), if_pos hv]
  unfold f_X4_flasherAt
  rw [e]
  rfl

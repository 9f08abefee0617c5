/-! rows of mine (pure): bits, the list of places -/
def bt (x : Int32) (i : Nat) : Bool := x.toBitVec.getLsbD i
theorem b_ext {x y : Int32} (h : ∀ i, i < 32 → bt x i = bt y i) : x = y := Int32.toBitVec_inj.mp (BitVec.eq_of_getLsbD_eq (fun i hi => h i hi))
theorem b_or (x y : Int32) (i : Nat) : bt (x ||| y) i = (bt x i || bt y i) := by unfold bt; rw [Int32.toBitVec_or, BitVec.getLsbD_or]
theorem b_and (x y : Int32) (i : Nat) : bt (x &&& y) i = (bt x i && bt y i) := by unfold bt; rw [Int32.toBitVec_and, BitVec.getLsbD_and]
theorem b_xor (x y : Int32) (i : Nat) : bt (x ^^^ y) i = (bt x i ^^ bt y i) := by unfold bt; rw [Int32.toBitVec_xor, BitVec.getLsbD_xor]
theorem b_big {x : Int32} {i : Nat} (h : 32 ≤ i) : bt x i = false := BitVec.getLsbD_of_ge _ _ h
theorem b_255 (i : Nat) : bt 255 i = decide (i < 8) := by
  rcases Nat.lt_or_ge i 32 with h | h
  · exact (by decide +kernel : ∀ i, i < 32 → bt 255 i = decide (i < 8)) i h
  · rw [b_big h, decide_eq_false (by omega)]
theorem b_65535 (i : Nat) : bt 65535 i = decide (i < 16) := by
  rcases Nat.lt_or_ge i 32 with h | h
  · exact (by decide +kernel : ∀ i, i < 32 → bt 65535 i = decide (i < 16)) i h
  · rw [b_big h, decide_eq_false (by omega)]
theorem b_m1 : ∀ i, i < 32 → bt (-1) i = true := by decide +kernel
theorem b_0 (i : Nat) : bt 0 i = false := BitVec.getLsbD_zero
theorem s_l : ∀ n, n < 32 → ((nI n &&& 31).toBitVec.smod 32).toNat = n := by decide +kernel
theorem s_u : ∀ n, n < 32 → (((nI n).toUInt32 &&& Int32.toUInt32 31).toBitVec % 32).toNat = n := by decide +kernel
theorem b_shl (n : Nat) (hn : n < 32) (x : Int32) {i : Nat} (hi : i < 32) : bt (x <<< (nI n &&& 31)) i = (decide (n ≤ i) && bt x (i - n)) := by
  unfold bt
  rw [Int32.toBitVec_shiftLeft]
  show (x.toBitVec <<< ((nI n &&& 31).toBitVec.smod 32).toNat).getLsbD i = _
  rw [s_l n hn, BitVec.getLsbD_shiftLeft]
  rcases Nat.lt_or_ge i n with h | h
  · simp [h, Nat.not_le.mpr h]
  · simp [hi, h, Nat.not_lt.mpr h]
theorem b_ushr (n : Nat) (hn : n < 32) (x : Int32) (i : Nat) : bt ((x.toUInt32 >>> ((nI n).toUInt32 &&& Int32.toUInt32 31)).toInt32) i = bt x (n + i) := by
  show (x.toUInt32 >>> ((nI n).toUInt32 &&& Int32.toUInt32 31)).toBitVec.getLsbD i = x.toUInt32.toBitVec.getLsbD (n + i)
  rw [UInt32.toBitVec_shiftRight]
  show (x.toUInt32.toBitVec >>> (((nI n).toUInt32 &&& Int32.toUInt32 31).toBitVec % 32).toNat).getLsbD i = _
  rw [s_u n hn, BitVec.getLsbD_ushiftRight]
theorem b_sshr (n : Nat) (hn : n < 32) (x : Int32) {i : Nat} (hi : i < 32) : bt (x >>> (nI n &&& 31)) i = if n + i < 32 then bt x (n + i) else bt x 31 := by
  unfold bt
  rw [Int32.toBitVec_shiftRight]
  show (x.toBitVec.sshiftRight ((nI n &&& 31).toBitVec.smod 32).toNat).getLsbD i = _
  rw [s_l n hn, BitVec.getLsbD_sshiftRight, BitVec.msb_eq_getLsbD_last]
  simp [hi]
theorem ms_one (i : Nat) : bt 1 i = decide (i = 0) := by
  rcases Nat.lt_or_ge i 32 with h | h
  · exact (by decide +kernel : ∀ i, i < 32 → bt 1 i = decide (i = 0)) i h
  · rw [b_big h, decide_eq_false (by omega)]
theorem ms_tb (x : Int32) {p : Nat} (hp : p < 32) : (x >>> (nI p &&& 31)) &&& (1 : Int32) = if bt x p then 1 else 0 := by
  apply b_ext
  intro i hi
  rw [b_and, b_sshr p hp x hi, ms_one]
  by_cases h0 : i = 0
  · subst h0
    rw [Nat.add_zero, if_pos hp]
    cases h : bt x p <;> simp [ms_one, b_0]
  · cases h : bt x p <;> simp [h0, ms_one, b_0]
theorem ms_sb (x : Int32) {p q : Nat} (hp : p < 32) (hq : q < 32) : bt (x ||| ((1 : Int32) <<< (nI p &&& 31))) q = (bt x q || decide (q = p)) := by
  rw [b_or, b_shl p hp 1 hq, ms_one]
  congr 1
  by_cases h : q = p
  · subst h; simp
  · by_cases h2 : p ≤ q
    · have : ¬ q - p = 0 := by omega
      simp [h, this]
    · simp [h, h2]
theorem mg_n {a b : Nat} (ha : a < 2 ^ 31) (hb : b < 2 ^ 31) : (nI a ≤ nI b) = (a ≤ b) := propext (nI_leI ha hb)
theorem mg_lt {a b : Nat} (ha : a < 2 ^ 31) (hb : b < 2 ^ 31) : (nI a < nI b) = (a < b) := propext (nI_ltI ha hb)
theorem mg_eq {a b : Nat} (ha : a < 2 ^ 31) (hb : b < 2 ^ 31) : (nI a = nI b) = (a = b) := propext (nI_eq ha hb)
theorem mg_g {α : Type} {i n : Nat} (h : i < n) (hn : n < 2 ^ 31) (x : Option α) : zk_g (nI i) n x = x := by
  unfold zk_g
  rw [if_neg]
  rintro (q | q)
  · exact absurd q (nI_pos (by omega))
  · rw [nI_clamp (by omega)] at q
    omega
theorem mg_nz {α : Type} {i : Nat} (h : 0 < i) (hn : i < 2 ^ 31) (x : Option α) : zk_nz (nI i) x = x := by
  unfold zk_nz
  rw [if_neg (nI_ne0 h hn)]
/-- the places below p whose bit is set -/
def ms_l (x : Int32) (p : Nat) : List Nat := (List.range p).filter (fun q => bt x q)
abbrev ms_L (x : Int32) : List Nat := ms_l x 16
theorem ms_l_t {x : Int32} {p : Nat} (h : bt x p = true) : ms_l x (p + 1) = ms_l x p ++ [p] := by
  simp [ms_l, List.range_succ, h]
theorem ms_l_f {x : Int32} {p : Nat} (h : bt x p = false) : ms_l x (p + 1) = ms_l x p := by
  simp [ms_l, List.range_succ, h]
theorem ms_l_len (x : Int32) (p : Nat) : (ms_l x p).length ≤ p := by
  have := List.length_filter_le (fun q => bt x q) (List.range p)
  simpa [ms_l] using this
theorem ms_l_mem {x : Int32} {p q : Nat} : q ∈ ms_l x p ↔ q < p ∧ bt x q = true := by simp [ms_l]
theorem ms_l_nodup (x : Int32) (p : Nat) : (ms_l x p).Nodup := List.Nodup.sublist List.filter_sublist List.nodup_range
theorem ms_gd {l : List Nat} {i : Nat} (h : i < l.length) : l.getD i 0 = l[i] := by simp [List.getD_eq_getElem?_getD, List.getElem?_eq_getElem h]
theorem ms_l_getD {x : Int32} {p i : Nat} (h : i < (ms_l x p).length) : (ms_l x p).getD i 0 < p ∧ bt x ((ms_l x p).getD i 0) = true := by
  rw [ms_gd h]
  exact ms_l_mem.mp (List.getElem_mem h)
theorem mx_setPlaces_12 (N : Nat) (x : Int32) : ∀ (k p n c : Nat) (pl : Nat → Int32), p + k = 16 → k < n → c = (ms_l x p).length → (∀ i, i < c → pl i = nI ((ms_l x p).getD i 0)) → ∃ pl' : Nat → Int32, f_X1_setPlaces_12 N x n (nI p) (nI c) pl = some (nI 16, nI (ms_L x).length, pl') ∧ ∀ i, i < (ms_L x).length → pl' i = nI ((ms_L x).getD i 0)
  | 0, p, n, c, pl, hp, hn, hc, hpl => by
    obtain ⟨n, rfl⟩ : ∃ m, n = m + 1 := ⟨n - 1, by omega⟩
    have hp : p = 16 := by omega
    subst hp hc
    refine ⟨pl, ?_, hpl⟩
    rw [f_X1_setPlaces_12, if_pos (show (16 : Int32) ≤ nI 16 from by decide)]
  | k + 1, p, n, c, pl, hp, hn, hc, hpl => by
    obtain ⟨n, rfl⟩ : ∃ m, n = m + 1 := ⟨n - 1, by omega⟩
    have hp16 : p < 16 := by omega
    have hlen := ms_l_len x p
    rw [f_X1_setPlaces_12, if_neg (show ¬ (16 : Int32) ≤ nI p from nI_ge (a := p) (b := 16) hp16 (by omega)), ms_tb x (by omega)]
    cases hb : bt x p with
    | false =>
      rw [show (if (false = true) then (1 : Int32) else 0) = 0 from rfl, if_pos rfl, nI_1]
      exact mx_setPlaces_12 N x k (p + 1) n c pl (by omega) (by omega) (by rw [ms_l_f hb]; exact hc) (by rw [ms_l_f hb]; exact hpl)
    | true =>
      rw [show (if (true = true) then (1 : Int32) else 0) = 1 from rfl, if_neg (by decide), nI_1, nI_1, mg_g (by omega) (by omega)]
      refine mx_setPlaces_12 N x k (p + 1) n (c + 1) _ (by omega) (by omega) (by rw [ms_l_t hb]; simp [hc]) ?_
      intro i hi
      rw [ms_l_t hb]
      unfold upd
      rw [nI_clamp (by omega)]
      by_cases e : i = c
      · subst e
        rw [if_pos rfl, hc]
        simp
      · rw [if_neg e, hpl i (by omega)]
        have : i < (ms_l x p).length := by omega
        simp [List.getD_eq_getElem?_getD, List.getElem?_append_left this]
theorem mx_setPlaces {N : Nat} (hN : 17 ≤ N) (x : Int32) (pl : Nat → Int32) : ∃ pl' : Nat → Int32, f_X1_setPlaces N pl x = some (nI (ms_L x).length, x, pl') ∧ ∀ i, i < (ms_L x).length → pl' i = nI ((ms_L x).getD i 0) := by
  obtain ⟨pl', h1, h2⟩ := mx_setPlaces_12 N x 16 0 N 0 pl rfl (by omega) rfl (fun i hi => absurd hi (by omega))
  refine ⟨pl', ?_, h2⟩
  unfold f_X1_setPlaces
  rw [show (0 : Int32) = nI 0 from rfl, h1]
  rfl
theorem mx_has {N p : Nat} (hp : p < 16) (x : Int32) : f_X1_has N x (nI p) = some (if bt x p then 1 else 0) := by
  unfold f_X1_has
  rw [if_neg (nI_pos (by omega)), if_neg (show ¬ (16 : Int32) ≤ nI p from nI_ge (a := p) (b := 16) hp (by omega)), ms_tb x (by omega)]
  cases bt x p <;> simp

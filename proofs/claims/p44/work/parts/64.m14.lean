/-! rows of mine (pure): what the class reads off a way that it followed -/
/-- the flashes of a way are written down -/
def ma_W (F : Nat → Nat → Bool) (l c : Nat) (fl : Nat → Int32) : Prop := l + c ≤ 1000 ∧ ∀ t, t < c → ∀ p, p < 32 → bt (fl (l + 1 + t)) p = (decide (p < 16) && F t p)
theorem mx_fic {N l c t : Nat} {F : Nat → Nat → Bool} {fl : Nat → Int32} (W : ma_W F l c fl) (ht : t < c) : f_X4_flashedInCycle N (nI l) fl (nI t) = some (fl (l + 1 + t)) := by
  have := W.1
  unfold f_X4_flashedInCycle
  rw [nI_1, nI_add, if_neg (show ¬ nI (l + 1 + t) < (1 : Int32) from nI_nlt (b := 1) (by omega) (by omega)), if_pos (show nI (l + 1 + t) ≤ (2000 : Int32) from nI_le (b := 2000) (by omega) (by omega)), mg_g (show l + 1 + t < 2001 by omega) (by omega), nI_clamp (show l + 1 + t < 2 ^ 31 by omega)]
theorem ma_W_bit {l c t p : Nat} {F : Nat → Nat → Bool} {fl : Nat → Int32} (W : ma_W F l c fl) (ht : t < c) (hp : p < 16) : (fl (l + 1 + t) >>> (nI p &&& 31)) &&& (1 : Int32) = if F t p then 1 else 0 := by
  rw [ms_tb _ (show p < 32 by omega), W.2 t ht p (by omega), decide_eq_true hp, Bool.true_and]
theorem mx_cf_4 {N l c p : Nat} (hp : p < 16) {F : Nat → Nat → Bool} {fl : Nat → Int32} (W : ma_W F l c fl) : ∀ (k t m : Nat), t + k = c → k < m → f_X4_countFlashes_4 N (nI l) (nI c) fl (nI p) m (nI (ma_cnt F p t)) (nI t) = some (nI (ma_cnt F p c), nI c)
  | 0, t, m, ht, hm => by
    obtain ⟨m, rfl⟩ : ∃ j, m = j + 1 := ⟨m - 1, by omega⟩
    have := W.1
    obtain rfl : t = c := by omega
    rw [f_X4_countFlashes_4, if_pos (nI_le (Nat.le_refl _) (by omega))]
  | k + 1, t, m, ht, hm => by
    obtain ⟨m, rfl⟩ : ∃ j, m = j + 1 := ⟨m - 1, by omega⟩
    have := W.1
    rw [f_X4_countFlashes_4, if_neg (nI_ge (show t < c by omega) (by omega)), mx_fic W (by omega), Option.bind_some, ma_W_bit W (by omega) hp, nI_1]
    have h := mx_cf_4 hp W (N := N) k (t + 1) m (by omega) (by omega)
    rw [ma_cnt_s] at h
    rw [← h]
    cases F t p
    · rw [if_neg (by decide), if_neg (by decide), Int32.add_zero]
      rfl
    · rw [if_pos rfl, if_pos rfl, nI_1]
theorem mx_countFlashes {N l c p : Nat} (hN : 1001 ≤ N) (hp : p < 16) {F : Nat → Nat → Bool} {fl : Nat → Int32} (W : ma_W F l c fl) : f_X4_countFlashes N (nI l) (nI c) fl (nI p) = some (nI (ma_cnt F p c)) := by
  have := W.1
  have e : f_X4_countFlashes_4 N (nI l) (nI c) fl (nI p) N (0 : Int32) (0 : Int32) = some (nI (ma_cnt F p c), nI c) := mx_cf_4 hp W c 0 N (by omega) (by omega)
  unfold f_X4_countFlashes
  rw [e, Option.bind_some]
theorem mx_ks_2 {N l c p q : Nat} (hp : p < 16) (hq : q < 16) {F : Nat → Nat → Bool} {fl : Nat → Int32} (W : ma_W F l c fl) : ∀ (k t m : Nat), t + k = c → k < m → ∃ o, f_X4_keepsStep_2 N (nI l) (nI c) fl (nI p) (nI q) m (nI t) = some o ∧ (((∃ v, o = .inr v) ∧ ∀ s, t ≤ s → s < c → F s p = F s q) ∨ ((∃ v, o = .inl v) ∧ ∃ s, t ≤ s ∧ s < c ∧ F s p ≠ F s q))
  | 0, t, m, ht, hm => by
    obtain ⟨m, rfl⟩ : ∃ j, m = j + 1 := ⟨m - 1, by omega⟩
    have := W.1
    obtain rfl : t = c := by omega
    exact ⟨_, by rw [f_X4_keepsStep_2, if_pos (nI_le (Nat.le_refl _) (by omega))], Or.inl ⟨⟨_, rfl⟩, fun s h1 h2 => by omega⟩⟩
  | k + 1, t, m, ht, hm => by
    obtain ⟨m, rfl⟩ : ∃ j, m = j + 1 := ⟨m - 1, by omega⟩
    have := W.1
    rw [f_X4_keepsStep_2, if_neg (nI_ge (show t < c by omega) (by omega)), mx_fic W (by omega), Option.bind_some, ma_W_bit W (by omega) hp, ma_W_bit W (by omega) hq, nI_1]
    by_cases e : F t p = F t q
    · rw [if_pos (show (if F t p = true then (1 : Int32) else 0) = if F t q = true then 1 else 0 by rw [e])]
      obtain ⟨o, h1, h2⟩ := mx_ks_2 hp hq W (N := N) k (t + 1) m (by omega) (by omega)
      refine ⟨o, h1, ?_⟩
      rcases h2 with ⟨a, b⟩ | ⟨a, s, b1, b2, b3⟩
      · refine Or.inl ⟨a, fun s h1 h2 => ?_⟩
        by_cases z : s = t
        · subst z; exact e
        · exact b s (by omega) h2
      · exact Or.inr ⟨a, s, by omega, b2, b3⟩
    · rw [if_neg (show ¬ (if F t p = true then (1 : Int32) else 0) = if F t q = true then 1 else 0 by rw [mb_eq]; exact e)]
      exact ⟨_, rfl, Or.inr ⟨⟨_, rfl⟩, t, by omega, by omega, e⟩⟩
theorem ma_ap_t {F : Nat → Nat → Bool} {a b c : Nat} : ma_ap F a b c = true ↔ ∃ s, s < c ∧ F s a ≠ F s b := by
  unfold ma_ap
  rw [List.any_eq_true]
  constructor
  · rintro ⟨s, h1, h2⟩
    exact ⟨s, List.mem_range.mp h1, by simpa using h2⟩
  · rintro ⟨s, h1, h2⟩
    exact ⟨s, List.mem_range.mpr h1, by simpa using h2⟩
theorem ma_ap_f {F : Nat → Nat → Bool} {a b c : Nat} : ma_ap F a b c = false ↔ ∀ s, s < c → F s a = F s b := by
  rw [← Bool.not_eq_true, ma_ap_t]
  constructor
  · intro h s hs
    exact Classical.byContradiction fun q => h ⟨s, hs, q⟩
  · rintro h ⟨s, h1, h2⟩
    exact h2 (h s h1)
theorem mx_keepsStep {N l c p q : Nat} (hN : 1001 ≤ N) (hp : p < 16) (hq : q < 16) {F : Nat → Nat → Bool} {fl : Nat → Int32} (W : ma_W F l c fl) : f_X4_keepsStep N (nI l) (nI c) fl (nI p) (nI q) = some (if ma_ap F p q c then 0 else 1) := by
  have := W.1
  obtain ⟨o, e, h⟩ := mx_ks_2 hp hq W (N := N) c 0 N (by omega) (by omega)
  have e : f_X4_keepsStep_2 N (nI l) (nI c) fl (nI p) (nI q) N (0 : Int32) = some o := e
  unfold f_X4_keepsStep
  rw [e, Option.bind_some]
  rcases h with ⟨⟨v, rfl⟩, b⟩ | ⟨⟨v, rfl⟩, s, -, b2, b3⟩
  · rw [ma_ap_f.mpr (fun s hs => b s (by omega) hs)]
    rfl
  · rw [ma_ap_t.mpr ⟨s, b2, b3⟩]
    rfl
/-- the least place with a beater that is in step with one -/
def ma_first (x : Int32) (F : Nat → Nat → Bool) (c p r : Nat) : Prop := r < 16 ∧ bt x r = true ∧ ma_ap F r p c = false ∧ ∀ q, q < r → bt x q = true → ma_ap F q p c = true
theorem ma_first_u {x : Int32} {F : Nat → Nat → Bool} {c p r s : Nat} (h1 : ma_first x F c p r) (h2 : ma_first x F c p s) : r = s := by
  rcases Nat.lt_trichotomy r s with g | g | g
  · have := h2.2.2.2 r g h1.2.1
    rw [h1.2.2.1] at this
    cases this
  · exact g
  · have := h1.2.2.2 s g h2.2.1
    rw [h2.2.2.1] at this
    cases this
theorem ms_mono {x : Int32} {i j : Nat} (hij : i < j) (hj : j < (ms_L x).length) : (ms_L x).getD i 0 < (ms_L x).getD j 0 := by
  have h : (ms_L x).Pairwise (· < ·) := List.Pairwise.filter _ List.pairwise_lt_range
  rw [ms_gd (show i < (ms_L x).length by omega), ms_gd hj]
  exact List.pairwise_iff_getElem.mp h i j _ _ hij
theorem mx_fis_2 {N l c p : Nat} (hN : 1001 ≤ N) (hp : p < 16) {x : Int32} (hb : bt x p = true) {places : Nat → Int32} (hpl : ∀ i, i < (ms_L x).length → places i = nI ((ms_L x).getD i 0)) {F : Nat → Nat → Bool} {fl : Nat → Int32} (W : ma_W F l c fl) : ∀ (k i m : Nat), i + k = (ms_L x).length → k < m → (∀ j, j < i → ma_ap F ((ms_L x).getD j 0) p c = true) → ∃ (r i' : Nat), f_X4_firstInStep_2 N (nI (ms_L x).length) places (nI l) (nI c) fl (nI p) m (nI i) = some (.inl (nI i')) ∧ i' < (ms_L x).length ∧ (ms_L x).getD i' 0 = r ∧ ma_first x F c p r
  | 0, i, m, hi, hm, h => by
    obtain ⟨j, hj, e⟩ := ms_idx hp hb
    have h1 := h j (by omega)
    rw [e, ma_ap_f.mpr (fun s _ => rfl)] at h1
    cases h1
  | k + 1, i, m, hi, hm, h => by
    obtain ⟨m, rfl⟩ : ∃ j, m = j + 1 := ⟨m - 1, by omega⟩
    have hlen : (ms_L x).length ≤ 16 := ms_l_len x 16
    have hil : i < (ms_L x).length := by omega
    have hq16 : (ms_L x).getD i 0 < 16 := (ms_l_getD hil).1
    have hqb : bt x ((ms_L x).getD i 0) = true := (ms_l_getD hil).2
    rw [f_X4_firstInStep_2, if_neg (nI_ge hil (by omega)), mg_g (show i < 16 by omega) (by omega), nI_clamp (show i < 2 ^ 31 by omega), hpl i hil, mx_keepsStep hN hq16 hp W, Option.bind_some, nI_1]
    cases ha : ma_ap F ((ms_L x).getD i 0) p c with
    | true =>
      rw [if_pos (show (if (true = true) then (0 : Int32) else 1) = 0 from rfl)]
      refine mx_fis_2 hN hp hb hpl W k (i + 1) m (by omega) (by omega) (fun j hj => ?_)
      by_cases q : j = i
      · subst q; exact ha
      · exact h j (by omega)
    | false =>
      rw [if_neg (show ¬ (if (false = true) then (0 : Int32) else 1) = 0 by decide)]
      refine ⟨_, i, rfl, hil, rfl, hq16, hqb, ha, fun q hq hqb2 => ?_⟩
      obtain ⟨j, hj, e⟩ := ms_idx (show q < 16 by omega) hqb2
      rw [← e]
      apply h
      rcases Nat.lt_trichotomy j i with g | g | g
      · exact g
      · subst g; omega
      · have := ms_mono g hj
        omega
theorem mx_firstInStep {N l c p : Nat} (hN : 1001 ≤ N) (hp : p < 16) {x : Int32} (hb : bt x p = true) {places : Nat → Int32} (hpl : ∀ i, i < (ms_L x).length → places i = nI ((ms_L x).getD i 0)) {F : Nat → Nat → Bool} {fl : Nat → Int32} (W : ma_W F l c fl) : ∃ r, f_X4_firstInStep N (nI (ms_L x).length) places (nI l) (nI c) fl (nI p) = some (nI r) ∧ ma_first x F c p r := by
  have hlen : (ms_L x).length ≤ 16 := ms_l_len x 16
  obtain ⟨r, i, e, h1, h2, h3⟩ := mx_fis_2 hN hp hb hpl W (ms_L x).length 0 N (by omega) (by omega) (fun j hj => by omega)
  have e : f_X4_firstInStep_2 N (nI (ms_L x).length) places (nI l) (nI c) fl (nI p) N (0 : Int32) = some (.inl (nI i)) := e
  refine ⟨r, ?_, h3⟩
  unfold f_X4_firstInStep
  rw [e, Option.bind_some]
  show zk_g (nI i) 16 (some (places (nI i).toNatClampNeg)) = _
  rw [mg_g (show i < 16 by omega) (by omega), nI_clamp (show i < 2 ^ 31 by omega), hpl i h1, h2]

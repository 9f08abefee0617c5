/-! rows of mine (pure): groups -/
def ma_ld (x : Int32) (F : Nat → Nat → Bool) (c q : Nat) : Bool := bt x q && (List.range q).all (fun r => !bt x r || ma_ap F r q c)
def ma_led (x : Int32) (F : Nat → Nat → Bool) (c k : Nat) : Nat := (List.range k).countP (ma_ld x F c)
theorem ma_led_s (x : Int32) (F : Nat → Nat → Bool) (c k : Nat) : ma_led x F c (k + 1) = ma_led x F c k + if ma_ld x F c k then 1 else 0 := by
  unfold ma_led
  rw [List.range_succ, List.countP_append]
  simp [List.countP_cons]
theorem ma_led_le (x : Int32) (F : Nat → Nat → Bool) (c k : Nat) : ma_led x F c k ≤ k := by
  have := List.countP_le_length (p := ma_ld x F c) (l := List.range k)
  rwa [List.length_range] at this
theorem ma_ap_self (F : Nat → Nat → Bool) (p c : Nat) : ma_ap F p p c = false := ma_ap_f.mpr (fun _ _ => rfl)
theorem ma_ld_t {x : Int32} {F : Nat → Nat → Bool} {c q : Nat} (hq : q < 16) : ma_ld x F c q = true ↔ ma_first x F c q q := by
  unfold ma_ld ma_first
  rw [Bool.and_eq_true, List.all_eq_true]
  constructor
  · rintro ⟨h1, h2⟩
    refine ⟨hq, h1, ma_ap_self F q c, fun r hr hb => ?_⟩
    have := h2 r (List.mem_range.mpr hr)
    rw [hb] at this
    simpa using this
  · rintro ⟨-, h1, -, h2⟩
    refine ⟨h1, fun r hr => ?_⟩
    have hr := List.mem_range.mp hr
    cases hb : bt x r with
    | false => rfl
    | true => rw [h2 r hr hb]; rfl
/-- the first one in step with one leads -/
theorem ma_first_ld {x : Int32} {F : Nat → Nat → Bool} {c p r : Nat} (h : ma_first x F c p r) : ma_first x F c r r := by
  obtain ⟨h1, h2, h3, h4⟩ := h
  refine ⟨h1, h2, ma_ap_self F r c, fun q hq hb => ?_⟩
  obtain ⟨s, hs, e⟩ := ma_ap_t.mp (h4 q hq hb)
  refine ma_ap_t.mpr ⟨s, hs, ?_⟩
  rw [ma_ap_f.mp h3 s hs]
  exact e
theorem ma_first_le {x : Int32} {F : Nat → Nat → Bool} {c p r : Nat} (hb : bt x p = true) (h : ma_first x F c p r) : r ≤ p := by
  rcases Nat.lt_or_ge p r with g | g
  · have := h.2.2.2 p g hb
    rw [ma_ap_self] at this
    cases this
  · exact g
theorem ma_led_gap {x : Int32} {F : Nat → Nat → Bool} {c a : Nat} : ∀ (k b : Nat), a + k = b → (∀ q, a ≤ q → q < b → bt x q = false) → ma_led x F c b = ma_led x F c a
  | 0, b, hb, h => by
    obtain rfl : a = b := by omega
    rfl
  | k + 1, b, hb, h => by
    obtain ⟨b, rfl⟩ : ∃ j, b = j + 1 := ⟨b - 1, by omega⟩
    have e : ma_ld x F c b = false := by unfold ma_ld; rw [h b (by omega) (by omega)]; rfl
    rw [ma_led_s, e, ma_led_gap k b (by omega) (fun q h1 h2 => h q h1 (by omega))]
    rfl
/-- the place of that index, or 16 -/
def ma_pos (x : Int32) (i : Nat) : Nat := if i < (ms_L x).length then (ms_L x).getD i 0 else 16
theorem ma_pos_0 (x : Int32) (F : Nat → Nat → Bool) (c : Nat) : ma_led x F c (ma_pos x 0) = 0 := by
  rw [ma_led_gap (a := 0) (ma_pos x 0) (ma_pos x 0) (by omega)]
  · rfl
  · intro q _ hq
    cases hb : bt x q with
    | false => rfl
    | true =>
      exfalso
      unfold ma_pos at hq
      by_cases h0 : 0 < (ms_L x).length
      · rw [if_pos h0] at hq
        have h16 : (ms_L x).getD 0 0 < 16 := (ms_l_getD h0).1
        obtain ⟨j, hj, e⟩ := ms_idx (show q < 16 by omega) hb
        rcases Nat.eq_zero_or_pos j with g | g
        · subst g; omega
        · have := ms_mono g hj
          omega
      · rw [if_neg h0] at hq
        obtain ⟨j, hj, e⟩ := ms_idx (show q < 16 by omega) hb
        omega
theorem ma_pos_s {x : Int32} {F : Nat → Nat → Bool} {c i : Nat} (hi : i < (ms_L x).length) : ma_led x F c (ma_pos x (i + 1)) = ma_led x F c ((ms_L x).getD i 0) + if ma_ld x F c ((ms_L x).getD i 0) then 1 else 0 := by
  rw [← ma_led_s]
  have h16 : (ms_L x).getD i 0 < 16 := (ms_l_getD hi).1
  have hp : (ms_L x).getD i 0 < ma_pos x (i + 1) ∧ ma_pos x (i + 1) ≤ 16 := by
    unfold ma_pos
    by_cases h : i + 1 < (ms_L x).length
    · rw [if_pos h]
      have := ms_mono (show i < i + 1 by omega) h
      have h16 : (ms_L x).getD (i + 1) 0 < 16 := (ms_l_getD h).1
      omega
    · rw [if_neg h]; omega
  refine ma_led_gap (ma_pos x (i + 1) - ((ms_L x).getD i 0 + 1)) _ (by omega) (fun q h1 h2 => ?_)
  cases hb : bt x q with
  | false => rfl
  | true =>
    exfalso
    obtain ⟨j, hj, e⟩ := ms_idx (show q < 16 by omega) hb
    rcases Nat.lt_trichotomy j i with g | g | g
    · have := ms_mono g hi
      omega
    · subst g; omega
    · have hl : i + 1 < (ms_L x).length := by omega
      unfold ma_pos at h2
      rw [if_pos hl] at h2
      rcases Nat.lt_or_ge (i + 1) j with g2 | g2
      · have := ms_mono g2 hj
        omega
      · obtain rfl : j = i + 1 := by omega
        omega
theorem mx_gather_4 {N l c : Nat} (hN : 1001 ≤ N) {x : Int32} {places : Nat → Int32} (hpl : ∀ i, i < (ms_L x).length → places i = nI ((ms_L x).getD i 0)) {F : Nat → Nat → Bool} {fl : Nat → Int32} (W : ma_W F l c fl) : ∀ (k i m : Nat) (G : Nat → Int32), i + k = (ms_L x).length → k < m → (∀ j, j < i → ∀ r, ma_first x F c ((ms_L x).getD j 0) r → G ((ms_L x).getD j 0) = nI (ma_led x F c r)) → ∃ G' : Nat → Int32, f_X4_gather_4 N (nI (ms_L x).length) places (nI l) (nI c) fl m (nI (ma_led x F c (ma_pos x i))) (nI i) G = some (nI (ma_led x F c 16), nI (ms_L x).length, G') ∧ ∀ p, p < 16 → bt x p = true → ∀ r, ma_first x F c p r → G' p = nI (ma_led x F c r)
  | 0, i, m, G, hi, hm, h => by
    obtain ⟨m, rfl⟩ : ∃ j, m = j + 1 := ⟨m - 1, by omega⟩
    have hlen : (ms_L x).length ≤ 16 := ms_l_len x 16
    have hi : i = (ms_L x).length := by omega
    have e16 : ma_pos x i = 16 := by unfold ma_pos; rw [if_neg (by omega)]
    refine ⟨G, ?_, fun p hp hb r hr => ?_⟩
    · rw [f_X4_gather_4, if_pos (nI_le (by omega) (by omega)), e16, hi]
    · obtain ⟨j, hj, e⟩ := ms_idx hp hb
      rw [← e]
      exact h j (by omega) r (by rw [e]; exact hr)
  | k + 1, i, m, G, hi, hm, h => by
    obtain ⟨m, rfl⟩ : ∃ j, m = j + 1 := ⟨m - 1, by omega⟩
    have hlen : (ms_L x).length ≤ 16 := ms_l_len x 16
    have hil : i < (ms_L x).length := by omega
    have hq16 : (ms_L x).getD i 0 < 16 := (ms_l_getD hil).1
    have hqb : bt x ((ms_L x).getD i 0) = true := (ms_l_getD hil).2
    have epos : ma_pos x i = (ms_L x).getD i 0 := by unfold ma_pos; rw [if_pos hil]
    obtain ⟨r, e, hr⟩ := mx_firstInStep hN hq16 hqb hpl W
    have hrle := ma_first_le hqb hr
    have g1 : ∀ {α : Type} (x : Option α), zk_g (nI i) 16 x = x := fun x => mg_g (by omega) (by omega) x
    have g2 : ∀ {α : Type} (y : Option α), zk_g (nI ((ms_L x).getD i 0)) 16 y = y := fun y => mg_g hq16 (by omega) y
    have g3 : ∀ {α : Type} (y : Option α), zk_g (nI r) 16 y = y := fun y => mg_g (by omega) (by omega) y
    have c1 : (nI i).toNatClampNeg = i := nI_clamp (by omega)
    have c2 : (nI ((ms_L x).getD i 0)).toNatClampNeg = (ms_L x).getD i 0 := nI_clamp (by omega)
    have c3 : (nI r).toNatClampNeg = r := nI_clamp (by omega)
    rw [f_X4_gather_4, if_neg (nI_ge hil (by omega)), g1]
    simp only [c1, hpl i hil, c2, c3, g2, g3, nI_1]
    rw [e, Option.bind_some]
    by_cases hrp : r = (ms_L x).getD i 0
    · rw [if_pos (by rw [hrp])]
      have hld : ma_ld x F c ((ms_L x).getD i 0) = true := (ma_ld_t hq16).mpr (by rw [hrp] at hr; exact hr)
      have es : ma_led x F c (ma_pos x i) + 1 = ma_led x F c (ma_pos x (i + 1)) := by rw [ma_pos_s hil, hld, epos]; rfl
      rw [es]
      refine mx_gather_4 hN hpl W k (i + 1) m _ (by omega) (by omega) (fun j hj s hs => ?_)
      unfold upd
      by_cases q : j = i
      · subst q
        have := ma_first_u hr hs
        rw [if_pos rfl, epos, ← this, hrp]
      · have hne := ms_mono (show j < i by omega) hil
        rw [if_neg (by omega)]
        exact h j (by omega) s hs
    · rw [if_neg (fun q => hrp ((nI_eq (by omega) (by omega)).mp q)), g3, c3]
      have hld : ma_ld x F c ((ms_L x).getD i 0) = false := by
        rw [← Bool.not_eq_true, ma_ld_t hq16]
        intro w
        exact hrp (ma_first_u hr w)
      have es : ma_led x F c (ma_pos x i) = ma_led x F c (ma_pos x (i + 1)) := by rw [ma_pos_s hil, hld, epos]; rfl
      rw [es]
      refine mx_gather_4 hN hpl W k (i + 1) m _ (by omega) (by omega) (fun j hj s hs => ?_)
      unfold upd
      by_cases q : j = i
      · subst q
        have := ma_first_u hr hs
        subst this
        rw [if_pos rfl]
        obtain ⟨j', hj', e'⟩ := ms_idx hr.1 hr.2.1
        have hlt : j' < j := by
          rcases Nat.lt_trichotomy j' j with g | g | g
          · exact g
          · subst g; exact absurd e'.symm hrp
          · have := ms_mono g hj'
            omega
        rw [← e']
        exact h j' hlt _ (by rw [e']; exact ma_first_ld hr)
      · have hne := ms_mono (show j < i by omega) hil
        rw [if_neg (by omega)]
        exact h j (by omega) s hs
theorem mx_gather {N l c : Nat} (hN : 1001 ≤ N) {x : Int32} {places : Nat → Int32} (hpl : ∀ i, i < (ms_L x).length → places i = nI ((ms_L x).getD i 0)) {F : Nat → Nat → Bool} {fl : Nat → Int32} (W : ma_W F l c fl) (G : Nat → Int32) : ∃ G' : Nat → Int32, f_X4_gather N (nI (ms_L x).length) places (nI l) (nI c) fl G = some (nI (ma_led x F c 16), G') ∧ ∀ p, p < 16 → bt x p = true → ∀ r, ma_first x F c p r → G' p = nI (ma_led x F c r) := by
  have hlen : (ms_L x).length ≤ 16 := ms_l_len x 16
  obtain ⟨G', e, h⟩ := mx_gather_4 hN hpl W (ms_L x).length 0 N G (by omega) (by omega) (fun j hj => by omega)
  rw [ma_pos_0] at e
  have e : f_X4_gather_4 N (nI (ms_L x).length) places (nI l) (nI c) fl N (0 : Int32) (0 : Int32) G = _ := e
  refine ⟨G', ?_, h⟩
  unfold f_X4_gather
  rw [e, Option.bind_some]

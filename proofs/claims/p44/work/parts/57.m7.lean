/-! rows of mine (pure): the class's comparison of states -/
theorem mx_like_2 {N : Nat} {x : Int32} {places f g : Nat → Int32} (hpl : ∀ i, i < (ms_L x).length → places i = nI ((ms_L x).getD i 0)) : ∀ (k i m : Nat), i + k = (ms_L x).length → k < m → ∃ o : Int32 ⊕ Int32, f_X2_isLike_2 N (nI (ms_L x).length) places f g m (nI i) = some o ∧ (((∃ v, o = .inr v) ∧ ∀ j, i ≤ j → j < (ms_L x).length → f ((ms_L x).getD j 0) = g ((ms_L x).getD j 0)) ∨ ((∃ v, o = .inl v) ∧ ∃ j, i ≤ j ∧ j < (ms_L x).length ∧ f ((ms_L x).getD j 0) ≠ g ((ms_L x).getD j 0)))
  | 0, i, m, hi, hm => by
    obtain ⟨m, rfl⟩ : ∃ j, m = j + 1 := ⟨m - 1, by omega⟩
    have hlen : (ms_L x).length ≤ 16 := ms_l_len x 16
    exact ⟨.inr (nI i), by rw [f_X2_isLike_2, if_pos (nI_le (by omega) (by omega))], Or.inl ⟨⟨_, rfl⟩, fun j h1 h2 => by omega⟩⟩
  | k + 1, i, m, hi, hm => by
    obtain ⟨m, rfl⟩ : ∃ j, m = j + 1 := ⟨m - 1, by omega⟩
    have hlen : (ms_L x).length ≤ 16 := ms_l_len x 16
    have hil : i < (ms_L x).length := by omega
    have hp16 : (ms_L x).getD i 0 < 16 := (ms_l_getD hil).1
    rw [f_X2_isLike_2, if_neg (nI_ge hil (by omega)), mg_g (show i < 16 by omega) (by omega), nI_clamp (show i < 2 ^ 31 by omega), hpl i hil, mg_g hp16 (by omega), mg_g hp16 (by omega), nI_clamp (show (ms_L x).getD i 0 < 2 ^ 31 by omega)]
    by_cases e : f ((ms_L x).getD i 0) = g ((ms_L x).getD i 0)
    · rw [if_pos e, nI_1]
      obtain ⟨o, h1, h2⟩ := mx_like_2 (N := N) (f := f) (g := g) hpl k (i + 1) m (by omega) (by omega)
      refine ⟨o, h1, ?_⟩
      rcases h2 with ⟨a, b⟩ | ⟨a, j, b1, b2, b3⟩
      · refine Or.inl ⟨a, fun j h1 h2 => ?_⟩
        by_cases c : j = i
        · subst c; exact e
        · exact b j (by omega) h2
      · exact Or.inr ⟨a, j, by omega, b2, b3⟩
    · rw [if_neg e]
      exact ⟨.inl (nI i), rfl, Or.inr ⟨⟨_, rfl⟩, i, by omega, hil, e⟩⟩
theorem mx_like_68 {N s1 s2 : Nat} (h1 : s1 < 32) (h2 : s2 < 32) {x : Int32} {places f g : Nat → Int32} (hpl : ∀ i, i < (ms_L x).length → places i = nI ((ms_L x).getD i 0)) : ∀ (k i m : Nat), i + k = (ms_L x).length → k < m → ∃ o : Int32 ⊕ Int32, f_X2_isLike_68 N (nI (ms_L x).length) places f g (nI (s1 * 16)) (nI (s2 * 16)) m (nI i) = some o ∧ (((∃ v, o = .inr v) ∧ ∀ j, i ≤ j → j < (ms_L x).length → f (s1 * 16 + (ms_L x).getD j 0) = g (s2 * 16 + (ms_L x).getD j 0)) ∨ ((∃ v, o = .inl v) ∧ ∃ j, i ≤ j ∧ j < (ms_L x).length ∧ f (s1 * 16 + (ms_L x).getD j 0) ≠ g (s2 * 16 + (ms_L x).getD j 0)))
  | 0, i, m, hi, hm => by
    obtain ⟨m, rfl⟩ : ∃ j, m = j + 1 := ⟨m - 1, by omega⟩
    have hlen : (ms_L x).length ≤ 16 := ms_l_len x 16
    exact ⟨.inr (nI i), by rw [f_X2_isLike_68, if_pos (nI_le (by omega) (by omega))], Or.inl ⟨⟨_, rfl⟩, fun j h1 h2 => by omega⟩⟩
  | k + 1, i, m, hi, hm => by
    obtain ⟨m, rfl⟩ : ∃ j, m = j + 1 := ⟨m - 1, by omega⟩
    have hlen : (ms_L x).length ≤ 16 := ms_l_len x 16
    have hil : i < (ms_L x).length := by omega
    have hp16 : (ms_L x).getD i 0 < 16 := (ms_l_getD hil).1
    rw [f_X2_isLike_68, if_neg (nI_ge hil (by omega)), mg_g (show i < 16 by omega) (by omega), nI_clamp (show i < 2 ^ 31 by omega), hpl i hil, nI_add, nI_add, mg_g (show s1 * 16 + (ms_L x).getD i 0 < 512 by omega) (by omega), mg_g (show s2 * 16 + (ms_L x).getD i 0 < 512 by omega) (by omega), nI_clamp (show s1 * 16 + (ms_L x).getD i 0 < 2 ^ 31 by omega), nI_clamp (show s2 * 16 + (ms_L x).getD i 0 < 2 ^ 31 by omega)]
    by_cases e : f (s1 * 16 + (ms_L x).getD i 0) = g (s2 * 16 + (ms_L x).getD i 0)
    · rw [if_pos e, nI_1]
      obtain ⟨o, q1, q2⟩ := mx_like_68 (N := N) (f := f) (g := g) h1 h2 hpl k (i + 1) m (by omega) (by omega)
      refine ⟨o, q1, ?_⟩
      rcases q2 with ⟨a, b⟩ | ⟨a, j, b1, b2, b3⟩
      · refine Or.inl ⟨a, fun j h1 h2 => ?_⟩
        by_cases c : j = i
        · subst c; exact e
        · exact b j (by omega) h2
      · exact Or.inr ⟨a, j, by omega, b2, b3⟩
    · rw [if_neg e]
      exact ⟨.inl (nI i), rfl, Or.inr ⟨⟨_, rfl⟩, i, by omega, hil, e⟩⟩
theorem mx_like_45 {N r1 r2 : Nat} (hN : 17 ≤ N) (h1 : r1 < 32) (h2 : r2 < 32) {x : Int32} {places f g : Nat → Int32} (hpl : ∀ i, i < (ms_L x).length → places i = nI ((ms_L x).getD i 0)) : ∀ (k d m : Nat), d + k = 31 → k < m → ∃ o : Int32 ⊕ Int32, f_X2_isLike_45 N (nI (ms_L x).length) places (nI r1) (nI r2) f g m (nI d) = some o ∧ (((∃ v, o = .inr v) ∧ ∀ e, d ≤ e → e ≤ 30 → ∀ j, j < (ms_L x).length → f ((r1 + e) % 32 * 16 + (ms_L x).getD j 0) = g ((r2 + e) % 32 * 16 + (ms_L x).getD j 0)) ∨ ((∃ v, o = .inl v) ∧ ∃ e j, d ≤ e ∧ e ≤ 30 ∧ j < (ms_L x).length ∧ f ((r1 + e) % 32 * 16 + (ms_L x).getD j 0) ≠ g ((r2 + e) % 32 * 16 + (ms_L x).getD j 0)))
  | 0, d, m, hd, hm => by
    obtain ⟨m, rfl⟩ : ∃ j, m = j + 1 := ⟨m - 1, by omega⟩
    have hd : d = 31 := by omega
    subst hd
    exact ⟨.inr (nI 31), by rw [f_X2_isLike_45, if_pos (show (30 : Int32) < nI 31 by decide)], Or.inl ⟨⟨_, rfl⟩, fun e q1 q2 => by omega⟩⟩
  | k + 1, d, m, hd, hm => by
    obtain ⟨m, rfl⟩ : ∃ j, m = j + 1 := ⟨m - 1, by omega⟩
    have hlen : (ms_L x).length ≤ 16 := ms_l_len x 16
    obtain ⟨o, e68, h68⟩ := mx_like_68 (N := N) (s1 := (r1 + d) % 32) (s2 := (r2 + d) % 32) (f := f) (g := g) (Nat.mod_lt _ (by omega)) (Nat.mod_lt _ (by omega)) hpl (ms_L x).length 0 N (by omega) (by omega)
    have e68 : f_X2_isLike_68 N (nI (ms_L x).length) places f g (nI ((r1 + d) % 32 * 16)) (nI ((r2 + d) % 32 * 16)) N (0 : Int32) = some o := e68
    rw [f_X2_isLike_45, if_neg (show ¬ (30 : Int32) < nI d from nI_nlt (a := 30) (b := d) (by omega) (by omega)), mx_row r1 d (by omega), Option.bind_some, mx_row r2 d (by omega), Option.bind_some, e68, Option.bind_some]
    rcases h68 with ⟨⟨v, rfl⟩, b⟩ | ⟨⟨v, rfl⟩, j, b1, b2, b3⟩
    · obtain ⟨o, q1, q2⟩ := mx_like_45 hN (f := f) (g := g) h1 h2 hpl k (d + 1) m (by omega) (by omega)
      refine ⟨o, ?_, ?_⟩
      · show f_X2_isLike_45 N (nI (ms_L x).length) places (nI r1) (nI r2) f g m (nI d + 1) = some o
        rw [nI_1]
        exact q1
      · rcases q2 with ⟨a, c⟩ | ⟨a, e, j, c1, c2, c3, c4⟩
        · refine Or.inl ⟨a, fun e q1 q2 j hj => ?_⟩
          by_cases z : e = d
          · subst z; exact b j (by omega) hj
          · exact c e (by omega) q2 j hj
        · exact Or.inr ⟨a, e, j, by omega, c2, c3, c4⟩
    · exact ⟨.inl 0, rfl, Or.inr ⟨⟨_, rfl⟩, d, j, by omega, by omega, b2, b3⟩⟩
theorem ms_idx {x : Int32} {p : Nat} (hp : p < 16) (hb : bt x p = true) : ∃ j, j < (ms_L x).length ∧ (ms_L x).getD j 0 = p := by
  have hm : p ∈ ms_L x := ms_l_mem.mpr ⟨hp, hb⟩
  obtain ⟨j, hj, e⟩ := List.mem_iff_getElem.mp hm
  exact ⟨j, hj, by rw [ms_gd hj, e]⟩
theorem mx_isLike {N r1 r2 : Nat} (hN : 61 ≤ N) {x : Int32} {places p1 c1 p2 c2 : Nat → Int32} {S T : ma_S} (hpl : ∀ i, i < (ms_L x).length → places i = nI ((ms_L x).getD i 0)) (h1 : ma_rc r1 p1 c1 S) (h2 : ma_rc r2 p2 c2 T) : ∃ v : Int32, f_X2_isLike N (nI (ms_L x).length) places (nI r1) p1 (nI r2) p2 c1 c2 = some v ∧ ((v = 1 ∧ ma_eqv x S T) ∨ (v = 0 ∧ ¬ ma_eqv x S T)) := by
  have hlen : (ms_L x).length ≤ 16 := ms_l_len x 16
  obtain ⟨a0, a1, a2, a3, a4⟩ := h1
  obtain ⟨b0, b1, b2, b3, b4⟩ := h2
  obtain ⟨o2, e2, k2⟩ := mx_like_2 (N := N) (f := p1) (g := p2) hpl (ms_L x).length 0 N (by omega) (by omega)
  obtain ⟨o45, e45, k45⟩ := mx_like_45 (N := N) (r1 := r1) (r2 := r2) (f := c1) (g := c2) (by omega) a0 b0 hpl 30 1 N (by omega) (by omega)
  have e2 : f_X2_isLike_2 N (nI (ms_L x).length) places p1 p2 N (0 : Int32) = some o2 := e2
  have e45 : f_X2_isLike_45 N (nI (ms_L x).length) places (nI r1) (nI r2) c1 c2 N (1 : Int32) = some o45 := e45
  unfold f_X2_isLike
  rw [e2, Option.bind_some]
  rcases k2 with ⟨⟨v, rfl⟩, q⟩ | ⟨⟨v, rfl⟩, j, -, q2, q3⟩
  · show ∃ w : Int32, ((f_X2_isLike_45 N (nI (ms_L x).length) places (nI r1) (nI r2) c1 c2 N (1 : Int32)).bind _) = some w ∧ _
    rw [e45, Option.bind_some]
    rcases k45 with ⟨⟨v, rfl⟩, z⟩ | ⟨⟨v, rfl⟩, e, j, z1, z2, z3, z4⟩
    · refine ⟨1, rfl, Or.inl ⟨rfl, ?_⟩⟩
      intro p hp hb
      obtain ⟨j, hj, rfl⟩ := ms_idx hp hb
      refine ⟨?_, fun d hd1 hd2 => ?_⟩
      · rw [← a1 _ hp, ← b1 _ hp]; exact q j (by omega) hj
      · rw [← a2 _ d hp hd1 hd2, ← b2 _ d hp hd1 hd2]; exact z d hd1 hd2 j hj
    · refine ⟨0, rfl, Or.inr ⟨rfl, fun h => z4 ?_⟩⟩
      obtain ⟨hp, hb⟩ := ms_l_getD z3
      rw [a2 _ e hp z1 z2, b2 _ e hp z1 z2]
      exact (h _ hp hb).2 e z1 z2
  · refine ⟨0, rfl, Or.inr ⟨rfl, fun h => q3 ?_⟩⟩
    obtain ⟨hp, hb⟩ := ms_l_getD q2
    rw [a1 _ hp, b1 _ hp]
    exact (h _ hp hb).1

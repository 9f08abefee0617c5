/-! rows of mine (pure): fields of the reference: taken over, and compared -/
theorem vnb {v : Int32} (h : v = 0 ∨ v = 1) : vp_nar .boolean v = v := by
  rcases h with rfl | rfl
  · exact vn0
  · exact vn1
theorem mx_takes_2 {N : Nat} {isT per ph qui : Nat → Int32} (hT : ∀ p, p < 16 → isT p = 0 ∨ isT p = 1) : ∀ (k i m : Nat) (a b c d : Nat → Int32), i + k = 16 → k < m → (∀ p, p < i → a p = isT p ∧ b p = per p ∧ c p = ph p ∧ d p = qui p) → ∃ a' b' c' d' : Nat → Int32, f_X6_takes_2 N isT per ph qui m (nI i) a b c d = some (nI 16, a', b', c', d') ∧ ∀ p, p < 16 → a' p = isT p ∧ b' p = per p ∧ c' p = ph p ∧ d' p = qui p
  | 0, i, m, a, b, c, d, hi, hm, h => by
    obtain ⟨m, rfl⟩ : ∃ j, m = j + 1 := ⟨m - 1, by omega⟩
    obtain rfl : i = 16 := by omega
    exact ⟨a, b, c, d, by rw [f_X6_takes_2, if_pos (show (16 : Int32) ≤ nI 16 by decide)], h⟩
  | k + 1, i, m, a, b, c, d, hi, hm, h => by
    obtain ⟨m, rfl⟩ : ∃ j, m = j + 1 := ⟨m - 1, by omega⟩
    have hi16 : i < 16 := by omega
    have g : ∀ {α : Type} (x : Option α), zk_g (nI i) 16 x = x := fun x => mg_g hi16 (by omega) x
    have ci : (nI i).toNatClampNeg = i := nI_clamp (by omega)
    rw [f_X6_takes_2, if_neg (show ¬ (16 : Int32) ≤ nI i from nI_ge (a := i) (b := 16) hi16 (by omega))]
    simp only [g, ci, nI_1, vnb (hT i hi16)]
    refine mx_takes_2 hT k (i + 1) m _ _ _ _ (by omega) (by omega) ?_
    intro p hp
    unfold upd
    by_cases e : p = i
    · subst e
      simp
    · simp only [if_neg e]
      exact h p (by omega)
theorem mx_takes_64 {N : Nat} {w0 : Nat → Int32} : ∀ (k i m : Nat) (w : Nat → Int32), i + k = 496 → k < m → (∀ p, p < i → w p = w0 p) → ∃ w' : Nat → Int32, f_X6_takes_64 N w0 m (nI i) w = some (nI 496, w') ∧ ∀ p, p < 496 → w' p = w0 p
  | 0, i, m, w, hi, hm, h => by
    obtain ⟨m, rfl⟩ : ∃ j, m = j + 1 := ⟨m - 1, by omega⟩
    obtain rfl : i = 496 := by omega
    exact ⟨w, by rw [f_X6_takes_64, if_pos (show (496 : Int32) ≤ nI 496 by decide)], h⟩
  | k + 1, i, m, w, hi, hm, h => by
    obtain ⟨m, rfl⟩ : ∃ j, m = j + 1 := ⟨m - 1, by omega⟩
    have hi16 : i < 496 := by omega
    have g : ∀ {α : Type} (x : Option α), zk_g (nI i) 496 x = x := fun x => mg_g hi16 (by omega) x
    have ci : (nI i).toNatClampNeg = i := nI_clamp (by omega)
    rw [f_X6_takes_64, if_neg (show ¬ (496 : Int32) ≤ nI i from nI_ge (a := i) (b := 496) hi16 (by omega))]
    simp only [g, ci, nI_1]
    refine mx_takes_64 k (i + 1) m _ (by omega) (by omega) ?_
    intro p hp
    unfold upd
    by_cases e : p = i
    · rw [if_pos e, e]
    · rw [if_neg e]
      exact h p (by omega)
theorem mx_takes0 {N : Nat} (hN : 500 ≤ N) {t : Int32} {isT per ph qui w : Nat → Int32} (hT : ∀ p, p < 16 → isT p = 0 ∨ isT p = 1) (a b c d v : Nat → Int32) : ∃ a' b' c' d' w' : Nat → Int32, f_X6_takes N t isT a per b ph c qui d v w = some (t, a', b', c', d', w') ∧ (∀ p, p < 16 → a' p = isT p ∧ b' p = per p ∧ c' p = ph p ∧ d' p = qui p) ∧ ∀ j, j < 496 → w' j = w j := by
  obtain ⟨a', b', c', d', e1, h1⟩ := mx_takes_2 (N := N) (per := per) (ph := ph) (qui := qui) hT 16 0 N a b c d (by omega) (by omega) (fun p hp => by omega)
  obtain ⟨w', e2, h2⟩ := mx_takes_64 (N := N) (w0 := w) 496 0 N v (by omega) (by omega) (fun p hp => by omega)
  have e1 : f_X6_takes_2 N isT per ph qui N (0 : Int32) a b c d = some (nI 16, a', b', c', d') := e1
  have e2 : f_X6_takes_64 N w N (0 : Int32) v = some (nI 496, w') := e2
  refine ⟨a', b', c', d', w', ?_, h1, h2⟩
  unfold f_X6_takes
  rw [e1, Option.bind_some, e2, Option.bind_some]
/-- a field's beaters, as the setting has them -/
def ma_fd (x : Int32) (per qui isT perR quiR : Nat → Int32) : Prop := ∀ p, p < 16 → isT p = (if bt x p then 1 else 0) ∧ (bt x p = true → perR p = per p ∧ quiR p = qui p)
theorem mx_takes {N t : Nat} (hN : 500 ≤ N) {x : Int32} {pC qC isT per ph qui w : Nat → Int32} {S : ma_S} (hfd : ma_fd x pC qC isT per qui) (hrm : ma_rm t ph w S) (a b c d v : Nat → Int32) : ∃ a' b' c' d' w' : Nat → Int32, f_X6_takes N (nI t) isT a per b ph c qui d v w = some (nI t, a', b', c', d', w') ∧ ma_fd x pC qC a' b' d' ∧ ma_rm t c' w' S := by
  have hT : ∀ p, p < 16 → isT p = 0 ∨ isT p = 1 := fun p hp => by
    rw [(hfd p hp).1]
    cases bt x p
    · exact Or.inl rfl
    · exact Or.inr rfl
  obtain ⟨a', b', c', d', w', e, h1, h2⟩ := mx_takes0 (t := nI t) (w := w) hN hT (per := per) (ph := ph) (qui := qui) a b c d v
  obtain ⟨r1, r2, r3⟩ := hrm
  refine ⟨a', b', c', d', w', e, fun p hp => ?_, fun p hp => ?_, fun p k hp hk1 hk2 => ?_, fun p hp => ?_⟩
  · obtain ⟨q1, q2, q3, q4⟩ := h1 p hp
    rw [q1, q2, q4]
    exact hfd p hp
  · rw [(h1 p hp).2.2.1]; exact r1 p hp
  · rw [h2 _ (by omega)]; exact r2 p k hp hk1 hk2
  · rw [h2 _ (by omega)]; exact r3 p hp
theorem mx_likeR_4 {N : Nat} {x : Int32} {isT f g : Nat → Int32} (hT : ∀ p, p < 16 → isT p = if bt x p then 1 else 0) : ∀ (k i m : Nat), i + k = 16 → k < m → ∃ v j : Int32, f_X6_isLike_4 N isT f g m (1 : Int32) (nI i) = some (v, j) ∧ ((v = 1 ∧ ∀ p, i ≤ p → p < 16 → bt x p = true → f p = g p) ∨ (v = 0 ∧ ∃ p, i ≤ p ∧ p < 16 ∧ bt x p = true ∧ f p ≠ g p))
  | 0, i, m, hi, hm => by
    obtain ⟨m, rfl⟩ : ∃ j, m = j + 1 := ⟨m - 1, by omega⟩
    obtain rfl : i = 16 := by omega
    exact ⟨1, nI 16, by rw [f_X6_isLike_4, if_pos (show (16 : Int32) ≤ nI 16 by decide)], Or.inl ⟨rfl, fun p h1 h2 => by omega⟩⟩
  | k + 1, i, m, hi, hm => by
    obtain ⟨m, rfl⟩ : ∃ j, m = j + 1 := ⟨m - 1, by omega⟩
    have hi16 : i < 16 := by omega
    have ci : (nI i).toNatClampNeg = i := nI_clamp (by omega)
    rw [f_X6_isLike_4, if_neg (show ¬ (16 : Int32) ≤ nI i from nI_ge (a := i) (b := 16) hi16 (by omega)), if_neg (show ¬ (1 : Int32) = 0 by decide), mg_g hi16 (by omega), ci, hT i hi16, nI_1]
    obtain ⟨v, j, e, h⟩ := mx_likeR_4 (N := N) (f := f) (g := g) hT k (i + 1) m (by omega) (by omega)
    have on : ((bt x i = true → f i = g i)) → ∃ v j : Int32, f_X6_isLike_4 N isT f g m (1 : Int32) (nI (i + 1)) = some (v, j) ∧ ((v = 1 ∧ ∀ p, i ≤ p → p < 16 → bt x p = true → f p = g p) ∨ (v = 0 ∧ ∃ p, i ≤ p ∧ p < 16 ∧ bt x p = true ∧ f p ≠ g p)) := fun hh => by
      refine ⟨v, j, e, ?_⟩
      rcases h with ⟨h1, h2⟩ | ⟨h1, p, h2, h3⟩
      · refine Or.inl ⟨h1, fun p q1 q2 q3 => ?_⟩
        by_cases c : p = i
        · subst c; exact hh q3
        · exact h2 p (by omega) q2 q3
      · exact Or.inr ⟨h1, p, by omega, h3⟩
    cases hb : bt x i with
    | false =>
      rw [show (if (false = true) then (1 : Int32) else 0) = 0 from rfl, if_pos rfl]
      exact on (fun q => by rw [hb] at q; cases q)
    | true =>
      rw [show (if (true = true) then (1 : Int32) else 0) = 1 from rfl, if_neg (show ¬ (1 : Int32) = 0 by decide), mg_g hi16 (by omega), mg_g hi16 (by omega)]
      by_cases c : f i = g i
      · rw [if_pos c]; exact on (fun _ => c)
      · rw [if_neg c]
        obtain ⟨m, rfl⟩ : ∃ j, m = j + 1 := ⟨m - 1, by omega⟩
        refine ⟨0, nI (i + 1), ?_, Or.inr ⟨rfl, i, by omega, hi16, hb, c⟩⟩
        rw [f_X6_isLike_4, if_pos (show (0 : Int32) = 0 from rfl)]
        split <;> rfl
theorem mx_likeR_65 {N t1 t2 p : Nat} (h1 : t1 < 2 ^ 30) (h2 : t2 < 2 ^ 30) (hp : p < 16) {x : Int32} {isT f g : Nat → Int32} (hT : isT p = if bt x p then 1 else 0) : ∀ (k e m : Nat), e + k = 31 → k < m → ∃ v j : Int32, f_X6_isLike_65 N (nI t1) isT (nI t2) f g (nI p) m (1 : Int32) (nI e) = some (v, j) ∧ ((v = 1 ∧ (bt x p = true → ∀ d, e ≤ d → d ≤ 30 → f (p * 31 + (t1 + d) % 31) = g (p * 31 + (t2 + d) % 31))) ∨ (v = 0 ∧ bt x p = true ∧ ∃ d, e ≤ d ∧ d ≤ 30 ∧ f (p * 31 + (t1 + d) % 31) ≠ g (p * 31 + (t2 + d) % 31)))
  | 0, e, m, he, hm => by
    obtain ⟨m, rfl⟩ : ∃ j, m = j + 1 := ⟨m - 1, by omega⟩
    obtain rfl : e = 31 := by omega
    exact ⟨1, nI 31, by rw [f_X6_isLike_65, if_pos (show (31 : Int32) ≤ nI 31 by decide)], Or.inl ⟨rfl, fun _ d q1 q2 => by omega⟩⟩
  | k + 1, e, m, he, hm => by
    obtain ⟨m, rfl⟩ : ∃ j, m = j + 1 := ⟨m - 1, by omega⟩
    have he31 : e < 31 := by omega
    have cp : (nI p).toNatClampNeg = p := nI_clamp (by omega)
    have m1 : (t1 + e) % 31 < 31 := Nat.mod_lt _ (by omega)
    have m2 : (t2 + e) % 31 < 31 := Nat.mod_lt _ (by omega)
    have idx : ∀ t : Nat, t < 2 ^ 30 → nI p * (31 : Int32) + (nI t + nI e - (nI t + nI e) / (31 : Int32) * (31 : Int32)) = nI (p * 31 + (t + e) % 31) := fun t ht => by
      rw [show (31 : Int32) = nI 31 from rfl, pk_mul, nI_add, pk_rem (by omega) (by omega) (by omega), nI_add]
    rw [f_X6_isLike_65, if_neg (show ¬ (31 : Int32) ≤ nI e from nI_ge (a := e) (b := 31) he31 (by omega)), if_neg (show ¬ (1 : Int32) = 0 by decide), mg_g hp (by omega), cp, hT]
    cases hb : bt x p with
    | false =>
      rw [show (if (false = true) then (1 : Int32) else 0) = 0 from rfl, if_pos rfl]
      exact ⟨1, _, rfl, Or.inl ⟨rfl, fun q => by cases q⟩⟩
    | true =>
      rw [show (if (true = true) then (1 : Int32) else 0) = 1 from rfl, if_neg (show ¬ (1 : Int32) = 0 by decide), idx t1 h1, idx t2 h2, mg_g (show p * 31 + (t1 + e) % 31 < 496 by omega) (by omega), mg_g (show p * 31 + (t2 + e) % 31 < 496 by omega) (by omega), nI_clamp (show p * 31 + (t1 + e) % 31 < 2 ^ 31 by omega), nI_clamp (show p * 31 + (t2 + e) % 31 < 2 ^ 31 by omega), nI_1]
      by_cases c : f (p * 31 + (t1 + e) % 31) = g (p * 31 + (t2 + e) % 31)
      · rw [if_pos c]
        obtain ⟨v, j, e1, h⟩ := mx_likeR_65 (N := N) (f := f) (g := g) h1 h2 hp hT k (e + 1) m (by omega) (by omega)
        refine ⟨v, j, e1, ?_⟩
        rcases h with ⟨q1, q2⟩ | ⟨q1, q2, d, q3, q4⟩
        · refine Or.inl ⟨q1, fun _ d r1 r2 => ?_⟩
          by_cases c2 : d = e
          · subst c2; exact c
          · exact q2 hb d (by omega) r2
        · exact Or.inr ⟨q1, rfl, d, by omega, q4⟩
      · rw [if_neg c]
        obtain ⟨m, rfl⟩ : ∃ j, m = j + 1 := ⟨m - 1, by omega⟩
        refine ⟨0, nI (e + 1), ?_, Or.inr ⟨rfl, rfl, e, by omega, by omega, c⟩⟩
        rw [f_X6_isLike_65, if_pos (show (0 : Int32) = 0 from rfl)]
        split <;> rfl
theorem mx_likeR_52 {N t1 t2 : Nat} (hN : 40 ≤ N) (h1 : t1 < 2 ^ 30) (h2 : t2 < 2 ^ 30) {x : Int32} {isT f g : Nat → Int32} (hT : ∀ p, p < 16 → isT p = if bt x p then 1 else 0) : ∀ (k i m : Nat), i + k = 16 → k < m → ∃ v j : Int32, f_X6_isLike_52 N (nI t1) isT (nI t2) f g m (1 : Int32) (nI i) = some (v, j) ∧ ((v = 1 ∧ ∀ p, i ≤ p → p < 16 → bt x p = true → ∀ d, 1 ≤ d → d ≤ 30 → f (p * 31 + (t1 + d) % 31) = g (p * 31 + (t2 + d) % 31)) ∨ (v = 0 ∧ ∃ p, i ≤ p ∧ p < 16 ∧ bt x p = true ∧ ∃ d, 1 ≤ d ∧ d ≤ 30 ∧ f (p * 31 + (t1 + d) % 31) ≠ g (p * 31 + (t2 + d) % 31)))
  | 0, i, m, hi, hm => by
    obtain ⟨m, rfl⟩ : ∃ j, m = j + 1 := ⟨m - 1, by omega⟩
    obtain rfl : i = 16 := by omega
    exact ⟨1, nI 16, by rw [f_X6_isLike_52, if_pos (show (16 : Int32) ≤ nI 16 by decide)], Or.inl ⟨rfl, fun p h1 h2 => by omega⟩⟩
  | k + 1, i, m, hi, hm => by
    obtain ⟨m, rfl⟩ : ∃ j, m = j + 1 := ⟨m - 1, by omega⟩
    have hi16 : i < 16 := by omega
    obtain ⟨v, j, e1, h⟩ := mx_likeR_65 (N := N) (f := f) (g := g) h1 h2 hi16 (hT i hi16) 30 1 N (by omega) (by omega)
    have e1 : f_X6_isLike_65 N (nI t1) isT (nI t2) f g (nI i) N (1 : Int32) (1 : Int32) = some (v, j) := e1
    rw [f_X6_isLike_52, if_neg (show ¬ (16 : Int32) ≤ nI i from nI_ge (a := i) (b := 16) hi16 (by omega)), if_neg (show ¬ (1 : Int32) = 0 by decide), e1, Option.bind_some, nI_1]
    rcases h with ⟨rfl, q⟩ | ⟨rfl, q1, q2⟩
    · obtain ⟨v, j, e2, h⟩ := mx_likeR_52 hN (f := f) (g := g) h1 h2 hT k (i + 1) m (by omega) (by omega)
      refine ⟨v, j, e2, ?_⟩
      rcases h with ⟨r1, r2⟩ | ⟨r1, p, r2, r3⟩
      · refine Or.inl ⟨r1, fun p s1 s2 s3 => ?_⟩
        by_cases c : p = i
        · subst c; exact q s3
        · exact r2 p (by omega) s2 s3
      · exact Or.inr ⟨r1, p, by omega, r3⟩
    · obtain ⟨m, rfl⟩ : ∃ j, m = j + 1 := ⟨m - 1, by omega⟩
      refine ⟨0, nI (i + 1), ?_, Or.inr ⟨rfl, i, by omega, hi16, q1, q2⟩⟩
      show f_X6_isLike_52 N (nI t1) isT (nI t2) f g (m + 1) (0 : Int32) (nI (i + 1)) = _
      rw [f_X6_isLike_52, if_pos (show (0 : Int32) = 0 from rfl)]
      split <;> rfl
theorem mx_likeF {N t1 t2 : Nat} (hN : 40 ≤ N) (h1 : t1 < 2 ^ 30) (h2 : t2 < 2 ^ 30) {x : Int32} {isT p1 w1 p2 w2 : Nat → Int32} {S T : ma_S} (hT : ∀ p, p < 16 → isT p = if bt x p then 1 else 0) (hS : ma_rm t1 p1 w1 S) (hT2 : ma_rm t2 p2 w2 T) : ∃ v : Int32, f_X6_isLike N (nI t1) isT p1 (nI t2) p2 w1 w2 = some v ∧ ((v = 1 ∧ ma_eqv x S T) ∨ (v = 0 ∧ ¬ ma_eqv x S T)) := by
  obtain ⟨v, j, e4, h4⟩ := mx_likeR_4 (N := N) (f := p1) (g := p2) hT 16 0 N (by omega) (by omega)
  have e4 : f_X6_isLike_4 N isT p1 p2 N (1 : Int32) (0 : Int32) = some (v, j) := e4
  unfold f_X6_isLike
  rw [e4, Option.bind_some]
  rcases h4 with ⟨rfl, q4⟩ | ⟨rfl, p, -, hp, hb, q4⟩
  · obtain ⟨v, j, e5, h5⟩ := mx_likeR_52 (N := N) (f := w1) (g := w2) hN h1 h2 hT 16 0 N (by omega) (by omega)
    have e5 : f_X6_isLike_52 N (nI t1) isT (nI t2) w1 w2 N (1 : Int32) (0 : Int32) = some (v, j) := e5
    show ∃ v : Int32, ((f_X6_isLike_52 N (nI t1) isT (nI t2) w1 w2 N (1 : Int32) (0 : Int32)).bind _) = some v ∧ _
    rw [e5, Option.bind_some]
    rcases h5 with ⟨rfl, q5⟩ | ⟨rfl, p, -, hp, hb, d, d1, d2, q5⟩
    · refine ⟨1, ms_bo1 _, Or.inl ⟨rfl, fun p hp hb => ⟨?_, fun d d1 d2 => ?_⟩⟩⟩
      · rw [← hS.1 p hp, ← hT2.1 p hp]; exact q4 p (by omega) hp hb
      · rw [← hS.2.1 p d hp d1 d2, ← hT2.2.1 p d hp d1 d2]; exact q5 p (by omega) hp hb d d1 d2
    · refine ⟨0, ms_bo0 _, Or.inr ⟨rfl, fun h => q5 ?_⟩⟩
      rw [hS.2.1 p d hp d1 d2, hT2.2.1 p d hp d1 d2]
      exact (h p hp hb).2 d d1 d2
  · obtain ⟨M, rfl⟩ : ∃ j, N = j + 1 := ⟨N - 1, by omega⟩
    have e5 : f_X6_isLike_52 (M + 1) (nI t1) isT (nI t2) w1 w2 (M + 1) (0 : Int32) (0 : Int32) = some (0, 0) := by
      rw [f_X6_isLike_52, if_neg (by decide), if_pos rfl]
    show ∃ v : Int32, ((f_X6_isLike_52 (M + 1) (nI t1) isT (nI t2) w1 w2 (M + 1) (0 : Int32) (0 : Int32)).bind _) = some v ∧ _
    rw [e5, Option.bind_some]
    refine ⟨0, ms_bo0 _, Or.inr ⟨rfl, fun h => q4 ?_⟩⟩
    rw [hS.1 p hp, hT2.1 p hp]
    exact (h p hp hb).1

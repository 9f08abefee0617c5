/-! rows of mine: a set pushed, whether it brings all in step: class -/
def lp_pp (x : Int32) (per : Nat → Int32) (S : ma_S) (p : Nat) : Int32 := if per p - (1 : Int32) < S.1 ((ms_L x).getD 0 0) then per p - (1 : Int32) else S.1 ((ms_L x).getD 0 0)
def lp_S (x : Int32) (per : Nat → Int32) (S : ma_S) (a : Nat) : ma_S := (fun p => if a.testBit p = true then lp_pp x per S p else S.1 p, S.2)
def lp_B (x : Int32) (per qui : Nat → Int32) (an : Nat → Nat → Int32) (n : Nat) (fr to de : Nat → Nat) (st : Nat → Int32) (S : ma_S) (a : Nat) : Prop := ∃ l c, pr_min (ma_eqv x) (ma_X x per qui an n fr to de st (lp_S x per S a)) l c ∧ l + c ≤ 1000 ∧ ∀ t, t < c → ∀ p q, p < 16 → q < 16 → bt x p = true → bt x q = true → ma_F x per qui an (ma_X x per qui an n fr to de st (lp_S x per S a)) (l + t) p = ma_F x per qui an (ma_X x per qui an n fr to de st (lp_S x per S a)) (l + t) q
theorem lp_pp_ok {x : Int32} {per : Nat → Int32} {S : ma_S} (h : ma_inv x per S) (h1 : 1 ≤ (ms_L x).length) {p : Nat} (hp : p < 16) (hb : bt x p = true) : ∃ a c : Nat, lp_pp x per S p = nI a ∧ per p = nI c ∧ a < c ∧ c < 100 := by
  obtain ⟨g1, g2⟩ := ms_l_getD (x := x) (p := 16) (i := 0) h1
  obtain ⟨a0, c0, e1, e2, e3, e4⟩ := h.1 _ g1 g2
  obtain ⟨a, c, f1, f2, f3, f4⟩ := h.1 p hp hb
  have e1 : S.1 ((ms_L x).getD 0 0) = nI a0 := e1
  unfold lp_pp
  rw [e1, f2, nI_p1 (by omega)]
  by_cases w : c - 1 < a0
  · rw [if_pos (nI_lt w (by omega))]
    exact ⟨c - 1, c, rfl, rfl, by omega, f4⟩
  · rw [if_neg (nI_nlt (by omega) (by omega))]
    exact ⟨a0, c, rfl, rfl, by omega, f4⟩
theorem lp_inv {x : Int32} {per : Nat → Int32} {S : ma_S} (h : ma_inv x per S) (h1 : 1 ≤ (ms_L x).length) (a : Nat) : ma_inv x per (lp_S x per S a) := by
  refine ⟨fun p hp hb => ?_, h.2⟩
  show ∃ u v : Nat, (if a.testBit p = true then lp_pp x per S p else S.1 p) = nI u ∧ per p = nI v ∧ u < v ∧ v < 100
  split
  · exact lp_pp_ok h h1 hp hb
  · exact h.1 p hp hb
theorem lp_R {x : Int32} {per : Nat → Int32} {S : ma_S} {a : Nat} {row : Int32} {ph co ph2 co2 : Nat → Int32} (h : ma_R row ph co S) (h1 : ∀ p, p < 16 → ph2 p = (lp_S x per S a).1 p) (h2 : ∀ j, j < 512 → co2 j = co j) : ma_R row ph2 co2 (lp_S x per S a) := by
  obtain ⟨r, e, hr, hp, hc, hz1, hz2⟩ := h
  refine ⟨r, e, hr, h1, fun p d hp2 hd1 hd2 => ?_, fun p hp2 => ?_, fun p hp2 => ?_⟩
  · rw [h2 _ (by have := Nat.mod_lt (r + d) (show 0 < 32 by decide); omega)]
    exact hc p d hp2 hd1 hd2
  · rw [h2 _ (by omega)]
    exact hz1 p hp2
  · rw [h2 _ (by have := Nat.mod_lt (r + 31) (show 0 < 32 by decide); omega)]
    exact hz2 p hp2
theorem lp_push {N p : Nat} (hp : p < 16) {x : Int32} (h1 : 1 ≤ (ms_L x).length) {places nph per : Nat → Int32} (hpl : ∀ i, i < (ms_L x).length → places i = nI ((ms_L x).getD i 0)) {S : ma_S} (hph : ∀ p, p < 16 → nph p = S.1 p) : f_X5_pushedPhase N places nph per (nI p) = some (lp_pp x per S p) := by
  have g : (ms_L x).getD 0 0 < 16 := (ms_l_getD (x := x) (p := 16) (i := 0) h1).1
  have z0 : (0 : Int32).toNatClampNeg = 0 := by decide
  unfold f_X5_pushedPhase lp_pp
  rw [z0, hpl 0 h1, mg_g g (by omega), mg_g hp (by omega), nI_clamp (show (ms_L x).getD 0 0 < 2 ^ 31 by omega), nI_clamp (show p < 2 ^ 31 by omega), hph _ g]
theorem lp_13 {N a : Nat} (ha : a < 65536) {x : Int32} (h1 : 1 ≤ (ms_L x).length) {places nph per : Nat → Int32} (hpl : ∀ i, i < (ms_L x).length → places i = nI ((ms_L x).getD i 0)) {S : ma_S} (hph : ∀ p, p < 16 → nph p = S.1 p) : ∀ (j i f : Nat) (ph : Nat → Int32), i + j = 16 → j < f → ∃ w ph2, f_X5_bringsInStep_13 N nph places per (nI a) f (nI i) ph = some (w, ph2) ∧ ∀ p, p < 16 → ph2 p = if i ≤ p ∧ a.testBit p = true then lp_pp x per S p else ph p := by
  intro j
  induction j with
  | zero =>
    intro i f ph hi hf
    obtain ⟨f, rfl⟩ : ∃ g, f = g + 1 := ⟨f - 1, by omega⟩
    rw [f_X5_bringsInStep_13.eq_def]
    simp only []
    rw [if_pos (show (16 : Int32) ≤ nI i from nI_le (a := 16) (by omega) (by omega))]
    exact ⟨_, _, rfl, fun p hp => by rw [if_neg (by omega)]⟩
  | succ j ih =>
    intro i f ph hi hf
    obtain ⟨f, rfl⟩ : ∃ g, f = g + 1 := ⟨f - 1, by omega⟩
    have hi16 : i < 16 := by omega
    rw [f_X5_bringsInStep_13.eq_def]
    simp only []
    rw [if_neg (show ¬ (16 : Int32) ≤ nI i from nI_ge (a := i) (b := 16) hi16 (by omega)), ms_tb _ (show i < 32 by omega), lp_bt ha, nI_1]
    cases hb : a.testBit i with
    | false =>
      rw [if_pos (show (if false = true then (1 : Int32) else 0) = 0 from rfl)]
      obtain ⟨w, ph2, e1, e2⟩ := ih (i + 1) f ph (by omega) (by omega)
      refine ⟨w, ph2, e1, fun p hp => ?_⟩
      rw [e2 p hp]
      by_cases hpi : p = i
      · subst hpi
        rw [hb, if_neg (by omega), if_neg (fun q => absurd q.2 (by decide))]
      · by_cases h3 : a.testBit p = true
        · by_cases h4 : i ≤ p
          · rw [if_pos ⟨by omega, h3⟩, if_pos ⟨h4, h3⟩]
          · rw [if_neg (fun q => by omega), if_neg (fun q => h4 q.1)]
        · rw [if_neg (fun q => h3 q.2), if_neg (fun q => h3 q.2)]
    | true =>
      rw [if_neg (show ¬ (if true = true then (1 : Int32) else 0) = 0 by decide), lp_push hi16 h1 hpl hph, Option.bind_some, mg_g hi16 (by omega), nI_clamp (show i < 2 ^ 31 by omega)]
      obtain ⟨w, ph2, e1, e2⟩ := ih (i + 1) f (upd ph i (lp_pp x per S i)) (by omega) (by omega)
      refine ⟨w, ph2, e1, fun p hp => ?_⟩
      rw [e2 p hp]
      by_cases hpi : p = i
      · subst hpi
        rw [if_neg (by omega), if_pos ⟨Nat.le_refl _, hb⟩]
        simp [upd]
      · have hu : upd ph i (lp_pp x per S i) p = ph p := by simp [upd, hpi]
        rw [hu]
        by_cases h3 : a.testBit p = true
        · by_cases h4 : i ≤ p
          · rw [if_pos ⟨by omega, h3⟩, if_pos ⟨h4, h3⟩]
          · rw [if_neg (fun q => by omega), if_neg (fun q => h4 q.1)]
        · rw [if_neg (fun q => h3 q.2), if_neg (fun q => h3 q.2)]
theorem lp_all {N l c : Nat} {x : Int32} (hx : ∀ p, 16 ≤ p → bt x p = false) (h1 : 1 ≤ (ms_L x).length) {F : Nat → Nat → Bool} (hF : ∀ t p, bt x p = false → F t p = false) {fl : Nat → Int32} (W : ma_W F l c fl) (hc : c ≤ 1000) : ∀ (k t f : Nat), t + k = c → k < f → ∃ o, f_X4_allInStep_2 N (nI l) (nI c) fl x f (nI t) = some o ∧ (((∃ v, o = .inr v) ∧ ∀ s, t ≤ s → s < c → ∀ p q, p < 16 → q < 16 → bt x p = true → bt x q = true → F s p = F s q) ∨ ((∃ v, o = .inl v) ∧ ∃ s p q, t ≤ s ∧ s < c ∧ p < 16 ∧ q < 16 ∧ bt x p = true ∧ bt x q = true ∧ F s p ≠ F s q)) := by
  obtain ⟨g1, g2⟩ := ms_l_getD (x := x) (p := 16) (i := 0) h1
  intro k
  induction k with
  | zero =>
    intro t f ht hf
    obtain ⟨f, rfl⟩ : ∃ g, f = g + 1 := ⟨f - 1, by omega⟩
    rw [f_X4_allInStep_2.eq_def]
    simp only []
    rw [if_pos (show nI c ≤ nI t from nI_le (by omega) (by omega))]
    exact ⟨_, rfl, Or.inl ⟨⟨_, rfl⟩, fun s h2 h3 => by omega⟩⟩
  | succ k ih =>
    intro t f ht hf
    obtain ⟨f, rfl⟩ : ∃ g, f = g + 1 := ⟨f - 1, by omega⟩
    have htc : t < c := by omega
    rw [f_X4_allInStep_2.eq_def]
    simp only []
    rw [if_neg (show ¬ nI c ≤ nI t from nI_ge htc (by omega)), mx_fic W htc, Option.bind_some, nI_1]
    have hbits := W.2 t htc
    obtain ⟨o, e1, e2⟩ := ih (t + 1) f (by omega) (by omega)
    have go : (∀ p q, p < 16 → q < 16 → bt x p = true → bt x q = true → F t p = F t q) → ∃ o, f_X4_allInStep_2 N (nI l) (nI c) fl x f (nI (t + 1)) = some o ∧ (((∃ v, o = .inr v) ∧ ∀ s, t ≤ s → s < c → ∀ p q, p < 16 → q < 16 → bt x p = true → bt x q = true → F s p = F s q) ∨ ((∃ v, o = .inl v) ∧ ∃ s p q, t ≤ s ∧ s < c ∧ p < 16 ∧ q < 16 ∧ bt x p = true ∧ bt x q = true ∧ F s p ≠ F s q)) := fun hE => by
      refine ⟨o, e1, ?_⟩
      rcases e2 with ⟨w1, w2⟩ | ⟨w1, s, p, q, w2, w3⟩
      · refine Or.inl ⟨w1, fun s h2 h3 => ?_⟩
        rcases Nat.lt_or_eq_of_le h2 with w | w
        · exact w2 s (by omega) h3
        · rw [← w]; exact hE
      · exact Or.inr ⟨w1, s, p, q, by omega, w3⟩
    by_cases y0 : fl (l + 1 + t) = 0
    · rw [if_pos y0]
      refine go (fun p q hp hq hbp hbq => ?_)
      have a1 := hbits p (by omega)
      have a2 := hbits q (by omega)
      rw [y0, b_0, decide_eq_true hp, Bool.true_and] at a1
      rw [y0, b_0, decide_eq_true hq, Bool.true_and] at a2
      rw [← a1, ← a2]
    · rw [if_neg y0]
      by_cases yx : fl (l + 1 + t) = x
      · rw [if_pos yx]
        refine go (fun p q hp hq hbp hbq => ?_)
        have a1 := hbits p (by omega)
        have a2 := hbits q (by omega)
        rw [yx, hbp, decide_eq_true hp, Bool.true_and] at a1
        rw [yx, hbq, decide_eq_true hq, Bool.true_and] at a2
        rw [← a1, ← a2]
      · rw [if_neg yx]
        refine ⟨_, rfl, Or.inr ⟨⟨_, rfl⟩, ?_⟩⟩
        apply Classical.byContradiction
        intro hno
        have hE : ∀ p q, p < 16 → q < 16 → bt x p = true → bt x q = true → F t p = F t q := fun p q hp hq hbp hbq => Classical.byContradiction fun w => hno ⟨t, p, q, Nat.le_refl _, htc, hp, hq, hbp, hbq, w⟩
        cases h0 : F t ((ms_L x).getD 0 0) with
        | false =>
          apply y0
          apply b_ext
          intro i hi
          rw [hbits i hi, b_0]
          by_cases hi16 : i < 16
          · rw [decide_eq_true hi16, Bool.true_and]
            cases hbi : bt x i with
            | false => exact hF t i hbi
            | true => rw [← h0]; exact hE i _ hi16 g1 hbi g2
          · rw [decide_eq_false hi16, Bool.false_and]
        | true =>
          apply yx
          apply b_ext
          intro i hi
          rw [hbits i hi]
          by_cases hi16 : i < 16
          · rw [decide_eq_true hi16, Bool.true_and]
            cases hbi : bt x i with
            | false => exact hF t i hbi
            | true => rw [← h0]; exact hE i _ hi16 g1 hbi g2
          · rw [decide_eq_false hi16, Bool.false_and, hx i (by omega)]
theorem lp_F0 {x : Int32} {per qui : Nat → Int32} {an : Nat → Nat → Int32} {X : Nat → ma_S} (t p : Nat) (h : bt x p = false) : ma_F x per qui an X t p = false := by
  unfold ma_F ma_flS
  rw [h]
  exact Bool.false_and _
theorem lp_brings {N n a : Nat} (hN : 2100 ≤ N) (ha : a < 65536) {x : Int32} (hx : ∀ p, 16 ≤ p → bt x p = false) (h1 : 1 ≤ (ms_L x).length) {places per qui ans froms tos delays st : Nat → Int32} {fr to de : Nat → Nat} {S : ma_S} (C : ma_C x n places ans froms tos delays st fr to de) (hinv : ma_inv x per S) {row : Int32} {nph co : Nat → Int32} (hR : ma_R row nph co S) (tph tco : Nat → Int32) (lt ct : Int32) (bp bc fp fc fl : Nat → Int32) : ∃ o, f_X5_bringsInStep N row nph tph co tco (nI (ms_L x).length) x (nI n) places per lt ct bp bc fp fc qui ans froms delays tos st fl (nI a) = some o ∧ o.2.1 = row ∧ ((o.1 = 1 ∧ lp_B x per qui (fun p q => ans (p * 4 + q)) n fr to de st S a) ∨ (o.1 = 0 ∧ ¬ lp_B x per qui (fun p q => ans (p * 4 + q)) n fr to de st S a)) := by
  have hph : ∀ p, p < 16 → nph p = S.1 p := fun p hp => ma_R_ph hR hp
  obtain ⟨w, ph2, e1, e2⟩ := lp_13 (N := N) ha h1 (per := per) C.2.2.1 hph 16 0 N (va_cpy nph tph 0 0 16) (by omega) (by omega)
  have e1 : f_X5_bringsInStep_13 N nph places per (nI a) N (0 : Int32) (va_cpy nph tph 0 0 16) = _ := e1
  have hR2 : ma_R row ph2 (va_cpy co tco 0 0 512) (lp_S x per S a) := by
    refine lp_R hR (fun p hp => ?_) (fun j hj => va_cpy_at hj)
    rw [e2 p hp, va_cpy_at hp, hph p hp]
    show _ = if a.testBit p = true then lp_pp x per S p else S.1 p
    by_cases h3 : a.testBit p = true
    · rw [if_pos ⟨Nat.zero_le _, h3⟩, if_pos h3]
    · rw [if_neg (fun q => h3 q.2), if_neg h3]
  obtain ⟨o, f1, f2⟩ := mx_follow hN C (lp_inv hinv h1 a) (qui := qui) rfl hR2 lt ct bp bc fp fc fl
  have ok := ma_X_ok C (per := per) (qui := qui) (S := lp_S x per S a)
  have cp : f_X2_copy N row nph tph co tco = some (row, va_cpy nph tph 0 0 16, va_cpy co tco 0 0 512) := rfl
  rcases f2 with ⟨l, c, a1, a2, a3, a4, a5, a6⟩ | ⟨a1, a2⟩
  · have hW : ma_W (fun t => ma_F x per qui (fun p q => ans (p * 4 + q)) (ma_X x per qui (fun p q => ans (p * 4 + q)) n fr to de st (lp_S x per S a)) (l + t)) l c o.2.2.2.2.2.2.2.2.2 := ⟨a4, fun t ht p hp => by
      rw [show l + 1 + t = l + t + 1 by omega]
      exact a6 (l + t) (by omega) p hp⟩
    obtain ⟨o2, k1, k2⟩ := lp_all (N := N) hx h1 (fun t p hb => lp_F0 (l + t) p hb) hW (by omega) c 0 N (by omega) (by omega)
    have k1 : f_X4_allInStep_2 N (nI l) (nI c) o.2.2.2.2.2.2.2.2.2 x N (0 : Int32) = _ := k1
    rcases k2 with ⟨⟨v, rfl⟩, k3⟩ | ⟨⟨v, rfl⟩, s, p, q, k3, k4, k5, k6, k7, k8, k9⟩
    · have hall : f_X4_allInStep N (nI l) (nI c) o.2.2.2.2.2.2.2.2.2 x = some 1 := by
        unfold f_X4_allInStep
        rw [k1]
        rfl
      have hgo : ∃ o3, f_X5_bringsInStep N row nph tph co tco (nI (ms_L x).length) x (nI n) places per lt ct bp bc fp fc qui ans froms delays tos st fl (nI a) = some o3 ∧ o3.2.1 = row ∧ o3.1 = 1 := by
        apply Exists.intro
        apply And.intro
        · unfold f_X5_bringsInStep
          rw [cp, Option.bind_some, e1, Option.bind_some, f1, Option.bind_some, a1, if_neg (show ¬ (1 : Int32) = 0 by decide), a2, a3, hall, Option.bind_some, if_neg (show ¬ (1 : Int32) = 0 by decide)]
        · exact ⟨rfl, rfl⟩
      obtain ⟨o3, h2, h3, h4⟩ := hgo
      exact ⟨o3, h2, h3, Or.inl ⟨h4, l, c, a5, a4, fun t ht p q hp hq hbp hbq => k3 t (Nat.zero_le _) ht p q hp hq hbp hbq⟩⟩
    · have hall : f_X4_allInStep N (nI l) (nI c) o.2.2.2.2.2.2.2.2.2 x = some 0 := by
        unfold f_X4_allInStep
        rw [k1]
        rfl
      have hgo : ∃ o3, f_X5_bringsInStep N row nph tph co tco (nI (ms_L x).length) x (nI n) places per lt ct bp bc fp fc qui ans froms delays tos st fl (nI a) = some o3 ∧ o3.2.1 = row ∧ o3.1 = 0 := by
        apply Exists.intro
        apply And.intro
        · unfold f_X5_bringsInStep
          rw [cp, Option.bind_some, e1, Option.bind_some, f1, Option.bind_some, a1, if_neg (show ¬ (1 : Int32) = 0 by decide), a2, a3, hall, Option.bind_some, if_pos rfl]
        · exact ⟨rfl, rfl⟩
      obtain ⟨o3, h2, h3, h4⟩ := hgo
      refine ⟨o3, h2, h3, Or.inr ⟨h4, ?_⟩⟩
      rintro ⟨l2, c2, b1, b2, b3⟩
      obtain ⟨rfl, rfl⟩ := pr_min_uniq ok a5 b1
      exact k9 (b3 s k4 p q k5 k6 k7 k8)
  · have hgo : ∃ o3, f_X5_bringsInStep N row nph tph co tco (nI (ms_L x).length) x (nI n) places per lt ct bp bc fp fc qui ans froms delays tos st fl (nI a) = some o3 ∧ o3.2.1 = row ∧ o3.1 = 0 := by
      apply Exists.intro
      apply And.intro
      · unfold f_X5_bringsInStep
        rw [cp, Option.bind_some, e1, Option.bind_some, f1, Option.bind_some, a1, if_pos rfl]
      · exact ⟨rfl, rfl⟩
    obtain ⟨o3, h2, h3, h4⟩ := hgo
    refine ⟨o3, h2, h3, Or.inr ⟨h4, ?_⟩⟩
    rintro ⟨l2, c2, b1, b2, b3⟩
    have := a2 l2 c2 b1
    omega

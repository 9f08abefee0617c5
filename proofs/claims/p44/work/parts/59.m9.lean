/-! rows of mine (pure): the class's search, whole -/
theorem mx_findLead {N n c : Nat} (hN : 2100 ≤ N) (hc : c ≤ 2000) {x : Int32} {places per qui ans froms tos delays st : Nat → Int32} {fr to de : Nat → Nat} {S : ma_S} (C : ma_C x n places ans froms tos delays st fr to de) (hinv : ma_inv x per S) {X : Nat → ma_S} (hX : X = ma_X x per qui (fun p q => ans (p * 4 + q)) n fr to de st S) {row : Int32} {ph co : Nat → Int32} (hR : ma_R row ph co S) (bp bc fp fc : Nat → Int32) : ∃ o, f_X4_findLead N (nI c) row ph bp co bc fp fc (nI (ms_L x).length) (nI n) places per qui ans froms delays tos st = some o ∧ ((∃ l : Nat, o.1 = 1 ∧ o.2.1 = nI l ∧ l + c ≤ 1000 ∧ pr_ret (ma_eqv x) X l c ∧ ∀ j, j < l → ¬ pr_ret (ma_eqv x) X j c) ∨ (o.1 = 0 ∧ ∀ j, j + c ≤ 1000 → ¬ pr_ret (ma_eqv x) X j c)) := by
  obtain ⟨p1, c1, e1, h1⟩ := mx_copy (N := N) (pd := bp) (cd := bc) hR
  obtain ⟨p2, c2, e2, h2⟩ := mx_copy (N := N) (pd := fp) (cd := fc) hR
  obtain ⟨r3, p3, c3, e3, h3⟩ := mx_findLead_18 (qui := qui) (by omega : 61 ≤ N) (by omega : c < 2 ^ 30) C hinv c 0 N row p2 c2 (by omega) (by omega) h2
  have h1 : ma_R row p1 c1 (X 0) := by rw [hX]; exact h1
  have h3 : ma_R r3 p3 c3 (X (0 + c)) := by rw [hX, Nat.zero_add]; exact h3
  obtain ⟨o, e4, h4⟩ := mx_findLead_47 (by omega : 61 ≤ N) hc C hinv hX 1001 0 N row p1 c1 r3 p3 c3 (by omega) (by omega) h1 h3
  have e3 : f_X4_findLead_18 N (nI c) (nI (ms_L x).length) (nI n) places per qui ans froms delays tos st N (0 : Int32) row p2 c2 = some (nI c, r3, p3, c3) := e3
  have e4 : f_X4_findLead_47 N (nI c) (nI (ms_L x).length) (nI n) places per qui ans froms delays tos st N (0 : Int32) row p1 c1 r3 p3 c3 = some o := e4
  unfold f_X4_findLead
  rw [e1, Option.bind_some, e2, Option.bind_some, e3, Option.bind_some, e4, Option.bind_some]
  rcases h4 with ⟨l, z, rfl, q1, q2, q3, q4⟩ | ⟨⟨z, rfl⟩, q1⟩
  · exact ⟨_, rfl, Or.inl ⟨l, rfl, rfl, q2, q3, fun j hj => q4 j (by omega) hj⟩⟩
  · exact ⟨_, rfl, Or.inr ⟨rfl, fun j hj => q1 j (by omega) hj⟩⟩
theorem mx_follow_24 {N n : Nat} (hN : 61 ≤ N) {x : Int32} {places per qui ans froms tos delays st : Nat → Int32} {fr to de : Nat → Nat} {S : ma_S} (C : ma_C x n places ans froms tos delays st fr to de) (hinv : ma_inv x per S) {X : Nat → ma_S} (hX : X = ma_X x per qui (fun p q => ans (p * 4 + q)) n fr to de st S) : ∀ (k b a m : Nat) (s rb : Int32) (pb cb : Nat → Int32) (rf : Int32) (pf cf fl : Nat → Int32), b + a + 1 + k = 2001 → k < m → (1000 ≤ b + a → b = 1000) → ma_R rb pb cb (X b) → ma_R rf pf cf (X (b + a)) → (∀ d, 1 ≤ d → d ≤ a → ¬ pr_ret (ma_eqv x) X b d) → (∀ t, t < b + a → ma_bits x per qui (fun p q => ans (p * 4 + q)) (fl (t + 1)) (X t)) → ∃ o, f_X4_follow_24 N (nI (ms_L x).length) (nI n) places per qui ans froms delays tos st m (nI a) s (nI (b + a + 1)) rb pb cb rf pf cf fl = some o ∧ ((∃ (c b' : Nat) (z : Int32 × Int32 × Int32 × (Nat → Int32) × (Nat → Int32) × Int32 × (Nat → Int32) × (Nat → Int32) × (Nat → Int32)), o = .inl (nI c, z) ∧ 1 ≤ c ∧ c ≤ 2000 ∧ b' ≤ 1000 ∧ pr_ret (ma_eqv x) X b' c ∧ (∀ d, 1 ≤ d → d < c → ¬ pr_ret (ma_eqv x) X b' d) ∧ ∀ t, t < b' + c → ma_bits x per qui (fun p q => ans (p * 4 + q)) (z.2.2.2.2.2.2.2.2 (t + 1)) (X t)) ∨ ((∃ z, o = .inr z) ∧ ∀ d, 1 ≤ d → d ≤ 1000 → ¬ pr_ret (ma_eqv x) X 1000 d))
  | 0, b, a, m, s, rb, pb, cb, rf, pf, cf, fl, hk, hm, h0, hb, hf, hn, hfl => by
    obtain ⟨m, rfl⟩ : ∃ j, m = j + 1 := ⟨m - 1, by omega⟩
    obtain rfl : b = 1000 := h0 (by omega)
    obtain rfl : a = 1000 := by omega
    exact ⟨_, by rw [f_X4_follow_24, if_pos (show (2000 : Int32) < nI (1000 + 1000 + 1) by decide)], Or.inr ⟨⟨_, rfl⟩, hn⟩⟩
  | k + 1, b, a, m, s, rb, pb, cb, rf, pf, cf, fl, hk, hm, h0, hb, hf, hn, hfl => by
    obtain ⟨m, rfl⟩ : ∃ j, m = j + 1 := ⟨m - 1, by omega⟩
    have iv : ∀ i, ma_inv x per (X i) := by rw [hX]; exact ma_X_inv C hinv
    obtain ⟨fb, r1, p1, c1, e1, hbits, hR1⟩ := mx_adv0 (qui := qui) hN C (iv (b + a)) hf
    have s1 : ma_step x per qui (fun p q => ans (p * 4 + q)) n fr to de st (X (b + a)) = X (b + a + 1) := by rw [hX]; rfl
    rw [s1] at hR1
    obtain ⟨v, e2, hv⟩ := mx_isLikeR hN C.2.2.1 hR1 hb
    have hfl' : ∀ t, t < b + a + 1 → ma_bits x per qui (fun p q => ans (p * 4 + q)) (upd fl (b + a + 1) fb (t + 1)) (X t) := by
      intro t ht
      unfold upd
      by_cases e : t + 1 = b + a + 1
      · rw [if_pos e, show t = b + a by omega]; exact hbits
      · rw [if_neg e]; exact hfl t (by omega)
    have cT : (nI (b + a + 1)).toNatClampNeg = b + a + 1 := nI_clamp (by omega)
    rw [f_X4_follow_24, if_neg (show ¬ (2000 : Int32) < nI (b + a + 1) from nI_nlt (a := 2000) (by omega) (by omega)), e1, Option.bind_some, mg_g (show b + a + 1 < 2001 by omega) (by omega)]
    simp only [cT, nI_1]
    rw [e2, Option.bind_some]
    rcases hv with ⟨rfl, hv⟩ | ⟨rfl, hv⟩
    · rw [if_neg (by decide)]
      exact ⟨_, rfl, Or.inl ⟨a + 1, b, _, rfl, by omega, by omega, by omega, hv, fun d h1 h2 => hn d h1 (by omega), fun t ht => hfl' t (by omega)⟩⟩
    · rw [if_pos rfl]
      have cont : (1000 ≤ b + (a + 1) → b = 1000) → ∃ o, f_X4_follow_24 N (nI (ms_L x).length) (nI n) places per qui ans froms delays tos st m (nI (a + 1)) s (nI (b + a + 1 + 1)) rb pb cb r1 p1 c1 (upd fl (b + a + 1) fb) = some o ∧ _ := fun hc => mx_follow_24 hN C hinv hX k b (a + 1) m s rb pb cb r1 p1 c1 (upd fl (b + a + 1) fb) (by omega) (by omega) hc hb hR1 (fun d h1 h2 => by
        by_cases g : d = a + 1
        · subst g; exact hv
        · exact hn d h1 (by omega)) hfl'
      have jump : (1000 ≤ b + a + 1 → b + a + 1 = 1000) → ∃ o, ((f_X2_copy N r1 p1 pb c1 cb).bind fun o108 => f_X4_follow_24 N (nI (ms_L x).length) (nI n) places per qui ans froms delays tos st m (0 : Int32) (s * (2 : Int32)) (nI (b + a + 1 + 1)) o108.1 o108.2.1 o108.2.2 r1 p1 c1 (upd fl (b + a + 1) fb)) = some o ∧ _ := fun hc => by
        obtain ⟨p5, c5, e5, h5⟩ := mx_copy (N := N) (pd := pb) (cd := cb) hR1
        rw [e5, Option.bind_some]
        exact mx_follow_24 hN C hinv hX k (b + a + 1) 0 m (s * 2) r1 p5 c5 r1 p1 c1 (upd fl (b + a + 1) fb) (by omega) (by omega) hc h5 hR1 (fun d h1 h2 => by omega) hfl'
      by_cases hT : b + a + 1 = 1000
      · rw [if_pos (show nI (b + a + 1) = 1000 by rw [hT]; rfl)]
        exact jump (fun _ => hT)
      · rw [if_neg (show ¬ nI (b + a + 1) = 1000 from fun e => hT ((nI_eq (a := b + a + 1) (b := 1000) (by omega) (by omega)).mp e))]
        by_cases hs : nI (a + 1) = s
        · rw [if_pos hs]
          by_cases hT2 : 1000 ≤ b + a + 1
          · rw [if_pos (show (1000 : Int32) ≤ nI (b + a + 1) from nI_le (a := 1000) hT2 (by omega))]
            exact cont (fun _ => h0 (by omega))
          · rw [if_neg (show ¬ (1000 : Int32) ≤ nI (b + a + 1) from nI_ge (a := b + a + 1) (b := 1000) (by omega) (by omega))]
            exact jump (fun q => absurd q hT2)
        · rw [if_neg hs]
          exact cont (fun q => h0 (by omega))
theorem ms_bo1 {β : Type} (x : Option β) : zk_bo 1 x = x := if_pos (Or.inr rfl)
theorem ms_bo0 {β : Type} (x : Option β) : zk_bo 0 x = x := if_pos (Or.inl rfl)
/-- what a way followed tells -/
theorem mx_follow {N n : Nat} (hN : 2100 ≤ N) {x : Int32} {places per qui ans froms tos delays st : Nat → Int32} {fr to de : Nat → Nat} {S : ma_S} (C : ma_C x n places ans froms tos delays st fr to de) (hinv : ma_inv x per S) {X : Nat → ma_S} (hX : X = ma_X x per qui (fun p q => ans (p * 4 + q)) n fr to de st S) {row : Int32} {ph co : Nat → Int32} (hR : ma_R row ph co S) (lt ct : Int32) (bp bc fp fc fl : Nat → Int32) : ∃ o, f_X4_follow N lt ct row ph bp co bc fp fc (nI (ms_L x).length) (nI n) places per qui ans froms delays tos st fl = some o ∧ ((∃ l c : Nat, o.1 = 1 ∧ o.2.1 = nI l ∧ o.2.2.1 = nI c ∧ l + c ≤ 1000 ∧ pr_min (ma_eqv x) X l c ∧ ∀ t, t < l + c → ma_bits x per qui (fun p q => ans (p * 4 + q)) (o.2.2.2.2.2.2.2.2.2 (t + 1)) (X t)) ∨ (o.1 = 0 ∧ ∀ l c, pr_min (ma_eqv x) X l c → 1000 < l + c)) := by
  have ok : pr_ok (ma_eqv x) X := by rw [hX]; exact ma_X_ok C
  obtain ⟨p1, c1, e1, h1⟩ := mx_copy (N := N) (pd := bp) (cd := bc) hR
  obtain ⟨p2, c2, e2, h2⟩ := mx_copy (N := N) (pd := fp) (cd := fc) hR
  have h1 : ma_R row p1 c1 (X 0) := by rw [hX]; exact h1
  have h2 : ma_R row p2 c2 (X 0) := by rw [hX]; exact h2
  obtain ⟨o, e3, h3⟩ := mx_follow_24 (by omega : 61 ≤ N) C hinv hX 2000 0 0 N 1 row p1 c1 row p2 c2 fl (by omega) (by omega) (fun q => by omega) h1 h2 (fun d h1 h2 => by omega) (fun t ht => by omega)
  have e3 : f_X4_follow_24 N (nI (ms_L x).length) (nI n) places per qui ans froms delays tos st N (0 : Int32) (1 : Int32) (1 : Int32) row p1 c1 row p2 c2 fl = some o := e3
  unfold f_X4_follow
  rw [e1, Option.bind_some, e2, Option.bind_some, e3, Option.bind_some]
  rcases h3 with ⟨c, b, z, rfl, q1, q2, q3, q4, q5, q6⟩ | ⟨⟨z, rfl⟩, q1⟩
  · obtain ⟨o4, e4, h4⟩ := mx_findLead hN q2 C hinv hX hR z.2.2.2.1 z.2.2.2.2.1 z.2.2.2.2.2.2.1 z.2.2.2.2.2.2.2.1
    show ∃ o, ((f_X4_findLead N (nI c) row ph z.2.2.2.1 co z.2.2.2.2.1 z.2.2.2.2.2.2.1 z.2.2.2.2.2.2.2.1 (nI (ms_L x).length) (nI n) places per qui ans froms delays tos st).bind _) = some o ∧ _
    rw [e4, Option.bind_some]
    obtain ⟨w1, w2, w3⟩ := o4
    rcases h4 with ⟨l, a1, a2, a3, a4, a5⟩ | ⟨a1, a2⟩
    · obtain rfl : w1 = 1 := a1
      refine ⟨_, ms_bo1 _, Or.inl ⟨l, c, rfl, a2, rfl, a3, pr_min_of ok q1 q4 q5 a4 a5, fun t ht => q6 t ?_⟩⟩
      have := pr_ge q4 a5
      omega
    · obtain rfl : w1 = 0 := a1
      refine ⟨_, ms_bo0 _, Or.inr ⟨rfl, fun l d hd => ?_⟩⟩
      have hcd := pr_same ok q1 q4 q5 hd
      subst hcd
      rcases Nat.lt_or_ge 1000 (l + c) with g | g
      · exact g
      · exact absurd hd.2.1 (a2 l g)
  · refine ⟨_, rfl, Or.inr ⟨rfl, fun l d hd => ?_⟩⟩
    rcases Nat.lt_or_ge 1000 (l + d) with g | g
    · exact g
    · exact absurd (pr_ret_le ok hd.2.1 (show l ≤ 1000 by omega)) (q1 d hd.1 (by omega))

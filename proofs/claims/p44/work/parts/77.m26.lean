/-! rows of mine (pure): isTrue of the class -/
theorem mx_ra_10 {N n : Nat} (hN : 2100 ≤ N) {x : Int32} {places per qui ans froms tos delays st : Nat → Int32} {fr to de : Nat → Nat} (C : ma_C x n places ans froms tos delays st fr to de) {X : Nat → ma_S} (hX : ∀ i, X (i + 1) = ma_step x per qui (fun p q => ans (p * 4 + q)) n fr to de st (X i)) (iv : ∀ i, ma_inv x per (X i)) {l s : Nat} (hl : l ≤ 2000) : ∀ (k i m : Nat) (row : Int32) (ph co : Nat → Int32), i + k = l → k < m → ma_R row ph co (X (s + i)) → ∃ (row' : Int32) (ph' co' : Nat → Int32), f_X4_returnsAnew_10 N (nI l) (nI (ms_L x).length) (nI n) places per qui ans froms delays tos st m (nI i) row ph co = some (nI l, row', ph', co') ∧ ma_R row' ph' co' (X (s + l))
  | 0, i, m, row, ph, co, hi, hm, h => by
    obtain ⟨m, rfl⟩ : ∃ j, m = j + 1 := ⟨m - 1, by omega⟩
    obtain rfl : i = l := by omega
    exact ⟨row, ph, co, by rw [f_X4_returnsAnew_10, if_pos (nI_le (Nat.le_refl _) (by omega))], h⟩
  | k + 1, i, m, row, ph, co, hi, hm, h => by
    obtain ⟨m, rfl⟩ : ∃ j, m = j + 1 := ⟨m - 1, by omega⟩
    obtain ⟨fb, row1, ph1, co1, e, -, hR⟩ := mx_adv0 (qui := qui) (by omega : 61 ≤ N) C (iv (s + i)) h
    rw [← hX] at hR
    rw [f_X4_returnsAnew_10, if_neg (nI_ge (show i < l by omega) (by omega)), e, Option.bind_some, nI_1]
    exact mx_ra_10 hN C hX iv hl k (i + 1) m row1 ph1 co1 (by omega) (by omega) hR
theorem mx_ra_47 {N n : Nat} (hN : 2100 ≤ N) {x : Int32} {places per qui ans froms tos delays st : Nat → Int32} {fr to de : Nat → Nat} (C : ma_C x n places ans froms tos delays st fr to de) {X : Nat → ma_S} (hX : ∀ i, X (i + 1) = ma_step x per qui (fun p q => ans (p * 4 + q)) n fr to de st (X i)) (iv : ∀ i, ma_inv x per (X i)) {l s : Nat} (hl : l ≤ 2000) : ∀ (k i m : Nat) (row : Int32) (ph co : Nat → Int32), i + k = l → k < m → ma_R row ph co (X (s + i)) → ∃ (row' : Int32) (ph' co' : Nat → Int32), f_X4_returnsAnew_47 N (nI l) (nI (ms_L x).length) (nI n) places per qui ans froms delays tos st m (nI i) row ph co = some (nI l, row', ph', co') ∧ ma_R row' ph' co' (X (s + l))
  | 0, i, m, row, ph, co, hi, hm, h => by
    obtain ⟨m, rfl⟩ : ∃ j, m = j + 1 := ⟨m - 1, by omega⟩
    obtain rfl : i = l := by omega
    exact ⟨row, ph, co, by rw [f_X4_returnsAnew_47, if_pos (nI_le (Nat.le_refl _) (by omega))], h⟩
  | k + 1, i, m, row, ph, co, hi, hm, h => by
    obtain ⟨m, rfl⟩ : ∃ j, m = j + 1 := ⟨m - 1, by omega⟩
    obtain ⟨fb, row1, ph1, co1, e, -, hR⟩ := mx_adv0 (qui := qui) (by omega : 61 ≤ N) C (iv (s + i)) h
    rw [← hX] at hR
    rw [f_X4_returnsAnew_47, if_neg (nI_ge (show i < l by omega) (by omega)), e, Option.bind_some, nI_1]
    exact mx_ra_47 hN C hX iv hl k (i + 1) m row1 ph1 co1 (by omega) (by omega) hR
theorem mx_returnsAnew {N n : Nat} (hN : 2100 ≤ N) {x : Int32} {places per qui ans froms tos delays st : Nat → Int32} {fr to de : Nat → Nat} (C : ma_C x n places ans froms tos delays st fr to de) {X : Nat → ma_S} (hX : ∀ i, X (i + 1) = ma_step x per qui (fun p q => ans (p * 4 + q)) n fr to de st (X i)) (iv : ∀ i, ma_inv x per (X i)) {l c : Nat} (hl : l + c ≤ 1000) (hm : pr_ret (ma_eqv x) X l c) {row : Int32} {ph co : Nat → Int32} (hR : ma_R row ph co (X 0)) (fp fc bp bc : Nat → Int32) : ∃ (w2 : Int32) (w3 w4 : Nat → Int32) (w5 : Int32) (w6 w7 : Nat → Int32), f_X4_returnsAnew N (nI l) (nI c) row ph fp co fc (nI (ms_L x).length) (nI n) places per qui ans froms delays tos st bp bc = some (1, w2, w3, w4, w5, w6, w7) := by
  obtain ⟨p1, c1, e1, h1⟩ := mx_copy (N := N) (pd := fp) (cd := fc) hR
  obtain ⟨r2, p2, c2, e2, h2⟩ := mx_ra_10 hN C hX iv (show l ≤ 2000 by omega) (s := 0) l 0 N row p1 c1 (by omega) (by omega) h1
  have h2 : ma_R r2 p2 c2 (X l) := by rw [Nat.zero_add] at h2; exact h2
  obtain ⟨p3, c3, e3, h3⟩ := mx_copy (N := N) (pd := bp) (cd := bc) h2
  obtain ⟨r4, p4, c4, e4, h4⟩ := mx_ra_47 hN C hX iv (show c ≤ 2000 by omega) (s := l) c 0 N r2 p2 c2 (by omega) (by omega) h2
  obtain ⟨v, e5, hv⟩ := mx_isLikeR (by omega : 61 ≤ N) C.2.2.1 h4 h3
  have e2 : f_X4_returnsAnew_10 N (nI l) (nI (ms_L x).length) (nI n) places per qui ans froms delays tos st N (0 : Int32) row p1 c1 = _ := e2
  have e4 : f_X4_returnsAnew_47 N (nI c) (nI (ms_L x).length) (nI n) places per qui ans froms delays tos st N (0 : Int32) r2 p2 c2 = _ := e4
  rcases hv with ⟨rfl, -⟩ | ⟨-, hv⟩
  · refine ⟨r4, p4, c4, r2, p3, c3, ?_⟩
    unfold f_X4_returnsAnew
    rw [e1, Option.bind_some, e2, Option.bind_some]
    show ((f_X2_copy N r2 p2 bp c2 bc).bind _) = _
    rw [e3, Option.bind_some]
    show ((f_X4_returnsAnew_47 N (nI c) (nI (ms_L x).length) (nI n) places per qui ans froms delays tos st N (0 : Int32) r2 p2 c2).bind _) = _
    rw [e4, Option.bind_some]
    show ((f_X2_isLike N (nI (ms_L x).length) places r4 p4 r2 p3 c4 c3).bind _) = _
    rw [e5, Option.bind_some, ms_bo1]
  · exact absurd hm hv
theorem ma_led_mono {x : Int32} {F : Nat → Nat → Bool} {c a : Nat} : ∀ k, ma_led x F c a ≤ ma_led x F c (a + k)
  | 0 => Nat.le_refl _
  | k + 1 => by
    have := ma_led_mono (x := x) (F := F) (c := c) (a := a) k
    rw [show a + (k + 1) = a + k + 1 by omega, ma_led_s]
    omega
theorem mc_add {lv : Nat → Nat} {g : Nat} : ∀ n, (List.range n).countP (fun j => decide (lv j < g)) + (List.range n).countP (fun j => decide (lv j = g)) = (List.range n).countP (fun j => decide (lv j < g + 1))
  | 0 => rfl
  | n + 1 => by
    have ih := mc_add (lv := lv) (g := g) n
    simp only [List.range_succ, List.countP_append, List.countP_cons, List.countP_nil, decide_eq_true_eq]
    by_cases h1 : lv n < g
    · rw [if_pos h1, if_neg (by omega), if_pos (by omega)]; omega
    · by_cases h2 : lv n = g
      · rw [if_neg h1, if_pos h2, if_pos (by omega)]; omega
      · rw [if_neg h1, if_neg h2, if_neg (by omega)]; omega
theorem mc_all {f : Nat → Bool} : ∀ n, (∀ j, j < n → f j = true) → (List.range n).countP f = n
  | 0, _ => rfl
  | n + 1, h => by
    rw [List.range_succ, List.countP_append, mc_all n (fun j hj => h j (by omega))]
    simp [List.countP_cons, h n (by omega)]
theorem mc_none {f : Nat → Bool} : ∀ n, (∀ j, j < n → f j = false) → (List.range n).countP f = 0
  | 0, _ => rfl
  | n + 1, h => by
    rw [List.range_succ, List.countP_append, mc_none n (fun j hj => h j (by omega))]
    simp [List.countP_cons, h n (by omega)]
theorem mx_gh_20 {N g L a : Nat} (hg : g < 2 ^ 31) (hL : L < 2 ^ 31) {x : Int32} {places G : Nat → Int32} (hpl : ∀ i, i < (ms_L x).length → places i = nI ((ms_L x).getD i 0)) {lv : Nat → Nat} (hG : ∀ i, i < (ms_L x).length → G ((ms_L x).getD i 0) = nI (lv i) ∧ lv i < L) : ∀ (k i m : Nat), i + k = (ms_L x).length → k < m → f_X4_groupsHaveAll_20 N (nI (ms_L x).length) places G (nI g) m (nI (a + (List.range i).countP (fun j => decide (lv j = g)))) (nI i) = some (nI (a + (List.range (ms_L x).length).countP (fun j => decide (lv j = g))), nI (ms_L x).length)
  | 0, i, m, hi, hm => by
    obtain ⟨m, rfl⟩ : ∃ j, m = j + 1 := ⟨m - 1, by omega⟩
    have hlen : (ms_L x).length ≤ 16 := ms_l_len x 16
    have hi : i = (ms_L x).length := by omega
    rw [f_X4_groupsHaveAll_20, if_pos (nI_le (by omega) (by omega)), hi]
  | k + 1, i, m, hi, hm => by
    obtain ⟨m, rfl⟩ : ∃ j, m = j + 1 := ⟨m - 1, by omega⟩
    have hlen : (ms_L x).length ≤ 16 := ms_l_len x 16
    have hil : i < (ms_L x).length := by omega
    have hq16 : (ms_L x).getD i 0 < 16 := (ms_l_getD hil).1
    obtain ⟨g1, g2⟩ := hG i hil
    have ih := mx_gh_20 (N := N) (a := a) hg hL hpl hG k (i + 1) m (by omega) (by omega)
    rw [List.range_succ, List.countP_append] at ih
    rw [f_X4_groupsHaveAll_20, if_neg (nI_ge hil (by omega)), mg_g (show i < 16 by omega) (by omega), nI_clamp (show i < 2 ^ 31 by omega), hpl i hil, mg_g hq16 (by omega), nI_clamp (show (ms_L x).getD i 0 < 2 ^ 31 by omega), g1, nI_1 i]
    by_cases h : lv i = g
    · rw [if_pos (by rw [h]), nI_1, ← ih]
      simp [List.countP_cons, h, Nat.add_assoc]
    · rw [if_neg (fun w => h ((nI_eq (by omega) (by omega)).mp w)), ← ih]
      simp [List.countP_cons, h]
theorem mx_gh_11 {N L : Nat} (hN : 20 ≤ N) (hL : L ≤ 16) {x : Int32} {places G : Nat → Int32} (hpl : ∀ i, i < (ms_L x).length → places i = nI ((ms_L x).getD i 0)) {lv : Nat → Nat} (hG : ∀ i, i < (ms_L x).length → G ((ms_L x).getD i 0) = nI (lv i) ∧ lv i < L) : ∀ (k g m : Nat), g + k = L → k < m → f_X4_groupsHaveAll_11 N (nI (ms_L x).length) places G (nI L) m (nI ((List.range (ms_L x).length).countP (fun j => decide (lv j < g)))) (nI g) = some (nI ((List.range (ms_L x).length).countP (fun j => decide (lv j < L))), nI L)
  | 0, g, m, hg, hm => by
    obtain ⟨m, rfl⟩ : ∃ j, m = j + 1 := ⟨m - 1, by omega⟩
    obtain rfl : g = L := by omega
    rw [f_X4_groupsHaveAll_11, if_pos (nI_le (Nat.le_refl _) (by omega))]
  | k + 1, g, m, hg, hm => by
    obtain ⟨m, rfl⟩ : ∃ j, m = j + 1 := ⟨m - 1, by omega⟩
    have hlen : (ms_L x).length ≤ 16 := ms_l_len x 16
    have e := mx_gh_20 (N := N) (a := (List.range (ms_L x).length).countP (fun j => decide (lv j < g))) (show g < 2 ^ 31 by omega) (show L < 2 ^ 31 by omega) hpl hG (ms_L x).length 0 N (by omega) (by omega)
    have e : f_X4_groupsHaveAll_20 N (nI (ms_L x).length) places G (nI g) N (nI ((List.range (ms_L x).length).countP (fun j => decide (lv j < g)))) (0 : Int32) = _ := e
    rw [f_X4_groupsHaveAll_11, if_neg (nI_ge (show g < L by omega) (by omega)), e, Option.bind_some, nI_1, mc_add]
    exact mx_gh_11 hN hL hpl hG k (g + 1) m (by omega) (by omega)
theorem mx_groupsHaveAll {N l c : Nat} (hN : 1001 ≤ N) {x : Int32} {places : Nat → Int32} (hpl : ∀ i, i < (ms_L x).length → places i = nI ((ms_L x).getD i 0)) {F : Nat → Nat → Bool} {fl : Nat → Int32} (W : ma_W F l c fl) (G : Nat → Int32) : ∃ G' : Nat → Int32, f_X4_groupsHaveAll N (nI (ms_L x).length) places (nI l) (nI c) fl G = some (1, G') := by
  have hlen : (ms_L x).length ≤ 16 := ms_l_len x 16
  obtain ⟨G', e1, h1⟩ := mx_gather hN hpl W G
  have hex : ∀ i, ∃ v : Nat, i < (ms_L x).length → (G' ((ms_L x).getD i 0) = nI v ∧ v < ma_led x F c 16) := fun i => by
    by_cases hil : i < (ms_L x).length
    · have hq16 : (ms_L x).getD i 0 < 16 := (ms_l_getD hil).1
      have hqb : bt x ((ms_L x).getD i 0) = true := (ms_l_getD hil).2
      obtain ⟨r, -, hr⟩ := mx_firstInStep hN hq16 hqb hpl W
      refine ⟨ma_led x F c r, fun _ => ⟨h1 _ hq16 hqb r hr, ?_⟩⟩
      have hld : ma_ld x F c r = true := (ma_ld_t hr.1).mpr (ma_first_ld hr)
      have hs := ma_led_s x F c r
      rw [hld] at hs
      have hm := ma_led_mono (x := x) (F := F) (c := c) (a := r + 1) (16 - (r + 1))
      have := hr.1
      rw [show r + 1 + (16 - (r + 1)) = 16 by omega, hs] at hm
      simp at hm
      omega
    · exact ⟨0, fun w => absurd w hil⟩
  obtain ⟨lv, hlv⟩ := Classical.axiomOfChoice hex
  have e2 := mx_gh_11 (N := N) (by omega) (ma_led_le x F c 16) hpl hlv (ma_led x F c 16) 0 N (by omega) (by have := ma_led_le x F c 16; omega)
  rw [mc_none (f := fun j => decide (lv j < 0)) _ (fun j _ => by simp), mc_all (f := fun j => decide (lv j < ma_led x F c 16)) _ (fun j hj => by simp [(hlv j hj).2])] at e2
  have e2 : f_X4_groupsHaveAll_11 N (nI (ms_L x).length) places G' (nI (ma_led x F c 16)) N (0 : Int32) (0 : Int32) = _ := e2
  refine ⟨G', ?_⟩
  unfold f_X4_groupsHaveAll
  rw [e1, Option.bind_some]
  show ((f_X4_groupsHaveAll_11 N (nI (ms_L x).length) places G' (nI (ma_led x F c 16)) N (0 : Int32) (0 : Int32)).bind _) = _
  rw [e2, Option.bind_some]
  exact if_pos rfl
theorem mx_it_2 {N : Nat} {x : Int32} {places ph per : Nat → Int32} {S : ma_S} (hpl : ∀ i, i < (ms_L x).length → places i = nI ((ms_L x).getD i 0)) (hok : ma_ok x per S) (hph : ∀ p, p < 16 → ph p = S.1 p) : ∀ (k i m : Nat), i + k = (ms_L x).length → k < m → f_X5_isTrue_2 N (nI (ms_L x).length) places ph per m (nI i) = some (.inr (nI (ms_L x).length))
  | 0, i, m, hi, hm => by
    obtain ⟨m, rfl⟩ : ∃ j, m = j + 1 := ⟨m - 1, by omega⟩
    have hlen : (ms_L x).length ≤ 16 := ms_l_len x 16
    have hi : i = (ms_L x).length := by omega
    rw [f_X5_isTrue_2, if_pos (nI_le (by omega) (by omega)), hi]
  | k + 1, i, m, hi, hm => by
    obtain ⟨m, rfl⟩ : ∃ j, m = j + 1 := ⟨m - 1, by omega⟩
    have hlen : (ms_L x).length ≤ 16 := ms_l_len x 16
    have hil : i < (ms_L x).length := by omega
    have hq16 : (ms_L x).getD i 0 < 16 := (ms_l_getD hil).1
    obtain ⟨a, d, e1, e2, e3, e4⟩ := hok _ hq16 (ms_l_getD hil).2
    rw [f_X5_isTrue_2, if_neg (nI_ge hil (by omega)), mg_g (show i < 16 by omega) (by omega), nI_clamp (show i < 2 ^ 31 by omega), hpl i hil, mg_g hq16 (by omega), mg_g hq16 (by omega), nI_clamp (show (ms_L x).getD i 0 < 2 ^ 31 by omega), hph _ hq16, e1, e2, if_pos (nI_lt e3 (by omega)), nI_1]
    exact mx_it_2 hpl hok hph k (i + 1) m (by omega) (by omega)
theorem mx_isTrue {N n h : Nat} (hN : 2100 ≤ N) (hh : h < 100) {x : Int32} {places per qui ans froms tos delays st : Nat → Int32} {fr to de : Nat → Nat} {S : ma_S} (C : ma_C x n places ans froms tos delays st fr to de) (hinv : ma_inv x per S) {row : Int32} {ph co : Nat → Int32} (hR : ma_R row ph co S) (lt ct br : Int32) (bp bc : Nat → Int32) (frw : Int32) (fp fc fl G : Nat → Int32) : ∃ (w2 w3 w4 : Int32) (w5 w6 : Nat → Int32) (w7 : Int32) (w8 w9 w10 w11 : Nat → Int32), f_X5_isTrue N (nI h) (nI (ms_L x).length) (nI n) places row ph per lt ct br bp co bc frw fp fc qui ans froms delays tos st fl G = some (1, w2, w3, w4, w5, w6, w7, w8, w9, w10, w11) := by
  have hlen : (ms_L x).length ≤ 16 := ms_l_len x 16
  have e0 : f_X5_isTrue_2 N (nI (ms_L x).length) places ph per N (0 : Int32) = _ := mx_it_2 C.2.2.1 hinv.1 (fun p hp => ma_R_ph hR hp) (ms_L x).length 0 N (by omega) (by omega)
  unfold f_X5_isTrue
  rw [e0, Option.bind_some]
  simp only [Sum.elim_inr]
  by_cases h0 : 0 < h
  · rw [if_pos (show (0 : Int32) < nI h from nI_lt (a := 0) h0 (by omega))]
    exact ⟨_, _, _, _, _, _, _, _, _, _, rfl⟩
  · rw [if_neg (show ¬ (0 : Int32) < nI h from nI_nlt (a := 0) (by omega) (by omega))]
    obtain ⟨o, e, ho⟩ := mx_follow (qui := qui) hN C hinv rfl hR lt ct bp bc fp fc fl
    obtain ⟨o1, o2, o3, o4, o5, o6, o7, o8, o9, o10⟩ := o
    rw [e, Option.bind_some]
    rcases ho with ⟨l, c, a1, a2, a3, a4, a5, a6⟩ | ⟨a1, a2⟩
    · obtain rfl : o1 = 1 := a1
      obtain rfl : o2 = nI l := a2
      obtain rfl : o3 = nI c := a3
      have hX : ∀ i, ma_X x per qui (fun p q => ans (p * 4 + q)) n fr to de st S (i + 1) = ma_step x per qui (fun p q => ans (p * 4 + q)) n fr to de st (ma_X x per qui (fun p q => ans (p * 4 + q)) n fr to de st S i) := fun i => rfl
      have W : ma_W (fun t => ma_F x per qui (fun p q => ans (p * 4 + q)) (ma_X x per qui (fun p q => ans (p * 4 + q)) n fr to de st S) (l + t)) l c o10 := ⟨a4, fun t ht p hp => by
        rw [show l + 1 + t = l + t + 1 by omega]
        exact a6 (l + t) (by omega) p hp⟩
      obtain ⟨w2, w3, w4, w5, w6, w7, e2⟩ := mx_returnsAnew hN C hX (ma_X_inv C hinv) a4 a5.2.1 hR o8 o9 o5 o6
      obtain ⟨G', e3⟩ := mx_groupsHaveAll (by omega : 1001 ≤ N) C.2.2.1 W G
      rw [if_neg (show ¬ (1 : Int32) = 0 by decide), e2, Option.bind_some, if_neg (show ¬ (1 : Int32) = 0 by decide)]
      show ∃ (w2 w3 w4 : Int32) (w5 w6 : Nat → Int32) (w7 : Int32) (w8 w9 w10 w11 : Nat → Int32), ((f_X4_groupsHaveAll N (nI (ms_L x).length) places (nI l) (nI c) o10 G).bind _) = _
      rw [e3, Option.bind_some, if_neg (show ¬ (1 : Int32) = 0 by decide)]
      exact ⟨_, _, _, _, _, _, _, _, _, _, rfl⟩
    · obtain rfl : o1 = 0 := a1
      rw [if_pos rfl]
      exact ⟨_, _, _, _, _, _, _, _, _, _, rfl⟩

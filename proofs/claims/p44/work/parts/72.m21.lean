/-! rows of mine (pure): two alone: the class takes their links, the reference all of them -/
theorem ma_sum_map {f : Nat → Int32} {g : Nat → Nat} {c : Nat} : ma_sum (fun j => f (g j)) (c + 1) = ma_sum (fun j => f (g j)) c + f (g c) := rfl
theorem mx_tt_64 {N n : Nat} (hn : n ≤ 60) {y : Int32} {froms tos delays st : Nat → Int32} {fr to de : Nat → Nat} (hl : ma_lk n froms tos delays fr to de) : ∀ (k i m c : Nat) (g : Nat → Nat) (F T D ST : Nat → Int32), i + k = n → k < m → c ≤ i → (∀ j, j < c → g j < n ∧ bt y (fr (g j)) = true ∧ bt y (to (g j)) = true ∧ F j = nI (fr (g j)) ∧ T j = nI (to (g j)) ∧ D j = nI (de (g j)) ∧ ST j = st (g j)) → (∀ f : Nat → Int32, ma_sum (fun j => f (g j)) c = ma_sum (fun k => if bt y (fr k) = true ∧ bt y (to k) = true then f k else 0) i) → ∃ (c' : Nat) (g' : Nat → Nat) (F' T' D' ST' : Nat → Int32), f_X1_takeTwo_64 N y (nI n) froms tos delays st m (nI i) (nI c) F T D ST = some (nI n, nI c', F', T', D', ST') ∧ c' ≤ n ∧ (∀ j, j < c' → g' j < n ∧ bt y (fr (g' j)) = true ∧ bt y (to (g' j)) = true ∧ F' j = nI (fr (g' j)) ∧ T' j = nI (to (g' j)) ∧ D' j = nI (de (g' j)) ∧ ST' j = st (g' j)) ∧ ∀ f : Nat → Int32, ma_sum (fun j => f (g' j)) c' = ma_sum (fun k => if bt y (fr k) = true ∧ bt y (to k) = true then f k else 0) n
  | 0, i, m, c, g, F, T, D, ST, hi, hm, hc, h1, h2 => by
    obtain ⟨m, rfl⟩ : ∃ j, m = j + 1 := ⟨m - 1, by omega⟩
    obtain rfl : i = n := by omega
    exact ⟨c, g, F, T, D, ST, by rw [f_X1_takeTwo_64, if_pos (nI_le (Nat.le_refl _) (by omega))], hc, h1, h2⟩
  | k + 1, i, m, c, g, F, T, D, ST, hi, hm, hc, h1, h2 => by
    obtain ⟨m, rfl⟩ : ∃ j, m = j + 1 := ⟨m - 1, by omega⟩
    have hin : i < n := by omega
    obtain ⟨e1, e2, e3, b1, b2, b3, b4⟩ := hl i hin
    have ci : (nI i).toNatClampNeg = i := nI_clamp (by omega)
    have cc : (nI c).toNatClampNeg = c := nI_clamp (by omega)
    have g1 : ∀ {α : Type} (x : Option α), zk_g (nI i) 60 x = x := fun x => mg_g (by omega) (by omega) x
    have g2 : ∀ {α : Type} (x : Option α), zk_g (nI c) 60 x = x := fun x => mg_g (by omega) (by omega) x
    have skip : ¬ (bt y (fr i) = true ∧ bt y (to i) = true) → ∃ (c' : Nat) (g' : Nat → Nat) (F' T' D' ST' : Nat → Int32), f_X1_takeTwo_64 N y (nI n) froms tos delays st m (nI (i + 1)) (nI c) F T D ST = some (nI n, nI c', F', T', D', ST') ∧ c' ≤ n ∧ (∀ j, j < c' → g' j < n ∧ bt y (fr (g' j)) = true ∧ bt y (to (g' j)) = true ∧ F' j = nI (fr (g' j)) ∧ T' j = nI (to (g' j)) ∧ D' j = nI (de (g' j)) ∧ ST' j = st (g' j)) ∧ ∀ f : Nat → Int32, ma_sum (fun j => f (g' j)) c' = ma_sum (fun k => if bt y (fr k) = true ∧ bt y (to k) = true then f k else 0) n := fun hno =>
      mx_tt_64 hn hl k (i + 1) m c g F T D ST (by omega) (by omega) (by omega) h1 (fun f => by
        rw [h2 f]
        show _ = ma_sum _ i + (if bt y (fr i) = true ∧ bt y (to i) = true then f i else 0)
        rw [if_neg hno, Int32.add_zero])
    rw [f_X1_takeTwo_64, if_neg (nI_ge hin (by omega)), g1]
    simp only [ci, e1, e2, e3, g1, nI_1]
    rw [mx_has b1, Option.bind_some]
    cases hf : bt y (fr i) with
    | false =>
      rw [if_pos (show (if (false = true) then (1 : Int32) else 0) = 0 from rfl)]
      exact skip (fun w => by rw [hf] at w; cases w.1)
    | true =>
      rw [if_neg (show ¬ (if (true = true) then (1 : Int32) else 0) = 0 by decide), mx_has b2, Option.bind_some]
      cases ht : bt y (to i) with
      | false =>
        rw [if_pos (show (if (false = true) then (1 : Int32) else 0) = 0 from rfl)]
        exact skip (fun w => by rw [ht] at w; cases w.2)
      | true =>
        rw [if_neg (show ¬ (if (true = true) then (1 : Int32) else 0) = 0 by decide)]
        have ea : f_X1_addLink N (nI c) F T D ST (nI (fr i)) (nI (to i)) (nI (de i)) (st i) = some (nI (c + 1), upd F c (nI (fr i)), upd T c (nI (to i)), upd D c (nI (de i)), upd ST c (st i)) := by
          unfold f_X1_addLink
          rw [if_neg (show ¬ (60 : Int32) ≤ nI c from nI_ge (a := c) (b := 60) (by omega) (by omega)), g2, g2, g2, g2, cc, nI_1]
        rw [ea, Option.bind_some]
        have es : ∀ f : Nat → Int32, ma_sum (fun j => f ((if j = c then i else g j))) c = ma_sum (fun j => f (g j)) c := fun f => ma_sum_congr (fun j hj => by
          show f (if j = c then i else g j) = f (g j)
          rw [if_neg (by omega)])
        refine mx_tt_64 hn hl k (i + 1) m (c + 1) (fun j => if j = c then i else g j) _ _ _ _ (by omega) (by omega) (by omega) (fun j hj => ?_) (fun f => ?_)
        · unfold upd
          by_cases q : j = c
          · simp only [if_pos q]
            exact ⟨hin, hf, ht, trivial, trivial, trivial, trivial⟩
          · simp only [if_neg q]
            exact h1 j (by omega)
        · rw [ma_sum_map (g := fun j => if j = c then i else g j), es, h2 f]
          show _ = ma_sum _ i + (if bt y (fr i) = true ∧ bt y (to i) = true then f i else 0)
          rw [if_pos rfl, if_pos (show bt y (fr i) = true ∧ bt y (to i) = true from ⟨hf, ht⟩)]
theorem ma_pair_tick {y : Int32} {per qui : Nat → Int32} {an : Nat → Nat → Int32} {n c : Nat} {fr to de g : Nat → Nat} {st ST b : Nat → Int32} (hfr : ∀ k, k < n → fr k < 16) (hg : ∀ j, j < c → g j < n ∧ ST j = st (g j)) (hs : ∀ f : Nat → Int32, ma_sum (fun j => f (g j)) c = ma_sum (fun k => if bt y (fr k) = true ∧ bt y (to k) = true then f k else 0) n) {S T : ma_S} (h : ma_eqv y S T) : ma_eqv y (ma_tick y per qui an c (fun j => fr (g j)) (fun j => to (g j)) (fun j => de (g j)) ST b S) (ma_tick y per qui an n fr to de st b T) := by
  intro p hp hb
  obtain ⟨h1, h2⟩ := h p hp hb
  refine ⟨?_, ?_⟩
  · show (if bt y p then _ else _) = (if bt y p then _ else _)
    rw [if_pos hb, if_pos hb, ma_fl_congr (c2 := fun p => T.2 p 1) (b2 := b) h1 (h2 1 (by omega) (by omega)) rfl, ma_np_congr (c2 := fun p => T.2 p 1) (b2 := b) h1 (h2 1 (by omega) (by omega)) rfl]
  · intro d hd1 hd2
    show (if d < 30 then S.2 p (d + 1) else 0) + _ = (if d < 30 then T.2 p (d + 1) else 0) + _
    have e1 : ma_sum (fun j => if ma_flS y per qui an b S (fr (g j)) = true ∧ to (g j) = p ∧ de (g j) = d then ST j else 0) c = ma_sum (fun j => if ma_flS y per qui an b S (fr (g j)) = true ∧ to (g j) = p ∧ de (g j) = d then st (g j) else 0) c := ma_sum_congr (fun j hj => by rw [(hg j hj).2])
    have e2 : ma_sum (fun k => if bt y (fr k) = true ∧ bt y (to k) = true then (if ma_flS y per qui an b S (fr k) = true ∧ to k = p ∧ de k = d then st k else 0) else 0) n = ma_sum (fun k => if ma_flS y per qui an b T (fr k) = true ∧ to k = p ∧ de k = d then st k else 0) n := ma_sum_congr (fun k hk => by
      show (if bt y (fr k) = true ∧ bt y (to k) = true then (if ma_flS y per qui an b S (fr k) = true ∧ to k = p ∧ de k = d then st k else 0) else 0) = _
      rw [ma_eqv_fl h (hfr k hk)]
      by_cases c1 : bt y (fr k) = true ∧ bt y (to k) = true
      · rw [if_pos c1]
      · rw [if_neg c1, if_neg]
        rintro ⟨q1, q2, q3⟩
        apply c1
        refine ⟨?_, by rw [q2]; exact hb⟩
        unfold ma_flS at q1
        rw [Bool.and_eq_true] at q1
        exact q1.1)
    rw [e1, hs (fun k => if ma_flS y per qui an b S (fr k) = true ∧ to k = p ∧ de k = d then st k else 0), e2]
    by_cases hd : d < 30
    · rw [if_pos hd, if_pos hd, h2 (d + 1) (by omega) (by omega)]
    · rw [if_neg hd, if_neg hd]
/-- sequences that are alike have the same lead and cycle -/
theorem pr_min_cong {α : Type} {r : α → α → Prop} (he : Equivalence r) {X Y : Nat → α} (h : ∀ i, r (X i) (Y i)) {l c : Nat} (hm : pr_min r X l c) : pr_min r Y l c := by
  have hr : ∀ k d, pr_ret r X k d ↔ pr_ret r Y k d := fun k d =>
    ⟨fun q => he.trans (he.symm (h _)) (he.trans q (h _)), fun q => he.trans (h _) (he.trans q (he.symm (h _)))⟩
  exact ⟨hm.1, (hr _ _).mp hm.2.1, fun d h1 h2 q => hm.2.2.1 d h1 h2 ((hr _ _).mpr q), fun k hk q => hm.2.2.2 k hk ((hr _ _).mpr q)⟩
theorem mx_cl_2 {N : Nat} : ∀ (k i m : Nat) (a : Nat → Int32), i + k = 16 → k < m → (∀ p, p < i → a p = 0) → ∃ a' : Nat → Int32, f_X2_clear_2 N m (nI i) a = some (nI 16, a') ∧ ∀ p, p < 16 → a' p = 0
  | 0, i, m, a, hi, hm, h => by
    obtain ⟨m, rfl⟩ : ∃ j, m = j + 1 := ⟨m - 1, by omega⟩
    obtain rfl : i = 16 := by omega
    exact ⟨a, by rw [f_X2_clear_2, if_pos (show (16 : Int32) ≤ nI 16 by decide)], h⟩
  | k + 1, i, m, a, hi, hm, h => by
    obtain ⟨m, rfl⟩ : ∃ j, m = j + 1 := ⟨m - 1, by omega⟩
    have hi16 : i < 16 := by omega
    have ci : (nI i).toNatClampNeg = i := nI_clamp (by omega)
    rw [f_X2_clear_2, if_neg (show ¬ (16 : Int32) ≤ nI i from nI_ge (a := i) (b := 16) hi16 (by omega)), mg_g hi16 (by omega), ci, nI_1]
    refine mx_cl_2 k (i + 1) m _ (by omega) (by omega) (fun p hp => ?_)
    unfold upd
    by_cases q : p = i
    · rw [if_pos q]
    · rw [if_neg q]; exact h p (by omega)
theorem mx_cl_23 {N : Nat} : ∀ (k i m : Nat) (a : Nat → Int32), i + k = 512 → k < m → (∀ p, p < i → a p = 0) → ∃ a' : Nat → Int32, f_X2_clear_23 N m (nI i) a = some (nI 512, a') ∧ ∀ p, p < 512 → a' p = 0
  | 0, i, m, a, hi, hm, h => by
    obtain ⟨m, rfl⟩ : ∃ j, m = j + 1 := ⟨m - 1, by omega⟩
    obtain rfl : i = 512 := by omega
    exact ⟨a, by rw [f_X2_clear_23, if_pos (show (512 : Int32) ≤ nI 512 by decide)], h⟩
  | k + 1, i, m, a, hi, hm, h => by
    obtain ⟨m, rfl⟩ : ∃ j, m = j + 1 := ⟨m - 1, by omega⟩
    have hi16 : i < 512 := by omega
    have ci : (nI i).toNatClampNeg = i := nI_clamp (by omega)
    rw [f_X2_clear_23, if_neg (show ¬ (512 : Int32) ≤ nI i from nI_ge (a := i) (b := 512) hi16 (by omega)), mg_g hi16 (by omega), ci, nI_1]
    refine mx_cl_23 k (i + 1) m _ (by omega) (by omega) (fun p hp => ?_)
    unfold upd
    by_cases q : p = i
    · rw [if_pos q]
    · rw [if_neg q]; exact h p (by omega)
theorem mx_clear {N : Nat} (hN : 600 ≤ N) (a b : Nat → Int32) : ∃ a' b' : Nat → Int32, f_X2_clear N a b = some (a', b') ∧ (∀ p, p < 16 → a' p = 0) ∧ ∀ j, j < 512 → b' j = 0 := by
  obtain ⟨a', e1, h1⟩ := mx_cl_2 (N := N) 16 0 N a (by omega) (by omega) (fun p hp => by omega)
  obtain ⟨b', e2, h2⟩ := mx_cl_23 (N := N) 512 0 N b (by omega) (by omega) (fun p hp => by omega)
  have e1 : f_X2_clear_2 N N (0 : Int32) a = _ := e1
  have e2 : f_X2_clear_23 N N (0 : Int32) b = _ := e2
  refine ⟨a', b', ?_, h1, h2⟩
  unfold f_X2_clear
  rw [e1, Option.bind_some, e2, Option.bind_some]

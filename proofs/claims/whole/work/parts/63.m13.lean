/-! rows of mine (pure): the reference goes round its cycle -/
theorem zg_up_at {M : Nat → Nat → Int32} {i j : Nat} {v : Int32} (a b : Nat) : zg_up M i j v a b = if a = i ∧ b = j then v else M a b := by
  unfold zg_up
  by_cases h : a = i <;> by_cases h2 : b = j <;> simp [h, h2]
theorem mx_gr_17 {N p : Nat} (hp : p < 16) : ∀ (k j m : Nat) (A : Nat → Nat → Int32), j + k = 16 → k < m → ∃ A' : Nat → Nat → Int32, f_X8_goRound_17 N (nI p) m (nI j) A = some (nI 16, A') ∧ ∀ a b, A' a b = if a = p ∧ j ≤ b ∧ b < 16 then 0 else A a b
  | 0, j, m, A, hj, hm => by
    obtain ⟨m, rfl⟩ : ∃ j, m = j + 1 := ⟨m - 1, by omega⟩
    obtain rfl : j = 16 := by omega
    exact ⟨A, by rw [f_X8_goRound_17, if_pos (show (16 : Int32) ≤ nI 16 by decide)], fun a b => by rw [if_neg (by omega)]⟩
  | k + 1, j, m, A, hj, hm => by
    obtain ⟨m, rfl⟩ : ∃ j, m = j + 1 := ⟨m - 1, by omega⟩
    have hj16 : j < 16 := by omega
    have cp : (nI p).toNatClampNeg = p := nI_clamp (by omega)
    have cj : (nI j).toNatClampNeg = j := nI_clamp (by omega)
    rw [f_X8_goRound_17, if_neg (show ¬ (16 : Int32) ≤ nI j from nI_ge (a := j) (b := 16) hj16 (by omega)), mg_g hp (by omega), mg_g hj16 (by omega), cp, cj, vn0, nI_1]
    obtain ⟨A', e, h⟩ := mx_gr_17 (N := N) hp k (j + 1) m (zg_up A p j 0) (by omega) (by omega)
    refine ⟨A', e, fun a b => ?_⟩
    rw [h a b, zg_up_at]
    by_cases q : a = p ∧ j ≤ b ∧ b < 16
    · rw [if_pos q]
      by_cases q2 : b = j
      · rw [if_neg (by omega), if_pos ⟨q.1, q2⟩]
      · rw [if_pos (by omega)]
    · rw [if_neg q, if_neg (by omega), if_neg (by omega)]
theorem mx_gr_2 {N : Nat} (hN : 17 ≤ N) : ∀ (k i m : Nat) (B : Nat → Int32) (A : Nat → Nat → Int32), i + k = 16 → k < m → (∀ p, p < i → B p = 0) → (∀ a b, a < i → b < 16 → A a b = 0) → ∃ (B' : Nat → Int32) (A' : Nat → Nat → Int32), f_X8_goRound_2 N m (nI i) B A = some (nI 16, B', A') ∧ (∀ p, p < 16 → B' p = 0) ∧ ∀ a b, a < 16 → b < 16 → A' a b = 0
  | 0, i, m, B, A, hi, hm, h1, h2 => by
    obtain ⟨m, rfl⟩ : ∃ j, m = j + 1 := ⟨m - 1, by omega⟩
    obtain rfl : i = 16 := by omega
    exact ⟨B, A, by rw [f_X8_goRound_2, if_pos (show (16 : Int32) ≤ nI 16 by decide)], h1, h2⟩
  | k + 1, i, m, B, A, hi, hm, h1, h2 => by
    obtain ⟨m, rfl⟩ : ∃ j, m = j + 1 := ⟨m - 1, by omega⟩
    have hi16 : i < 16 := by omega
    have ci : (nI i).toNatClampNeg = i := nI_clamp (by omega)
    obtain ⟨A', e, h⟩ := mx_gr_17 (N := N) hi16 16 0 N A (by omega) (by omega)
    have e : f_X8_goRound_17 N (nI i) N (0 : Int32) A = some (nI 16, A') := e
    rw [f_X8_goRound_2, if_neg (show ¬ (16 : Int32) ≤ nI i from nI_ge (a := i) (b := 16) hi16 (by omega)), mg_g hi16 (by omega), e, Option.bind_some, ci, nI_1]
    refine mx_gr_2 hN k (i + 1) m _ _ (by omega) (by omega) (fun p hp => ?_) (fun a b ha hb => ?_)
    · unfold upd
      by_cases q : p = i
      · rw [if_pos q]
      · rw [if_neg q]; exact h1 p (by omega)
    · show A' a b = 0
      rw [h a b]
      by_cases q : a = i
      · rw [if_pos ⟨q, by omega, hb⟩]
      · rw [if_neg (by omega)]; exact h2 a b (by omega) hb
theorem mb_eq {F G : Bool} : ((if F then (1 : Int32) else 0) = if G then 1 else 0) = (F = G) := by
  cases F <;> cases G <;> simp
theorem mb_0 {F : Bool} : ((if F then (1 : Int32) else 0) = 0) = (F = false) := by
  cases F <;> simp
theorem mx_gr_100 {N p : Nat} (hp : p < 16) {fl : Nat → Int32} {F : Nat → Bool} (hf : ∀ q, q < 16 → fl q = if F q then 1 else 0) {P : Nat → Nat → Bool} : ∀ (k j m : Nat) (A : Nat → Nat → Int32), j + k = 16 → k < m → (∀ a b, a < 16 → b < 16 → A a b = if (P a b || (decide (a = p ∧ b < j) && (F a != F b))) then 1 else 0) → ∃ A' : Nat → Nat → Int32, f_X8_goRound_100 N fl (nI p) m (nI j) A = some (nI 16, A') ∧ ∀ a b, a < 16 → b < 16 → A' a b = if (P a b || (decide (a = p ∧ b < 16) && (F a != F b))) then 1 else 0
  | 0, j, m, A, hj, hm, h => by
    obtain ⟨m, rfl⟩ : ∃ j, m = j + 1 := ⟨m - 1, by omega⟩
    obtain rfl : j = 16 := by omega
    exact ⟨A, by rw [f_X8_goRound_100, if_pos (show (16 : Int32) ≤ nI 16 by decide)], h⟩
  | k + 1, j, m, A, hj, hm, h => by
    obtain ⟨m, rfl⟩ : ∃ j, m = j + 1 := ⟨m - 1, by omega⟩
    have hj16 : j < 16 := by omega
    have cp : (nI p).toNatClampNeg = p := nI_clamp (by omega)
    have cj : (nI j).toNatClampNeg = j := nI_clamp (by omega)
    have g1 : ∀ {α : Type} (x : Option α), zk_g (nI p) 16 x = x := fun x => mg_g hp (by omega) x
    have g2 : ∀ {α : Type} (x : Option α), zk_g (nI j) 16 x = x := fun x => mg_g hj16 (by omega) x
    rw [f_X8_goRound_100, if_neg (show ¬ (16 : Int32) ≤ nI j from nI_ge (a := j) (b := 16) hj16 (by omega))]
    simp only [g1, g2, cp, cj, vn0, vn1, nI_1]
    have on : ∀ v : Int32, v = (if (P p j || (F p != F j)) then 1 else 0) → ∃ A' : Nat → Nat → Int32, f_X8_goRound_100 N fl (nI p) m (nI (j + 1)) (zg_up A p j v) = some (nI 16, A') ∧ ∀ a b, a < 16 → b < 16 → A' a b = if (P a b || (decide (a = p ∧ b < 16) && (F a != F b))) then 1 else 0 := fun v hv => by
      refine mx_gr_100 hp hf (P := P) k (j + 1) m _ (by omega) (by omega) (fun a b ha hb => ?_)
      rw [zg_up_at]
      by_cases q : a = p ∧ b = j
      · obtain ⟨rfl, rfl⟩ := q
        rw [if_pos ⟨rfl, rfl⟩, hv]
        simp
      · rw [if_neg q, h a b ha hb]
        have : decide (a = p ∧ b < j) = decide (a = p ∧ b < j + 1) := by
          apply Bool.eq_iff_iff.mpr
          simp only [decide_eq_true_eq]
          omega
        rw [this]
    have hA : A p j = if P p j then 1 else 0 := by
      rw [h p j hp hj16]
      simp
    rw [hA, hf p hp, hf j hj16]
    by_cases q : P p j = true
    · rw [if_neg (by rw [q]; decide)]
      exact on 1 (by rw [q]; rfl)
    · have q : P p j = false := by simpa using q
      rw [if_pos (by rw [q]; rfl)]
      by_cases q2 : F p = F j
      · rw [if_pos (by rw [q2])]
        exact on 0 (by rw [q, q2]; simp)
      · rw [if_neg (by rw [mb_eq]; exact q2)]
        exact on 1 (by rw [q]; simp [q2])
theorem mx_gr_65 {N : Nat} (hN : 17 ≤ N) {fl : Nat → Int32} {F : Nat → Bool} (hf : ∀ q, q < 16 → fl q = if F q then 1 else 0) {P : Nat → Nat → Bool} {B0 : Nat → Int32} : ∀ (k i m : Nat) (B : Nat → Int32) (A : Nat → Nat → Int32), i + k = 16 → k < m → (∀ p, p < 16 → B p = if p < i then B0 p + (if F p then 1 else 0) else B0 p) → (∀ a b, a < 16 → b < 16 → A a b = if (P a b || (decide (a < i) && (F a != F b))) then 1 else 0) → ∃ (B' : Nat → Int32) (A' : Nat → Nat → Int32), f_X8_goRound_65 N fl m (nI i) B A = some (nI 16, B', A') ∧ (∀ p, p < 16 → B' p = B0 p + (if F p then 1 else 0)) ∧ ∀ a b, a < 16 → b < 16 → A' a b = if (P a b || (F a != F b)) then 1 else 0
  | 0, i, m, B, A, hi, hm, h1, h2 => by
    obtain ⟨m, rfl⟩ : ∃ j, m = j + 1 := ⟨m - 1, by omega⟩
    obtain rfl : i = 16 := by omega
    refine ⟨B, A, by rw [f_X8_goRound_65, if_pos (show (16 : Int32) ≤ nI 16 by decide)], fun p hp => by rw [h1 p hp, if_pos hp], fun a b ha hb => ?_⟩
    rw [h2 a b ha hb]
    simp [ha]
  | k + 1, i, m, B, A, hi, hm, h1, h2 => by
    obtain ⟨m, rfl⟩ : ∃ j, m = j + 1 := ⟨m - 1, by omega⟩
    have hi16 : i < 16 := by omega
    have ci : (nI i).toNatClampNeg = i := nI_clamp (by omega)
    have g2 : ∀ {α : Type} (x : Option α), zk_g (nI i) 16 x = x := fun x => mg_g hi16 (by omega) x
    obtain ⟨A', e, h⟩ := mx_gr_100 (N := N) hi16 hf (P := fun a b => P a b || (decide (a < i) && (F a != F b))) 16 0 N A (by omega) (by omega) (fun a b ha hb => by rw [h2 a b ha hb]; simp)
    have e : f_X8_goRound_100 N fl (nI i) N (0 : Int32) A = some (nI 16, A') := e
    rw [f_X8_goRound_65, if_neg (show ¬ (16 : Int32) ≤ nI i from nI_ge (a := i) (b := 16) hi16 (by omega))]
    simp only [g2, ci, nI_1]
    rw [e, Option.bind_some, Option.bind_some]
    have on : ∀ v : Int32, v = B0 i + (if F i then 1 else 0) → ∃ (B' : Nat → Int32) (A'' : Nat → Nat → Int32), f_X8_goRound_65 N fl m (nI (i + 1)) (upd B i v) A' = some (nI 16, B', A'') ∧ (∀ p, p < 16 → B' p = B0 p + (if F p then 1 else 0)) ∧ ∀ a b, a < 16 → b < 16 → A'' a b = if (P a b || (F a != F b)) then 1 else 0 := fun v hv => by
      refine mx_gr_65 hN hf k (i + 1) m _ _ (by omega) (by omega) (fun p hp => ?_) (fun a b ha hb => ?_)
      · unfold upd
        by_cases q : p = i
        · subst q
          rw [if_pos rfl, if_pos (show p < p + 1 by omega), hv]
        · rw [if_neg q, h1 p hp]
          by_cases q2 : p < i
          · rw [if_pos q2, if_pos (show p < i + 1 by omega)]
          · rw [if_neg q2, if_neg (show ¬ p < i + 1 by omega)]
      · rw [h a b ha hb]
        have : (P a b || (decide (a < i) && (F a != F b)) || (decide (a = i ∧ b < 16) && (F a != F b))) = (P a b || (decide (a < i + 1) && (F a != F b))) := by
          rw [Bool.or_assoc, ← Bool.and_or_distrib_right]
          have : (decide (a < i) || decide (a = i ∧ b < 16)) = decide (a < i + 1) := by
            apply Bool.eq_iff_iff.mpr
            simp only [Bool.or_eq_true, decide_eq_true_eq]
            omega
          rw [this]
        rw [this]
    have hB : B i = B0 i := by rw [h1 i hi16, if_neg (by omega)]
    rw [hf i hi16, hB]
    cases hF : F i with
    | false =>
      rw [if_pos (by rfl)]
      exact on _ (by rw [hF]; rfl)
    | true =>
      rw [if_neg (by decide)]
      exact on _ (by rw [hF]; rfl)
/-- who flashes at a tick -/
def ma_F (x : Int32) (per qui : Nat → Int32) (an : Nat → Nat → Int32) (X : Nat → ma_S) (t p : Nat) : Bool := ma_flS x per qui an (fun _ => 0) (X t) p
def ma_cnt (F : Nat → Nat → Bool) (p c : Nat) : Nat := (List.range c).countP (fun t => F t p)
def ma_ap (F : Nat → Nat → Bool) (a b c : Nat) : Bool := (List.range c).any (fun t => F t a != F t b)
theorem ma_cnt_s (F : Nat → Nat → Bool) (p c : Nat) : ma_cnt F p (c + 1) = ma_cnt F p c + if F c p then 1 else 0 := by
  unfold ma_cnt
  rw [List.range_succ, List.countP_append]
  simp [List.countP_cons]
theorem ma_ap_s (F : Nat → Nat → Bool) (a b c : Nat) : ma_ap F a b (c + 1) = (ma_ap F a b c || (F c a != F c b)) := by
  unfold ma_ap
  rw [List.range_succ, List.any_append]
  simp
theorem mx_gr_46 {N n cap t0 z : Nat} (hN : 5100 ≤ N) (ht : t0 < 2 ^ 29) {x : Int32} {per qui : Nat → Int32} {an anR : Nat → Nat → Int32} {froms tos delays strs st : Nat → Int32} {fr to de : Nat → Nat} (E : ma_E x n cap anR an froms tos delays strs fr to de st) {X : Nat → ma_S} (hX : ∀ i, X (i + 1) = ma_step x per qui an n fr to de st (X i)) (iv : ∀ i, ma_inv x per (X i)) (hz : z < 2147483647) {c s : Nat} (hc : c ≤ 1000) (hs : s ≤ 1000) {fT fp fq : Nat → Int32} (hf : ma_fd x per qui fT fp fq) : ∀ (k i m : Nat) (B : Nat → Int32) (A : Nat → Nat → Int32) (fw ff fph : Nat → Int32), i + k = c → k < m → ma_rm (t0 + (s + i)) fph fw (X (s + i)) → (∀ p, p < 16 → B p = nI (ma_cnt (fun t => ma_F x per qui an X (s + t)) p i)) → (∀ a b, a < 16 → b < 16 → A a b = if ma_ap (fun t => ma_F x per qui an X (s + t)) a b i then 1 else 0) → ∃ (B' : Nat → Int32) (A' : Nat → Nat → Int32) (fw' ff' fph' : Nat → Int32), f_X8_goRound_46 N (nI c) fT fp fq anR (nI n) cap froms tos delays strs m (nI i) (lN z) B A (nI (t0 + (s + i))) fw ff fph = some (nI c, lN z, B', A', nI (t0 + (s + c)), fw', ff', fph') ∧ ma_rm (t0 + (s + c)) fph' fw' (X (s + c)) ∧ (∀ p, p < 16 → B' p = nI (ma_cnt (fun t => ma_F x per qui an X (s + t)) p c)) ∧ ∀ a b, a < 16 → b < 16 → A' a b = if ma_ap (fun t => ma_F x per qui an X (s + t)) a b c then 1 else 0
  | 0, i, m, B, A, fw, ff, fph, hi, hm, h, h1, h2 => by
    obtain ⟨m, rfl⟩ : ∃ j, m = j + 1 := ⟨m - 1, by omega⟩
    obtain rfl : i = c := by omega
    exact ⟨B, A, fw, ff, fph, by rw [f_X8_goRound_46, if_pos (nI_le (Nat.le_refl _) (by omega))], h, h1, h2⟩
  | k + 1, i, m, B, A, fw, ff, fph, hi, hm, h, h1, h2 => by
    obtain ⟨m, rfl⟩ : ∃ j, m = j + 1 := ⟨m - 1, by omega⟩
    obtain ⟨v, fw', ff', fph', et, hfl, hr⟩ := mx_tick0 (z := z) (by omega : 61 ≤ N) (show t0 + (s + i) + 1 < 2 ^ 30 by omega) hz E hf (iv (s + i)).1 h ff
    rw [← hX] at hr
    obtain ⟨B', A', e, k1, k2⟩ := mx_gr_65 (N := N) (by omega) hfl (P := fun a b => ma_ap (fun t => ma_F x per qui an X (s + t)) a b i) (B0 := B) 16 0 N B A (by omega) (by omega) (fun p hp => by rw [if_neg (by omega)]) (fun a b ha hb => by rw [h2 a b ha hb]; simp)
    have e : f_X8_goRound_65 N ff' N (0 : Int32) B A = some (nI 16, B', A') := e
    rw [f_X8_goRound_46, if_neg (nI_ge (show i < c by omega) (by omega)), et, Option.bind_some]
    show ∃ (B' : Nat → Int32) (A' : Nat → Nat → Int32) (fw' ff' fph' : Nat → Int32), ((f_X8_goRound_65 N _ N (0 : Int32) B A).bind _) = _ ∧ _
    rw [e, Option.bind_some, nI_1]
    refine mx_gr_46 hN ht E hX iv hz hc hs hf k (i + 1) m B' A' fw' ff' fph' (by omega) (by omega) hr (fun p hp => ?_) (fun a b ha hb => ?_)
    · rw [k1 p hp, h1 p hp, ma_cnt_s]
      show _ + (if ma_F x per qui an X (s + i) p = true then (1 : Int32) else 0) = _
      cases ma_F x per qui an X (s + i) p
      · exact Int32.add_zero _
      · exact nI_1 _
    · rw [k2 a b ha hb, ma_ap_s]
      rfl
theorem mx_goRound {N n cap t0 z : Nat} (hN : 5100 ≤ N) (ht : t0 < 2 ^ 29) {x : Int32} {per qui : Nat → Int32} {an anR : Nat → Nat → Int32} {froms tos delays strs st : Nat → Int32} {fr to de : Nat → Nat} (E : ma_E x n cap anR an froms tos delays strs fr to de st) {X : Nat → ma_S} (hX : ∀ i, X (i + 1) = ma_step x per qui an n fr to de st (X i)) (iv : ∀ i, ma_inv x per (X i)) (hz : z < 2147483647) {c s : Nat} (hc : c ≤ 1000) (hs : s ≤ 1000) {fT fp fq fw ff fph : Nat → Int32} (hf : ma_fd x per qui fT fp fq) (hrm : ma_rm (t0 + s) fph fw (X s)) (B : Nat → Int32) (A : Nat → Nat → Int32) : ∃ (B' : Nat → Int32) (A' : Nat → Nat → Int32) (fw' ff' fph' : Nat → Int32), f_X8_goRound N (lN z) (nI c) B A (nI (t0 + s)) fw ff fT fph fp fq anR (nI n) cap froms tos delays strs = some (lN z, B', A', nI (t0 + (s + c)), fw', ff', fph') ∧ ma_rm (t0 + (s + c)) fph' fw' (X (s + c)) ∧ (∀ p, p < 16 → B' p = nI (ma_cnt (fun t => ma_F x per qui an X (s + t)) p c)) ∧ ∀ a b, a < 16 → b < 16 → A' a b = if ma_ap (fun t => ma_F x per qui an X (s + t)) a b c then 1 else 0 := by
  obtain ⟨B1, A1, e1, h1, h2⟩ := mx_gr_2 (N := N) (by omega) 16 0 N B A (by omega) (by omega) (fun p hp => by omega) (fun a b ha => by omega)
  have e1 : f_X8_goRound_2 N N (0 : Int32) B A = some (nI 16, B1, A1) := e1
  obtain ⟨B2, A2, fw', ff', fph', e2, g1, g2, g3⟩ := mx_gr_46 hN ht E hX iv hz hc hs hf c 0 N B1 A1 fw ff fph (by omega) (by omega) hrm (fun p hp => by rw [h1 p hp]; rfl) (fun a b ha hb => by rw [h2 a b ha hb]; rfl)
  have e2 : f_X8_goRound_46 N (nI c) fT fp fq anR (nI n) cap froms tos delays strs N (0 : Int32) (lN z) B1 A1 (nI (t0 + s)) fw ff fph = some (nI c, lN z, B2, A2, nI (t0 + (s + c)), fw', ff', fph') := e2
  refine ⟨B2, A2, fw', ff', fph', ?_, g1, g2, g3⟩
  unfold f_X8_goRound
  rw [e1, Option.bind_some]
  show ((f_X8_goRound_46 N (nI c) fT fp fq anR (nI n) cap froms tos delays strs N (0 : Int32) (lN z) B1 A1 (nI (t0 + s)) fw ff fph).bind _) = _
  rw [e2, Option.bind_some]

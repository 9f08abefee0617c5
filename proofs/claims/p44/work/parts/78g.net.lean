/-! rows of mine: net -/
def nt_cell (K : Int32) (m i j : Nat) : List (Nat × Nat) := if K = 97 then (if j = i then [] else [(i, j)]) else if K = 104 then (if i = 0 ∧ 0 < j then [(i, j), (j, i)] else []) else if K = 114 then (if j = i + 1 ∨ (i = m - 1 ∧ j = 0) then [(i, j)] else []) else (if j = i + 1 then [(i, j)] else [])
def nt_row (K : Int32) (m i : Nat) : Nat → Nat → List (Nat × Nat)
  | 0, _ => []
  | k + 1, j => nt_cell K m i j ++ nt_row K m i k (j + 1)
def nt_all (K : Int32) (m : Nat) : Nat → Nat → List (Nat × Nat)
  | 0, _ => []
  | k + 1, i => nt_row K m i m 0 ++ nt_all K m k (i + 1)
def nt_nx : Nat → Nat → List (Nat × Nat)
  | 0, _ => []
  | k + 1, i => (i, i + 1) :: nt_nx k (i + 1)
def nt_S (V : Nat → Nat) (d w : Nat) (P : List (Nat × Nat)) (n : Nat) (f t de st : Nat → Int32) : Prop := n = P.length ∧ ∀ k, k < n → f k = nI (V (P.getD k (0, 0)).1) ∧ t k = nI (V (P.getD k (0, 0)).2) ∧ de k = nI d ∧ st k = nI w
theorem nt_put {V : Nat → Nat} {d w : Nat} {P : List (Nat × Nat)} {n : Nat} {f t de st : Nat → Int32} (h : nt_S V d w P n f t de st) (a b : Nat) : nt_S V d w (P ++ [(a, b)]) (n + 1) (upd f n (nI (V a))) (upd t n (nI (V b))) (upd de n (nI d)) (upd st n (nI w)) := by
  obtain ⟨h1, h2⟩ := h
  refine ⟨by rw [List.length_append, h1]; rfl, fun k hk => ?_⟩
  by_cases e : k = n
  · subst e
    have g : (P ++ [(a, b)]).getD k (0, 0) = (a, b) := by rw [h1]; simp [List.getD_eq_getElem?_getD]
    rw [lk_self, lk_self, lk_self, lk_self, g]
    exact ⟨rfl, rfl, rfl, rfl⟩
  · have hk2 : k < n := by omega
    have g : (P ++ [(a, b)]).getD k (0, 0) = P.getD k (0, 0) := by
      rw [List.getD_eq_getElem?_getD, List.getD_eq_getElem?_getD, List.getElem?_append_left (by omega)]
    rw [lk_up (α := Nat) hk2, lk_up (α := Nat) hk2, lk_up (α := Nat) hk2, lk_up (α := Nat) hk2, g]
    exact h2 k hk2
def nt_T (V : Nat → Nat) (d w : Nat) (P : List (Nat × Nat)) (s : Nat × (Nat → Int32) × (Nat → Int32) × (Nat → Int32) × (Nat → Int32)) : Prop := nt_S V d w P s.1 s.2.1 s.2.2.1 s.2.2.2.1 s.2.2.2.2
def nt_C (V : Nat → Nat) (d w : Nat) (P : List (Nat × Nat)) (o : Int32 × (Nat → Int32) × (Nat → Int32) × (Nat → Int32) × (Nat → Int32)) : Prop := ∃ n, o.1 = nI n ∧ nt_S V d w P n o.2.1 o.2.2.1 o.2.2.2.1 o.2.2.2.2
theorem nt_addC {N : Nat} {V : Nat → Nat} {d w : Nat} {P : List (Nat × Nat)} {o : Int32 × (Nat → Int32) × (Nat → Int32) × (Nat → Int32) × (Nat → Int32)} (h : nt_C V d w P o) (a b : Nat) (hl : P.length < 60) : ∃ s1, f_X1_addLink N o.1 o.2.1 o.2.2.1 o.2.2.2.1 o.2.2.2.2 (nI (V a)) (nI (V b)) (nI d) (nI w) = some s1 ∧ nt_C V d w (P ++ [(a, b)]) s1 := by
  obtain ⟨n, h1, h2⟩ := h
  have h3 : n = P.length := h2.1
  unfold f_X1_addLink
  rw [h1, if_neg (show ¬ (60 : Int32) ≤ nI n from nI_ge (a := n) (b := 60) (by omega) (by omega))]
  simp only [mg_g (show n < 60 by omega) (show 60 < 2 ^ 31 by omega), nI_clamp (show n < 2 ^ 31 by omega), nI_1]
  exact ⟨_, rfl, n + 1, rfl, nt_put h2 a b⟩
theorem nt_a13 {N m i d w : Nat} {V : Nat → Nat} {pl : Nat → Int32} (hp : ∀ a, a < m → pl a = nI (V a)) (hm : m ≤ 16) (hi : i < m) : ∀ (k j f : Nat) (P : List (Nat × Nat)) (o : Int32 × (Nat → Int32) × (Nat → Int32) × (Nat → Int32) × (Nat → Int32)), j + k = m → k < f → nt_C V d w P o → (P ++ nt_row 97 m i k j).length ≤ 60 → ∃ a o1, f_X1_linkAll_13 N (nI m) pl (nI d) (nI w) (nI i) f (nI j) o.1 o.2.1 o.2.2.1 o.2.2.2.1 o.2.2.2.2 = some (a, o1) ∧ nt_C V d w (P ++ nt_row 97 m i k j) o1 := by
  intro k
  induction k with
  | zero =>
    intro j f P o hj hf h hl
    obtain ⟨f, rfl⟩ : ∃ g, f = g + 1 := ⟨f - 1, by omega⟩
    rw [f_X1_linkAll_13.eq_def]
    simp only []
    rw [if_pos (show nI m ≤ nI j from nI_le (by omega) (by omega))]
    refine ⟨_, o, rfl, ?_⟩
    unfold nt_row
    rw [List.append_nil]
    exact h
  | succ k ih =>
    intro j f P o hj hf h hl
    obtain ⟨f, rfl⟩ : ∃ g, f = g + 1 := ⟨f - 1, by omega⟩
    rw [f_X1_linkAll_13.eq_def]
    simp only []
    rw [if_neg (show ¬ nI m ≤ nI j from nI_ge (by omega) (by omega)), nI_1]
    have hrow : nt_row 97 m i (k + 1) j = nt_cell 97 m i j ++ nt_row 97 m i k (j + 1) := rfl
    rw [hrow, ← List.append_assoc] at hl ⊢
    by_cases e : j = i
    · rw [if_pos (show nI i = nI j by rw [e])]
      have c : nt_cell 97 m i j = [] := by unfold nt_cell; rw [if_pos rfl, if_pos e]
      rw [c, List.append_nil] at hl ⊢
      exact ih (j + 1) f P o (by omega) (by omega) h hl
    · rw [if_neg (show ¬ nI i = nI j from fun q => e ((nI_eq (by omega) (by omega)).mp q.symm))]
      have c : nt_cell 97 m i j = [(i, j)] := by unfold nt_cell; rw [if_pos rfl, if_neg e]
      rw [c] at hl ⊢
      have hl2 : P.length < 60 := by
        simp only [List.length_append, List.length_cons] at hl
        omega
      obtain ⟨s1, q1, q2⟩ := nt_addC (N := N) h i j hl2
      rw [mg_g (show i < 16 by omega) (by omega), mg_g (show j < 16 by omega) (by omega), nI_clamp (n := i) (by omega), nI_clamp (n := j) (by omega), hp i hi, hp j (by omega), q1, Option.bind_some]
      exact ih (j + 1) f _ s1 (by omega) (by omega) q2 hl
theorem nt_a2 {N m d w : Nat} {V : Nat → Nat} {pl : Nat → Int32} (hN : 17 ≤ N) (hp : ∀ a, a < m → pl a = nI (V a)) (hm : m ≤ 16) : ∀ (k i f : Nat) (P : List (Nat × Nat)) (o : Int32 × (Nat → Int32) × (Nat → Int32) × (Nat → Int32) × (Nat → Int32)), i + k = m → k < f → nt_C V d w P o → (P ++ nt_all 97 m k i).length ≤ 60 → ∃ a o1, f_X1_linkAll_2 N (nI m) pl (nI d) (nI w) f (nI i) o.1 o.2.1 o.2.2.1 o.2.2.2.1 o.2.2.2.2 = some (a, o1) ∧ nt_C V d w (P ++ nt_all 97 m k i) o1 := by
  intro k
  induction k with
  | zero =>
    intro j f P o hj hf h hl
    obtain ⟨f, rfl⟩ : ∃ g, f = g + 1 := ⟨f - 1, by omega⟩
    rw [f_X1_linkAll_2.eq_def]
    simp only []
    rw [if_pos (show nI m ≤ nI j from nI_le (by omega) (by omega))]
    refine ⟨_, o, rfl, ?_⟩
    unfold nt_all
    rw [List.append_nil]
    exact h
  | succ k ih =>
    intro i f P o hj hf h hl
    obtain ⟨f, rfl⟩ : ∃ g, f = g + 1 := ⟨f - 1, by omega⟩
    rw [f_X1_linkAll_2.eq_def]
    simp only []
    rw [if_neg (show ¬ nI m ≤ nI i from nI_ge (by omega) (by omega)), nI_1]
    have hrow : nt_all 97 m (k + 1) i = nt_row 97 m i m 0 ++ nt_all 97 m k (i + 1) := rfl
    rw [hrow, ← List.append_assoc] at hl ⊢
    obtain ⟨a, o1, q1, q2⟩ := nt_a13 (N := N) hp hm (show i < m by omega) m 0 N P o (by omega) (by omega) h (by rw [List.length_append] at hl; omega)
    have q1 : f_X1_linkAll_13 N (nI m) pl (nI d) (nI w) (nI i) N (0 : Int32) o.1 o.2.1 o.2.2.1 o.2.2.2.1 o.2.2.2.2 = _ := q1
    rw [q1, Option.bind_some]
    exact ih (i + 1) f _ o1 (by omega) (by omega) q2 hl
theorem nt_h2 {N m d w : Nat} {V : Nat → Nat} {pl : Nat → Int32} (hp : ∀ a, a < m → pl a = nI (V a)) (hm : m ≤ 16) : ∀ (k j f : Nat) (P : List (Nat × Nat)) (o : Int32 × (Nat → Int32) × (Nat → Int32) × (Nat → Int32) × (Nat → Int32)), j + k = m → 0 < j → k < f → nt_C V d w P o → (P ++ nt_row 104 m 0 k j).length ≤ 60 → ∃ a o1, f_X1_linkHub_2 N (nI m) pl (nI d) (nI w) f (nI j) o.1 o.2.1 o.2.2.1 o.2.2.2.1 o.2.2.2.2 = some (a, o1) ∧ nt_C V d w (P ++ nt_row 104 m 0 k j) o1 := by
  intro k
  induction k with
  | zero =>
    intro j f P o hj hj0 hf h hl
    obtain ⟨f, rfl⟩ : ∃ g, f = g + 1 := ⟨f - 1, by omega⟩
    rw [f_X1_linkHub_2.eq_def]
    simp only []
    rw [if_pos (show nI m ≤ nI j from nI_le (by omega) (by omega))]
    refine ⟨_, o, rfl, ?_⟩
    unfold nt_row
    rw [List.append_nil]
    exact h
  | succ k ih =>
    intro j f P o hj hj0 hf h hl
    obtain ⟨f, rfl⟩ : ∃ g, f = g + 1 := ⟨f - 1, by omega⟩
    rw [f_X1_linkHub_2.eq_def]
    simp only []
    rw [if_neg (show ¬ nI m ≤ nI j from nI_ge (by omega) (by omega)), nI_1]
    have hrow : nt_row 104 m 0 (k + 1) j = nt_cell 104 m 0 j ++ nt_row 104 m 0 k (j + 1) := rfl
    have c : nt_cell 104 m 0 j = [(0, j), (j, 0)] := by
      unfold nt_cell
      rw [if_neg (by decide), if_pos rfl, if_pos ⟨rfl, hj0⟩]
    rw [hrow, ← List.append_assoc, c] at hl ⊢
    have hl2 : P.length + 1 < 60 := by
      simp only [List.length_append, List.length_cons] at hl
      omega
    obtain ⟨s1, q1, q2⟩ := nt_addC (N := N) h 0 j (by omega)
    obtain ⟨s2, q3, q4⟩ := nt_addC (N := N) q2 j 0 (by rw [List.length_append]; exact hl2)
    simp only [mg_g (show j < 16 by omega) (show 16 < 2 ^ 31 by omega), nI_clamp (show j < 2 ^ 31 by omega), show (0 : Int32).toNatClampNeg = 0 from by decide]
    rw [hp 0 (by omega), hp j (by omega), q1, Option.bind_some, q3, Option.bind_some]
    rw [List.append_assoc] at q4
    exact ih (j + 1) f _ s2 (by omega) (by omega) (by omega) q4 hl
theorem nt_n3 {N m d w : Nat} {V : Nat → Nat} {pl : Nat → Int32} (hp : ∀ a, a < m → pl a = nI (V a)) (hm : m ≤ 16) (hm1 : 1 ≤ m) : ∀ (k i f : Nat) (P : List (Nat × Nat)) (o : Int32 × (Nat → Int32) × (Nat → Int32) × (Nat → Int32) × (Nat → Int32)), i + k + 1 = m → k < f → nt_C V d w P o → (P ++ nt_nx k i).length ≤ 60 → ∃ a o1, f_X1_linkNext_3 N (nI m) pl (nI d) (nI w) f (nI i) o.1 o.2.1 o.2.2.1 o.2.2.2.1 o.2.2.2.2 = some (a, o1) ∧ nt_C V d w (P ++ nt_nx k i) o1 := by
  intro k
  induction k with
  | zero =>
    intro j f P o hj hf h hl
    obtain ⟨f, rfl⟩ : ∃ g, f = g + 1 := ⟨f - 1, by omega⟩
    rw [f_X1_linkNext_3.eq_def]
    simp only []
    rw [nI_p1 hm1, if_pos (show nI (m - 1) ≤ nI j from nI_le (by omega) (by omega))]
    refine ⟨_, o, rfl, ?_⟩
    unfold nt_nx
    rw [List.append_nil]
    exact h
  | succ k ih =>
    intro i f P o hj hf h hl
    obtain ⟨f, rfl⟩ : ∃ g, f = g + 1 := ⟨f - 1, by omega⟩
    rw [f_X1_linkNext_3.eq_def]
    simp only []
    rw [nI_p1 hm1, if_neg (show ¬ nI (m - 1) ≤ nI i from nI_ge (by omega) (by omega)), nI_1]
    have hrow : P ++ nt_nx (k + 1) i = P ++ [(i, i + 1)] ++ nt_nx k (i + 1) := by
      rw [List.append_assoc]
      rfl
    rw [hrow] at hl ⊢
    have hl2 : P.length < 60 := by
      simp only [List.length_append, List.length_cons] at hl
      omega
    obtain ⟨s1, q1, q2⟩ := nt_addC (N := N) h i (i + 1) hl2
    rw [mg_g (show i < 16 by omega) (by omega), mg_g (show i + 1 < 16 by omega) (by omega), nI_clamp (n := i) (by omega), nI_clamp (n := i + 1) (by omega), hp i (by omega), hp (i + 1) (by omega), q1, Option.bind_some]
    exact ih (i + 1) f _ s1 (by omega) (by omega) q2 hl
theorem nt_eL : ∀ m, m < 17 → 2 ≤ m → nt_all 108 m m 0 = nt_nx (m - 1) 0 ∧ (nt_all 108 m m 0).length = m - 1 := by decide +kernel
theorem nt_eR : ∀ m, m < 17 → 2 ≤ m → nt_all 114 m m 0 = nt_nx (m - 1) 0 ++ [(m - 1, 0)] ∧ (nt_all 114 m m 0).length = m := by decide +kernel
theorem nt_eH : ∀ m, m < 17 → 2 ≤ m → nt_all 104 m m 0 = nt_row 104 m 0 (m - 1) 1 ∧ (nt_all 104 m m 0).length = 2 * (m - 1) := by decide +kernel
theorem nt_eA : ∀ m, m < 17 → 2 ≤ m → (nt_all 97 m m 0).length = m * (m - 1) := by decide +kernel
theorem nt_q1 : ∀ m, m < 17 → ((nI m ≤ (60 : Int32)) ↔ m ≤ 60) ∧ ((nI m - (1 : Int32) ≤ (60 : Int32)) ↔ m - 1 ≤ 60) ∧ (2 ≤ m → (((2 : Int32) * (nI m - (1 : Int32)) ≤ (60 : Int32)) ↔ 2 * (m - 1) ≤ 60)) ∧ ((nI m * (nI m - (1 : Int32)) ≤ (60 : Int32)) ↔ m * (m - 1) ≤ 60) ∧ (nI m < (2 : Int32) ↔ m < 2) := by decide +kernel
theorem nt_e (V : Nat → Nat) (d w : Nat) (f t de st : Nat → Int32) : nt_C V d w [] ((0 : Int32), f, t, de, st) := ⟨0, rfl, rfl, fun k hk => absurd hk (Nat.not_lt_zero _)⟩
theorem nt_t (V : Nat → Nat) (d w : Nat) (f t de st : Nat → Int32) : nt_T V d w [] (0, f, t, de, st) := ⟨rfl, fun k hk => absurd hk (Nat.not_lt_zero _)⟩
theorem nt_cH {N m d w : Nat} {V : Nat → Nat} {pl f t de st : Nat → Int32} (hN : 17 ≤ N) (hp : ∀ a, a < m → pl a = nI (V a)) (hm : m ≤ 16) (hm2 : 2 ≤ m) (hl : (nt_all 104 m m 0).length ≤ 60) : ∃ o, f_X1_linkHub N (nI m) (0 : Int32) pl f t de st (nI d) (nI w) = some o ∧ nt_C V d w (nt_all 104 m m 0) o := by
  have e := (nt_eH m (by omega) hm2).1
  rw [e] at hl ⊢
  obtain ⟨a, o, q1, q2⟩ := nt_h2 (N := N) hp hm (m - 1) 1 N [] ((0 : Int32), f, t, de, st) (by omega) (by omega) (by omega) (nt_e V d w f t de st) (by rw [List.nil_append]; exact hl)
  have q1 : f_X1_linkHub_2 N (nI m) pl (nI d) (nI w) N (1 : Int32) (0 : Int32) f t de st = _ := q1
  unfold f_X1_linkHub
  rw [q1, Option.bind_some]
  exact ⟨_, rfl, q2⟩
theorem nt_cA {N m d w : Nat} {V : Nat → Nat} {pl f t de st : Nat → Int32} (hN : 17 ≤ N) (hp : ∀ a, a < m → pl a = nI (V a)) (hm : m ≤ 16) (hl : (nt_all 97 m m 0).length ≤ 60) : ∃ o, f_X1_linkAll N (nI m) (0 : Int32) pl f t de st (nI d) (nI w) = some o ∧ nt_C V d w (nt_all 97 m m 0) o := by
  obtain ⟨a, o, q1, q2⟩ := nt_a2 (N := N) hN hp hm m 0 N [] ((0 : Int32), f, t, de, st) (by omega) (by omega) (nt_e V d w f t de st) (by rw [List.nil_append]; exact hl)
  have q1 : f_X1_linkAll_2 N (nI m) pl (nI d) (nI w) N (0 : Int32) (0 : Int32) f t de st = _ := q1
  unfold f_X1_linkAll
  rw [q1, Option.bind_some]
  exact ⟨_, rfl, q2⟩
theorem nt_cL {N m d w : Nat} {V : Nat → Nat} {pl f t de st : Nat → Int32} (hN : 17 ≤ N) (hp : ∀ a, a < m → pl a = nI (V a)) (hm : m ≤ 16) (hm2 : 2 ≤ m) (hl : (nt_all 108 m m 0).length ≤ 60) : ∃ o, f_X1_linkNext N (nI m) (0 : Int32) pl f t de st (nI d) (nI w) (0 : Int32) = some o ∧ nt_C V d w (nt_all 108 m m 0) o := by
  have e := (nt_eL m (by omega) hm2).1
  rw [e] at hl ⊢
  obtain ⟨a, o, q1, q2⟩ := nt_n3 (N := N) hp hm (by omega) (m - 1) 0 N [] ((0 : Int32), f, t, de, st) (by omega) (by omega) (nt_e V d w f t de st) (by rw [List.nil_append]; exact hl)
  have q1 : f_X1_linkNext_3 N (nI m) pl (nI d) (nI w) N (0 : Int32) (0 : Int32) f t de st = _ := q1
  unfold f_X1_linkNext
  rw [q1, Option.bind_some, if_pos rfl]
  exact ⟨_, rfl, q2⟩
theorem nt_cR {N m d w : Nat} {V : Nat → Nat} {pl f t de st : Nat → Int32} (hN : 17 ≤ N) (hp : ∀ a, a < m → pl a = nI (V a)) (hm : m ≤ 16) (hm2 : 2 ≤ m) (hl : (nt_all 114 m m 0).length ≤ 60) : ∃ o, f_X1_linkNext N (nI m) (0 : Int32) pl f t de st (nI d) (nI w) (1 : Int32) = some o ∧ nt_C V d w (nt_all 114 m m 0) o := by
  have e := (nt_eR m (by omega) hm2).1
  rw [e] at hl ⊢
  have hl2 : (nt_nx (m - 1) 0).length < 60 := by
    simp only [List.length_append, List.length_cons] at hl
    omega
  obtain ⟨a, o, q1, q2⟩ := nt_n3 (N := N) hp hm (by omega) (m - 1) 0 N [] ((0 : Int32), f, t, de, st) (by omega) (by omega) (nt_e V d w f t de st) (by rw [List.nil_append]; omega)
  have q1 : f_X1_linkNext_3 N (nI m) pl (nI d) (nI w) N (0 : Int32) (0 : Int32) f t de st = _ := q1
  rw [List.nil_append] at q2
  obtain ⟨s1, q3, q4⟩ := nt_addC (N := N) q2 (m - 1) 0 hl2
  unfold f_X1_linkNext
  rw [q1, Option.bind_some, if_neg (show ¬ (1 : Int32) = 0 by decide), if_neg (show ¬ nI m ≤ (0 : Int32) from nI_ge (a := 0) (b := m) (by omega) (by omega)), nI_p1 (by omega), mg_g (show m - 1 < 16 by omega) (by omega), nI_clamp (n := m - 1) (by omega), show (0 : Int32).toNatClampNeg = 0 by decide, hp (m - 1) (by omega), hp 0 (by omega), q3, Option.bind_some]
  exact ⟨_, rfl, q4⟩

/-! rows of mine: net -/
def nt_cell (K : Int32) (m i j : Nat) : List (Nat × Nat) := if K = 97 then (if j = i then [] else [(i, j)]) else if K = 104 then (if i = 0 ∧ 0 < j then [(i, j), (j, i)] else []) else if K = 114 then (if j = i + 1 ∨ (i = m - 1 ∧ j = 0) then [(i, j)] else []) else (if j = i + 1 then [(i, j)] else [])
def nt_row (K : Int32) (m i : Nat) : Nat → Nat → List (Nat × Nat)
  | 0, _ => []
  | k + 1, j => nt_cell K m i j ++ nt_row K m i k (j + 1)
def nt_all (K : Int32) (m : Nat) : Nat → Nat → List (Nat × Nat)
  | 0, _ => []
  | k + 1, i => nt_row K m i m 0 ++ nt_all K m k (i + 1)
def nt_nx : Nat → Nat → List (Nat × Nat)
  | 0, _ => []
  | k + 1, i => (i, i + 1) :: nt_nx k (i + 1)
def nt_S (V : Nat → Nat) (d w : Nat) (P : List (Nat × Nat)) (n : Nat) (f t de st : Nat → Int32) : Prop := n = P.length ∧ ∀ k, k < n → f k = nI (V (P.getD k (0, 0)).1) ∧ t k = nI (V (P.getD k (0, 0)).2) ∧ de k = nI d ∧ st k = nI w
theorem nt_put {V : Nat → Nat} {d w : Nat} {P : List (Nat × Nat)} {n : Nat} {f t de st : Nat → Int32} (h : nt_S V d w P n f t de st) (a b : Nat) : nt_S V d w (P ++ [(a, b)]) (n + 1) (upd f n (nI (V a))) (upd t n (nI (V b))) (upd de n (nI d)) (upd st n (nI w)) := by
  obtain ⟨h1, h2⟩ := h
  refine ⟨by rw [List.length_append, h1]; rfl, fun k hk => ?_⟩
  by_cases e : k = n
  · subst e
    have g : (P ++ [(a, b)]).getD k (0, 0) = (a, b) := by rw [h1]; simp [List.getD_eq_getElem?_getD]
    rw [lk_self, lk_self, lk_self, lk_self, g]
    exact ⟨rfl, rfl, rfl, rfl⟩
  · have hk2 : k < n := by omega
    have g : (P ++ [(a, b)]).getD k (0, 0) = P.getD k (0, 0) := by
      rw [List.getD_eq_getElem?_getD, List.getD_eq_getElem?_getD, List.getElem?_append_left (by omega)]
    rw [lk_up (α := Nat) hk2, lk_up (α := Nat) hk2, lk_up (α := Nat) hk2, lk_up (α := Nat) hk2, g]
    exact h2 k hk2
def nt_T (V : Nat → Nat) (d w : Nat) (P : List (Nat × Nat)) (s : Nat × (Nat → Int32) × (Nat → Int32) × (Nat → Int32) × (Nat → Int32)) : Prop := nt_S V d w P s.1 s.2.1 s.2.2.1 s.2.2.2.1 s.2.2.2.2
theorem nt_add {V : Nat → Nat} {d w : Nat} {P : List (Nat × Nat)} {s : Nat × (Nat → Int32) × (Nat → Int32) × (Nat → Int32) × (Nat → Int32)} (h : nt_T V d w P s) (a b : Nat) (hl : P.length < 60) : ∃ s1, f_X8_net_add s (nI (V a)) (nI (V b)) (nI d) (nI w) = some s1 ∧ nt_T V d w (P ++ [(a, b)]) s1 := by
  unfold f_X8_net_add
  have h1 : s.1 = P.length := h.1
  rw [if_pos (show s.1 ≤ 59 by omega)]
  exact ⟨_, rfl, nt_put h a b⟩
def nt_C (V : Nat → Nat) (d w : Nat) (P : List (Nat × Nat)) (o : Int32 × (Nat → Int32) × (Nat → Int32) × (Nat → Int32) × (Nat → Int32)) : Prop := ∃ n, o.1 = nI n ∧ nt_S V d w P n o.2.1 o.2.2.1 o.2.2.2.1 o.2.2.2.2
theorem nt_addC {N : Nat} {V : Nat → Nat} {d w : Nat} {P : List (Nat × Nat)} {o : Int32 × (Nat → Int32) × (Nat → Int32) × (Nat → Int32) × (Nat → Int32)} (h : nt_C V d w P o) (a b : Nat) (hl : P.length < 60) : ∃ s1, f_X1_addLink N o.1 o.2.1 o.2.2.1 o.2.2.2.1 o.2.2.2.2 (nI (V a)) (nI (V b)) (nI d) (nI w) = some s1 ∧ nt_C V d w (P ++ [(a, b)]) s1 := by
  obtain ⟨n, h1, h2⟩ := h
  have h3 : n = P.length := h2.1
  unfold f_X1_addLink
  rw [h1, if_neg (show ¬ (60 : Int32) ≤ nI n from nI_ge (a := n) (b := 60) (by omega) (by omega))]
  simp only [mg_g (show n < 60 by omega) (show 60 < 2 ^ 31 by omega), nI_clamp (show n < 2 ^ 31 by omega), nI_1]
  exact ⟨_, rfl, n + 1, rfl, nt_put h2 a b⟩
theorem nt_169 {N m i j : Nat} {K : Int32} (hK : K = 114 ∨ K = 108 ∨ K = 104 ∨ K = 97) (hm : m ≤ 16) (hm1 : 1 ≤ m) (hi : i < m) (hj : j < m) : (nt_cell K m i j = [] ∧ ∃ y, f_X8_net_169 N K (nI m) (nI i) (nI j) 1 = some (.inr (y, 0))) ∨ (nt_cell K m i j = [(i, j)] ∧ f_X8_net_169 N K (nI m) (nI i) (nI j) 1 = some (.inl (0, 1))) ∨ (nt_cell K m i j = [(i, j), (j, i)] ∧ f_X8_net_169 N K (nI m) (nI i) (nI j) 1 = some (.inl (1, 1))) := by
  have e1 : (nI j = nI i + 1) = (j = i + 1) := by rw [nI_1]; exact propext (nI_eq (by omega) (by omega))
  have e2 : (nI i = nI m - 1) = (i = m - 1) := by rw [nI_p1 hm1]; exact propext (nI_eq (by omega) (by omega))
  have e3 : (nI j = 0) = (j = 0) := propext (nI_eq (a := j) (b := 0) (by omega) (by omega))
  have e4 : (nI i = 0) = (i = 0) := propext (nI_eq (a := i) (b := 0) (by omega) (by omega))
  have e5 : (nI j ≤ 0) = (j = 0) := propext ⟨fun q => by
    rcases Nat.eq_zero_or_pos j with w | w
    · exact w
    · exact absurd q (nI_ge (a := 0) (b := j) w (by omega)), fun q => by rw [q]; decide⟩
  have e6 : (nI j = nI i) = (j = i) := propext (nI_eq (by omega) (by omega))
  rw [f_X8_net_169.eq_def]
  simp only [e1, e2, e3, e4, e5, e6]
  unfold nt_cell
  have a1 : ¬ (114 : Int32) = 108 := by decide
  have a2 : ¬ (114 : Int32) = 104 := by decide
  have a3 : ¬ (114 : Int32) = 97 := by decide
  have a4 : ¬ (108 : Int32) = 114 := by decide
  have a5 : ¬ (108 : Int32) = 104 := by decide
  have a6 : ¬ (108 : Int32) = 97 := by decide
  have a7 : ¬ (104 : Int32) = 114 := by decide
  have a8 : ¬ (104 : Int32) = 97 := by decide
  have a9 : ¬ (97 : Int32) = 114 := by decide
  have a10 : ¬ (97 : Int32) = 104 := by decide
  rcases hK with rfl | rfl | rfl | rfl
  · by_cases c1 : j = i + 1
    · simp [c1, a1, a2, a3]
    · by_cases c2 : i = m - 1
      · by_cases c3 : j = 0
        · subst c3
          simp [c1, a1, a2, a3, ← c2]
        · simp [c1, c3, a1, a2, a3, ← c2]
      · simp [c1, c2, a1, a2, a3]
  · by_cases c1 : j = i + 1
    · simp [c1, a4, a5, a6]
    · simp [c1, a4, a5, a6]
  · by_cases c4 : i = 0
    · subst c4
      by_cases c3 : j = 0
      · subst c3
        simp [a7, a8]
      · simp [c3, a7, a8, show 0 < j by omega]
    · simp [c4, a7, a8]
  · by_cases c1 : j = i + 1
    · simp [c1, a9, a10]
    · by_cases c6 : j = i
      · simp [c1, c6, a9, a10]
      · simp [c1, c6, a9, a10]
theorem nt_in {N m i d w : Nat} {K : Int32} {V : Nat → Nat} {VI : Nat → Int32} (hV : ∀ a, VI a = nI (V a)) (hK : K = 114 ∨ K = 108 ∨ K = 104 ∨ K = 97) (hm : m ≤ 16) (hi : i < m) : ∀ (k j f : Nat) (P : List (Nat × Nat)) (s : Nat × (Nat → Int32) × (Nat → Int32) × (Nat → Int32) × (Nat → Int32)), j + k = m → k < f → nt_T V d w P s → (P ++ nt_row K m i k j).length ≤ 60 → ∃ s1, f_X8_net_in N m VI K (nI d) (nI w) i f j s = some s1 ∧ nt_T V d w (P ++ nt_row K m i k j) s1 := by
  intro k
  induction k with
  | zero =>
    intro j f P s hj hf h hl
    obtain ⟨f, rfl⟩ : ∃ g, f = g + 1 := ⟨f - 1, by omega⟩
    rw [f_X8_net_in.eq_def]
    simp only []
    rw [if_pos (show m ≤ j by omega)]
    refine ⟨s, rfl, ?_⟩
    unfold nt_row
    rw [List.append_nil]
    exact h
  | succ k ih =>
    intro j f P s hj hf h hl
    obtain ⟨f, rfl⟩ : ∃ g, f = g + 1 := ⟨f - 1, by omega⟩
    rw [f_X8_net_in.eq_def]
    simp only []
    rw [if_neg (show ¬ m ≤ j by omega)]
    have hrow : nt_row K m i (k + 1) j = nt_cell K m i j ++ nt_row K m i k (j + 1) := rfl
    rw [hrow, ← List.append_assoc] at hl ⊢
    rcases nt_169 (N := N) hK hm (by omega) hi (show j < m by omega) with ⟨g1, y, g2⟩ | ⟨g1, g2⟩ | ⟨g1, g2⟩
    · rw [g2, Option.bind_some, Sum.elim_inr]
      rw [g1, List.append_nil] at hl ⊢
      unfold f_X8_net_tail
      rw [if_pos rfl, Option.bind_some]
      exact ih (j + 1) f P s (by omega) (by omega) h hl
    · rw [g2, Option.bind_some, Sum.elim_inl]
      rw [g1] at hl ⊢
      have hl2 : P.length < 60 := by
        simp only [List.length_append, List.length_cons] at hl
        omega
      obtain ⟨s1, q1, q2⟩ := nt_add h i j hl2
      rw [hV i, hV j, q1, Option.bind_some]
      unfold f_X8_net_tail
      rw [if_neg (show ¬ (1 : Int32) = 0 by decide), if_pos rfl, Option.bind_some]
      exact ih (j + 1) f _ s1 (by omega) (by omega) q2 hl
    · rw [g2, Option.bind_some, Sum.elim_inl]
      rw [g1] at hl ⊢
      have hl2 : P.length + 1 < 60 := by
        simp only [List.length_append, List.length_cons] at hl
        omega
      obtain ⟨s1, q1, q2⟩ := nt_add h i j (by omega)
      obtain ⟨s2, q3, q4⟩ := nt_add q2 j i (by rw [List.length_append]; exact hl2)
      rw [hV i, hV j, q1, Option.bind_some]
      unfold f_X8_net_tail
      rw [if_neg (show ¬ (1 : Int32) = 0 by decide), if_neg (show ¬ (1 : Int32) = 0 by decide), hV i, hV j, q3, Option.bind_some]
      rw [List.append_assoc] at q4
      exact ih (j + 1) f _ s2 (by omega) (by omega) q4 hl
theorem nt_out {N m d w : Nat} {K : Int32} {V : Nat → Nat} {VI : Nat → Int32} (hN : 17 ≤ N) (hV : ∀ a, VI a = nI (V a)) (hK : K = 114 ∨ K = 108 ∨ K = 104 ∨ K = 97) (hm : m ≤ 16) : ∀ (k i f : Nat) (P : List (Nat × Nat)) (s : Nat × (Nat → Int32) × (Nat → Int32) × (Nat → Int32) × (Nat → Int32)), i + k = m → k < f → nt_T V d w P s → (P ++ nt_all K m k i).length ≤ 60 → ∃ s1, f_X8_net_out N m VI K (nI d) (nI w) f i s = some s1 ∧ nt_T V d w (P ++ nt_all K m k i) s1 := by
  intro k
  induction k with
  | zero =>
    intro i f P s hj hf h hl
    obtain ⟨f, rfl⟩ : ∃ g, f = g + 1 := ⟨f - 1, by omega⟩
    rw [f_X8_net_out.eq_def]
    simp only []
    rw [if_pos (show m ≤ i by omega)]
    refine ⟨s, rfl, ?_⟩
    unfold nt_all
    rw [List.append_nil]
    exact h
  | succ k ih =>
    intro i f P s hj hf h hl
    obtain ⟨f, rfl⟩ : ∃ g, f = g + 1 := ⟨f - 1, by omega⟩
    rw [f_X8_net_out.eq_def]
    simp only []
    rw [if_neg (show ¬ m ≤ i by omega)]
    have hrow : nt_all K m (k + 1) i = nt_row K m i m 0 ++ nt_all K m k (i + 1) := rfl
    rw [hrow, ← List.append_assoc] at hl ⊢
    obtain ⟨s1, q1, q2⟩ := nt_in (N := N) hV hK hm (show i < m by omega) m 0 N P s (by omega) (by omega) h (by rw [List.length_append] at hl; omega)
    rw [q1, Option.bind_some]
    exact ih (i + 1) f _ s1 (by omega) (by omega) q2 hl
theorem nt_a13 {N m i d w : Nat} {V : Nat → Nat} {pl : Nat → Int32} (hp : ∀ a, a < m → pl a = nI (V a)) (hm : m ≤ 16) (hi : i < m) : ∀ (k j f : Nat) (P : List (Nat × Nat)) (o : Int32 × (Nat → Int32) × (Nat → Int32) × (Nat → Int32) × (Nat → Int32)), j + k = m → k < f → nt_C V d w P o → (P ++ nt_row 97 m i k j).length ≤ 60 → ∃ a o1, f_X1_linkAll_13 N (nI m) pl (nI d) (nI w) (nI i) f (nI j) o.1 o.2.1 o.2.2.1 o.2.2.2.1 o.2.2.2.2 = some (a, o1) ∧ nt_C V d w (P ++ nt_row 97 m i k j) o1 := by
  intro k
  induction k with
  | zero =>
    intro j f P o hj hf h hl
    obtain ⟨f, rfl⟩ : ∃ g, f = g + 1 := ⟨f - 1, by omega⟩
    rw [f_X1_linkAll_13.eq_def]
    simp only []
    rw [if_pos (show nI m ≤ nI j from nI_le (by omega) (by omega))]
    refine ⟨_, o, rfl, ?_⟩
    unfold nt_row
    rw [List.append_nil]
    exact h
  | succ k ih =>
    intro j f P o hj hf h hl
    obtain ⟨f, rfl⟩ : ∃ g, f = g + 1 := ⟨f - 1, by omega⟩
    rw [f_X1_linkAll_13.eq_def]
    simp only []
    rw [if_neg (show ¬ nI m ≤ nI j from nI_ge (by omega) (by omega)), nI_1]
    have hrow : nt_row 97 m i (k + 1) j = nt_cell 97 m i j ++ nt_row 97 m i k (j + 1) := rfl
    rw [hrow, ← List.append_assoc] at hl ⊢
    by_cases e : j = i
    · rw [if_pos (show nI i = nI j by rw [e])]
      have c : nt_cell 97 m i j = [] := by unfold nt_cell; rw [if_pos rfl, if_pos e]
      rw [c, List.append_nil] at hl ⊢
      exact ih (j + 1) f P o (by omega) (by omega) h hl
    · rw [if_neg (show ¬ nI i = nI j from fun q => e ((nI_eq (by omega) (by omega)).mp q.symm))]
      have c : nt_cell 97 m i j = [(i, j)] := by unfold nt_cell; rw [if_pos rfl, if_neg e]
      rw [c] at hl ⊢
      have hl2 : P.length < 60 := by
        simp only [List.length_append, List.length_cons] at hl
        omega
      obtain ⟨s1, q1, q2⟩ := nt_addC (N := N) h i j hl2
      rw [mg_g (show i < 16 by omega) (by omega), mg_g (show j < 16 by omega) (by omega), nI_clamp (n := i) (by omega), nI_clamp (n := j) (by omega), hp i hi, hp j (by omega), q1, Option.bind_some]
      exact ih (j + 1) f _ s1 (by omega) (by omega) q2 hl
theorem nt_a2 {N m d w : Nat} {V : Nat → Nat} {pl : Nat → Int32} (hN : 17 ≤ N) (hp : ∀ a, a < m → pl a = nI (V a)) (hm : m ≤ 16) : ∀ (k i f : Nat) (P : List (Nat × Nat)) (o : Int32 × (Nat → Int32) × (Nat → Int32) × (Nat → Int32) × (Nat → Int32)), i + k = m → k < f → nt_C V d w P o → (P ++ nt_all 97 m k i).length ≤ 60 → ∃ a o1, f_X1_linkAll_2 N (nI m) pl (nI d) (nI w) f (nI i) o.1 o.2.1 o.2.2.1 o.2.2.2.1 o.2.2.2.2 = some (a, o1) ∧ nt_C V d w (P ++ nt_all 97 m k i) o1 := by
  intro k
  induction k with
  | zero =>
    intro j f P o hj hf h hl
    obtain ⟨f, rfl⟩ : ∃ g, f = g + 1 := ⟨f - 1, by omega⟩
    rw [f_X1_linkAll_2.eq_def]
    simp only []
    rw [if_pos (show nI m ≤ nI j from nI_le (by omega) (by omega))]
    refine ⟨_, o, rfl, ?_⟩
    unfold nt_all
    rw [List.append_nil]
    exact h
  | succ k ih =>
    intro i f P o hj hf h hl
    obtain ⟨f, rfl⟩ : ∃ g, f = g + 1 := ⟨f - 1, by omega⟩
    rw [f_X1_linkAll_2.eq_def]
    simp only []
    rw [if_neg (show ¬ nI m ≤ nI i from nI_ge (by omega) (by omega)), nI_1]
    have hrow : nt_all 97 m (k + 1) i = nt_row 97 m i m 0 ++ nt_all 97 m k (i + 1) := rfl
    rw [hrow, ← List.append_assoc] at hl ⊢
    obtain ⟨a, o1, q1, q2⟩ := nt_a13 (N := N) hp hm (show i < m by omega) m 0 N P o (by omega) (by omega) h (by rw [List.length_append] at hl; omega)
    have q1 : f_X1_linkAll_13 N (nI m) pl (nI d) (nI w) (nI i) N (0 : Int32) o.1 o.2.1 o.2.2.1 o.2.2.2.1 o.2.2.2.2 = _ := q1
    rw [q1, Option.bind_some]
    exact ih (i + 1) f _ o1 (by omega) (by omega) q2 hl
theorem nt_h2 {N m d w : Nat} {V : Nat → Nat} {pl : Nat → Int32} (hp : ∀ a, a < m → pl a = nI (V a)) (hm : m ≤ 16) : ∀ (k j f : Nat) (P : List (Nat × Nat)) (o : Int32 × (Nat → Int32) × (Nat → Int32) × (Nat → Int32) × (Nat → Int32)), j + k = m → 0 < j → k < f → nt_C V d w P o → (P ++ nt_row 104 m 0 k j).length ≤ 60 → ∃ a o1, f_X1_linkHub_2 N (nI m) pl (nI d) (nI w) f (nI j) o.1 o.2.1 o.2.2.1 o.2.2.2.1 o.2.2.2.2 = some (a, o1) ∧ nt_C V d w (P ++ nt_row 104 m 0 k j) o1 := by
  intro k
  induction k with
  | zero =>
    intro j f P o hj hj0 hf h hl
    obtain ⟨f, rfl⟩ : ∃ g, f = g + 1 := ⟨f - 1, by omega⟩
    rw [f_X1_linkHub_2.eq_def]
    simp only []
    rw [if_pos (show nI m ≤ nI j from nI_le (by omega) (by omega))]
    refine ⟨_, o, rfl, ?_⟩
    unfold nt_row
    rw [List.append_nil]
    exact h
  | succ k ih =>
    intro j f P o hj hj0 hf h hl
    obtain ⟨f, rfl⟩ : ∃ g, f = g + 1 := ⟨f - 1, by omega⟩
    rw [f_X1_linkHub_2.eq_def]
    simp only []
    rw [if_neg (show ¬ nI m ≤ nI j from nI_ge (by omega) (by omega)), nI_1]
    have hrow : nt_row 104 m 0 (k + 1) j = nt_cell 104 m 0 j ++ nt_row 104 m 0 k (j + 1) := rfl
    have c : nt_cell 104 m 0 j = [(0, j), (j, 0)] := by
      unfold nt_cell
      rw [if_neg (by decide), if_pos rfl, if_pos ⟨rfl, hj0⟩]
    rw [hrow, ← List.append_assoc, c] at hl ⊢
    have hl2 : P.length + 1 < 60 := by
      simp only [List.length_append, List.length_cons] at hl
      omega
    obtain ⟨s1, q1, q2⟩ := nt_addC (N := N) h 0 j (by omega)
    obtain ⟨s2, q3, q4⟩ := nt_addC (N := N) q2 j 0 (by rw [List.length_append]; exact hl2)
    simp only [mg_g (show j < 16 by omega) (show 16 < 2 ^ 31 by omega), nI_clamp (show j < 2 ^ 31 by omega), show (0 : Int32).toNatClampNeg = 0 from by decide]
    rw [hp 0 (by omega), hp j (by omega), q1, Option.bind_some, q3, Option.bind_some]
    rw [List.append_assoc] at q4
    exact ih (j + 1) f _ s2 (by omega) (by omega) (by omega) q4 hl
theorem nt_n3 {N m d w : Nat} {V : Nat → Nat} {pl : Nat → Int32} (hp : ∀ a, a < m → pl a = nI (V a)) (hm : m ≤ 16) (hm1 : 1 ≤ m) : ∀ (k i f : Nat) (P : List (Nat × Nat)) (o : Int32 × (Nat → Int32) × (Nat → Int32) × (Nat → Int32) × (Nat → Int32)), i + k + 1 = m → k < f → nt_C V d w P o → (P ++ nt_nx k i).length ≤ 60 → ∃ a o1, f_X1_linkNext_3 N (nI m) pl (nI d) (nI w) f (nI i) o.1 o.2.1 o.2.2.1 o.2.2.2.1 o.2.2.2.2 = some (a, o1) ∧ nt_C V d w (P ++ nt_nx k i) o1 := by
  intro k
  induction k with
  | zero =>
    intro j f P o hj hf h hl
    obtain ⟨f, rfl⟩ : ∃ g, f = g + 1 := ⟨f - 1, by omega⟩
    rw [f_X1_linkNext_3.eq_def]
    simp only []
    rw [nI_p1 hm1, if_pos (show nI (m - 1) ≤ nI j from nI_le (by omega) (by omega))]
    refine ⟨_, o, rfl, ?_⟩
    unfold nt_nx
    rw [List.append_nil]
    exact h
  | succ k ih =>
    intro i f P o hj hf h hl
    obtain ⟨f, rfl⟩ : ∃ g, f = g + 1 := ⟨f - 1, by omega⟩
    rw [f_X1_linkNext_3.eq_def]
    simp only []
    rw [nI_p1 hm1, if_neg (show ¬ nI (m - 1) ≤ nI i from nI_ge (by omega) (by omega)), nI_1]
    have hrow : P ++ nt_nx (k + 1) i = P ++ [(i, i + 1)] ++ nt_nx k (i + 1) := by
      rw [List.append_assoc]
      rfl
    rw [hrow] at hl ⊢
    have hl2 : P.length < 60 := by
      simp only [List.length_append, List.length_cons] at hl
      omega
    obtain ⟨s1, q1, q2⟩ := nt_addC (N := N) h i (i + 1) hl2
    rw [mg_g (show i < 16 by omega) (by omega), mg_g (show i + 1 < 16 by omega) (by omega), nI_clamp (n := i) (by omega), nI_clamp (n := i + 1) (by omega), hp i (by omega), hp (i + 1) (by omega), q1, Option.bind_some]
    exact ih (i + 1) f _ s1 (by omega) (by omega) q2 hl
theorem nt_eL : ∀ m, m < 17 → 2 ≤ m → nt_all 108 m m 0 = nt_nx (m - 1) 0 ∧ (nt_all 108 m m 0).length = m - 1 := by decide +kernel
theorem nt_eR : ∀ m, m < 17 → 2 ≤ m → nt_all 114 m m 0 = nt_nx (m - 1) 0 ++ [(m - 1, 0)] ∧ (nt_all 114 m m 0).length = m := by decide +kernel
theorem nt_eH : ∀ m, m < 17 → 2 ≤ m → nt_all 104 m m 0 = nt_row 104 m 0 (m - 1) 1 ∧ (nt_all 104 m m 0).length = 2 * (m - 1) := by decide +kernel
theorem nt_eA : ∀ m, m < 17 → 2 ≤ m → (nt_all 97 m m 0).length = m * (m - 1) := by decide +kernel
theorem nt_q1 : ∀ m, m < 17 → ((nI m ≤ (60 : Int32)) ↔ m ≤ 60) ∧ ((nI m - (1 : Int32) ≤ (60 : Int32)) ↔ m - 1 ≤ 60) ∧ (2 ≤ m → (((2 : Int32) * (nI m - (1 : Int32)) ≤ (60 : Int32)) ↔ 2 * (m - 1) ≤ 60)) ∧ ((nI m * (nI m - (1 : Int32)) ≤ (60 : Int32)) ↔ m * (m - 1) ≤ 60) ∧ (nI m < (2 : Int32) ↔ m < 2) := by decide +kernel
theorem nt_e (V : Nat → Nat) (d w : Nat) (f t de st : Nat → Int32) : nt_C V d w [] ((0 : Int32), f, t, de, st) := ⟨0, rfl, rfl, fun k hk => absurd hk (Nat.not_lt_zero _)⟩
theorem nt_t (V : Nat → Nat) (d w : Nat) (f t de st : Nat → Int32) : nt_T V d w [] (0, f, t, de, st) := ⟨rfl, fun k hk => absurd hk (Nat.not_lt_zero _)⟩
theorem nt_cH {N m d w : Nat} {V : Nat → Nat} {pl f t de st : Nat → Int32} (hN : 17 ≤ N) (hp : ∀ a, a < m → pl a = nI (V a)) (hm : m ≤ 16) (hm2 : 2 ≤ m) (hl : (nt_all 104 m m 0).length ≤ 60) : ∃ o, f_X1_linkHub N (nI m) (0 : Int32) pl f t de st (nI d) (nI w) = some o ∧ nt_C V d w (nt_all 104 m m 0) o := by
  have e := (nt_eH m (by omega) hm2).1
  rw [e] at hl ⊢
  obtain ⟨a, o, q1, q2⟩ := nt_h2 (N := N) hp hm (m - 1) 1 N [] ((0 : Int32), f, t, de, st) (by omega) (by omega) (by omega) (nt_e V d w f t de st) (by rw [List.nil_append]; exact hl)
  have q1 : f_X1_linkHub_2 N (nI m) pl (nI d) (nI w) N (1 : Int32) (0 : Int32) f t de st = _ := q1
  unfold f_X1_linkHub
  rw [q1, Option.bind_some]
  exact ⟨_, rfl, q2⟩
theorem nt_cA {N m d w : Nat} {V : Nat → Nat} {pl f t de st : Nat → Int32} (hN : 17 ≤ N) (hp : ∀ a, a < m → pl a = nI (V a)) (hm : m ≤ 16) (hl : (nt_all 97 m m 0).length ≤ 60) : ∃ o, f_X1_linkAll N (nI m) (0 : Int32) pl f t de st (nI d) (nI w) = some o ∧ nt_C V d w (nt_all 97 m m 0) o := by
  obtain ⟨a, o, q1, q2⟩ := nt_a2 (N := N) hN hp hm m 0 N [] ((0 : Int32), f, t, de, st) (by omega) (by omega) (nt_e V d w f t de st) (by rw [List.nil_append]; exact hl)
  have q1 : f_X1_linkAll_2 N (nI m) pl (nI d) (nI w) N (0 : Int32) (0 : Int32) f t de st = _ := q1
  unfold f_X1_linkAll
  rw [q1, Option.bind_some]
  exact ⟨_, rfl, q2⟩
theorem nt_cL {N m d w : Nat} {V : Nat → Nat} {pl f t de st : Nat → Int32} (hN : 17 ≤ N) (hp : ∀ a, a < m → pl a = nI (V a)) (hm : m ≤ 16) (hm2 : 2 ≤ m) (hl : (nt_all 108 m m 0).length ≤ 60) : ∃ o, f_X1_linkNext N (nI m) (0 : Int32) pl f t de st (nI d) (nI w) (0 : Int32) = some o ∧ nt_C V d w (nt_all 108 m m 0) o := by
  have e := (nt_eL m (by omega) hm2).1
  rw [e] at hl ⊢
  obtain ⟨a, o, q1, q2⟩ := nt_n3 (N := N) hp hm (by omega) (m - 1) 0 N [] ((0 : Int32), f, t, de, st) (by omega) (by omega) (nt_e V d w f t de st) (by rw [List.nil_append]; exact hl)
  have q1 : f_X1_linkNext_3 N (nI m) pl (nI d) (nI w) N (0 : Int32) (0 : Int32) f t de st = _ := q1
  unfold f_X1_linkNext
  rw [q1, Option.bind_some, if_pos rfl]
  exact ⟨_, rfl, q2⟩
theorem nt_cR {N m d w : Nat} {V : Nat → Nat} {pl f t de st : Nat → Int32} (hN : 17 ≤ N) (hp : ∀ a, a < m → pl a = nI (V a)) (hm : m ≤ 16) (hm2 : 2 ≤ m) (hl : (nt_all 114 m m 0).length ≤ 60) : ∃ o, f_X1_linkNext N (nI m) (0 : Int32) pl f t de st (nI d) (nI w) (1 : Int32) = some o ∧ nt_C V d w (nt_all 114 m m 0) o := by
  have e := (nt_eR m (by omega) hm2).1
  rw [e] at hl ⊢
  have hl2 : (nt_nx (m - 1) 0).length < 60 := by
    simp only [List.length_append, List.length_cons] at hl
    omega
  obtain ⟨a, o, q1, q2⟩ := nt_n3 (N := N) hp hm (by omega) (m - 1) 0 N [] ((0 : Int32), f, t, de, st) (by omega) (by omega) (nt_e V d w f t de st) (by rw [List.nil_append]; omega)
  have q1 : f_X1_linkNext_3 N (nI m) pl (nI d) (nI w) N (0 : Int32) (0 : Int32) f t de st = _ := q1
  rw [List.nil_append] at q2
  obtain ⟨s1, q3, q4⟩ := nt_addC (N := N) q2 (m - 1) 0 hl2
  unfold f_X1_linkNext
  rw [q1, Option.bind_some, if_neg (show ¬ (1 : Int32) = 0 by decide), if_neg (show ¬ nI m ≤ (0 : Int32) from nI_ge (a := 0) (b := m) (by omega) (by omega)), nI_p1 (by omega), mg_g (show m - 1 < 16 by omega) (by omega), nI_clamp (n := m - 1) (by omega), show (0 : Int32).toNatClampNeg = 0 by decide, hp (m - 1) (by omega), hp 0 (by omega), q3, Option.bind_some]
  exact ⟨_, rfl, q4⟩
set_option maxHeartbeats 4000000 in
theorem lr_net : lw_S_net ma_Rel := by
  intro j hj v_x_ticksPassed v_x_noiseShare v_x_lot v_x_aheadKnown v_x_aheadEnds v_x_swings_stiffness v_x_swings_pull v_x_swings_there v_x_swings_angles v_x_setting_beaters v_x_setting_mask v_x_setting_links v_x_setting_answers v_x_setting_periods v_x_setting_quiets v_x_setting_places v_x_now_row v_x_now_phases v_x_flashCounts v_x_lastFlashes v_x_ahead_leadTicks v_x_ahead_cycleTicks v_x_ahead_behind_row v_x_ahead_behind_phases v_x_now_coming v_x_ahead_behind_coming v_x_ahead_front_row v_x_ahead_front_phases v_x_ahead_front_coming v_x_setting_froms v_x_setting_delays v_x_setting_tos v_x_setting_strengths v_x_ahead_flashed v_x_swings_speeds v_x_marks_count v_x_marks_ticks v_x_ahead_groupNumbers v_x_trial_leadTicks v_x_trial_cycleTicks v_x_trial_behind_row v_x_trial_behind_phases v_x_trial_behind_coming v_x_trial_front_row v_x_trial_front_phases v_x_trial_front_coming v_x_trial_flashed v_x_trial_groupNumbers v_x_trialStart_row v_x_trialStart_phases v_x_trialStart_coming v_x_pair_beaters v_x_pair_mask v_x_pair_links v_x_pair_places v_x_pair_periods v_x_pair_quiets v_x_pair_answers v_x_pair_froms v_x_pair_tos v_x_pair_delays v_x_pair_strengths v_t_thrown v_t_noise v_t_z v_t_lead v_t_cycle v_t_stiffness v_t_pull v_t_swings v_t_angles v_t_now_time v_t_now_isThere v_t_answers v_t_now_period v_t_now_phase v_t_now_quiet v_t_flashed v_t_last v_t_start_time v_t_start_isThere v_t_start_period v_t_start_phase v_t_start_quiet v_t_start_waiting v_t_now_waiting v_t_slow_time v_t_slow_isThere v_t_slow_period v_t_slow_phase v_t_slow_quiet v_t_slow_waiting v_t_fast_time v_t_fast_isThere v_t_fast_period v_t_fast_phase v_t_fast_quiet v_t_fast_waiting v_t_fast_flashes v_t_slow_flashes v_t_beats v_t_areApart v_t_speeds v_t_now_flashes nl fr tt de st nk vv hR v_out v_outD ml mk cl hl1 hl2 x1 x2 x3
  obtain ⟨h, t, z, fr0, to0, de0, S, ⟨r1, r2, r3, r4⟩, hx, ⟨rfl, rfl, rfl, rfl, rfl, rfl, rfl, rfl⟩, C, E, hf, hinv, hR, hrm, hA, hc, hl, htr, hmk, hsw, hqb⟩ := hR
  have hN17 : (17 : Nat) ≤ 100 := by decide
  have hm : (ms_L v_x_setting_mask).length ≤ 16 := ms_l_len v_x_setting_mask 16
  have hb : zs_b v_t_now_isThere 16 = ms_L v_x_setting_mask := zb_L (fun q hq => (hf q hq).1) 16 (Nat.le_refl _)
  have hs : f_Jx4a65c_size_8abf5 100 (nI (ms_L v_x_setting_mask).length) = some (nI (ms_L v_x_setting_mask).length) := rfl
  have n1 : ¬ (1 : Int32) = 0 := by decide
  have hV16 : ∀ a, (ms_L v_x_setting_mask).getD a 0 < 16 := fun a => by
    by_cases e : a < (ms_L v_x_setting_mask).length
    · exact (ms_l_getD (x := v_x_setting_mask) (p := 16) e).1
    · rw [List.getD_eq_getElem?_getD, List.getElem?_eq_none (by omega)]
      decide
  have bad : ∀ (k : Int32), ¬ k = 0 → f_L_net 100 v_x_aheadKnown (nI (ms_L v_x_setting_mask).length) (nI nl) v_x_setting_places v_x_setting_froms v_x_setting_tos v_x_setting_delays v_x_setting_strengths v_out ((x1.toUInt32 % 65536).toInt32) x2 x3 = some (k, v_x_aheadKnown, nI nl, v_x_setting_froms, v_x_setting_tos, v_x_setting_delays, v_x_setting_strengths, v_out) → f_X8_net 100 v_t_thrown v_t_now_isThere (nl, fr, tt, de, st) ((x1.toUInt32 % 65536).toInt32) x2 x3 = some (0, k, false, nl, fr, tt, de, st) → (∃ (N1 N2 : Nat) (o1 : Int32 × Int32 × Int32 × (Nat → Int32) × (Nat → Int32) × (Nat → Int32) × (Nat → Int32) × (Nat → Int64)) (o2 : Int32 × Int32 × Bool × Nat × (Nat → Int32) × (Nat → Int32) × (Nat → Int32) × (Nat → Int32)), f_L_net N1 v_x_aheadKnown (nI (ms_L v_x_setting_mask).length) (nI nl) v_x_setting_places v_x_setting_froms v_x_setting_tos v_x_setting_delays v_x_setting_strengths v_out ((x1.toUInt32 % 65536).toInt32) x2 x3 = some o1 ∧ f_X8_net N2 v_t_thrown v_t_now_isThere (nl, fr, tt, de, st) ((x1.toUInt32 % 65536).toInt32) x2 x3 = some o2 ∧ (o2.2.1 = o1.1 ∧ (o1.1 = 0 → o1.2.2.2.2.2.2.2 0 = o2.1.toInt64)) ∧ ma_Rel (j + 1) (nI t) (nI h) (nI z) o1.2.1 v_x_aheadEnds v_x_swings_stiffness v_x_swings_pull v_x_swings_there v_x_swings_angles (nI (ms_L v_x_setting_mask).length) v_x_setting_mask o1.2.2.1 v_x_setting_answers v_x_setting_periods v_x_setting_quiets v_x_setting_places v_x_now_row v_x_now_phases v_x_flashCounts v_x_lastFlashes v_x_ahead_leadTicks v_x_ahead_cycleTicks v_x_ahead_behind_row v_x_ahead_behind_phases v_x_now_coming v_x_ahead_behind_coming v_x_ahead_front_row v_x_ahead_front_phases v_x_ahead_front_coming o1.2.2.2.1 o1.2.2.2.2.2.1 o1.2.2.2.2.1 o1.2.2.2.2.2.2.1 v_x_ahead_flashed v_x_swings_speeds v_x_marks_count v_x_marks_ticks v_x_ahead_groupNumbers v_x_trial_leadTicks v_x_trial_cycleTicks v_x_trial_behind_row v_x_trial_behind_phases v_x_trial_behind_coming v_x_trial_front_row v_x_trial_front_phases v_x_trial_front_coming v_x_trial_flashed v_x_trial_groupNumbers v_x_trialStart_row v_x_trialStart_phases v_x_trialStart_coming v_x_pair_beaters v_x_pair_mask v_x_pair_links v_x_pair_places v_x_pair_periods v_x_pair_quiets v_x_pair_answers v_x_pair_froms v_x_pair_tos v_x_pair_delays v_x_pair_strengths o2.2.1 (nI h) (lN z) v_t_lead v_t_cycle v_t_stiffness v_t_pull v_t_swings v_t_angles (nI t) v_t_now_isThere v_t_answers v_t_now_period v_t_now_phase v_t_now_quiet v_t_flashed v_t_last v_t_start_time v_t_start_isThere v_t_start_period v_t_start_phase v_t_start_quiet v_t_start_waiting v_t_now_waiting v_t_slow_time v_t_slow_isThere v_t_slow_period v_t_slow_phase v_t_slow_quiet v_t_slow_waiting v_t_fast_time v_t_fast_isThere v_t_fast_period v_t_fast_phase v_t_fast_quiet v_t_fast_waiting v_t_fast_flashes v_t_slow_flashes v_t_beats v_t_areApart v_t_speeds v_t_now_flashes o2.2.2.2.1 o2.2.2.2.2.1 o2.2.2.2.2.2.1 o2.2.2.2.2.2.2.1 o2.2.2.2.2.2.2.2 nk vv) := fun k hk b c => ⟨100, 100, (k, v_x_aheadKnown, nI nl, v_x_setting_froms, v_x_setting_tos, v_x_setting_delays, v_x_setting_strengths, v_out), (0, k, false, nl, fr, tt, de, st), b, c, ⟨rfl, fun q => absurd (show k = 0 from q) hk⟩, ⟨h, t, z, fr0, to0, de0, S, ⟨by omega, by omega, r3, r4⟩, hx, ⟨rfl, rfl, rfl, rfl, rfl, rfl, rfl, rfl⟩, C, E, hf, hinv, hR, hrm, hA, hc, hl, htr, hmk, hsw, hqb⟩⟩
  have good : ∀ (T : List (Nat × Nat)) (d w : Nat) (o : Int32 × (Nat → Int32) × (Nat → Int32) × (Nat → Int32) × (Nat → Int32)) (s : Nat × (Nat → Int32) × (Nat → Int32) × (Nat → Int32) × (Nat → Int32)), 1 ≤ d → d ≤ 30 → w ≤ 9 → T.length ≤ 60 → nt_C (fun a => (ms_L v_x_setting_mask).getD a 0) d w T o → nt_T (fun a => (ms_L v_x_setting_mask).getD a 0) d w T s → f_L_net 100 v_x_aheadKnown (nI (ms_L v_x_setting_mask).length) (nI nl) v_x_setting_places v_x_setting_froms v_x_setting_tos v_x_setting_delays v_x_setting_strengths v_out ((x1.toUInt32 % 65536).toInt32) x2 x3 = some (0, 0, o.1, o.2.1, o.2.2.1, o.2.2.2.1, o.2.2.2.2, vp_updL v_out 0 o.1.toInt64) → f_X8_net 100 v_t_thrown v_t_now_isThere (nl, fr, tt, de, st) ((x1.toUInt32 % 65536).toInt32) x2 x3 = some (nI s.1, 0, true, s) → (∃ (N1 N2 : Nat) (o1 : Int32 × Int32 × Int32 × (Nat → Int32) × (Nat → Int32) × (Nat → Int32) × (Nat → Int32) × (Nat → Int64)) (o2 : Int32 × Int32 × Bool × Nat × (Nat → Int32) × (Nat → Int32) × (Nat → Int32) × (Nat → Int32)), f_L_net N1 v_x_aheadKnown (nI (ms_L v_x_setting_mask).length) (nI nl) v_x_setting_places v_x_setting_froms v_x_setting_tos v_x_setting_delays v_x_setting_strengths v_out ((x1.toUInt32 % 65536).toInt32) x2 x3 = some o1 ∧ f_X8_net N2 v_t_thrown v_t_now_isThere (nl, fr, tt, de, st) ((x1.toUInt32 % 65536).toInt32) x2 x3 = some o2 ∧ (o2.2.1 = o1.1 ∧ (o1.1 = 0 → o1.2.2.2.2.2.2.2 0 = o2.1.toInt64)) ∧ ma_Rel (j + 1) (nI t) (nI h) (nI z) o1.2.1 v_x_aheadEnds v_x_swings_stiffness v_x_swings_pull v_x_swings_there v_x_swings_angles (nI (ms_L v_x_setting_mask).length) v_x_setting_mask o1.2.2.1 v_x_setting_answers v_x_setting_periods v_x_setting_quiets v_x_setting_places v_x_now_row v_x_now_phases v_x_flashCounts v_x_lastFlashes v_x_ahead_leadTicks v_x_ahead_cycleTicks v_x_ahead_behind_row v_x_ahead_behind_phases v_x_now_coming v_x_ahead_behind_coming v_x_ahead_front_row v_x_ahead_front_phases v_x_ahead_front_coming o1.2.2.2.1 o1.2.2.2.2.2.1 o1.2.2.2.2.1 o1.2.2.2.2.2.2.1 v_x_ahead_flashed v_x_swings_speeds v_x_marks_count v_x_marks_ticks v_x_ahead_groupNumbers v_x_trial_leadTicks v_x_trial_cycleTicks v_x_trial_behind_row v_x_trial_behind_phases v_x_trial_behind_coming v_x_trial_front_row v_x_trial_front_phases v_x_trial_front_coming v_x_trial_flashed v_x_trial_groupNumbers v_x_trialStart_row v_x_trialStart_phases v_x_trialStart_coming v_x_pair_beaters v_x_pair_mask v_x_pair_links v_x_pair_places v_x_pair_periods v_x_pair_quiets v_x_pair_answers v_x_pair_froms v_x_pair_tos v_x_pair_delays v_x_pair_strengths o2.2.1 (nI h) (lN z) v_t_lead v_t_cycle v_t_stiffness v_t_pull v_t_swings v_t_angles (nI t) v_t_now_isThere v_t_answers v_t_now_period v_t_now_phase v_t_now_quiet v_t_flashed v_t_last v_t_start_time v_t_start_isThere v_t_start_period v_t_start_phase v_t_start_quiet v_t_start_waiting v_t_now_waiting v_t_slow_time v_t_slow_isThere v_t_slow_period v_t_slow_phase v_t_slow_quiet v_t_slow_waiting v_t_fast_time v_t_fast_isThere v_t_fast_period v_t_fast_phase v_t_fast_quiet v_t_fast_waiting v_t_fast_flashes v_t_slow_flashes v_t_beats v_t_areApart v_t_speeds v_t_now_flashes o2.2.2.2.1 o2.2.2.2.2.1 o2.2.2.2.2.2.1 o2.2.2.2.2.2.2.1 o2.2.2.2.2.2.2.2 nk vv) := by
    intro T d w o s hd1 hd2 hw hT hC hS e1 e2
    obtain ⟨o1, of, ot, od, os⟩ := o
    obtain ⟨s1, sf, stt, sd, ss⟩ := s
    obtain ⟨n, rfl, hn, hk⟩ := hC
    obtain ⟨hn2, hk2⟩ := hS
    have hn : n = T.length := hn
    have hn2 : s1 = T.length := hn2
    subst hn
    subst hn2
    have hk : ∀ k, k < T.length → of k = nI ((ms_L v_x_setting_mask).getD (T.getD k (0, 0)).1 0) ∧ ot k = nI ((ms_L v_x_setting_mask).getD (T.getD k (0, 0)).2 0) ∧ od k = nI d ∧ os k = nI w := hk
    have hk2 : ∀ k, k < T.length → sf k = nI ((ms_L v_x_setting_mask).getD (T.getD k (0, 0)).1 0) ∧ stt k = nI ((ms_L v_x_setting_mask).getD (T.getD k (0, 0)).2 0) ∧ sd k = nI d ∧ ss k = nI w := hk2
    exact ⟨100, 100, _, _, e1, e2, ⟨rfl, fun _ => lr_u0 v_out _⟩, ⟨h, t, z, (fun k => (ms_L v_x_setting_mask).getD (T.getD k (0, 0)).1 0), (fun k => (ms_L v_x_setting_mask).getD (T.getD k (0, 0)).2 0), (fun _ => d), S, ⟨by omega, by omega, r3, r4⟩, hx, ⟨rfl, rfl, rfl, rfl, rfl, rfl, rfl, rfl⟩, ⟨hT, fun k hk0 => ⟨(hk k hk0).1, (hk k hk0).2.1, (hk k hk0).2.2.1, hV16 _, hV16 _, hd1, hd2⟩, C.2.2.1, C.2.2.2.1, fun k hk0 => ⟨w, hw, (hk k hk0).2.2.2⟩⟩, ⟨hT, Nat.le_refl _, fun k hk0 => ⟨(hk2 k hk0).1, (hk2 k hk0).2.1, (hk2 k hk0).2.2.1, hV16 _, hV16 _, hd1, hd2⟩, fun k hk0 => (hk2 k hk0).2.2.2.trans (hk k hk0).2.2.2.symm, E.2.2.2.2⟩, hf, hinv, hR, hrm, Or.inl rfl, hc, hl, htr, hmk, hsw, hqb⟩⟩
  generalize (x1.toUInt32 % 65536).toInt32 = c at bad good ⊢
  by_cases hK : c = 114 ∨ c = 108 ∨ c = 104 ∨ c = 97
  · rcases mx_range (N := 100) x2 1 30 (by omega) (by omega) with ⟨e1, e2⟩ | ⟨d, hd1, hd2, rfl, e1, e2⟩
    · have e1 : f_X5_checkRange 100 x2 (1 : Int32) (30 : Int32) = _ := e1
      have e2 : f_X8_in 100 x2.toInt64 (1 : Int64) (30 : Int64) = _ := e2
      refine bad 1 (by decide) ?_ ?_
      · unfold f_L_net f_X5_net
        rw [e1]
        rcases hK with rfl | rfl | rfl | rfl <;> rfl
      · unfold f_X8_net
        rw [f_X8_net_0.eq_def]
        simp only []
        unfold f_X8_isLink
        rw [e2]
        rcases hK with rfl | rfl | rfl | rfl <;> rfl
    · have e1 : f_X5_checkRange 100 (nI d) (1 : Int32) (30 : Int32) = _ := e1
      have e2 : f_X8_in 100 (nI d).toInt64 (1 : Int64) (30 : Int64) = _ := e2
      rcases mx_range (N := 100) x3 1 9 (by omega) (by omega) with ⟨e3, e4⟩ | ⟨w, hw1, hw2, rfl, e3, e4⟩
      · have e3 : f_X5_checkRange 100 x3 (1 : Int32) (9 : Int32) = _ := e3
        have e4 : f_X8_in 100 x3.toInt64 (1 : Int64) (9 : Int64) = _ := e4
        refine bad 1 (by decide) ?_ ?_
        · unfold f_L_net f_X5_net
          rw [e1, Option.bind_some, Sum.elim_inr, e3]
          rcases hK with rfl | rfl | rfl | rfl <;> rfl
        · unfold f_X8_net
          rw [f_X8_net_0.eq_def]
          simp only []
          unfold f_X8_isLink
          rw [e2, Option.bind_some, if_neg n1, e4]
          rcases hK with rfl | rfl | rfl | rfl <;> rfl
      · have e3 : f_X5_checkRange 100 (nI w) (1 : Int32) (9 : Int32) = _ := e3
        have e4 : f_X8_in 100 (nI w).toInt64 (1 : Int64) (9 : Int64) = _ := e4
        have eL : f_X8_isLink 100 (nI d) (nI w) = some 1 := by
          unfold f_X8_isLink
          rw [e2, Option.bind_some, if_neg n1, e4, Option.bind_some, if_neg n1]
        have e0 : f_X8_net_0 100 c (nI d) (nI w) 1 v_t_thrown = some (.inr 0) := by
          rw [f_X8_net_0.eq_def]
          simp only []
          rw [eL]
          rcases hK with rfl | rfl | rfl | rfl <;> rfl
        obtain ⟨q1, q2, q3, q4, q5⟩ := nt_q1 (ms_L v_x_setting_mask).length (by omega)
        by_cases hm2 : (ms_L v_x_setting_mask).length < 2
        · have hlt := q5.mpr hm2
          refine bad 2 (by decide) ?_ ?_
          · unfold f_L_net f_X5_net
            rw [e1, Option.bind_some, Sum.elim_inr, e3, Option.bind_some, Sum.elim_inr, if_pos hlt]
            rcases hK with rfl | rfl | rfl | rfl <;> rfl
          · unfold f_X8_net
            rw [e0, Option.bind_some, Sum.elim_inr, hb, f_X8_net_56.eq_def]
            simp only []
            rw [hs, Option.bind_some, if_pos hlt, if_pos hlt, if_pos hlt, if_pos hlt]
            rcases hK with rfl | rfl | rfl | rfl <;> rfl
        · have hlt : ¬ nI (ms_L v_x_setting_mask).length < (2 : Int32) := fun q => hm2 (q5.mp q)
          have hm2 : 2 ≤ (ms_L v_x_setting_mask).length := by omega
          have hp : ∀ a, a < (ms_L v_x_setting_mask).length → v_x_setting_places a = nI ((fun a => (ms_L v_x_setting_mask).getD a 0) a) := fun a ha => C.2.2.1 a ha
          have hVI : ∀ a, (fun i => nI ((ms_L v_x_setting_mask).getD i 0)) a = nI ((fun a => (ms_L v_x_setting_mask).getD a 0) a) := fun a => rfl
          rcases hK with rfl | rfl | rfl | rfl
          · have nz : f_X5_netSize 100 114 (nI (ms_L v_x_setting_mask).length) = some (nI (ms_L v_x_setting_mask).length) := rfl
            have hle : (nt_all 114 (ms_L v_x_setting_mask).length (ms_L v_x_setting_mask).length 0).length ≤ 60 ↔ nI (ms_L v_x_setting_mask).length ≤ (60 : Int32) := by
              rw [(nt_eR _ (by omega) hm2).2, q1]
            by_cases h60 : nI (ms_L v_x_setting_mask).length ≤ (60 : Int32)
            · have hl := hle.mpr h60
              obtain ⟨o, g1, g2⟩ := nt_cR (N := 100) hN17 hp hm hm2 hl (d := d) (w := w) (f := v_x_setting_froms) (t := v_x_setting_tos) (de := v_x_setting_delays) (st := v_x_setting_strengths)
              obtain ⟨s, g3, g4⟩ := nt_out (N := 100) (d := d) (w := w) (K := 114) hN17 hVI (by decide) hm (ms_L v_x_setting_mask).length 0 100 [] (0, fr, tt, de, st) (by omega) (by omega) (nt_t _ d w fr tt de st) (by rw [List.nil_append]; exact hl)
              rw [List.nil_append] at g4
              refine good _ d w o s hd1 hd2 hw2 hl g2 g4 ?_ ?_
              · unfold f_L_net f_X5_net
                rw [if_pos rfl]
                rw [e1, Option.bind_some, Sum.elim_inr, e3, Option.bind_some, Sum.elim_inr, if_neg hlt, nz, Option.bind_some, if_pos h60]
                show (((f_X1_linkNext 100 (nI (ms_L v_x_setting_mask).length) (0 : Int32) v_x_setting_places v_x_setting_froms v_x_setting_tos v_x_setting_delays v_x_setting_strengths (nI d) (nI w) (1 : Int32)).bind _).bind _) = _
                rw [g1]
                rfl
              · unfold f_X8_net
                rw [e0, Option.bind_some, Sum.elim_inr, hb, f_X8_net_56.eq_def]
                simp only []
                rw [hs, Option.bind_some]
                rw [if_pos True.intro]
                rw [if_neg hlt, if_pos h60, Option.bind_some, Sum.elim_inr, g3]
                rfl
            · refine bad 2 (by decide) ?_ ?_
              · unfold f_L_net f_X5_net
                rw [if_pos rfl]
                rw [e1, Option.bind_some, Sum.elim_inr, e3, Option.bind_some, Sum.elim_inr, if_neg hlt, nz, Option.bind_some, if_neg h60]
                rfl
              · unfold f_X8_net
                rw [e0, Option.bind_some, Sum.elim_inr, hb, f_X8_net_56.eq_def]
                simp only []
                rw [hs, Option.bind_some]
                rw [if_pos True.intro]
                rw [if_neg hlt, if_neg h60]
                rfl
          · have nz : f_X5_netSize 100 108 (nI (ms_L v_x_setting_mask).length) = some (nI (ms_L v_x_setting_mask).length - (1 : Int32)) := rfl
            have hle : (nt_all 108 (ms_L v_x_setting_mask).length (ms_L v_x_setting_mask).length 0).length ≤ 60 ↔ nI (ms_L v_x_setting_mask).length - (1 : Int32) ≤ (60 : Int32) := by
              rw [(nt_eL _ (by omega) hm2).2, q2]
            by_cases h60 : nI (ms_L v_x_setting_mask).length - (1 : Int32) ≤ (60 : Int32)
            · have hl := hle.mpr h60
              obtain ⟨o, g1, g2⟩ := nt_cL (N := 100) hN17 hp hm hm2 hl (d := d) (w := w) (f := v_x_setting_froms) (t := v_x_setting_tos) (de := v_x_setting_delays) (st := v_x_setting_strengths)
              obtain ⟨s, g3, g4⟩ := nt_out (N := 100) (d := d) (w := w) (K := 108) hN17 hVI (by decide) hm (ms_L v_x_setting_mask).length 0 100 [] (0, fr, tt, de, st) (by omega) (by omega) (nt_t _ d w fr tt de st) (by rw [List.nil_append]; exact hl)
              rw [List.nil_append] at g4
              refine good _ d w o s hd1 hd2 hw2 hl g2 g4 ?_ ?_
              · unfold f_L_net f_X5_net
                rw [if_neg (show ¬ (108 : Int32) = 114 by decide), if_pos rfl]
                rw [e1, Option.bind_some, Sum.elim_inr, e3, Option.bind_some, Sum.elim_inr, if_neg hlt, nz, Option.bind_some, if_pos h60]
                show (((f_X1_linkNext 100 (nI (ms_L v_x_setting_mask).length) (0 : Int32) v_x_setting_places v_x_setting_froms v_x_setting_tos v_x_setting_delays v_x_setting_strengths (nI d) (nI w) (0 : Int32)).bind _).bind _) = _
                rw [g1]
                rfl
              · unfold f_X8_net
                rw [e0, Option.bind_some, Sum.elim_inr, hb, f_X8_net_56.eq_def]
                simp only []
                rw [hs, Option.bind_some]
                rw [if_neg (show ¬ (108 : Int32) = 114 by decide), if_pos True.intro]
                rw [if_neg hlt, if_pos h60, Option.bind_some, Sum.elim_inr, g3]
                rfl
            · refine bad 2 (by decide) ?_ ?_
              · unfold f_L_net f_X5_net
                rw [if_neg (show ¬ (108 : Int32) = 114 by decide), if_pos rfl]
                rw [e1, Option.bind_some, Sum.elim_inr, e3, Option.bind_some, Sum.elim_inr, if_neg hlt, nz, Option.bind_some, if_neg h60]
                rfl
              · unfold f_X8_net
                rw [e0, Option.bind_some, Sum.elim_inr, hb, f_X8_net_56.eq_def]
                simp only []
                rw [hs, Option.bind_some]
                rw [if_neg (show ¬ (108 : Int32) = 114 by decide), if_pos True.intro]
                rw [if_neg hlt, if_neg h60]
                rfl
          · have nz : f_X5_netSize 100 104 (nI (ms_L v_x_setting_mask).length) = some ((2 : Int32) * (nI (ms_L v_x_setting_mask).length - (1 : Int32))) := rfl
            have hle : (nt_all 104 (ms_L v_x_setting_mask).length (ms_L v_x_setting_mask).length 0).length ≤ 60 ↔ (2 : Int32) * (nI (ms_L v_x_setting_mask).length - (1 : Int32)) ≤ (60 : Int32) := by
              rw [(nt_eH _ (by omega) hm2).2, (q3 hm2)]
            by_cases h60 : (2 : Int32) * (nI (ms_L v_x_setting_mask).length - (1 : Int32)) ≤ (60 : Int32)
            · have hl := hle.mpr h60
              obtain ⟨o, g1, g2⟩ := nt_cH (N := 100) hN17 hp hm hm2 hl (d := d) (w := w) (f := v_x_setting_froms) (t := v_x_setting_tos) (de := v_x_setting_delays) (st := v_x_setting_strengths)
              obtain ⟨s, g3, g4⟩ := nt_out (N := 100) (d := d) (w := w) (K := 104) hN17 hVI (by decide) hm (ms_L v_x_setting_mask).length 0 100 [] (0, fr, tt, de, st) (by omega) (by omega) (nt_t _ d w fr tt de st) (by rw [List.nil_append]; exact hl)
              rw [List.nil_append] at g4
              refine good _ d w o s hd1 hd2 hw2 hl g2 g4 ?_ ?_
              · unfold f_L_net f_X5_net
                rw [if_neg (show ¬ (104 : Int32) = 114 by decide), if_neg (show ¬ (104 : Int32) = 108 by decide), if_pos rfl]
                rw [e1, Option.bind_some, Sum.elim_inr, e3, Option.bind_some, Sum.elim_inr, if_neg hlt, nz, Option.bind_some, if_pos h60]
                show (((f_X1_linkHub 100 (nI (ms_L v_x_setting_mask).length) (0 : Int32) v_x_setting_places v_x_setting_froms v_x_setting_tos v_x_setting_delays v_x_setting_strengths (nI d) (nI w)).bind _).bind _) = _
                rw [g1]
                rfl
              · unfold f_X8_net
                rw [e0, Option.bind_some, Sum.elim_inr, hb, f_X8_net_56.eq_def]
                simp only []
                rw [hs, Option.bind_some]
                rw [if_neg (show ¬ (104 : Int32) = 114 by decide), if_neg (show ¬ (104 : Int32) = 108 by decide), if_pos True.intro]
                rw [if_neg hlt, if_pos h60, Option.bind_some, Sum.elim_inr, g3]
                rfl
            · refine bad 2 (by decide) ?_ ?_
              · unfold f_L_net f_X5_net
                rw [if_neg (show ¬ (104 : Int32) = 114 by decide), if_neg (show ¬ (104 : Int32) = 108 by decide), if_pos rfl]
                rw [e1, Option.bind_some, Sum.elim_inr, e3, Option.bind_some, Sum.elim_inr, if_neg hlt, nz, Option.bind_some, if_neg h60]
                rfl
              · unfold f_X8_net
                rw [e0, Option.bind_some, Sum.elim_inr, hb, f_X8_net_56.eq_def]
                simp only []
                rw [hs, Option.bind_some]
                rw [if_neg (show ¬ (104 : Int32) = 114 by decide), if_neg (show ¬ (104 : Int32) = 108 by decide), if_pos True.intro]
                rw [if_neg hlt, if_neg h60]
                rfl
          · have nz : f_X5_netSize 100 97 (nI (ms_L v_x_setting_mask).length) = some (nI (ms_L v_x_setting_mask).length * (nI (ms_L v_x_setting_mask).length - (1 : Int32))) := rfl
            have hle : (nt_all 97 (ms_L v_x_setting_mask).length (ms_L v_x_setting_mask).length 0).length ≤ 60 ↔ nI (ms_L v_x_setting_mask).length * (nI (ms_L v_x_setting_mask).length - (1 : Int32)) ≤ (60 : Int32) := by
              rw [nt_eA _ (by omega) hm2, q4]
            by_cases h60 : nI (ms_L v_x_setting_mask).length * (nI (ms_L v_x_setting_mask).length - (1 : Int32)) ≤ (60 : Int32)
            · have hl := hle.mpr h60
              obtain ⟨o, g1, g2⟩ := nt_cA (N := 100) hN17 hp hm hl (d := d) (w := w) (f := v_x_setting_froms) (t := v_x_setting_tos) (de := v_x_setting_delays) (st := v_x_setting_strengths)
              obtain ⟨s, g3, g4⟩ := nt_out (N := 100) (d := d) (w := w) (K := 97) hN17 hVI (by decide) hm (ms_L v_x_setting_mask).length 0 100 [] (0, fr, tt, de, st) (by omega) (by omega) (nt_t _ d w fr tt de st) (by rw [List.nil_append]; exact hl)
              rw [List.nil_append] at g4
              refine good _ d w o s hd1 hd2 hw2 hl g2 g4 ?_ ?_
              · unfold f_L_net f_X5_net
                rw [if_neg (show ¬ (97 : Int32) = 114 by decide), if_neg (show ¬ (97 : Int32) = 108 by decide), if_neg (show ¬ (97 : Int32) = 104 by decide), if_pos rfl]
                rw [e1, Option.bind_some, Sum.elim_inr, e3, Option.bind_some, Sum.elim_inr, if_neg hlt, nz, Option.bind_some, if_pos h60]
                show (((f_X1_linkAll 100 (nI (ms_L v_x_setting_mask).length) (0 : Int32) v_x_setting_places v_x_setting_froms v_x_setting_tos v_x_setting_delays v_x_setting_strengths (nI d) (nI w)).bind _).bind _) = _
                rw [g1]
                rfl
              · unfold f_X8_net
                rw [e0, Option.bind_some, Sum.elim_inr, hb, f_X8_net_56.eq_def]
                simp only []
                rw [hs, Option.bind_some]
                rw [if_neg (show ¬ (97 : Int32) = 114 by decide), if_neg (show ¬ (97 : Int32) = 108 by decide), if_neg (show ¬ (97 : Int32) = 104 by decide)]
                rw [if_neg hlt, if_pos h60, Option.bind_some, Sum.elim_inr, g3]
                rfl
            · refine bad 2 (by decide) ?_ ?_
              · unfold f_L_net f_X5_net
                rw [if_neg (show ¬ (97 : Int32) = 114 by decide), if_neg (show ¬ (97 : Int32) = 108 by decide), if_neg (show ¬ (97 : Int32) = 104 by decide), if_pos rfl]
                rw [e1, Option.bind_some, Sum.elim_inr, e3, Option.bind_some, Sum.elim_inr, if_neg hlt, nz, Option.bind_some, if_neg h60]
                rfl
              · unfold f_X8_net
                rw [e0, Option.bind_some, Sum.elim_inr, hb, f_X8_net_56.eq_def]
                simp only []
                rw [hs, Option.bind_some]
                rw [if_neg (show ¬ (97 : Int32) = 114 by decide), if_neg (show ¬ (97 : Int32) = 108 by decide), if_neg (show ¬ (97 : Int32) = 104 by decide)]
                rw [if_neg hlt, if_neg h60]
                rfl
  · have k1 : ¬ c = 114 := fun q => hK (Or.inl q)
    have k2 : ¬ c = 108 := fun q => hK (Or.inr (Or.inl q))
    have k3 : ¬ c = 104 := fun q => hK (Or.inr (Or.inr (Or.inl q)))
    have k4 : ¬ c = 97 := fun q => hK (Or.inr (Or.inr (Or.inr q)))
    refine bad 1 (by decide) ?_ ?_
    · unfold f_L_net f_X5_net
      rw [if_neg k1, if_neg k2, if_neg k3, if_neg k4]
      rfl
    · unfold f_X8_net
      rw [f_X8_net_0.eq_def]
      simp only []
      rw [if_neg k1, if_neg k2, if_neg k3, if_neg k4]
      rfl

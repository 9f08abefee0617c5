/-! rows of mine (pure): nets: the places, the links, one tick -/
theorem np_gap {y : Int32} {a : Nat} : ∀ k, (∀ j, a ≤ j → j < a + k → bt y j = false) → ms_l y (a + k) = ms_l y a
  | 0, _ => rfl
  | k + 1, h => by
    rw [show a + (k + 1) = a + k + 1 by omega, ms_l_f (h (a + k) (by omega) (by omega))]
    exact np_gap k (fun j h1 h2 => h j h1 (by omega))
theorem np_cong {x y : Int32} {p : Nat} (h : ∀ j, j < p → bt y j = bt x j) : ms_l y p = ms_l x p := by
  unfold ms_l
  exact List.filter_congr (fun q hq => h q (List.mem_range.mp hq))
theorem np_app {x : Int32} {p : Nat} (hp : p < 16) (h : ∀ j, p ≤ j → j < 16 → bt x j = false) : ms_L (pmk x p) = ms_L x ++ [p] := by
  have hb : ∀ q, bt (pmk x p) q = (bt x q || decide (q = p)) := fun q => mx_bit hp
  have e1 : ms_l (pmk x p) 16 = ms_l (pmk x p) (p + 1) := by
    have h9 := np_gap (y := pmk x p) (a := p + 1) (15 - p) (fun j h1 h2 => by rw [hb, h j (by omega) (by omega), decide_eq_false (by omega)]; rfl)
    rw [show p + 1 + (15 - p) = 16 by omega] at h9
    exact h9
  have e2 : ms_l x 16 = ms_l x p := by
    have h9 := np_gap (y := x) (a := p) (16 - p) (fun j h1 h2 => h j h1 (by omega))
    rw [show p + (16 - p) = 16 by omega] at h9
    exact h9
  show ms_l (pmk x p) 16 = ms_l x 16 ++ [p]
  rw [e1, e2, ms_l_t (by rw [hb, decide_eq_true rfl, Bool.or_true]), np_cong (x := x) (fun j hj => by rw [hb, decide_eq_false (by omega), Bool.or_false])]
/-- the places that are there: q 0 to q (m - 1), rising -/
def NX (x : Int32) (m : Nat) (q : Nat → Nat) : Prop := ms_L x = (List.range m).map q ∧ (∀ j, j < m → q j < 16) ∧ ∀ i j, i < j → j < m → q i < q j
theorem nx_0 {q : Nat → Nat} : NX 0 0 q := ⟨by rw [show ms_L 0 = [] by decide +kernel]; rfl, fun j hj => absurd hj (Nat.not_lt_zero _), fun i j _ hj => absurd hj (Nat.not_lt_zero _)⟩
theorem nx_len {x : Int32} {m : Nat} {q : Nat → Nat} (h : NX x m q) : (ms_L x).length = m := by rw [h.1]; simp
theorem nx_bt {x : Int32} {m j : Nat} {q : Nat → Nat} (h : NX x m q) (hj : j < m) : bt x (q j) = true := (ms_l_mem.mp (show q j ∈ ms_L x by rw [h.1]; exact List.mem_map.mpr ⟨j, List.mem_range.mpr hj, rfl⟩)).2
theorem nx_of {x : Int32} {m p : Nat} {q : Nat → Nat} (h : NX x m q) (hp : p < 16) (hb : bt x p = true) : ∃ j, j < m ∧ q j = p := by
  have h1 : p ∈ ms_L x := ms_l_mem.mpr ⟨hp, hb⟩
  rw [h.1] at h1
  obtain ⟨j, hj, e⟩ := List.mem_map.mp h1
  exact ⟨j, List.mem_range.mp hj, e⟩
theorem nx_pV {x : Int32} {m j : Nat} {q : Nat → Nat} (h : NX x m q) (hj : j < m) : pV x j = q j := by
  show (ms_L x).getD j 0 = q j
  rw [h.1]
  simp [List.getD_eq_getElem?_getD, hj]
theorem nx_inj {x : Int32} {m i j : Nat} {q : Nat → Nat} (h : NX x m q) (hi : i < m) (hj : j < m) (e : q i = q j) : i = j := by
  rcases Nat.lt_trichotomy i j with w | w | w
  · have := h.2.2 i j w hj
    omega
  · exact w
  · have := h.2.2 j i w hi
    omega
theorem nx_new {x : Int32} {k : Nat} {q : Nat → Nat} (h : NX x k q) (h1 : ∀ j, j < k → q j < q k) : ∀ j, q k ≤ j → j < 16 → bt x j = false := fun j hj h16 => by
  cases hb : bt x j with
  | false => rfl
  | true =>
    obtain ⟨i, hi, e⟩ := nx_of h h16 hb
    have := h1 i hi
    omega
theorem nx_step {x : Int32} {k : Nat} {q : Nat → Nat} (h : NX x k q) (h1 : ∀ j, j < k → q j < q k) (h2 : q k < 16) : NX (pmk x (q k)) (k + 1) q := by
  refine ⟨?_, fun j hj => ?_, fun i j hij hj => ?_⟩
  · rw [np_app h2 (nx_new h h1), h.1, List.range_succ, List.map_append]
    rfl
  · by_cases e : j = k
    · rw [e]; exact h2
    · exact h.2.1 j (by omega)
  · by_cases e : j = k
    · rw [e]; exact h1 i (by omega)
    · exact h.2.2 i j hij (by omega)
abbrev nz : Nat → Nat := fun _ => 0
/-- while the places are put -/
def NB (k : Nat) (q : Nat → Nat) (s : Ob) : Prop := ∃ x S, PJ x 0 0 nz nz nz S s ∧ NX x k q ∧ (∀ p d, S.2 p d = 0) ∧ (∀ j, j < k → o_setting_periods s (q j) = nI 90) ∧ o_ticksPassed s = 0
theorem nb_0 {q : Nat → Nat} : NB 0 q ob_0 := ⟨0, PS0, pob_0 rfl rfl rfl, nx_0, fun _ _ => rfl, fun j hj => absurd hj (Nat.not_lt_zero _), rfl⟩
theorem nb_step {k : Nat} {q : Nat → Nat} {s : Ob} (B : NB k q s) (h1 : ∀ j, j < k → q j < q k) (h2 : q k < 16) {v : Nat → Int32} (v0 : v (0 : Int32).toNatClampNeg = nI (q k)) (v1 : v (1 : Int32).toNatClampNeg = nI 90) (v2 : v (2 : Int32).toNatClampNeg = nI 0) (v3 : v (3 : Int32).toNatClampNeg = nI 0) : ∃ s2, A_B 3000 s 4 v = some ((0 : Int32), s2) ∧ NB (k + 1) q s2 := by
  obtain ⟨x, S, J, X, hz, hp, ht⟩ := B
  obtain ⟨ans, pl, e, J', -⟩ := pj_beater J (p := q k) (P := 90) (a := 0) (b := 0) h2 (by omega) (by omega) (by omega) (by omega) v0 v1 v2 v3
  rw [nx_new X h1 (q k) (Nat.le_refl _) h2] at e
  refine ⟨_, e, pmk x (q k), (upd S.1 (q k) (nI 0), S.2), J', nx_step X h1 h2, hz, fun j hj => ?_, ht⟩
  show upd (o_setting_periods s) (q k) (nI 90) (q j) = nI 90
  unfold upd
  by_cases w : q j = q k
  · rw [if_pos w]
  · rw [if_neg w]
    refine hp j ?_
    by_cases w2 : j = k
    · exact absurd (by rw [w2]) w
    · omega
/-- between the nets -/
def NG (f : Bool) (m : Nat) (q : Nat → Nat) (s : Ob) : Prop := ∃ x n fr to de S, PJ x n 0 fr to de S s ∧ NX x m q ∧ (∀ j, j < m → o_setting_periods s (q j) = nI 90) ∧ (f = true → (∀ p d, S.2 p d = 0) ∧ o_ticksPassed s = 0)
theorem nb_ng {m : Nat} {q : Nat → Nat} {s : Ob} (B : NB m q s) : NG true m q s := by
  obtain ⟨x, S, J, X, hz, hp, ht⟩ := B
  exact ⟨x, 0, nz, nz, nz, S, J, X, hp, fun _ => ⟨hz, ht⟩⟩
theorem ng_isTrue {f : Bool} {m : Nat} {q : Nat → Nat} {s : Ob} (G : NG f m q s) : ∃ tr, T_isTrue 3000 s = some (1, (s.1, s.2.1, s.2.2.1, s.2.2.2.1, s.2.2.2.2.1, s.2.2.2.2.2.1, s.2.2.2.2.2.2.1, tr, s.2.2.2.2.2.2.2.2.1, s.2.2.2.2.2.2.2.2.2)) := by
  obtain ⟨x, n, fr, to, de, S, J, -⟩ := G
  exact pj_isTrue J
abbrev nP (K m : Nat) : List (Nat × Nat) := nt_all (nI K) m m 0
def nKs (K : Nat) : Prop := K = 114 ∨ K = 108 ∨ K = 104 ∨ K = 97
theorem np_len {K m : Nat} (hK : nKs K) (hm : m < 9) : (nP K m).length ≤ 60 := by
  rcases hK with rfl | rfl | rfl | rfl
  · exact (by decide +kernel : ∀ m, m < 9 → (nP 114 m).length ≤ 60) m hm
  · exact (by decide +kernel : ∀ m, m < 9 → (nP 108 m).length ≤ 60) m hm
  · exact (by decide +kernel : ∀ m, m < 9 → (nP 104 m).length ≤ 60) m hm
  · exact (by decide +kernel : ∀ m, m < 9 → (nP 97 m).length ≤ 60) m hm
/-- behind a net: k places are pushed; z: the next one once -/
def NH (f : Bool) (m K w who : Nat) (q : Nat → Nat) (k : Nat) (z : Bool) (s : Ob) : Prop := ∃ x S, PJ x (nP K m).length 0 (fun k => pV x ((nP K m).getD k (0, 0)).1) (fun k => pV x ((nP K m).getD k (0, 0)).2) (fun _ => 30) S s ∧ NX x m q ∧ (∀ j, j < m → o_setting_periods s (q j) = nI 90) ∧ (f = true → (∀ p d, S.2 p d = 0) ∧ o_ticksPassed s = 0) ∧ (∀ i, i < (nP K m).length → o_setting_strengths s i = nI w) ∧ (∀ j, j < k → S.1 (q j) = if j = who then nI 89 else 0) ∧ (z = true → S.1 (q k) = 0)
theorem ng_net {f : Bool} {m K w : Nat} {q : Nat → Nat} {s : Ob} (G : NG f m q s) (hm2 : 2 ≤ m) (hm : m < 9) (hK : nKs K) (hw1 : 1 ≤ w) (hw : w ≤ 9) {v : Nat → Int32} (v0 : v (0 : Int32).toNatClampNeg = nI K) (v1 : v (1 : Int32).toNatClampNeg = nI 30) (v2 : v (2 : Int32).toNatClampNeg = nI w) : ∃ s2, A_N 3000 s 3 v = some (nI (nP K m).length, s2) ∧ ∀ who, NH f m K w who q 0 false s2 := by
  obtain ⟨x, n, fr, to, de, S, J, X, hp, hf⟩ := G
  obtain ⟨o, e, hS, J2⟩ := pj_net J (K := K) (m := m) (d := 30) (w := w) hK (nx_len X) hm2 (by omega) (by omega) hw1 hw (np_len hK hm) v0 v1 v2
  exact ⟨_, e, fun who => ⟨x, S, J2, X, hp, hf, fun i hi => (hS.2 i hi).2.2.2, fun j hj => absurd hj (Nat.not_lt_zero _), fun h => absurd h (by decide)⟩⟩
theorem np_ph {x : Int32} {n h p : Nat} {fr to de : Nat → Nat} {S : ma_S} {s : Ob} (J : PJ x n h fr to de S s) (hp : p < 16) (hb : bt x p = true) (h90 : o_setting_periods s p = nI 90) : ∃ a, a < 90 ∧ o_now_phases s p = nI a ∧ S.1 p = nI a := by
  obtain ⟨-, -, -, -, -, -, I, R⟩ := J
  obtain ⟨a, c, e1, e2, e3, e4⟩ := I.1 p hp hb
  obtain ⟨r, -, -, q3, -⟩ := R
  have ec : c = 90 := (nI_eq (a := c) (b := 90) (by omega) (by omega)).mp (e2.symm.trans h90)
  exact ⟨a, by omega, (q3 p hp).trans e1, e1⟩
theorem np_pu0 : ∀ a, a < 90 → ma_pu (nI a) (nI 90) (-99) = 0 := by decide +kernel
theorem nh_push0 {f : Bool} {m K w who k : Nat} {q : Nat → Nat} {s : Ob} (B : NH f m K w who q k false s) (hk : k < m) {v : Nat → Int32} (v0 : v (0 : Int32).toNatClampNeg = nI (q k)) (v1 : v (1 : Int32).toNatClampNeg = (-99 : Int32)) : ∃ s2, A_x 3000 s 2 v = some ((0 : Int32), s2) ∧ NH f m K w who q k true s2 := by
  obtain ⟨x, S, J, X, hp, hf, hs, hj, -⟩ := B
  have hb := nx_bt X hk
  have h16 := X.2.1 k hk
  obtain ⟨a, ha, e1, e2⟩ := np_ph J h16 hb (hp k hk)
  obtain ⟨e, J2⟩ := pj_push J h16 hb (w := (-99 : Int32)) (by decide +kernel) v0 v1
  have e3 : ma_pu (o_now_phases s (q k)) (o_setting_periods s (q k)) (-99) = 0 := by rw [e1, hp k hk]; exact np_pu0 a ha
  rw [e3] at e J2
  refine ⟨_, e, x, (upd S.1 (q k) 0, S.2), J2, X, hp, hf, hs, fun j h => ?_, fun _ => ?_⟩
  · show upd S.1 (q k) 0 (q j) = _
    unfold upd
    rw [if_neg (fun w => by have := nx_inj X (by omega) hk w; omega)]
    exact hj j h
  · show upd S.1 (q k) 0 (q k) = 0
    unfold upd
    rw [if_pos rfl]
theorem nh_next {f : Bool} {m K w who k : Nat} {q : Nat → Nat} {s : Ob} (B : NH f m K w who q k true s) (hk : k ≠ who) : NH f m K w who q (k + 1) false s := by
  obtain ⟨x, S, J, X, hp, hf, hs, hj, hz⟩ := B
  refine ⟨x, S, J, X, hp, hf, hs, fun j h => ?_, fun h => absurd h (by decide)⟩
  by_cases e : j = k
  · rw [e, if_neg hk]
    exact hz rfl
  · exact hj j (by omega)
theorem nh_push1 {f : Bool} {m K w k : Nat} {q : Nat → Nat} {s : Ob} (B : NH f m K w k q k true s) (hk : k < m) {v : Nat → Int32} (v0 : v (0 : Int32).toNatClampNeg = nI (q k)) (v1 : v (1 : Int32).toNatClampNeg = (99 : Int32)) : ∃ s2, A_x 3000 s 2 v = some ((89 : Int32), s2) ∧ NH f m K w k q (k + 1) false s2 := by
  obtain ⟨x, S, J, X, hp, hf, hs, hj, hz⟩ := B
  have hb := nx_bt X hk
  have h16 := X.2.1 k hk
  obtain ⟨a, ha, e1, e2⟩ := np_ph J h16 hb (hp k hk)
  obtain ⟨e, J2⟩ := pj_push J h16 hb (w := (99 : Int32)) (by decide +kernel) v0 v1
  have e3 : ma_pu (o_now_phases s (q k)) (o_setting_periods s (q k)) 99 = 89 := by
    rw [e1, ← e2, hz rfl, hp k hk]
    decide +kernel
  rw [e3] at e J2
  refine ⟨_, e, x, (upd S.1 (q k) 89, S.2), J2, X, hp, hf, hs, fun j h => ?_, fun h => absurd h (by decide)⟩
  show upd S.1 (q k) 89 (q j) = _
  unfold upd
  by_cases e : j = k
  · rw [e, if_pos rfl, if_pos rfl]
    rfl
  · rw [if_neg (fun w => e (nx_inj X (by omega) hk w))]
    exact hj j (by omega)
theorem nh_ng {f : Bool} {m K w who k : Nat} {z : Bool} {q : Nat → Nat} {s : Ob} (B : NH f m K w who q k z s) : NG f m q s := by
  obtain ⟨x, S, J, X, hp, hf, -⟩ := B
  exact ⟨x, _, _, _, _, S, J, X, hp, hf⟩
theorem ng_f {f : Bool} {m : Nat} {q : Nat → Nat} {s : Ob} (G : NG f m q s) : NG false m q s := by
  obtain ⟨x, n, fr, to, de, S, J, X, hp, -⟩ := G
  exact ⟨x, n, fr, to, de, S, J, X, hp, fun h => absurd h (by decide)⟩
theorem nh_w {f : Bool} {m K w who k j : Nat} {z : Bool} {q : Nat → Nat} {s : Ob} (B : NH f m K w who q k z s) (hj : j < m) {v : Nat → Int32} (v0 : v (0 : Int32).toNatClampNeg = nI (q j)) : ∃ y, A_w 3000 s 1 v = some (y, s) ∧ (f = true → y = 0) := by
  obtain ⟨x, S, J, X, hp, hf, -⟩ := B
  refine ⟨_, pj_waiting J (X.2.1 j hj) (nx_bt X hj) v0, fun h => ?_⟩
  exact ma_sum_0 (fun d _ => (hf h).1 _ _)

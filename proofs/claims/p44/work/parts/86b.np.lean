/-! rows of mine (pure): nets: what one flash sends -/
theorem np_sum {P : List (Nat × Nat)} (hn : P.Nodup) (e : Nat × Nat) (v : Int32) : ∀ n, n ≤ P.length → ma_sum (fun l => if P.getD l (0, 0) = e then v else 0) n = if e ∈ P.take n then v else 0
  | 0, _ => by
    rw [List.take_zero, if_neg List.not_mem_nil]
    rfl
  | n + 1, h => by
    have hlt : n < P.length := by omega
    have eg : P.getD n (0, 0) = P[n] := by simp [List.getD_eq_getElem?_getD, hlt]
    have et : P.take (n + 1) = P.take n ++ [P[n]] := List.take_succ_eq_append_getElem hlt
    show ma_sum _ n + (if P.getD n (0, 0) = e then v else 0) = _
    rw [np_sum hn e v n (by omega), et, eg]
    by_cases w : P[n] = e
    · have hno : e ∉ P.take n := fun hm => by
        have h2 : (P.take (n + 1)).Nodup := hn.sublist (List.take_sublist _ _)
        rw [et, List.nodup_append] at h2
        exact h2.2.2 _ hm _ (List.mem_singleton.mpr rfl) w.symm
      rw [if_neg hno, if_pos w, if_pos (List.mem_append.mpr (Or.inr (List.mem_singleton.mpr w.symm))), Int32.zero_add]
    · rw [if_neg w, Int32.add_zero]
      by_cases w2 : e ∈ P.take n
      · rw [if_pos w2, if_pos (List.mem_append.mpr (Or.inl w2))]
      · rw [if_neg w2, if_neg (fun hm => (List.mem_append.mp hm).elim w2 (fun z => w (List.mem_singleton.mp z).symm))]
theorem np_nd {K m : Nat} (hK : nKs K) (hm : m < 9) : (nP K m).Nodup := by
  rcases hK with rfl | rfl | rfl | rfl
  · exact (by decide +kernel : ∀ m, m < 9 → (nP 114 m).Nodup) m hm
  · exact (by decide +kernel : ∀ m, m < 9 → (nP 108 m).Nodup) m hm
  · exact (by decide +kernel : ∀ m, m < 9 → (nP 104 m).Nodup) m hm
  · exact (by decide +kernel : ∀ m, m < 9 → (nP 97 m).Nodup) m hm
theorem np_rg {K m : Nat} (hK : nKs K) (hm : m < 9) : ∀ e ∈ nP K m, e.1 < m ∧ e.2 < m := by
  rcases hK with rfl | rfl | rfl | rfl
  · exact (by decide +kernel : ∀ m, m < 9 → ∀ e ∈ nP 114 m, e.1 < m ∧ e.2 < m) m hm
  · exact (by decide +kernel : ∀ m, m < 9 → ∀ e ∈ nP 108 m, e.1 < m ∧ e.2 < m) m hm
  · exact (by decide +kernel : ∀ m, m < 9 → ∀ e ∈ nP 104 m, e.1 < m ∧ e.2 < m) m hm
  · exact (by decide +kernel : ∀ m, m < 9 → ∀ e ∈ nP 97 m, e.1 < m ∧ e.2 < m) m hm
theorem np_val {per qui : Nat → Int32} {an : Nat → Nat → Int32} {ph c : Nat → Int32} {p : Nat} (hc : c p = 0) : ma_np per qui an ph c (fun _ => 0) p = (if (0 : Int32) < ph p then ph p else 0) + 1 + 0 := by
  unfold ma_np ma_val
  rw [hc, Int32.mul_zero, ite_self]
  simp only [Int32.add_zero]
theorem np_fl {x : Int32} {per qui : Nat → Int32} {an : Nat → Nat → Int32} {S : ma_S} {m who j : Nat} {q : Nat → Nat} (X : NX x m q) (hp : ∀ j, j < m → per (q j) = nI 90) (hz : ∀ p d, S.2 p d = 0) (hj : ∀ j, j < m → S.1 (q j) = if j = who then nI 89 else 0) (h : j < m) : ma_fl per qui an S.1 (fun p => S.2 p 1) (fun _ => 0) (q j) = decide (j = who) := by
  unfold ma_fl
  rw [np_val (c := fun p => S.2 p 1) (hz _ _), hp j h, hj j h]
  by_cases w : j = who
  · rw [if_pos w, decide_eq_true w]
    decide +kernel
  · rw [if_neg w, decide_eq_false w]
    decide +kernel
theorem np_flS {x : Int32} {per qui : Nat → Int32} {an : Nat → Nat → Int32} {S : ma_S} {m who : Nat} {q : Nat → Nat} (X : NX x m q) (hp : ∀ j, j < m → per (q j) = nI 90) (hz : ∀ p d, S.2 p d = 0) (hj : ∀ j, j < m → S.1 (q j) = if j = who then nI 89 else 0) (hw : who < m) {p : Nat} (h : p < 16) : ma_flS x per qui an (fun _ => 0) S p = decide (p = q who) := by
  unfold ma_flS
  cases hb : bt x p with
  | false =>
    rw [decide_eq_false (fun e => by rw [e, nx_bt X hw] at hb; exact absurd hb (by decide))]
    rfl
  | true =>
    obtain ⟨j, hj1, rfl⟩ := nx_of X h hb
    rw [np_fl X hp hz hj hj1, Bool.true_and]
    by_cases w : j = who
    · rw [w, decide_eq_true rfl, decide_eq_true rfl]
    · rw [decide_eq_false w, decide_eq_false (fun e => w (nx_inj X hj1 hw e))]
theorem np_cp : ∀ a, a < 16 → (List.range 16).countP (fun p => decide (p = a)) = 1 := by decide +kernel
theorem np_s30 {f : Nat → Int32} (h : ∀ d, d < 29 → f d = 0) : ma_sum f 30 = f 29 := by
  show ma_sum f 29 + f 29 = f 29
  rw [ma_sum_0 h, Int32.zero_add]
/-- behind one tick -/
def NR (m K w who : Nat) (q : Nat → Nat) (s : Ob) : Prop := ∃ x n fr to de S, PJ x n 0 fr to de S s ∧ NX x m q ∧ (∀ j, j < m → o_setting_periods s (q j) = nI 90) ∧ o_lastFlashes s (q who) = 1 ∧ o_now_phases s (q who) = 0 ∧ ∀ k, k < m → ma_way S (q k) = if (who, k) ∈ nP K m then nI w else 0
theorem nh_run {m K w who : Nat} {q : Nat → Nat} {s : Ob} (B : NH true m K w who q m false s) (hK : nKs K) (hm : m < 9) (hw : who < m) {v : Nat → Int32} (v0 : v (0 : Int32).toNatClampNeg = nI 1) : ∃ s2, A_R 3000 s 1 v = some ((1 : Int32), s2) ∧ NR m K w who q s2 := by
  obtain ⟨x, S, J, X, hp, hf, hs, hj, -⟩ := B
  obtain ⟨hz, ht⟩ := hf rfl
  obtain ⟨row, ph, co, fc, lf, e, J2, hfc, hlf⟩ := pj_run J (T := 1) (by omega) (by omega) (t := 0) ht (by omega) v0
  have hw16 := X.2.1 who hw
  have hF : ∀ p, p < 16 → PF x (nP K m).length (fun k => pV x ((nP K m).getD k (0, 0)).1) (fun k => pV x ((nP K m).getD k (0, 0)).2) (fun _ => 30) S s 0 p = decide (p = q who) := fun p h => np_flS X hp hz hj hw h
  have hT : rn_tot (PF x (nP K m).length (fun k => pV x ((nP K m).getD k (0, 0)).1) (fun k => pV x ((nP K m).getD k (0, 0)).2) (fun _ => 30) S s) 0 1 = 1 := by
    show (List.range 16).countP _ + 0 = 1
    rw [Nat.add_zero, ← np_cp (q who) hw16]
    apply List.countP_congr
    intro p hp
    rw [hF p (List.mem_range.mp hp)]
  rw [hT] at e
  refine ⟨_, e, x, _, _, _, _, _, J2, X, hp, ?_, ?_, fun k hk => ?_⟩
  · show lf (q who) = 1
    rw [hlf _ hw16]
    show (if PF x _ _ _ _ S s 0 (q who) = true then nI (0 + 1) else _) = 1
    rw [hF _ hw16, if_pos (decide_eq_true rfl)]
    rfl
  · obtain ⟨r, q1, q2, q3, q4⟩ := J2.2.2.2.2.2.2.2
    refine (q3 _ hw16).trans ?_
    show (if bt x (q who) then (if ma_fl _ _ _ S.1 (fun p => S.2 p 1) (fun _ => 0) (q who) then 0 else _) else _) = (0 : Int32)
    rw [nx_bt X hw, np_fl X hp hz hj hw, if_pos rfl, if_pos (decide_eq_true rfl)]
  · unfold ma_way
    have hS2 : ∀ p d, (PX x (nP K m).length (fun k => pV x ((nP K m).getD k (0, 0)).1) (fun k => pV x ((nP K m).getD k (0, 0)).2) (fun _ => 30) S s 1).2 p d = (if d < 30 then S.2 p (d + 1) else 0) + ma_sum (fun k => if ma_flS x (o_setting_periods s) (o_setting_quiets s) (fun p q => o_setting_answers s (p * 4 + q)) (fun _ => 0) S (pV x ((nP K m).getD k (0, 0)).1) = true ∧ pV x ((nP K m).getD k (0, 0)).2 = p ∧ 30 = d then o_setting_strengths s k else 0) (nP K m).length := fun p d => rfl
    have hS0 : ∀ d, (if d < 30 then S.2 (q k) (d + 1) else 0) = 0 := fun d => by
      by_cases w : d < 30
      · rw [if_pos w, hz]
      · rw [if_neg w]
    rw [np_s30 (fun d hd => by rw [hS2, hS0, ma_sum_0 (fun l _ => if_neg (fun z => by omega)), Int32.zero_add]), hS2, hS0, Int32.zero_add]
    rw [← show (if (who, k) ∈ (nP K m).take (nP K m).length then nI w else (0 : Int32)) = if (who, k) ∈ nP K m then nI w else 0 by rw [List.take_length]]
    rw [← np_sum (np_nd hK hm) (who, k) (nI w) _ (Nat.le_refl _)]
    refine ma_sum_congr (fun l hl => ?_)
    have hl2 : (nP K m).getD l (0, 0) ∈ nP K m := by
      rw [show (nP K m).getD l (0, 0) = (nP K m)[l] by simp [List.getD_eq_getElem?_getD, hl]]
      exact List.getElem_mem hl
    obtain ⟨r1, r2⟩ := np_rg hK hm _ hl2
    generalize (nP K m).getD l (0, 0) = e at hl2 r1 r2 ⊢
    obtain ⟨e1, e2⟩ := e
    rw [nx_pV X r1, nx_pV X r2, np_flS X hp hz hj hw (X.2.1 _ r1), hs l hl]
    by_cases w1 : e1 = who
    · by_cases w2 : e2 = k
      · rw [if_pos ⟨by rw [w1]; exact decide_eq_true rfl, by rw [w2], rfl⟩, if_pos (by rw [w1, w2])]
      · rw [if_neg (fun z => w2 (nx_inj X r2 hk z.2.1)), if_neg (fun z => w2 (Prod.mk.inj z).2)]
    · rw [if_neg (fun z => w1 (nx_inj X r1 hw (of_decide_eq_true z.1))), if_neg (fun z => w1 (Prod.mk.inj z).1)]
theorem nr_ng {m K w who : Nat} {q : Nat → Nat} {s : Ob} (B : NR m K w who q s) : NG false m q s := by
  obtain ⟨x, n, fr, to, de, S, J, X, hp, -⟩ := B
  exact ⟨x, n, fr, to, de, S, J, X, hp, fun h => absurd h (by decide)⟩
theorem nr_l {m K w who : Nat} {q : Nat → Nat} {s : Ob} (B : NR m K w who q s) (hw : who < m) {v : Nat → Int32} (v0 : v (0 : Int32).toNatClampNeg = nI (q who)) : A_l 3000 s 1 v = some ((1 : Int32), s) := by
  obtain ⟨x, n, fr, to, de, S, J, X, hp, h1, h2, h3⟩ := B
  rw [← h1]
  exact pj_last J.1 (X.2.1 who hw) (nx_bt X hw) v0
theorem nr_p {m K w who : Nat} {q : Nat → Nat} {s : Ob} (B : NR m K w who q s) (hw : who < m) {v : Nat → Int32} (v0 : v (0 : Int32).toNatClampNeg = nI (q who)) : A_p 3000 s 1 v = some ((0 : Int32), s) := by
  obtain ⟨x, n, fr, to, de, S, J, X, hp, h1, h2, h3⟩ := B
  rw [← h2]
  exact pj_phase J.1 (X.2.1 who hw) (nx_bt X hw) v0
theorem nr_w {m K w who k : Nat} {q : Nat → Nat} {s : Ob} (B : NR m K w who q s) (hk : k < m) {v : Nat → Int32} (v0 : v (0 : Int32).toNatClampNeg = nI (q k)) : A_w 3000 s 1 v = some (if (who, k) ∈ nP K m then nI w else 0, s) := by
  obtain ⟨x, n, fr, to, de, S, J, X, hp, h1, h2, h3⟩ := B
  rw [← h3 k hk]
  exact pj_waiting J (X.2.1 k hk) (nx_bt X hk) v0
/-- who sends to whom, as the law has it -/
def isN (K m i j : Nat) : Bool := decide (j = (i + 1) % m) && (decide (K = 114) || decide (i < m - 1))
def isv (K m i j : Nat) : Bool := !decide (i = j) && (decide (K = 97) || (decide (K = 104) && (decide (i = 0) || decide (j = 0))) || ((decide (K = 114) || decide (K = 108)) && isN K m i j))
theorem np_is {K m i j : Nat} (hK : nKs K) (hm2 : 2 ≤ m) (hm : m < 9) (hi : i < m) (hj : j < m) : ((i, j) ∈ nP K m) ↔ isv K m i j = true := by
  have go : ∀ K, (∀ m, m < 9 → 2 ≤ m → (List.range m).all (fun i => (List.range m).all (fun j => decide ((i, j) ∈ nP K m) == isv K m i j)) = true) → (((i, j) ∈ nP K m) ↔ isv K m i j = true) := fun K h => by
    have h1 := List.all_eq_true.mp (List.all_eq_true.mp (h m hm hm2) i (List.mem_range.mpr hi)) j (List.mem_range.mpr hj)
    have h2 : decide ((i, j) ∈ nP K m) = isv K m i j := eq_of_beq h1
    rw [← h2]
    exact ⟨fun w => decide_eq_true w, fun w => of_decide_eq_true w⟩
  rcases hK with rfl | rfl | rfl | rfl
  · exact go 114 (by decide +kernel)
  · exact go 108 (by decide +kernel)
  · exact go 104 (by decide +kernel)
  · exact go 97 (by decide +kernel)
/-- how many up to place j of row i -/
def cn2 (K m i : Nat) : Nat → Nat
  | 0 => 0
  | j + 1 => cn2 K m i j + (if isv K m i j then 1 else 0)
def cn1 (K m : Nat) : Nat → Nat
  | 0 => 0
  | i + 1 => cn1 K m i + cn2 K m i m
theorem np_cn {K m : Nat} (hK : nKs K) (hm2 : 2 ≤ m) (hm : m < 9) : cn1 K m m = (nP K m).length := by
  rcases hK with rfl | rfl | rfl | rfl
  · exact (by decide +kernel : ∀ m, m < 9 → 2 ≤ m → cn1 114 m m = (nP 114 m).length) m hm hm2
  · exact (by decide +kernel : ∀ m, m < 9 → 2 ≤ m → cn1 108 m m = (nP 108 m).length) m hm hm2
  · exact (by decide +kernel : ∀ m, m < 9 → 2 ≤ m → cn1 104 m m = (nP 104 m).length) m hm hm2
  · exact (by decide +kernel : ∀ m, m < 9 → 2 ≤ m → cn1 97 m m = (nP 97 m).length) m hm hm2

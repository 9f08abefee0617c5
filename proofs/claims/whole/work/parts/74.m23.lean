/-! rows of mine (pure): two alone: class and reference follow alike -/
theorem ma_pair_X {y : Int32} {per qui : Nat → Int32} {an : Nat → Nat → Int32} {n c : Nat} {fr to de g : Nat → Nat} {st ST : Nat → Int32} (hfr : ∀ k, k < n → fr k < 16) (hg : ∀ j, j < c → g j < n ∧ ST j = st (g j)) (hs : ∀ f : Nat → Int32, ma_sum (fun j => f (g j)) c = ma_sum (fun k => if bt y (fr k) = true ∧ bt y (to k) = true then f k else 0) n) {S T : ma_S} (h : ma_eqv y S T) : ∀ i, ma_eqv y (ma_X y per qui an c (fun j => fr (g j)) (fun j => to (g j)) (fun j => de (g j)) ST S i) (ma_X y per qui an n fr to de st T i)
  | 0 => h
  | i + 1 => ma_pair_tick hfr hg hs (ma_pair_X hfr hg hs h i)
/-- what is told of a way, from either of two that are alike -/
theorem ma_way_cong {y : Int32} {per qui : Nat → Int32} {an : Nat → Nat → Int32} {X Y : Nat → ma_S} (h : ∀ i, ma_eqv y (X i) (Y i)) {l c : Nat} (hm : pr_min (ma_eqv y) X l c) : pr_min (ma_eqv y) Y l c ∧ ∀ t p, p < 16 → ma_F y per qui an X t p = ma_F y per qui an Y t p :=
  ⟨pr_min_cong (ma_eqv_equiv y) h hm, fun t p hp => ma_eqv_fl (h t) hp⟩
def ma_mn (P : Nat) (v : Int32) : Int32 := if nI P - (1 : Int32) < v then nI P - (1 : Int32) else v
theorem nI_p1 {P : Nat} (h : 1 ≤ P) : nI P - (1 : Int32) = nI (P - 1) := by
  obtain ⟨m, rfl⟩ : ∃ j, P = j + 1 := ⟨P - 1, by omega⟩
  rw [← nI_1, Int32.sub_eq_add_neg, Int32.add_assoc, show (1 : Int32) + -(1 : Int32) = 0 from by decide, Int32.add_zero]
  rfl
theorem ma_mn_nI {P a : Nat} (hP : 1 ≤ P) (hP2 : P < 2 ^ 31) (ha : a < 2 ^ 31) : ∃ b, b < P ∧ ma_mn P (nI a) = nI b := by
  unfold ma_mn
  rw [nI_p1 hP]
  by_cases h : P - 1 < a
  · exact ⟨P - 1, by omega, by rw [if_pos (nI_lt h ha)]⟩
  · exact ⟨a, by omega, by rw [if_neg (nI_nlt (by omega) (by omega))]⟩
theorem ma_inv_0 {y : Int32} {per ph : Nat → Int32} (h : ma_ok y per (ma_S0 ph)) : ma_inv y per (ma_S0 ph) := ⟨h, fun p d hp h1 h2 => ⟨0, by omega, rfl⟩⟩
theorem ma_pr_X {y : Int32} {per qui : Nat → Int32} {an : Nat → Nat → Int32} {n : Nat} {fr to de : Nat → Nat} {st : Nat → Int32} (hn : n ≤ 60) (han : ma_an an) (hst : ma_st n st) {S : ma_S} (h : ma_inv y per S) : ∀ i, ma_inv y per (ma_X y per qui an n fr to de st S i)
  | 0 => h
  | i + 1 => ma_inv_tick hn han hst (fun _ => Or.inl rfl) (ma_pr_X hn han hst h i)
/-- the way of two, told by both -/
theorem mx_two_follow {N n cap c t0 z P p q : Nat} (hN : 5100 ≤ N) (ht : t0 < 2 ^ 29) (hz : z < 2147483647) (hP : 2 ≤ P) (hP2 : P < 100) (hp : p < 16) (hq : q < 16) (hpq : p ≠ q)
    {pl per qui pper pqui pans F T D ST tph tco nph : Nat → Int32} {fr to de g : Nat → Nat} {st : Nat → Int32} {row : Int32} (C : ma_C (ma_two p q) c pl pans F T D ST (fun j => fr (g j)) (fun j => to (g j)) (fun j => de (g j))) (hg : ∀ j, j < c → g j < n ∧ ST j = st (g j)) (hs : ∀ f : Nat → Int32, ma_sum (fun j => f (g j)) c = ma_sum (fun k => if bt (ma_two p q) (fr k) = true ∧ bt (ma_two p q) (to k) = true then f k else 0) n)
    (hst : ma_st n st) (hrow : ∃ r, row = nI r ∧ r < 32) (hco : ∀ j, j < 512 → tco j = 0) (hpp : pper p = per p ∧ pqui p = qui p) (hph : ∀ i, i = p ∨ i = q → ∃ a d, nph i = nI a ∧ per i = nI d ∧ a < d ∧ d < 100) (hqq : ∃ a, qui q = nI a ∧ a < 100)
    {anR : Nat → Nat → Int32} {fromsR tosR delaysR strsR : Nat → Int32} (E : ma_E (ma_two p q) n cap anR (fun a b => pans (a * 4 + b)) fromsR tosR delaysR strsR fr to de st) {nT np nph2 nq : Nat → Int32} (hT : ∀ i, i < 16 → nT i = 0 ∨ nT i = 1) (hnp : ∀ i, i = p ∨ i = q → np i = per i ∧ nph2 i = nph i ∧ nq i = qui i)
    (lt ct : Int32) (bp bc fp fc fl : Nat → Int32) (b2 b4 b6 b8 b9 nw : Nat → Int32) (ld : Int32) (c1 c2 c3 c4 c5 d1 d2 d3 d4 d5 d6 sf : Nat → Int32) :
    ∃ (o : Int32 × Int32 × Int32 × Int32 × (Nat → Int32) × (Nat → Int32) × Int32 × (Nat → Int32) × (Nat → Int32) × (Nat → Int32)) (a' b' c' d' w' : Nat → Int32) (X : Nat → ma_S),
      f_X4_follow N lt ct row (upd (upd tph p (nph p)) q (ma_mn P (nph q))) bp tco bc fp fc (nI (ms_L (ma_two p q)).length) (nI c) pl (upd pper q (nI P)) (upd pqui q (ma_mn P (qui q))) pans F D T ST fl = some o ∧
      f_X6_takesTwo N (nI t0) nT b2 np b4 nph2 b6 nq b8 b9 nw (nI p) (nI q) = some (nI t0, a', b', c', d', w') ∧
      (∀ i, X (i + 1) = ma_step (ma_two p q) (upd pper q (nI P)) (upd pqui q (ma_mn P (qui q))) (fun a b => pans (a * 4 + b)) n fr to de st (X i)) ∧
      (∀ i, ma_inv (ma_two p q) (upd pper q (nI P)) (X i)) ∧ ma_fd (ma_two p q) (upd pper q (nI P)) (upd pqui q (ma_mn P (qui q))) a' (upd b' q (nI P)) (upd d' q (ma_mn P (d' q))) ∧ ma_rm t0 (upd c' q (ma_mn P (c' q))) w' (X 0) ∧
      ((∃ l k : Nat, o.1 = 1 ∧ o.2.1 = nI l ∧ o.2.2.1 = nI k ∧ pr_min (ma_eqv (ma_two p q)) X l k ∧ ma_W (fun t => ma_F (ma_two p q) (upd pper q (nI P)) (upd pqui q (ma_mn P (qui q))) (fun a b => pans (a * 4 + b)) X (l + t)) l k o.2.2.2.2.2.2.2.2.2) ∨ (o.1 = 0 ∧ ∀ l k, pr_min (ma_eqv (ma_two p q)) X l k → 1000 < l + k)) := by
  obtain ⟨r, rfl, hr⟩ := hrow
  have two : ∀ i, bt (ma_two p q) i = true ↔ i = p ∨ i = q := fun i => ma_two_t hp hq
  obtain ⟨a', b', c', d', w', e2, h1, h2⟩ := mx_takesTwo (N := N) (t := nI t0) (w := nw) (by omega) hp hq hT (per := np) (ph := nph2) (qui := nq) b2 b4 b6 b8 b9
  have up : ∀ (f : Nat → Int32) v, upd f q v p = f p := fun f v => by unfold upd; rw [if_neg hpq]
  have uq : ∀ (f : Nat → Int32) v, upd f q v q = v := fun f v => by unfold upd; rw [if_pos rfl]
  have upp : ∀ (f : Nat → Int32) v, upd f p v p = v := fun f v => by unfold upd; rw [if_pos rfl]
  have hok : ma_ok (ma_two p q) (upd pper q (nI P)) (ma_S0 (upd (upd tph p (nph p)) q (ma_mn P (nph q)))) := by
    intro i hi hb
    rcases (two i).mp hb with rfl | rfl
    · obtain ⟨a, d, e3, e4, e5, e6⟩ := hph i (Or.inl rfl)
      refine ⟨a, d, ?_, ?_, e5, e6⟩
      · show upd (upd tph i (nph i)) q (ma_mn P (nph q)) i = _
        rw [up, upp, e3]
      · rw [up, hpp.1, e4]
    · obtain ⟨a, d, e3, e4, e5, e6⟩ := hph i (Or.inr rfl)
      obtain ⟨b, hb1, hb2⟩ := ma_mn_nI (show 1 ≤ P by omega) (by omega) (show a < 2 ^ 31 by omega)
      refine ⟨b, P, ?_, uq _ _, hb1, hP2⟩
      show upd (upd tph p (nph p)) i (ma_mn P (nph i)) i = _
      rw [uq, e3, hb2]
  have heqv : ma_eqv (ma_two p q) (ma_S0 (upd (upd tph p (nph p)) q (ma_mn P (nph q)))) (ma_S0 (upd c' q (ma_mn P (c' q)))) := by
    intro i hi hb
    refine ⟨?_, fun _ _ _ => rfl⟩
    show upd (upd tph p (nph p)) q (ma_mn P (nph q)) i = upd c' q (ma_mn P (c' q)) i
    rcases (two i).mp hb with rfl | rfl
    · rw [up, upp, up, (h1 i hi).2.2.1, (hnp i (Or.inl rfl)).2.1]
    · rw [uq, uq, (h1 i hi).2.2.1, (hnp i (Or.inr rfl)).2.1]
  have hokR : ma_ok (ma_two p q) (upd pper q (nI P)) (ma_S0 (upd c' q (ma_mn P (c' q)))) := by
    intro i hi hb
    obtain ⟨a, d, e3, e4⟩ := hok i hi hb
    exact ⟨a, d, by rw [← (heqv i hi hb).1]; exact e3, e4⟩
  obtain ⟨o, e1, ho⟩ := mx_follow (qui := upd pqui q (ma_mn P (qui q))) (by omega : 2100 ≤ N) C (ma_inv_0 hok) rfl (row := nI r) (co := tco) ⟨r, rfl, ma_rc_0 hr hco⟩ lt ct bp bc fp fc fl
  have hX := ma_pair_X (de := de) (per := upd pper q (nI P)) (qui := upd pqui q (ma_mn P (qui q))) (an := fun a b => pans (a * 4 + b)) (fun k hk => (E.2.2.1 k hk).2.2.2.1) hg hs heqv
  have hXs := fun i => (ma_eqv_equiv (ma_two p q)).symm (hX i)
  refine ⟨o, a', b', c', d', w', _, e1, e2, fun i => rfl, ma_pr_X (an := fun a b => pans (a * 4 + b)) E.1 C.2.2.2.1 hst (ma_inv_0 hokR), ?_, ma_rm_0 h2, ?_⟩
  · intro i hi
    refine ⟨(h1 i hi).1, fun hb => ?_⟩
    rcases (two i).mp hb with rfl | rfl
    · rw [up, up, up, up, (h1 i hi).2.1, (h1 i hi).2.2.2, (hnp i (Or.inl rfl)).1, (hnp i (Or.inl rfl)).2.2, hpp.1, hpp.2]
      exact ⟨rfl, rfl⟩
    · rw [uq, uq, uq, uq, (h1 i hi).2.2.2, (hnp i (Or.inr rfl)).2.2]
      exact ⟨rfl, rfl⟩
  · rcases ho with ⟨l, k, a1, a2, a3, a4, a5, a6⟩ | ⟨a1, a2⟩
    · obtain ⟨m1, m2⟩ := ma_way_cong (per := upd pper q (nI P)) (qui := upd pqui q (ma_mn P (qui q))) (an := fun a b => pans (a * 4 + b)) hX a5
      refine Or.inl ⟨l, k, a1, a2, a3, m1, a4, fun t ht i hi => ?_⟩
      rw [show l + 1 + t = l + t + 1 by omega, a6 (l + t) (by omega) i hi]
      by_cases h16 : i < 16
      · rw [decide_eq_true h16, Bool.true_and, Bool.true_and]
        exact m2 (l + t) i h16
      · rw [decide_eq_false h16, Bool.false_and, Bool.false_and]
    · refine Or.inr ⟨a1, fun l k hm => a2 l k (pr_min_cong (ma_eqv_equiv _) hXs hm)⟩

/-! rows of mine: two alone for a while: both agree whether they are locked -/
set_option maxHeartbeats 2000000 in
theorem ca_one {N n cap c t0 z P p q : Nat} (hN : 5100 ≤ N) (ht : t0 < 2 ^ 29) (hz : z < 2147483647) (hP : 2 ≤ P) (hP2 : P < 100) (hp : p < 16) (hq : q < 16) (hpq : p ≠ q)
    {pl per qui pper pqui pans F T D ST tph tco nph : Nat → Int32} {fr to de g : Nat → Nat} {st : Nat → Int32} {row : Int32} (C : ma_C (ma_two p q) c pl pans F T D ST (fun j => fr (g j)) (fun j => to (g j)) (fun j => de (g j))) (hg : ∀ j, j < c → g j < n ∧ ST j = st (g j)) (hs : ∀ f : Nat → Int32, ma_sum (fun j => f (g j)) c = ma_sum (fun k => if bt (ma_two p q) (fr k) = true ∧ bt (ma_two p q) (to k) = true then f k else 0) n)
    (hst : ma_st n st) (hrow : ∃ r, row = nI r ∧ r < 32) (hco : ∀ j, j < 512 → tco j = 0) (hpp : pper p = per p ∧ pqui p = qui p) (hph : ∀ i, i = p ∨ i = q → ∃ a d, nph i = nI a ∧ per i = nI d ∧ a < d ∧ d < 100) (hqq : ∃ a, qui q = nI a ∧ a < 100)
    {anR : Nat → Nat → Int32} {fromsR tosR delaysR strsR : Nat → Int32} (E : ma_E (ma_two p q) n cap anR (fun a b => pans (a * 4 + b)) fromsR tosR delaysR strsR fr to de st) {nT np nph2 nq : Nat → Int32} (hT : ∀ i, i < 16 → nT i = 0 ∨ nT i = 1) (hnp : ∀ i, i = p ∨ i = q → np i = per i ∧ nph2 i = nph i ∧ nq i = qui i)
    (lt ct : Int32) (bp bc fp fc fl : Nat → Int32) (b2 b4 b6 b8 b9 nw : Nat → Int32) (ld : Int32) (c1 c2 c3 c4 c5 d1 d2 d3 d4 d5 d6 sf : Nat → Int32) (B : Nat → Int32) (A : Nat → Nat → Int32) : ∃ (o : Int32 × Int32 × Int32 × Int32 × (Nat → Int32) × (Nat → Int32) × Int32 × (Nat → Int32) × (Nat → Int32) × (Nat → Int32)), ∃ (v lead cyc st' : Int32) (aT ap aph aq aw : Nat → Int32) (sl : Int32) (sT sp sph sq sw : Nat → Int32) (ft : Int32) (fT fp9 fph fq fw ff sf' B' : Nat → Int32) (A' : Nat → Nat → Int32), f_X5_followPair N (nI (ms_L (ma_two p q)).length) (nI c) pper qui pqui row nph tph lt ct bp tco bc fp fc pl pans F D T ST fl (nI p) (nI q) (nI P) = some (o.1, upd pper q (nI P), upd pqui q (ma_mn P (qui q)), upd (upd tph p (nph p)) q (ma_mn P (nph q)), o.2.1, o.2.2.1, o.2.2.2.1, o.2.2.2.2.1, o.2.2.2.2.2.1, o.2.2.2.2.2.2.1, o.2.2.2.2.2.2.2.1, o.2.2.2.2.2.2.2.2.1, o.2.2.2.2.2.2.2.2.2) ∧ f_X8_locked N (lN z) ld (nI t0) nT b2 np b4 nph2 b6 nq b8 b9 nw c1 c2 c3 c4 c5 d1 d2 d3 d4 d5 d6 anR (nI n) cap fromsR tosR delaysR strsR sf B A (nI p) (nI q) (nI P) = some (v, lN z, lead, cyc, st', aT, ap, aph, aq, aw, sl, sT, sp, sph, sq, sw, ft, fT, fp9, fph, fq, fw, ff, sf', B', A') ∧ ((o.1 = 0 ∧ v = -1) ∨ (o.1 = 1 ∧ (v = 0 ∨ v = 1) ∧ f_X5_flashEquallyOften N o.2.1 o.2.2.1 o.2.2.2.2.2.2.2.2.2 (nI p) (nI q) = some v)) := by
  obtain ⟨o, a', b', c', d', w', X, e1, e2, hX, iv, hfd, hrm, hcase⟩ := mx_two_follow hN ht hz hP hP2 hp hq hpq C hg hs hst hrow hco hpp hph hqq E hT hnp lt ct bp bc fp fc fl b2 b4 b6 b8 b9 nw ld c1 c2 c3 c4 c5 d1 d2 d3 d4 d5 d6 sf
  have ho : o.1 = 0 ∨ o.1 = 1 := by
    rcases hcase with ⟨l, k, h, -⟩ | ⟨h, -⟩
    · exact Or.inr h
    · exact Or.inl h
  obtain ⟨v, lead, cyc, st', aT, ap, aph, aq, aw, sl, sT, sp, sph, sq, sw, ft, fT, fp9, fph, fq, fw, ff, sf', B', A', m1, m2⟩ := mx_lockedR hN ht E hX iv hz hp hq e2 hfd hrm ld c1 c2 c3 c4 c5 d1 d2 d3 d4 d5 d6 sf B A
  refine ⟨o, v, lead, cyc, st', aT, ap, aph, aq, aw, sl, sT, sp, sph, sq, sw, ft, fT, fp9, fph, fq, fw, ff, sf', B', A', mx_followPair hp hq e1 ho, m1, ?_⟩
  rcases hcase with ⟨l, k, h1, h2, h3, hm, hW⟩ | ⟨h1, hno⟩
  · right
    rcases m2 with ⟨l2, k2, hlk, hm2, hv⟩ | ⟨-, hno⟩
    · obtain ⟨rfl, rfl⟩ := pr_min_uniq ⟨ma_eqv_equiv _, fun i j h => by rw [hX, hX]; exact ma_eqv_tick (fun k hk => (E.2.2.1 k hk).2.2.2.1) h⟩ hm2 hm
      refine ⟨h1, ?_, ?_⟩
      · rw [hv]
        split
        · exact Or.inr rfl
        · exact Or.inl rfl
      · rw [h2, h3, mx_fe (by omega) hp hq hW, hv]
    · have := hno l k hm
      have := hW.1
      omega
  · left
    refine ⟨h1, ?_⟩
    rcases m2 with ⟨l2, k2, hlk, hm2, hv⟩ | ⟨hv, -⟩
    · have := hno l2 k2 hm2
      omega
    · exact hv

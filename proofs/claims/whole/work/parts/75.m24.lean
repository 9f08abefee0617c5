/-! rows of mine (pure): whether two lock -/
theorem mx_followPair {N p q P : Nat} (hp : p < 16) (hq : q < 16) {b n : Int32} {pper qui pqui nph tph bp tco bc fp fc pl pans F D T ST fl : Nat → Int32} {row lt ct : Int32} {o : Int32 × Int32 × Int32 × Int32 × (Nat → Int32) × (Nat → Int32) × Int32 × (Nat → Int32) × (Nat → Int32) × (Nat → Int32)} (e : f_X4_follow N lt ct row (upd (upd tph p (nph p)) q (ma_mn P (nph q))) bp tco bc fp fc b n pl (upd pper q (nI P)) (upd pqui q (ma_mn P (qui q))) pans F D T ST fl = some o) (ho : o.1 = 0 ∨ o.1 = 1) : f_X5_followPair N b n pper qui pqui row nph tph lt ct bp tco bc fp fc pl pans F D T ST fl (nI p) (nI q) (nI P) = some (o.1, upd pper q (nI P), upd pqui q (ma_mn P (qui q)), upd (upd tph p (nph p)) q (ma_mn P (nph q)), o.2.1, o.2.2.1, o.2.2.2.1, o.2.2.2.2.1, o.2.2.2.2.2.1, o.2.2.2.2.2.2.1, o.2.2.2.2.2.2.2.1, o.2.2.2.2.2.2.2.2.1, o.2.2.2.2.2.2.2.2.2) := by
  have g1 : ∀ {α : Type} (x : Option α), zk_g (nI p) 16 x = x := fun x => mg_g hp (by omega) x
  have g2 : ∀ {α : Type} (x : Option α), zk_g (nI q) 16 x = x := fun x => mg_g hq (by omega) x
  have c1 : (nI p).toNatClampNeg = p := nI_clamp (by omega)
  have c2 : (nI q).toNatClampNeg = q := nI_clamp (by omega)
  unfold f_X5_followPair
  simp only [g1, g2, c1, c2]
  have e : f_X4_follow N lt ct row (upd (upd tph p (nph p)) q (if nI P - (1 : Int32) < nph q then nI P - (1 : Int32) else nph q)) bp tco bc fp fc b n pl (upd pper q (nI P)) (upd pqui q (if nI P - (1 : Int32) < qui q then nI P - (1 : Int32) else qui q)) pans F D T ST fl = some o := e
  rw [e, Option.bind_some]
  exact if_pos ho
theorem ma_cnt_le (F : Nat → Nat → Bool) (p c : Nat) : ma_cnt F p c ≤ c := by
  unfold ma_cnt
  have := List.countP_le_length (p := fun t => F t p) (l := List.range c)
  rwa [List.length_range] at this
theorem mx_fe {N l c p q : Nat} (hN : 1001 ≤ N) (hp : p < 16) (hq : q < 16) {F : Nat → Nat → Bool} {fl : Nat → Int32} (W : ma_W F l c fl) : f_X5_flashEquallyOften N (nI l) (nI c) fl (nI p) (nI q) = some (if 1 ≤ ma_cnt F p c ∧ ma_cnt F p c = ma_cnt F q c then 1 else 0) := by
  have := W.1
  have b1 := ma_cnt_le F p c
  have b2 := ma_cnt_le F q c
  unfold f_X5_flashEquallyOften
  rw [mx_countFlashes hN hp W, Option.bind_some]
  by_cases h : 1 ≤ ma_cnt F p c
  · rw [if_neg (show ¬ nI (ma_cnt F p c) < (1 : Int32) from nI_nlt (b := 1) h (by omega)), mx_countFlashes hN hq W, Option.bind_some]
    by_cases h2 : ma_cnt F p c = ma_cnt F q c
    · rw [if_pos (by rw [h2]), if_pos ⟨h, h2⟩]
    · rw [if_neg (fun w => h2 ((nI_eq (by omega) (by omega)).mp w)), if_neg (fun w => h2 w.2)]
  · rw [if_pos (show nI (ma_cnt F p c) < (1 : Int32) from nI_lt (b := 1) (by omega) (by omega)), if_neg (fun w => h w.1)]
theorem mx_setPeriod {N q P : Nat} (hq : q < 16) (a b c : Nat → Int32) : f_X6_setPeriod N a b c (nI q) (nI P) = some (upd a q (nI P), upd b q (ma_mn P (b q)), upd c q (ma_mn P (c q))) := by
  have g2 : ∀ {α : Type} (x : Option α), zk_g (nI q) 16 x = x := fun x => mg_g hq (by omega) x
  have c2 : (nI q).toNatClampNeg = q := nI_clamp (by omega)
  unfold f_X6_setPeriod
  simp only [g2, c2]
  rfl
theorem mx_lockedR {N n cap t0 z : Nat} (hN : 5100 ≤ N) (ht : t0 < 2 ^ 29) {x : Int32} {per qui : Nat → Int32} {an anR : Nat → Nat → Int32} {fromsR tosR delaysR strsR st : Nat → Int32} {fr to de : Nat → Nat} (E : ma_E x n cap anR an fromsR tosR delaysR strsR fr to de st) {X : Nat → ma_S} (hX : ∀ i, X (i + 1) = ma_step x per qui an n fr to de st (X i)) (iv : ∀ i, ma_inv x per (X i)) (hz : z < 2147483647) {p q P : Nat} (hp : p < 16) (hq : q < 16) {nT np nph nq nw a' b' c' d' w' b2 b4 b6 b8 b9 : Nat → Int32} (e2 : f_X6_takesTwo N (nI t0) nT b2 np b4 nph b6 nq b8 b9 nw (nI p) (nI q) = some (nI t0, a', b', c', d', w')) (hfd : ma_fd x per qui a' (upd b' q (nI P)) (upd d' q (ma_mn P (d' q)))) (hrm : ma_rm t0 (upd c' q (ma_mn P (c' q))) w' (X 0)) (ld : Int32) (c1 c2 c3 c4 c5 d1 d2 d3 d4 d5 d6 sf B : Nat → Int32) (A : Nat → Nat → Int32) : ∃ (v lead cyc st' : Int32) (aT ap aph aq aw : Nat → Int32) (sl : Int32) (sT sp sph sq sw : Nat → Int32) (ft : Int32) (fT fp fph fq fw ff sf' B' : Nat → Int32) (A' : Nat → Nat → Int32), f_X8_locked N (lN z) ld (nI t0) nT b2 np b4 nph b6 nq b8 b9 nw c1 c2 c3 c4 c5 d1 d2 d3 d4 d5 d6 anR (nI n) cap fromsR tosR delaysR strsR sf B A (nI p) (nI q) (nI P) = some (v, lN z, lead, cyc, st', aT, ap, aph, aq, aw, sl, sT, sp, sph, sq, sw, ft, fT, fp, fph, fq, fw, ff, sf', B', A') ∧ ((∃ l c : Nat, l + c ≤ 1000 ∧ pr_min (ma_eqv x) X l c ∧ v = if 1 ≤ ma_cnt (fun t => ma_F x per qui an X (l + t)) p c ∧ ma_cnt (fun t => ma_F x per qui an X (l + t)) p c = ma_cnt (fun t => ma_F x per qui an X (l + t)) q c then 1 else 0) ∨ (v = -1 ∧ ∀ l c, pr_min (ma_eqv x) X l c → 1000 < l + c)) := by
  have ok : pr_ok (ma_eqv x) X := ⟨ma_eqv_equiv x, fun i j h => by rw [hX, hX]; exact ma_eqv_tick (fun k hk => (E.2.2.1 k hk).2.2.2.1) h⟩
  obtain ⟨v, lead, cyc, st', ft, sT', sp', sph', sq', sw', fT', fp', fph', fq', fw', ff', sf', ef, hcase⟩ := mx_findCycle hN ht E hX iv hz hfd hrm ld c1 c2 c3 c4 c5 d1 d2 d3 d4 d5 d6 sf
  have g1 : ∀ {α : Type} (x : Option α), zk_g (nI p) 16 x = x := fun x => mg_g hp (by omega) x
  have g2 : ∀ {α : Type} (x : Option α), zk_g (nI q) 16 x = x := fun x => mg_g hq (by omega) x
  have k1 : (nI p).toNatClampNeg = p := nI_clamp (by omega)
  have k2 : (nI q).toNatClampNeg = q := nI_clamp (by omega)
  unfold f_X8_locked
  rw [e2, Option.bind_some]
  show ∃ (v lead cyc st' : Int32) (aT ap aph aq aw : Nat → Int32) (sl : Int32) (sT sp sph sq sw : Nat → Int32) (ft : Int32) (fT fp fph fq fw ff sf' B' : Nat → Int32) (A' : Nat → Nat → Int32), ((f_X6_setPeriod N b' c' d' (nI q) (nI P)).bind _) = _ ∧ _
  rw [mx_setPeriod hq, Option.bind_some]
  show ∃ (v lead cyc st' : Int32) (aT ap aph aq aw : Nat → Int32) (sl : Int32) (sT sp sph sq sw : Nat → Int32) (ft : Int32) (fT fp fph fq fw ff sf' B' : Nat → Int32) (A' : Nat → Nat → Int32), ((f_X8_findCycle N (lN z) ld (nI t0) a' c1 (upd b' q (nI P)) c2 (upd c' q (ma_mn P (c' q))) c3 (upd d' q (ma_mn P (d' q))) c4 c5 w' d1 d2 d3 d4 d5 d6 anR (nI n) cap fromsR tosR delaysR strsR sf).bind _) = _ ∧ _
  rw [ef, Option.bind_some]
  rcases hcase with ⟨l, c, rfl, rfl, rfl, hlc, hmin, rfl, kf, rf⟩ | ⟨rfl, hno⟩
  · obtain ⟨B', A', fw2, ff2, fph2, eg, h1, h2, h3⟩ := mx_goRound hN ht E hX iv hz (show c ≤ 1000 by omega) (show l + c ≤ 1000 from hlc) kf rf (ff := ff') B A
    have hB : ∀ i, i < 16 → B' i = nI (ma_cnt (fun t => ma_F x per qui an X (l + t)) i c) := fun i hi => by
      rw [h2 i hi, ma_cnt_cong (fun t => ma_F_per ok hmin.2.1 t hi)]
    have b1 := ma_cnt_le (fun t => ma_F x per qui an X (l + t)) p c
    have b3 := ma_cnt_le (fun t => ma_F x per qui an X (l + t)) q c
    show ∃ (v lead cyc st' : Int32) (aT ap aph aq aw : Nat → Int32) (sl : Int32) (sT sp sph sq sw : Nat → Int32) (ft : Int32) (fT fp fph fq fw ff sf' B' : Nat → Int32) (A' : Nat → Nat → Int32), (if (1 : Int32) = 0 then _ else ((f_X8_goRound N (lN z) (nI c) B A (nI (t0 + (l + c))) fw' ff' fT' fph' fp' fq' anR (nI n) cap fromsR tosR delaysR strsR).bind _)) = _ ∧ _
    rw [if_neg (show ¬ (1 : Int32) = 0 by decide), eg, Option.bind_some]
    simp only [g1, g2, k1, k2, hB p hp, hB q hq]
    by_cases h : 1 ≤ ma_cnt (fun t => ma_F x per qui an X (l + t)) p c
    · rw [if_neg (show ¬ nI (ma_cnt (fun t => ma_F x per qui an X (l + t)) p c) ≤ 0 from nI_ge (a := 0) (by omega) (by omega))]
      by_cases h4 : ma_cnt (fun t => ma_F x per qui an X (l + t)) p c = ma_cnt (fun t => ma_F x per qui an X (l + t)) q c
      · rw [if_pos (by rw [h4])]
        exact ⟨_, _, _, _, _, _, _, _, _, _, _, _, _, _, _, _, _, _, _, _, _, _, _, _, _, rfl, Or.inl ⟨l, c, hlc, hmin, by rw [if_pos ⟨h, h4⟩]⟩⟩
      · rw [if_neg (fun w => h4 ((nI_eq (by omega) (by omega)).mp w))]
        exact ⟨_, _, _, _, _, _, _, _, _, _, _, _, _, _, _, _, _, _, _, _, _, _, _, _, _, rfl, Or.inl ⟨l, c, hlc, hmin, by rw [if_neg (fun w => h4 w.2)]⟩⟩
    · rw [if_pos (show nI (ma_cnt (fun t => ma_F x per qui an X (l + t)) p c) ≤ 0 from nI_le (b := 0) (by omega) (by omega))]
      exact ⟨_, _, _, _, _, _, _, _, _, _, _, _, _, _, _, _, _, _, _, _, _, _, _, _, _, rfl, Or.inl ⟨l, c, hlc, hmin, by rw [if_neg (fun w => h w.1)]⟩⟩
  · rw [if_pos rfl]
    exact ⟨_, _, _, _, _, _, _, _, _, _, _, _, _, _, _, _, _, _, _, _, _, _, _, _, _, rfl, Or.inr ⟨rfl, hno⟩⟩

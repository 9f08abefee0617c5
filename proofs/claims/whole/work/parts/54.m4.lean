/-! rows of mine (pure): lots, and a tick of the reference -/
/-- the i-th lot from z on -/
def ma_z (z : Nat) : Nat → Nat
  | 0 => z
  | i + 1 => ma_z z i * 48271 % 2147483647
theorem ma_z_lt {z : Nat} (h : z < 2147483647) : ∀ i, ma_z z i < 2147483647
  | 0 => h
  | i + 1 => Nat.mod_lt _ (by omega)
theorem lg_ge0 (x y : Int64) : (0 ≤ lg_cmp x y) = (y ≤ x) := by
  unfold lg_cmp
  apply propext
  by_cases h1 : x > y
  · rw [if_pos h1]
    exact ⟨fun _ => Int64.le_of_lt h1, fun _ => by decide⟩
  · rw [if_neg h1]
    by_cases h2 : x = y
    · rw [if_pos h2]
      subst h2
      exact ⟨fun _ => Int64.le_refl _, fun _ => by decide⟩
    · rw [if_neg h2]
      constructor
      · intro h; exact absurd h (by decide)
      · intro h
        exact absurd (Int64.le_antisymm (Int64.not_lt.mp h1) h) h2
theorem mx_lot {N z h : Nat} (hz : z < 2147483647) (hh : h < 100) : f_X8_lot N (lN z) (nI h) = some (if z * 48271 % 2147483647 % 100 < h then 1 else 0, lN (z * 48271 % 2147483647)) := by
  have hm : z * 48271 % 2147483647 < 2147483647 := Nat.mod_lt _ (by omega)
  have e : lN z * (48271 : Int64) - lN z * (48271 : Int64) / (2147483647 : Int64) * (2147483647 : Int64) = lN (z * 48271 % 2147483647) := by
    rw [show (48271 : Int64) = lN 48271 from rfl, show (2147483647 : Int64) = lN 2147483647 from rfl, lN_mul, pk_lRem (by omega) (by omega) (by omega)]
  unfold f_X8_lot
  rw [e, show (100 : Int64) = lN 100 from rfl, pk_lRem (by omega) (by omega) (by omega), nI_l (by omega)]
  simp only [lg_ge0, pk_lLE (show h < 2 ^ 63 by omega) (show z * 48271 % 2147483647 % 100 < 2 ^ 63 by omega)]
  by_cases c : z * 48271 % 2147483647 % 100 < h
  · rw [if_neg (by omega), if_pos c]
  · rw [if_pos (by omega), if_neg c]
theorem vn0 : vp_nar .boolean (0 : Int32) = 0 := by decide
theorem vn1 : vp_nar .boolean (1 : Int32) = 1 := by decide
/-- the lots of the beaters that are there, in their places' order -/
def ma_b (x : Int32) (h z : Nat) (p : Nat) : Int32 := if 0 < h ∧ ma_z z ((ms_l x p).length + 1) % 100 < h then 1 else 0
def ma_ze (x : Int32) (h z : Nat) (p : Nat) : Nat := if h = 0 then z else ma_z z (ms_l x p).length
theorem mx_t14 {N t h z0 : Nat} (ht : t < 2 ^ 30) (hh : h < 100) (hz0 : z0 < 2147483647) {x : Int32} {isT per qui w0 : Nat → Int32} {an : Nat → Nat → Int32} {S : ma_S} (hT : ∀ p, p < 16 → isT p = if bt x p then 1 else 0) (hok : ma_ok x per S) (hw0 : ∀ p, p < 16 → w0 (p * 31 + t % 31) = S.2 p 1) {T1 : Nat → Int32} {F : Nat → Bool} (hT1 : T1 = fun p => if bt x p then (if ma_fl per qui an S.1 (fun p => S.2 p 1) (ma_b x h z0) p then 0 else ma_np per qui an S.1 (fun p => S.2 p 1) (ma_b x h z0) p) else S.1 p) (hF : F = ma_flS x per qui an (ma_b x h z0) S) :
    ∀ (k p m : Nat) (w fl ph : Nat → Int32), p + k = 16 → k < m → (∀ j, w j = if j % 31 = t % 31 ∧ j / 31 < p then 0 else w0 j) → (∀ q, q < p → fl q = if F q then 1 else 0) → (∀ q, q < 16 → ph q = if q < p then T1 q else S.1 q) → ∃ w' fl' ph' : Nat → Int32, f_X6_tick_14 N (nI t) isT per qui an (nI h) m (nI ((List.range p).countP F)) (nI p) w fl ph (lN (ma_ze x h z0 p)) = some (nI ((List.range 16).countP F), nI 16, w', fl', ph', lN (ma_ze x h z0 16)) ∧ (∀ j, w' j = if j % 31 = t % 31 ∧ j / 31 < 16 then 0 else w0 j) ∧ (∀ q, q < 16 → fl' q = if F q then 1 else 0) ∧ ∀ q, q < 16 → ph' q = T1 q
  | 0, p, m, w, fl, ph, hp, hm, hw, hf, hph => by
    obtain ⟨m, rfl⟩ : ∃ j, m = j + 1 := ⟨m - 1, by omega⟩
    have hp : p = 16 := by omega
    subst hp
    refine ⟨w, fl, ph, ?_, hw, hf, fun q hq => by rw [hph q hq, if_pos hq]⟩
    rw [f_X6_tick_14, if_pos (show (16 : Int32) ≤ nI 16 from by decide)]
  | k + 1, p, m, w, fl, ph, hp, hm, hw, hf, hph => by
    obtain ⟨m, rfl⟩ : ∃ j, m = j + 1 := ⟨m - 1, by omega⟩
    have hp16 : p < 16 := by omega
    have hlp := ms_l_len x p
    have eidx : nI p * (31 : Int32) + (nI t - nI t / (31 : Int32) * (31 : Int32)) = nI (p * 31 + t % 31) := by
      rw [show (31 : Int32) = nI 31 from rfl, pk_mul, pk_rem (by omega) (by omega) (by omega), nI_add]
    have ht31 : t % 31 < 31 := Nat.mod_lt _ (by omega)
    have g1 : ∀ {α : Type} (x : Option α), zk_g (nI p) 16 x = x := fun x => mg_g hp16 (by omega) x
    have g2 : ∀ {α : Type} (x : Option α), zk_g (nI (p * 31 + t % 31)) 496 x = x := fun x => mg_g (by omega) (by omega) x
    have c1 : (nI p).toNatClampNeg = p := nI_clamp (by omega)
    have c2 : (nI (p * 31 + t % 31)).toNatClampNeg = p * 31 + t % 31 := nI_clamp (by omega)
    have hcount : (List.range (p + 1)).countP F = (List.range p).countP F + if F p then 1 else 0 := by
      rw [List.range_succ, List.countP_append]
      simp [List.countP_cons]
    have hwp : w (p * 31 + t % 31) = S.2 p 1 := by rw [hw, if_neg (by omega), hw0 p hp16]
    have hw' : ∀ j, upd w (p * 31 + t % 31) 0 j = if j % 31 = t % 31 ∧ j / 31 < p + 1 then 0 else w0 j := by
      intro j
      unfold upd
      by_cases e : j = p * 31 + t % 31
      · rw [if_pos e, if_pos (by omega)]
      · rw [if_neg e, hw j]
        by_cases e2 : j % 31 = t % 31 ∧ j / 31 < p
        · rw [if_pos e2, if_pos (by omega)]
        · rw [if_neg e2, if_neg (by omega)]
    have hphp : ph p = S.1 p := by rw [hph p hp16, if_neg (by omega)]
    rw [f_X6_tick_14, if_neg (show ¬ (16 : Int32) ≤ nI p from nI_ge (a := p) (b := 16) hp16 (by omega))]
    simp only [eidx, g1, g2, c1, c2, hT p hp16, pk_us, vn0, vn1, hwp, hphp, nI_1]
    cases hb : bt x p with
    | false =>
      have hF0 : F p = false := by rw [hF]; simp [ma_flS, hb]
      rw [show (if (false = true) then (1 : Int32) else 0) = 0 from rfl, if_pos rfl]
      have := mx_t14 (N := N) ht hh hz0 hT hok hw0 hT1 hF k (p + 1) m (upd w (p * 31 + t % 31) 0) (upd fl p 0) ph (by omega) (by omega) hw' (fun q hq => by
        unfold upd
        by_cases e : q = p
        · subst e; rw [if_pos rfl, hF0]; rfl
        · rw [if_neg e]; exact hf q (by omega)) (fun q hq => by
        rw [hph q hq]
        by_cases e : q = p
        · subst e; rw [if_neg (by omega), if_pos (by omega), hT1]; simp [hb]
        · by_cases e2 : q < p
          · rw [if_pos e2, if_pos (by omega)]
          · rw [if_neg e2, if_neg (by omega)])
      rw [hcount, hF0] at this
      have ez : ma_ze x h z0 (p + 1) = ma_ze x h z0 p := by unfold ma_ze; rw [ms_l_f hb]
      rw [ez] at this
      exact this
    | true =>
      obtain ⟨a, c, ea, ec, hac, hc⟩ := hok p hp16 hb
      have hq := mx_quarter hac hc
      have g3 : ∀ {α : Type} (x : Option α), zk_g (nI (4 * a / c)) 4 x = x := fun x => mg_g hq.2 (by omega) x
      have g4 : ∀ {α : Type} (x : Option α), zk_nz (nI c) x = x := fun x => mg_nz (by omega) (by omega) x
      have c3 : (nI (4 * a / c)).toNatClampNeg = 4 * a / c := nI_clamp (by omega)
      rw [show (if (true = true) then (1 : Int32) else 0) = 1 from rfl, if_neg (show ¬ (1 : Int32) = 0 by decide)]
      have enp : ma_np per qui an S.1 (fun p => S.2 p 1) (ma_b x h z0) p = (if (0 : Int32) < nI a + (if nI a < qui p then 0 else an p (4 * a / c) * S.2 p 1) then nI a + (if nI a < qui p then 0 else an p (4 * a / c) * S.2 p 1) else 0) + 1 + ma_b x h z0 p := by
        unfold ma_np ma_val
        simp only [ea, ec, hq.1, c3]
      have eFp : F p = decide (¬ ma_np per qui an S.1 (fun p => S.2 p 1) (ma_b x h z0) p < nI c) := by rw [hF]; simp [ma_flS, ma_fl, hb, ec]
      have eT : T1 p = if F p then 0 else ma_np per qui an S.1 (fun p => S.2 p 1) (ma_b x h z0) p := by
        rw [hT1, hF]
        simp [ma_flS, hb]
      -- what follows, for the phase and the lots that come out
      have go : ∀ (v : Int32) (zn : Nat), v = ma_np per qui an S.1 (fun p => S.2 p 1) (ma_b x h z0) p → zn = ma_ze x h z0 (p + 1) → ∀ (b : Int32) (fl2 ph2 : Nat → Int32), b = (if F p then 1 else 0) → (∀ q, q < p + 1 → fl2 q = if F q then 1 else 0) → (∀ q, q < 16 → ph2 q = if q < p + 1 then T1 q else S.1 q) → ∃ w' fl' ph' : Nat → Int32, f_X6_tick_14 N (nI t) isT per qui an (nI h) m (nI ((List.range p).countP F) + b) (nI (p + 1)) (upd w (p * 31 + t % 31) 0) fl2 ph2 (lN zn) = some (nI ((List.range 16).countP F), nI 16, w', fl', ph', lN (ma_ze x h z0 16)) ∧ (∀ j, w' j = if j % 31 = t % 31 ∧ j / 31 < 16 then 0 else w0 j) ∧ (∀ q, q < 16 → fl' q = if F q then 1 else 0) ∧ ∀ q, q < 16 → ph' q = T1 q := by
        intro v zn hv hzn b fl2 ph2 hb2 hf2 hp2
        have := mx_t14 (N := N) ht hh hz0 hT hok hw0 hT1 hF k (p + 1) m (upd w (p * 31 + t % 31) 0) fl2 ph2 (by omega) (by omega) hw' hf2 hp2
        rw [hcount] at this
        subst hzn hb2
        have eb : nI ((List.range p).countP F) + (if F p = true then (1 : Int32) else 0) = nI ((List.range p).countP F + if F p = true then 1 else 0) := by
          cases F p
          · exact Int32.add_zero _
          · exact nI_1 _
        rw [eb]
        exact this
      have hfU : ∀ b : Int32, b = (if F p then 1 else 0) → ∀ q, q < p + 1 → upd (upd fl p 0) p b q = if F q then 1 else 0 := by
        intro b hb q hq
        unfold upd
        by_cases e : q = p
        · subst e; rw [if_pos rfl, hb]
        · rw [if_neg e, if_neg e]; exact hf q (by omega)
      have hpU : ∀ v u : Int32, u = T1 p → ∀ q, q < 16 → upd (upd ph p v) p u q = if q < p + 1 then T1 q else S.1 q := by
        intro v u hu q hq
        unfold upd
        by_cases e : q = p
        · subst e; rw [if_pos rfl, if_pos (by omega), hu]
        · rw [if_neg e, if_neg e, hph q hq]
          by_cases e2 : q < p
          · rw [if_pos e2, if_pos (by omega)]
          · rw [if_neg e2, if_neg (by omega)]
      have hz : ∀ i, ma_z z0 i < 2147483647 := ma_z_lt hz0
      have ezs : ma_ze x h z0 (p + 1) = if h = 0 then z0 else ma_z z0 ((ms_l x p).length + 1) := by
        unfold ma_ze
        rw [ms_l_t hb]
        simp
      have e10 : ((1 : Int32) = 0) = False := eq_false (by decide)
      have fin : ∀ (V b : Int32) (zn : Nat), V + 1 + b = ma_np per qui an S.1 (fun p => S.2 p 1) (ma_b x h z0) p → zn = ma_ze x h z0 (p + 1) → ∃ w' fl' ph' : Nat → Int32, (if V + 1 + b < nI c then f_X6_tick_14 N (nI t) isT per qui an (nI h) m (nI ((List.range p).countP F) + 0) (nI (p + 1)) (upd w (p * 31 + t % 31) 0) (upd (upd fl p 0) p 0) (upd (upd ph p (V + 1 + b)) p (V + 1 + b)) (lN zn) else f_X6_tick_14 N (nI t) isT per qui an (nI h) m (nI ((List.range p).countP F + 1)) (nI (p + 1)) (upd w (p * 31 + t % 31) 0) (upd (upd fl p 0) p 1) (upd (upd ph p (V + 1 + b)) p 0) (lN zn)) = some (nI ((List.range 16).countP F), nI 16, w', fl', ph', lN (ma_ze x h z0 16)) ∧ (∀ j, w' j = if j % 31 = t % 31 ∧ j / 31 < 16 then 0 else w0 j) ∧ (∀ q, q < 16 → fl' q = if F q then 1 else 0) ∧ ∀ q, q < 16 → ph' q = T1 q := by
        intro V b zn hv hzn
        rw [hv]
        by_cases hc2 : ma_np per qui an S.1 (fun p => S.2 p 1) (ma_b x h z0) p < nI c
        · have hFf : F p = false := by rw [eFp]; simp [hc2]
          rw [if_pos hc2]
          exact go _ zn rfl hzn 0 _ _ (by rw [hFf]; rfl) (hfU 0 (by rw [hFf]; rfl)) (hpU _ _ (by rw [eT, hFf]; rfl))
        · have hFt : F p = true := by rw [eFp]; simp [hc2]
          rw [if_neg hc2, ← nI_1]
          exact go _ zn rfl hzn 1 _ _ (by rw [hFt]; rfl) (hfU 1 (by rw [hFt]; rfl)) (hpU _ _ (by rw [eT, hFt]; rfl))
      have main : ∀ V : Int32, V + 1 + ma_b x h z0 p = ma_np per qui an S.1 (fun p => S.2 p 1) (ma_b x h z0) p → ∃ w' fl' ph' : Nat → Int32, (if nI h ≤ 0 then (if V + 1 + 0 < nI c then f_X6_tick_14 N (nI t) isT per qui an (nI h) m (nI ((List.range p).countP F) + 0) (nI (p + 1)) (upd w (p * 31 + t % 31) 0) (upd (upd fl p 0) p 0) (upd (upd ph p (V + 1 + 0)) p (V + 1 + 0)) (lN (ma_ze x h z0 p)) else f_X6_tick_14 N (nI t) isT per qui an (nI h) m (nI ((List.range p).countP F + 1)) (nI (p + 1)) (upd w (p * 31 + t % 31) 0) (upd (upd fl p 0) p 1) (upd (upd ph p (V + 1 + 0)) p 0) (lN (ma_ze x h z0 p))) else (f_X8_lot N (lN (ma_ze x h z0 p)) (nI h)).bind fun o => (if V + 1 + o.1 < nI c then f_X6_tick_14 N (nI t) isT per qui an (nI h) m (nI ((List.range p).countP F) + 0) (nI (p + 1)) (upd w (p * 31 + t % 31) 0) (upd (upd fl p 0) p 0) (upd (upd ph p (V + 1 + o.1)) p (V + 1 + o.1)) o.2 else f_X6_tick_14 N (nI t) isT per qui an (nI h) m (nI ((List.range p).countP F + 1)) (nI (p + 1)) (upd w (p * 31 + t % 31) 0) (upd (upd fl p 0) p 1) (upd (upd ph p (V + 1 + o.1)) p 0) o.2)) = some (nI ((List.range 16).countP F), nI 16, w', fl', ph', lN (ma_ze x h z0 16)) ∧ (∀ j, w' j = if j % 31 = t % 31 ∧ j / 31 < 16 then 0 else w0 j) ∧ (∀ q, q < 16 → fl' q = if F q then 1 else 0) ∧ ∀ q, q < 16 → ph' q = T1 q := by
        intro V hV
        by_cases h0 : h = 0
        · have hb0 : ma_b x h z0 p = 0 := by unfold ma_b; rw [if_neg (by omega)]
          rw [if_pos (show nI h ≤ 0 by rw [h0]; decide)]
          exact fin V 0 _ (by rw [← hV, hb0]) (by rw [ezs, if_pos h0]; unfold ma_ze; rw [if_pos h0])
        · have ezp : ma_ze x h z0 p = ma_z z0 (ms_l x p).length := by unfold ma_ze; rw [if_neg h0]
          have hpos : 0 < h := by omega
          rw [if_neg (show ¬ nI h ≤ 0 from nI_ge (a := 0) (b := h) hpos (by omega)), mx_lot (by rw [ezp]; exact hz _) hh, Option.bind_some]
          refine fin V _ _ ?_ ?_
          · rw [← hV]
            unfold ma_b
            rw [ezp]
            show V + 1 + (if ma_z z0 ((ms_l x p).length + 1) % 100 < h then (1 : Int32) else 0) = V + 1 + _
            by_cases hc3 : ma_z z0 ((ms_l x p).length + 1) % 100 < h
            · rw [if_pos hc3, if_pos ⟨hpos, hc3⟩]
            · rw [if_neg hc3, if_neg (fun q => hc3 q.2)]
          · rw [ezs, if_neg h0, ezp]; rfl
      simp only [ea, ec, hq.1, c3, g3, g4, e10, ite_true, ite_false]
      by_cases hqu : qui p ≤ nI a
      · rw [if_pos hqu]
        exact main _ (by rw [enp, if_neg (Int32.not_lt.mpr hqu)])
      · rw [if_neg hqu]
        have := main (if (0 : Int32) < nI a + 0 then nI a + 0 else 0) (by rw [enp, if_pos (Int32.not_le.mp hqu)])
        exact this

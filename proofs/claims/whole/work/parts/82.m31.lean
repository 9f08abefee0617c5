/-! rows of mine (pure): phase, flashes, last, waiting, strip agree -/
theorem ca_phase {N : Nat} {x : Int32} {isT f g : Nat → Int32} (hT : ∀ q, q < 16 → isT q = if bt x q then 1 else 0) (hfg : ∀ p, p < 16 → g p = f p) (out : Nat → Int64) (v1 : Int32) : ∃ (k v : Int32) (out' : Nat → Int64), f_L_phase N x f out v1 = some (k, out') ∧ f_X8_phase N isT g v1 = some (v, k) ∧ (k = 0 → out' 0 = v.toInt64) := by
  rcases mx_beater (N := N) v1 hT with ⟨b1, b2⟩ | ⟨b1, b2⟩ | ⟨p, hp, rfl, hbp, b1, b2⟩
  · refine ⟨1, 0, out, ?_, ?_, fun w => absurd w (by decide)⟩
    · unfold f_L_phase f_X5_phase
      rw [b1, Option.bind_some]
      rfl
    · unfold f_X8_phase
      rw [b2, Option.bind_some]
      rfl
  · refine ⟨2, 0, out, ?_, ?_, fun w => absurd w (by decide)⟩
    · unfold f_L_phase f_X5_phase
      rw [b1, Option.bind_some]
      rfl
    · unfold f_X8_phase
      rw [b2, Option.bind_some]
      rfl
  · refine ⟨0, f p, vp_updL out 0 (f p).toInt64, ?_, ?_, fun _ => by unfold vp_updL; rw [if_pos rfl]⟩
    · unfold f_L_phase f_X5_phase
      rw [b1, Option.bind_some]
      simp only [Sum.elim_inr]
      rw [mg_g hp (by omega), nI_clamp (show p < 2 ^ 31 by omega)]
      rfl
    · unfold f_X8_phase
      rw [b2, Option.bind_some]
      simp only [if_true]
      rw [mg_g hp (by omega), nI_clamp (show p < 2 ^ 31 by omega), hfg p hp]
theorem ca_flashes {N : Nat} {x : Int32} {isT f g : Nat → Int32} (hT : ∀ q, q < 16 → isT q = if bt x q then 1 else 0) (hfg : ∀ p, p < 16 → g p = f p) (out : Nat → Int64) (v1 : Int32) : ∃ (k v : Int32) (out' : Nat → Int64), f_L_flashes N x f out v1 = some (k, out') ∧ f_X8_flashes N isT g v1 = some (v, k) ∧ (k = 0 → out' 0 = v.toInt64) := by
  rcases mx_beater (N := N) v1 hT with ⟨b1, b2⟩ | ⟨b1, b2⟩ | ⟨p, hp, rfl, hbp, b1, b2⟩
  · refine ⟨1, 0, out, ?_, ?_, fun w => absurd w (by decide)⟩
    · unfold f_L_flashes f_X5_flashes
      rw [b1, Option.bind_some]
      rfl
    · unfold f_X8_flashes
      rw [b2, Option.bind_some]
      rfl
  · refine ⟨2, 0, out, ?_, ?_, fun w => absurd w (by decide)⟩
    · unfold f_L_flashes f_X5_flashes
      rw [b1, Option.bind_some]
      rfl
    · unfold f_X8_flashes
      rw [b2, Option.bind_some]
      rfl
  · refine ⟨0, f p, vp_updL out 0 (f p).toInt64, ?_, ?_, fun _ => by unfold vp_updL; rw [if_pos rfl]⟩
    · unfold f_L_flashes f_X5_flashes
      rw [b1, Option.bind_some]
      simp only [Sum.elim_inr]
      rw [mg_g hp (by omega), nI_clamp (show p < 2 ^ 31 by omega)]
      rfl
    · unfold f_X8_flashes
      rw [b2, Option.bind_some]
      simp only [if_true]
      rw [mg_g hp (by omega), nI_clamp (show p < 2 ^ 31 by omega), hfg p hp]
theorem ca_last {N : Nat} {x : Int32} {isT f g : Nat → Int32} (hT : ∀ q, q < 16 → isT q = if bt x q then 1 else 0) (hfg : ∀ p, p < 16 → g p = f p) (out : Nat → Int64) (v1 : Int32) : ∃ (k v : Int32) (out' : Nat → Int64), f_L_last N x f out v1 = some (k, out') ∧ f_X8_last N isT g v1 = some (v, k) ∧ (k = 0 → out' 0 = v.toInt64) := by
  rcases mx_beater (N := N) v1 hT with ⟨b1, b2⟩ | ⟨b1, b2⟩ | ⟨p, hp, rfl, hbp, b1, b2⟩
  · refine ⟨1, 0, out, ?_, ?_, fun w => absurd w (by decide)⟩
    · unfold f_L_last f_X5_last
      rw [b1, Option.bind_some]
      rfl
    · unfold f_X8_last
      rw [b2, Option.bind_some]
      rfl
  · refine ⟨2, 0, out, ?_, ?_, fun w => absurd w (by decide)⟩
    · unfold f_L_last f_X5_last
      rw [b1, Option.bind_some]
      rfl
    · unfold f_X8_last
      rw [b2, Option.bind_some]
      rfl
  · refine ⟨0, f p, vp_updL out 0 (f p).toInt64, ?_, ?_, fun _ => by unfold vp_updL; rw [if_pos rfl]⟩
    · unfold f_L_last f_X5_last
      rw [b1, Option.bind_some]
      simp only [Sum.elim_inr]
      rw [mg_g hp (by omega), nI_clamp (show p < 2 ^ 31 by omega)]
      rfl
    · unfold f_X8_last
      rw [b2, Option.bind_some]
      simp only [if_true]
      rw [mg_g hp (by omega), nI_clamp (show p < 2 ^ 31 by omega), hfg p hp]
theorem ca_waiting {N t : Nat} (hN : 40 ≤ N) {x row : Int32} {isT ph co nph nw : Nat → Int32} {S : ma_S} (hT : ∀ q, q < 16 → isT q = if bt x q then 1 else 0) (hR : ma_R row ph co S) (hrm : ma_rm t nph nw S) (out : Nat → Int64) (v1 : Int32) : ∃ (k v : Int32) (out' : Nat → Int64), f_L_waiting N x row co out v1 = some (k, out') ∧ f_X8_waiting N isT nw v1 = some (v, k) ∧ (k = 0 → out' 0 = v.toInt64) := by
  rcases mx_beater (N := N) v1 hT with ⟨b1, b2⟩ | ⟨b1, b2⟩ | ⟨p, hp, rfl, hbp, b1, b2⟩
  · refine ⟨1, 0, out, ?_, ?_, fun w => absurd w (by decide)⟩
    · unfold f_L_waiting f_X5_waiting
      rw [b1, Option.bind_some]
      rfl
    · unfold f_X8_waiting
      rw [b2, Option.bind_some]
      rfl
  · refine ⟨2, 0, out, ?_, ?_, fun w => absurd w (by decide)⟩
    · unfold f_L_waiting f_X5_waiting
      rw [b1, Option.bind_some]
      rfl
    · unfold f_X8_waiting
      rw [b2, Option.bind_some]
      rfl
  · refine ⟨0, ma_way S p, vp_updL out 0 (ma_way S p).toInt64, ?_, ?_, fun _ => by unfold vp_updL; rw [if_pos rfl]⟩
    · unfold f_L_waiting f_X5_waiting
      rw [b1, Option.bind_some]
      simp only [Sum.elim_inr]
      rw [mx_underWayTo hN hp hR, Option.bind_some]
      rfl
    · unfold f_X8_waiting
      rw [b2, Option.bind_some]
      simp only [if_true]
      rw [mx_waitingAt hN hp hrm, Option.bind_some]
theorem ca_strip {N n cap h t0 z : Nat} (hN : 5100 ≤ N) (hh : h < 100) (ht : t0 < 2 ^ 29) (hz : z < 2147483647) {x : Int32} {places per qui ans froms tos delays st : Nat → Int32} {fr to de : Nat → Nat} {S : ma_S} (C : ma_C x n places ans froms tos delays st fr to de) (hinv : ma_inv x per S) {row : Int32} {ph co : Nat → Int32} (hR : ma_R row ph co S) {anR : Nat → Nat → Int32} {fromsR tosR delaysR strsR : Nat → Int32} (E : ma_E x n cap anR (fun p q => ans (p * 4 + q)) fromsR tosR delaysR strsR fr to de st) {nT np nph nq nw : Nat → Int32} (hf : ma_fd x per qui nT np nq) (hrm : ma_rm t0 nph nw S) {tr : Int32} (htr : ∃ r, tr = nI r ∧ r < 32) (tp tc : Nat → Int32) (a7 : Int32) (d1 d2 d3 d4 d5 d6 : Nat → Int32) (out : Nat → Int64) (v1 : Int32) : ∃ (k v : Int32) (out' : Nat → Int64) (tr' : Int32) (tp' tc' : Nat → Int32) (a7' : Int32) (d1' d2' d3' d4' d5' d6' : Nat → Int32), (∃ r, tr' = nI r ∧ r < 32) ∧ f_L_strip N (nI h) (nI (ms_L x).length) x (nI n) row tr ph tp co tc places per qui ans froms delays tos st out v1 = some (k, tr', tp', tc', out') ∧ f_X8_strip N (nI h) (lN z) (nI t0) nT a7 d1 np d2 nph d3 nq d4 d5 nw d6 anR (nI n) cap fromsR tosR delaysR strsR v1 = some (v, k, lN z, a7', d1', d2', d3', d4', d5', d6') ∧ (k = 0 → out' 0 = v.toInt64) := by
  rcases mx_beater (N := N) v1 (x := x) (isT := nT) (fun q hq => (hf q hq).1) with ⟨b1, b2⟩ | ⟨b1, b2⟩ | ⟨p, hp, rfl, hbp, b1, b2⟩
  · refine ⟨1, 0, out, tr, tp, tc, a7, d1, d2, d3, d4, d5, d6, htr, ?_, ?_, fun w => absurd w (by decide)⟩
    · unfold f_L_strip f_X5_strip
      rw [b1, Option.bind_some]
      rfl
    · unfold f_X8_strip
      rw [b2, Option.bind_some]
      rfl
  · refine ⟨2, 0, out, tr, tp, tc, a7, d1, d2, d3, d4, d5, d6, htr, ?_, ?_, fun w => absurd w (by decide)⟩
    · unfold f_L_strip f_X5_strip
      rw [b1, Option.bind_some]
      rfl
    · unfold f_X8_strip
      rw [b2, Option.bind_some]
      rfl
  · by_cases h0 : 0 < h
    · refine ⟨3, 0, out, tr, tp, tc, a7, d1, d2, d3, d4, d5, d6, htr, ?_, ?_, fun w => absurd w (by decide)⟩
      · unfold f_L_strip f_X5_strip f_X5_checkNoNoise
        rw [b1, Option.bind_some]
        simp only [Sum.elim_inr]
        rw [if_neg (show ¬ nI h ≤ 0 from nI_ge (a := 0) h0 (by omega))]
        rfl
      · unfold f_X8_strip
        rw [b2, Option.bind_some]
        simp only [if_true]
        rw [if_neg (show ¬ nI h ≤ 0 from nI_ge (a := 0) h0 (by omega))]
    · have e0 : h = 0 := by omega
      subst e0
      obtain ⟨p1, c1, e1, h1⟩ := mx_copy (N := N) (pd := tp) (cd := tc) hR
      have hX : ∀ i, ma_X x per qui (fun p q => ans (p * 4 + q)) n fr to de st S (i + 1) = ma_step x per qui (fun p q => ans (p * 4 + q)) n fr to de st (ma_X x per qui (fun p q => ans (p * 4 + q)) n fr to de st S i) := fun i => rfl
      obtain ⟨tr', tp', tc', e2, hR'⟩ := mx_strip_24 (by omega : 1000 ≤ N) C hX (ma_X_inv C hinv) hp 30 0 N row p1 c1 (by omega) (by omega) h1
      obtain ⟨a1, b1', c1', d1', w1, e3, k1, r1⟩ := mx_takes (N := N) (by omega) hf hrm d1 d2 d3 d4 d5
      obtain ⟨ph', w', f', e4, hrm'⟩ := mx_stripR_50 hN ht E hX (ma_X_inv C hinv) hz hp k1 30 0 N c1' w1 d6 (by omega) (by omega) r1
      have e2 : f_X5_strip_24 N (nI (ms_L x).length) (nI n) places per qui ans froms delays tos st (nI p) N (0 : Int32) (0 : Int32) row p1 c1 = _ := e2
      have e4 : f_X8_strip_50 N a1 b1' d1' anR (nI n) cap fromsR tosR delaysR strsR (nI p) N (0 : Int32) (0 : Int32) (lN z) (nI t0) c1' w1 d6 = _ := e4
      obtain ⟨r, q1, q2, -⟩ := hR'
      refine ⟨0, (ma_strip (fun t => ma_F x per qui (fun p q => ans (p * 4 + q)) (ma_X x per qui (fun p q => ans (p * 4 + q)) n fr to de st S) t p) 30), vp_updL out 0 (ma_strip (fun t => ma_F x per qui (fun p q => ans (p * 4 + q)) (ma_X x per qui (fun p q => ans (p * 4 + q)) n fr to de st S) t p) 30).toInt64, tr', tp', tc', nI (t0 + 30), a1, b1', ph', d1', w', f', ⟨r, q1, q2⟩, ?_, ?_, fun _ => by unfold vp_updL; exact if_pos rfl⟩
      · unfold f_L_strip f_X5_strip f_X5_checkNoNoise
        rw [b1, Option.bind_some]
        simp only [Sum.elim_inr]
        rw [if_pos (show nI 0 ≤ 0 by decide)]
        simp only [Option.bind_some, Sum.elim_inr]
        rw [e1, Option.bind_some, e2, Option.bind_some]
        rfl
      · unfold f_X8_strip
        rw [b2, Option.bind_some]
        simp only [if_true]
        rw [if_pos (show nI 0 ≤ 0 by decide), e3, Option.bind_some]
        show ((f_X8_strip_50 N a1 b1' d1' anR (nI n) cap fromsR tosR delaysR strsR (nI p) N (0 : Int32) (0 : Int32) (lN z) (nI t0) c1' w1 d6).bind _) = _
        rw [e4, Option.bind_some]

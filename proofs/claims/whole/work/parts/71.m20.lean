/-! rows of mine (pure): a run of the class and of the reference -/
theorem mx_advB {N n : Nat} (hN : 61 ≤ N) {x y : Int32} {places per qui ans froms tos delays st ph co b : Nat → Int32} {row : Int32} {fr to de : Nat → Nat} {S : ma_S} (C : ma_C x n places ans froms tos delays st fr to de) (hinv : ma_inv x per S) (hR : ma_R row ph co S) (hb : ∀ p, bt x p = true → (if bt y p then (1 : Int32) else 0) = b p) :
    ∃ (fb row' : Int32) (ph' co' : Nat → Int32), f_X2_advance N row (nI (ms_L x).length) (nI n) places ph co per qui ans froms delays tos st y = some (fb, row', ph', co') ∧ (∀ q, q < 32 → bt fb q = (decide (q < 16) && ma_flS x per qui (fun p q => ans (p * 4 + q)) b S q)) ∧ ma_R row' ph' co' (ma_tick x per qui (fun p q => ans (p * 4 + q)) n fr to de st b S) := by
  obtain ⟨r, rfl, hrc⟩ := hR
  obtain ⟨c1, c2, c3, c4, c5⟩ := C
  obtain ⟨fb, ph', co', e, h1, h2⟩ := mx_advance (qui := qui) (ans := ans) (x2 := y) (st := st) hN c1 c2 c3 hinv.1 hrc
  obtain ⟨t1, t2⟩ := ma_tick_b (per := per) (qui := qui) (an := fun p q => ans (p * 4 + q)) (n := n) (fr := fr) (to := to) (de := de) (st := st) (S := S) hb
  rw [t1] at h2
  refine ⟨fb, _, ph', co', e, fun q hq => ?_, _, rfl, h2⟩
  rw [h1 q hq, t2]
theorem mx_r54 {N : Nat} {t : Int32} {fl : Nat → Int32} {F : Nat → Bool} (hf : ∀ p, p < 16 → fl p = if F p then 1 else 0) {c0 l0 : Nat → Int32} : ∀ (k i m : Nat) (c l : Nat → Int32), i + k = 16 → k < m → (∀ p, p < 16 → c p = if p < i ∧ F p = true then c0 p + 1 else c0 p) → (∀ p, p < 16 → l p = if p < i ∧ F p = true then t else l0 p) → ∃ c' l' : Nat → Int32, f_X8_run_54 N t fl m (nI i) c l = some (nI 16, c', l') ∧ (∀ p, p < 16 → c' p = if F p = true then c0 p + 1 else c0 p) ∧ ∀ p, p < 16 → l' p = if F p = true then t else l0 p
  | 0, i, m, c, l, hi, hm, hc, hl => by
    obtain ⟨m, rfl⟩ : ∃ j, m = j + 1 := ⟨m - 1, by omega⟩
    obtain rfl : i = 16 := by omega
    refine ⟨c, l, by rw [f_X8_run_54, if_pos (show (16 : Int32) ≤ nI 16 by decide)], fun p hp => ?_, fun p hp => ?_⟩
    · rw [hc p hp]; simp only [hp, true_and]
    · rw [hl p hp]; simp only [hp, true_and]
  | k + 1, i, m, c, l, hi, hm, hc, hl => by
    obtain ⟨m, rfl⟩ : ∃ j, m = j + 1 := ⟨m - 1, by omega⟩
    have hi16 : i < 16 := by omega
    have ci : (nI i).toNatClampNeg = i := nI_clamp (by omega)
    have g1 : ∀ {α : Type} (x : Option α), zk_g (nI i) 16 x = x := fun x => mg_g hi16 (by omega) x
    rw [f_X8_run_54, if_neg (show ¬ (16 : Int32) ≤ nI i from nI_ge (a := i) (b := 16) hi16 (by omega))]
    simp only [g1, ci, nI_1, hf i hi16]
    have hci : c i = c0 i := by rw [hc i hi16, if_neg (by omega)]
    have hli : l i = l0 i := by rw [hl i hi16, if_neg (by omega)]
    cases hF : F i with
    | false =>
      simp only [Bool.false_eq_true, if_false, if_true]
      refine mx_r54 hf k (i + 1) m _ _ (by omega) (by omega) (fun p hp => ?_) (fun p hp => ?_)
      · unfold upd
        by_cases q : p = i
        · subst q
          rw [if_pos rfl, if_neg (by rw [hF]; simp), Int32.add_zero, hci]
        · rw [if_neg q, hc p hp]
          by_cases q2 : p < i ∧ F p = true
          · rw [if_pos q2, if_pos ⟨by omega, q2.2⟩]
          · rw [if_neg q2, if_neg (fun w => q2 ⟨by omega, w.2⟩)]
      · unfold upd
        by_cases q : p = i
        · subst q
          rw [if_pos rfl, if_neg (by rw [hF]; simp), hli]
        · rw [if_neg q, hl p hp]
          by_cases q2 : p < i ∧ F p = true
          · rw [if_pos q2, if_pos ⟨by omega, q2.2⟩]
          · rw [if_neg q2, if_neg (fun w => q2 ⟨by omega, w.2⟩)]
    | true =>
      have e10 : ((1 : Int32) = 0) = False := eq_false (by decide)
      simp only [if_true, e10, if_false]
      refine mx_r54 hf k (i + 1) m _ _ (by omega) (by omega) (fun p hp => ?_) (fun p hp => ?_)
      · unfold upd
        by_cases q : p = i
        · subst q
          rw [if_pos rfl, if_pos ⟨by omega, hF⟩, hci]
        · rw [if_neg q, hc p hp]
          by_cases q2 : p < i ∧ F p = true
          · rw [if_pos q2, if_pos ⟨by omega, q2.2⟩]
          · rw [if_neg q2, if_neg (fun w => q2 ⟨by omega, w.2⟩)]
      · unfold upd
        by_cases q : p = i
        · subst q
          rw [if_pos rfl, if_pos ⟨by omega, hF⟩]
        · rw [if_neg q, hl p hp]
          by_cases q2 : p < i ∧ F p = true
          · rw [if_pos q2, if_pos ⟨by omega, q2.2⟩]
          · rw [if_neg q2, if_neg (fun w => q2 ⟨by omega, w.2⟩)]
theorem ma_ze_lt {x : Int32} {h z p : Nat} (hz : z < 2147483647) : ma_ze x h z p < 2147483647 := by
  unfold ma_ze
  split
  · exact hz
  · exact ma_z_lt hz _
theorem ma_b_01 (x : Int32) (h z p : Nat) : ma_b x h z p = 0 ∨ ma_b x h z p = 1 := by
  unfold ma_b
  split
  · exact Or.inr rfl
  · exact Or.inl rfl
theorem mx_runs {N n cap h T : Nat} (hN : 600 ≤ N) (hh : h < 100) (hT : T ≤ 500) {x : Int32} (hx : ∀ p, 16 ≤ p → bt x p = false) {places per qui ans froms tos delays st : Nat → Int32} {fr to de : Nat → Nat} (C : ma_C x n places ans froms tos delays st fr to de) {anR : Nat → Nat → Int32} {fromsR tosR delaysR strs nT np nq : Nat → Int32} (E : ma_E x n cap anR (fun p q => ans (p * 4 + q)) fromsR tosR delaysR strs fr to de st) (hfd : ma_fd x per qui nT np nq) : ∀ (k i m1 m2 cnt z t : Nat) (S : ma_S) (row : Int32) (ph co c l nw nfl nph rc rl : Nat → Int32), i + k = T → k < m1 → k < m2 → z < 2147483647 → t + k < 2 ^ 29 → ma_inv x per S → ma_R row ph co S → ma_rm t nph nw S → (∀ p, p < 16 → rc p = c p) → (∀ p, p < 16 → rl p = l p) → ∃ (cnt' z' : Nat) (S' : ma_S) (row' : Int32) (ph' co' c' l' nw' nfl' nph' rc' rl' : Nat → Int32), f_X5_run_12 N (nI h) (nI (ms_L x).length) (nI n) places per qui ans froms delays tos st (nI T) m1 (nI cnt) (nI i) (nI t) (nI z) row ph co c l = some (nI cnt', nI T, nI (t + k), nI z', row', ph', co', c', l') ∧ f_X8_run_25 N (0 : Int32) (nI h) nT np nq anR (nI n) cap fromsR tosR delaysR strs (nI T) m2 (nI cnt) (nI i) (lN z) (nI t) nw nfl nph rc rl = some (nI cnt', nI T, lN z', nI (t + k), nw', nfl', nph', rc', rl') ∧ z' < 2147483647 ∧ ma_inv x per S' ∧ ma_R row' ph' co' S' ∧ ma_rm (t + k) nph' nw' S' ∧ (∀ p, p < 16 → rc' p = c' p) ∧ ∀ p, p < 16 → rl' p = l' p
  | 0, i, m1, m2, cnt, z, t, S, row, ph, co, c, l, nw, nfl, nph, rc, rl, hi, hm1, hm2, hz, ht, hinv, hR, hrm, hc, hl => by
    obtain ⟨m1, rfl⟩ : ∃ j, m1 = j + 1 := ⟨m1 - 1, by omega⟩
    obtain ⟨m2, rfl⟩ : ∃ j, m2 = j + 1 := ⟨m2 - 1, by omega⟩
    obtain rfl : i = T := by omega
    refine ⟨cnt, z, S, row, ph, co, c, l, nw, nfl, nph, rc, rl, ?_, ?_, hz, hinv, hR, hrm, hc, hl⟩
    · rw [f_X5_run_12, if_pos (nI_le (Nat.le_refl _) (by omega))]; rfl
    · rw [f_X8_run_25, if_pos (nI_le (Nat.le_refl _) (by omega))]; rfl
  | k + 1, i, m1, m2, cnt, z, t, S, row, ph, co, c, l, nw, nfl, nph, rc, rl, hi, hm1, hm2, hz, ht, hinv, hR, hrm, hc, hl => by
    obtain ⟨m1, rfl⟩ : ∃ j, m1 = j + 1 := ⟨m1 - 1, by omega⟩
    obtain ⟨m2, rfl⟩ : ∃ j, m2 = j + 1 := ⟨m2 - 1, by omega⟩
    obtain ⟨y, e1, hy⟩ := mx_drawLots (N := N) (by omega) hh hz hx C.2.2.1
    obtain ⟨fb, row', ph', co', e2, hbits, hR'⟩ := mx_advB (qui := qui) (by omega : 61 ≤ N) C hinv hR hy
    obtain ⟨c', l', e3, hc', hl'⟩ := mx_noteFlashes (N := N) (by omega) (t := nI (t + 1)) hbits c l
    obtain ⟨nw', nfl', nph', e4, hfl, hrm'⟩ := mx_tickR (fl := nfl) (by omega : 61 ≤ N) (show t + 1 < 2 ^ 30 by omega) hh hz E hfd hinv.1 hrm
    obtain ⟨rc', rl', e5, hrc', hrl'⟩ := mx_r54 (N := N) (t := nI (t + 1)) hfl (c0 := rc) (l0 := rl) 16 0 N rc rl (by omega) (by omega) (fun p hp => by rw [if_neg (by omega)]) (fun p hp => by rw [if_neg (by omega)])
    have e5 : f_X8_run_54 N (nI (t + 1)) nfl' N (0 : Int32) rc rl = _ := e5
    have hinv' : ma_inv x per (ma_tick x per qui (fun p q => ans (p * 4 + q)) n fr to de st (ma_b x h z) S) := ma_inv_tick C.1 C.2.2.2.1 C.2.2.2.2 (ma_b_01 x h z) hinv
    obtain ⟨cnt', z', S', row'', ph'', co'', c'', l'', nw'', nfl'', nph'', rc'', rl'', d1, d2, d3⟩ := mx_runs hN hh hT hx C E hfd k (i + 1) m1 m2 (cnt + (List.range 16).countP (ma_flS x per qui (fun p q => ans (p * 4 + q)) (ma_b x h z) S)) (ma_ze x h z 16) (t + 1) _ row' ph' co' c' l' nw' nfl' nph' rc' rl' (by omega) (by omega) (by omega) (ma_ze_lt hz) (by omega) hinv' hR' hrm' (fun p hp => by rw [hrc' p hp, hc' p hp, hc p hp]) (fun p hp => by rw [hrl' p hp, hl' p hp, hl p hp])
    rw [show t + 1 + k = t + (k + 1) by omega] at d1 d2 d3
    refine ⟨cnt', z', S', row'', ph'', co'', c'', l'', nw'', nfl'', nph'', rc'', rl'', ?_, ?_, d3⟩
    · rw [f_X5_run_12, if_neg (nI_ge (show i < T by omega) (by omega)), e1, Option.bind_some, e2, Option.bind_some, nI_1, e3, Option.bind_some, nI_1]
      show f_X5_run_12 N (nI h) (nI (ms_L x).length) (nI n) places per qui ans froms delays tos st (nI T) m1 (nI cnt + nI _) (nI (i + 1)) (nI (t + 1)) (nI (ma_ze x h z 16)) row' ph' co' c' l' = _
      rw [nI_add]
      exact d1
    · rw [f_X8_run_25, if_neg (nI_ge (show i < T by omega) (by omega)), if_pos rfl, e4, Option.bind_some]
      show ((f_X8_run_54 N (nI (t + 1)) nfl' N (0 : Int32) rc rl).bind _) = _
      rw [e5, Option.bind_some, nI_1]
      show f_X8_run_25 N (0 : Int32) (nI h) nT np nq anR (nI n) cap fromsR tosR delaysR strs (nI T) m2 (nI cnt + nI _) (nI (i + 1)) (lN (ma_ze x h z 16)) (nI (t + 1)) nw' nfl' nph' rc' rl' = _
      rw [nI_add]
      exact d2

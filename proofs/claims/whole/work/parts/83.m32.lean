/-! rows of mine (pure): ranges; noise, seed, run agree -/
theorem mx_range {N : Nat} (v : Int32) (lo hi : Nat) (hlh : lo ≤ hi) (hhi : hi < 2 ^ 31) : (f_X5_checkRange N v (nI lo) (nI hi) = some (.inl "java/lang/IllegalArgumentException") ∧ f_X8_in N v.toInt64 (lN lo) (lN hi) = some 0) ∨ ∃ k, lo ≤ k ∧ k ≤ hi ∧ v = nI k ∧ f_X5_checkRange N v (nI lo) (nI hi) = some (.inr ()) ∧ f_X8_in N v.toInt64 (lN lo) (lN hi) = some 1 := by
  have hlo : lo < 2 ^ 31 := by omega
  unfold f_X5_checkRange
  rw [mx_in, lN_toInt hlo, lN_toInt hhi]
  rcases i32_cases v with hv | ⟨k, hk, rfl⟩
  · have hv0 := hv
    rw [Int32.lt_iff_toInt_lt] at hv0
    have e0 : (0 : Int32).toInt = 0 := by decide
    refine Or.inl ⟨?_, by rw [if_neg (by omega)]⟩
    rw [if_pos (show v < nI lo by rw [Int32.lt_iff_toInt_lt, nI_toInt hlo]; omega)]
  · rw [nI_toInt hk]
    by_cases h1 : k < lo
    · refine Or.inl ⟨?_, by rw [if_neg (by omega)]⟩
      rw [if_pos (nI_lt h1 hlo)]
    · by_cases h2 : k ≤ hi
      · refine Or.inr ⟨k, by omega, h2, rfl, ?_, by rw [if_pos (by omega)]⟩
        rw [if_neg (nI_nlt (by omega) hk), if_pos (nI_le h2 hhi)]
      · refine Or.inl ⟨?_, by rw [if_neg (by omega)]⟩
        rw [if_neg (nI_nlt (by omega) hk), if_neg (nI_ge (by omega) hk)]
theorem ca_noise {N h : Nat} (hh : h < 100) (out : Nat → Int64) (v1 : Int32) : ∃ (k v : Int32) (out' : Nat → Int64) (h' : Nat), h' < 100 ∧ f_L_noise N (nI h) out v1 = some (k, nI h', out') ∧ f_X8_noise N (nI h) v1 = some (v, k, nI h') ∧ (k = 0 → out' 0 = v.toInt64) := by
  rcases mx_range (N := N) v1 0 99 (by omega) (by omega) with ⟨e1, e2⟩ | ⟨m, -, hm, rfl, e1, e2⟩
  · have e1 : f_X5_checkRange N v1 (0 : Int32) (99 : Int32) = _ := e1
    have e2 : f_X8_in N v1.toInt64 (0 : Int64) (99 : Int64) = _ := e2
    refine ⟨1, 0, out, h, hh, ?_, ?_, fun w => absurd w (by decide)⟩
    · unfold f_L_noise f_X5_noise
      rw [e1]
      rfl
    · unfold f_X8_noise
      rw [e2]
      rfl
  · have e1 : f_X5_checkRange N (nI m) (0 : Int32) (99 : Int32) = _ := e1
    have e2 : f_X8_in N (nI m).toInt64 (0 : Int64) (99 : Int64) = _ := e2
    refine ⟨0, nI h, vp_updL out 0 (nI h).toInt64, m, by omega, ?_, ?_, fun _ => by unfold vp_updL; rw [if_pos rfl]⟩
    · unfold f_L_noise f_X5_noise
      rw [e1]
      rfl
    · unfold f_X8_noise
      rw [e2]
      rfl
theorem ca_seed {N z : Nat} (hz : z < 2147483647) (out : Nat → Int64) (v1 : Int32) : ∃ (k v : Int32) (out' : Nat → Int64) (z' : Nat), z' < 2147483647 ∧ f_L_seed N (nI z) out v1 = some (k, nI z', out') ∧ f_X8_seed N (lN z) v1 = some (v, k, lN z') ∧ (k = 0 → out' 0 = v.toInt64) := by
  rcases mx_range (N := N) v1 1 2147483646 (by omega) (by omega) with ⟨e1, e2⟩ | ⟨m, -, hm, rfl, e1, e2⟩
  · have e1 : f_X5_checkRange N v1 (1 : Int32) (2147483646 : Int32) = _ := e1
    have e2 : f_X8_in N v1.toInt64 (1 : Int64) (2147483646 : Int64) = _ := e2
    refine ⟨1, 0, out, z, hz, ?_, ?_, fun w => absurd w (by decide)⟩
    · unfold f_L_seed f_X5_seed
      rw [e1]
      rfl
    · unfold f_X8_seed
      rw [e2]
      rfl
  · have e1 : f_X5_checkRange N (nI m) (1 : Int32) (2147483646 : Int32) = _ := e1
    have e2 : f_X8_in N (nI m).toInt64 (1 : Int64) (2147483646 : Int64) = _ := e2
    refine ⟨0, nI z, vp_updL out 0 (nI z).toInt64, m, by omega, ?_, ?_, fun _ => by unfold vp_updL; rw [if_pos rfl]⟩
    · unfold f_L_seed f_X5_seed
      rw [e1]
      rfl
    · unfold f_X8_seed
      rw [e2, Option.bind_some, if_neg (show ¬ (1 : Int32) = 0 by decide), lN_i, nI_l (by omega)]
theorem ca_run {N n cap h z t : Nat} (hN : 5100 ≤ N) (hh : h < 100) (ht : t + 500 < 2 ^ 29) (hz : z < 2147483647) {x : Int32} (hx : ∀ p, 16 ≤ p → bt x p = false) {places per qui ans froms tos delays st : Nat → Int32} {fr to de : Nat → Nat} {S : ma_S} (C : ma_C x n places ans froms tos delays st fr to de) (hinv : ma_inv x per S) {row : Int32} {ph co : Nat → Int32} (hR : ma_R row ph co S) {anR : Nat → Nat → Int32} {fromsR tosR delaysR strsR : Nat → Int32} (E : ma_E x n cap anR (fun p q => ans (p * 4 + q)) fromsR tosR delaysR strsR fr to de st) {nT np nph nq nw : Nat → Int32} (hf : ma_fd x per qui nT np nq) (hrm : ma_rm t nph nw S) {c l rc rl : Nat → Int32} (hc : ∀ p, p < 16 → rc p = c p) (hl : ∀ p, p < 16 → rl p = l p) (kn : Int32) (nfl : Nat → Int32) (out : Nat → Int64) (v1 : Int32) : ∃ (k v : Int32) (out' : Nat → Int64) (T z' : Nat) (kn' row' : Int32) (S' : ma_S) (ph' co' c' l' nw' nfl' nph' rc' rl' : Nat → Int32), T ≤ 500 ∧ z' < 2147483647 ∧ (kn' = 0 ∨ (kn' = kn ∧ S' = S)) ∧ ma_inv x per S' ∧ ma_R row' ph' co' S' ∧ ma_rm (t + T) nph' nw' S' ∧ (∀ p, p < 16 → rc' p = c' p) ∧ (∀ p, p < 16 → rl' p = l' p) ∧ f_L_run N (nI t) (nI h) (nI z) kn (nI (ms_L x).length) (nI n) places row ph co per qui ans froms delays tos st c l out v1 = some (k, nI (t + T), nI z', kn', row', ph', co', c', l', out') ∧ f_X8_run N (nI h) (lN z) (nI t) nw nfl nT nph np nq anR (nI n) cap fromsR tosR delaysR strsR rc rl v1 = some (v, k, lN z', nI (t + T), nw', nfl', nph', rc', rl') ∧ (k = 0 → out' 0 = v.toInt64) := by
  rcases mx_range (N := N) v1 1 500 (by omega) (by omega) with ⟨e1, e2⟩ | ⟨m, hm1, hm, rfl, e1, e2⟩
  · have e1 : f_X5_checkRange N v1 (1 : Int32) (500 : Int32) = _ := e1
    have e2 : f_X8_in N v1.toInt64 (1 : Int64) (500 : Int64) = _ := e2
    obtain ⟨M, rfl⟩ : ∃ j, N = j + 1 := ⟨N - 1, by omega⟩
    have e3 : ∃ y : Int32, f_X8_run_25 (M + 1) (1 : Int32) (nI h) nT np nq anR (nI n) cap fromsR tosR delaysR strsR v1 (M + 1) (0 : Int32) (0 : Int32) (lN z) (nI t) nw nfl nph rc rl = some (0, y, lN z, nI t, nw, nfl, nph, rc, rl) := by
      rw [f_X8_run_25]
      by_cases q : v1 ≤ 0
      · rw [if_pos q]; exact ⟨_, rfl⟩
      · rw [if_neg q, if_neg (by decide)]; exact ⟨_, rfl⟩
    obtain ⟨y, e3⟩ := e3
    refine ⟨1, 0, out, 0, z, kn, row, S, ph, co, c, l, nw, nfl, nph, rc, rl, by omega, hz, Or.inr ⟨rfl, rfl⟩, hinv, hR, hrm, hc, hl, ?_, ?_, fun w => absurd w (by decide)⟩
    · unfold f_L_run f_X5_run
      rw [e1]
      rfl
    · unfold f_X8_run
      rw [e2, Option.bind_some, if_pos rfl, e3]
      rfl
  · have e1 : f_X5_checkRange N (nI m) (1 : Int32) (500 : Int32) = _ := e1
    have e2 : f_X8_in N (nI m).toInt64 (1 : Int64) (500 : Int64) = _ := e2
    obtain ⟨cnt, z', S', row', ph', co', c', l', nw', nfl', nph', rc', rl', d1, d2, d3, d4, d5, d6, d7, d8⟩ := mx_runs (N := N) (by omega) hh hm hx C E hf m 0 N N 0 z t S row ph co c l nw nfl nph rc rl (by omega) (by omega) (by omega) hz (by omega) hinv hR hrm hc hl
    have d1 : f_X5_run_12 N (nI h) (nI (ms_L x).length) (nI n) places per qui ans froms delays tos st (nI m) N (0 : Int32) (0 : Int32) (nI t) (nI z) row ph co c l = _ := d1
    have d2 : f_X8_run_25 N (0 : Int32) (nI h) nT np nq anR (nI n) cap fromsR tosR delaysR strsR (nI m) N (0 : Int32) (0 : Int32) (lN z) (nI t) nw nfl nph rc rl = _ := d2
    refine ⟨0, nI cnt, vp_updL out 0 (nI cnt).toInt64, m, z', 0, row', S', ph', co', c', l', nw', nfl', nph', rc', rl', hm, d3, Or.inl rfl, d4, d5, d6, d7, d8, ?_, ?_, fun _ => by unfold vp_updL; rw [if_pos rfl]⟩
    · unfold f_L_run f_X5_run
      rw [e1, Option.bind_some]
      simp only [Sum.elim_inr]
      rw [d1]
      rfl
    · unfold f_X8_run
      rw [e2, Option.bind_some, if_neg (show ¬ (1 : Int32) = 0 by decide), d2]
      rfl

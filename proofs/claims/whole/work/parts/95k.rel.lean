/-! rows of mine: islands, stepShare agree and keep the relation -/
theorem is_loop {N l c : Nat} (hN : 1001 ≤ N) {x : Int32} {places : Nat → Int32} (hp : ∀ i, i < (ms_L x).length → places i = nI ((ms_L x).getD i 0)) {F : Nat → Nat → Bool} {fl : Nat → Int32} (W : ma_W F l c fl) {A : Nat → Nat → Int32} (hA : ∀ a b, a < 16 → b < 16 → A a b = if ma_ap F a b c then 1 else 0) : ∀ (j i s f1 f2 : Nat), i + j = (ms_L x).length → j < f1 → j < f2 → ∃ v a b, f_X4_countBreaks_4 N (nI (ms_L x).length) places (nI l) (nI c) fl f1 (nI s) (nI i) = some (nI v, a) ∧ f_X8_islands_19 N A (nI (ms_L x).length) (fun i => nI ((ms_L x).getD i 0)) f2 (nI s) (nI i) = some (nI v, b) ∧ v ≤ s + j := by
  have hlen : (ms_L x).length ≤ 16 := ms_l_len x 16
  have hs : f_Jx4a65c_size_8abf5 N (nI (ms_L x).length) = some (nI (ms_L x).length) := rfl
  intro j
  induction j with
  | zero =>
    intro i s f1 f2 hi h1 h2
    obtain ⟨f1, rfl⟩ : ∃ g, f1 = g + 1 := ⟨f1 - 1, by omega⟩
    obtain ⟨f2, rfl⟩ : ∃ g, f2 = g + 1 := ⟨f2 - 1, by omega⟩
    rw [f_X4_countBreaks_4.eq_def, f_X8_islands_19.eq_def]
    simp only []
    rw [hs, Option.bind_some, if_pos (show nI (ms_L x).length ≤ nI i from nI_le (by omega) (by omega)), if_pos (show nI (ms_L x).length ≤ nI i from nI_le (by omega) (by omega))]
    exact ⟨_, _, _, rfl, rfl, by omega⟩
  | succ j ih =>
    intro i s f1 f2 hi h1 h2
    obtain ⟨f1, rfl⟩ : ∃ g, f1 = g + 1 := ⟨f1 - 1, by omega⟩
    obtain ⟨f2, rfl⟩ : ∃ g, f2 = g + 1 := ⟨f2 - 1, by omega⟩
    have hil : i < (ms_L x).length := by omega
    have hg := (ms_l_getD (x := x) (p := 16) hil).1
    have hml : (i + 1) % (ms_L x).length < (ms_L x).length := Nat.mod_lt _ (by omega)
    have hgn := (ms_l_getD (x := x) (p := 16) hml).1
    have hg : (ms_L x).getD i 0 < 16 := hg
    have hgn : (ms_L x).getD ((i + 1) % (ms_L x).length) 0 < 16 := hgn
    have hg0 : ∀ {q : Nat} {β : Type} (y : Option β), q < (ms_L x).length → zk_g (nI ((ms_L x).getD q 0)) 16 y = y := fun {q β} y hq => mg_g (show (ms_L x).getD q 0 < 16 from (ms_l_getD (x := x) (p := 16) hq).1) (by omega) y
    have hc0 : ∀ {q : Nat}, q < (ms_L x).length → (nI ((ms_L x).getD q 0)).toNatClampNeg = (ms_L x).getD q 0 := fun {q} hq => nI_clamp (by have : (ms_L x).getD q 0 < 16 := (ms_l_getD (x := x) (p := 16) hq).1; omega)
    have ks := mx_keepsStep hN hg hgn W
    have eA := hA _ _ hg hgn
    have e2 : f_X8_islands_19 N A (nI (ms_L x).length) (fun i => nI ((ms_L x).getD i 0)) (f2 + 1) (nI s) (nI i) = f_X8_islands_19 N A (nI (ms_L x).length) (fun i => nI ((ms_L x).getD i 0)) f2 (nI (s + if ma_ap F ((ms_L x).getD i 0) ((ms_L x).getD ((i + 1) % (ms_L x).length) 0) c then 1 else 0)) (nI (i + 1)) := by
      rw [f_X8_islands_19.eq_def]
      simp only []
      rw [hs, Option.bind_some, if_neg (show ¬ nI (ms_L x).length ≤ nI i from nI_ge hil (by omega)), nI_1, Option.bind_some, pk_rem (by omega) (by omega) (by omega), nI_clamp (n := i) (by omega), nI_clamp (n := (ms_L x).length) (by omega), nI_clamp (n := (i + 1) % (ms_L x).length) (by omega), mg_g hil (by omega), hg0 _ hil, mg_g hml (by omega), hg0 _ hml, hc0 hil, hc0 hml, eA]
      unfold zk_nz
      rw [if_neg (nI_ne0 (by omega) (by omega))]
      split
      · rw [if_neg (show ¬ (1 : Int32) = 0 by decide), nI_1]
      · rw [if_pos rfl, show nI s + (0 : Int32) = nI s from by simp, Nat.add_zero s]
    have e1 : f_X4_countBreaks_4 N (nI (ms_L x).length) places (nI l) (nI c) fl (f1 + 1) (nI s) (nI i) = f_X4_countBreaks_4 N (nI (ms_L x).length) places (nI l) (nI c) fl f1 (nI (s + if ma_ap F ((ms_L x).getD i 0) ((ms_L x).getD ((i + 1) % (ms_L x).length) 0) c then 1 else 0)) (nI (i + 1)) := by
      rw [f_X4_countBreaks_4.eq_def]
      simp only []
      rw [if_neg (show ¬ nI (ms_L x).length ≤ nI i from nI_ge hil (by omega)), nI_1]
      by_cases hl : i + 1 = (ms_L x).length
      · have hm0 : (i + 1) % (ms_L x).length = 0 := by rw [hl]; exact Nat.mod_self _
        rw [hm0] at ks ⊢
        rw [if_pos (show nI (ms_L x).length ≤ nI (i + 1) from nI_le (by omega) (by omega)), mg_g (show i < 16 by omega) (by omega), nI_clamp (n := i) (by omega), show (0 : Int32).toNatClampNeg = 0 by decide, hp i hil, hp 0 (by omega), ks, Option.bind_some]
        split
        · rw [if_pos rfl, nI_1]
        · rw [if_neg (by decide), Nat.add_zero s]
      · have hm1 : (i + 1) % (ms_L x).length = i + 1 := Nat.mod_eq_of_lt (by omega)
        rw [hm1] at ks ⊢
        rw [if_neg (show ¬ nI (ms_L x).length ≤ nI (i + 1) from nI_ge (by omega) (by omega)), mg_g (show i < 16 by omega) (by omega), mg_g (show i + 1 < 16 by omega) (by omega), nI_clamp (n := i) (by omega), nI_clamp (n := i + 1) (by omega), hp i hil, hp (i + 1) (by omega), ks, Option.bind_some]
        split
        · rw [if_pos rfl, nI_1]
        · rw [if_neg (by decide), Nat.add_zero s]
    rw [e1, e2]
    obtain ⟨v, a, b, g1, g2, g3⟩ := ih (i + 1) (s + if ma_ap F ((ms_L x).getD i 0) ((ms_L x).getD ((i + 1) % (ms_L x).length) 0) c then 1 else 0) f1 f2 (by omega) (by omega) (by omega)
    exact ⟨v, a, b, g1, g2, by split at g3 <;> omega⟩
theorem sh_loop {N l c : Nat} (hN : 1001 ≤ N) {x : Int32} {places : Nat → Int32} (hp : ∀ i, i < (ms_L x).length → places i = nI ((ms_L x).getD i 0)) {F : Nat → Nat → Bool} {fl : Nat → Int32} (W : ma_W F l c fl) {A : Nat → Nat → Int32} (hA : ∀ a b, a < 16 → b < 16 → A a b = if ma_ap F a b c then 1 else 0) (hl0 : 1 ≤ (ms_L x).length) : ∀ (j i s f1 f2 : Nat) (lr : Int32), i + j = (ms_L x).length → j < f1 → j < f2 → ∃ v a b d, f_X4_countWithFirst_4 N (nI (ms_L x).length) places (nI l) (nI c) fl f1 (nI s) (nI i) = some (nI v, a) ∧ f_X8_stepShare_50 N A (nI (ms_L x).length) (fun i => nI ((ms_L x).getD i 0)) f2 (nI s) (nI i) lr = some (nI v, b, d, FP.fdiv (FP.i2f (nI v)) (FP.i2f (nI (ms_L x).length))) := by
  have hlen : (ms_L x).length ≤ 16 := ms_l_len x 16
  have hs : f_Jx4a65c_size_8abf5 N (nI (ms_L x).length) = some (nI (ms_L x).length) := rfl
  intro j
  induction j with
  | zero =>
    intro i s f1 f2 lr hi h1 h2
    obtain ⟨f1, rfl⟩ : ∃ g, f1 = g + 1 := ⟨f1 - 1, by omega⟩
    obtain ⟨f2, rfl⟩ : ∃ g, f2 = g + 1 := ⟨f2 - 1, by omega⟩
    have hn : vf_n32 (FP.fdiv (FP.i2f (nI s)) (FP.i2f (nI (ms_L x).length))) := by
      apply (fs_n _).mpr
      apply (FP.Core.notNaN_iff32 _).mp
      exact FP.Core.fdiv_out (FP.Core.i2f_fin _).notNaN (FP.Core.i2f_fin _) (fun z => FP.Core.i2f_ne_zero (nI_ne0 (by omega) (by omega)) ((FP.Core.zero_bits232 _).mp z))
    rw [f_X4_countWithFirst_4.eq_def, f_X8_stepShare_50.eq_def]
    simp only []
    rw [mk_hasNext, show i = (ms_L x).length by omega, if_pos (nI_le (Nat.le_refl _) (by omega)), if_pos rfl, Option.bind_some, if_pos rfl, hs, Option.bind_some, fs_g32 hn]
    exact ⟨_, _, _, _, rfl, rfl⟩
  | succ j ih =>
    intro i s f1 f2 lr hi h1 h2
    obtain ⟨f1, rfl⟩ : ∃ g, f1 = g + 1 := ⟨f1 - 1, by omega⟩
    obtain ⟨f2, rfl⟩ : ∃ g, f2 = g + 1 := ⟨f2 - 1, by omega⟩
    have hil : i < (ms_L x).length := by omega
    have hg : (ms_L x).getD i 0 < 16 := (ms_l_getD (x := x) (p := 16) hil).1
    have hgn : (ms_L x).getD 0 0 < 16 := (ms_l_getD (x := x) (p := 16) hl0).1
    have hg0 : ∀ {q : Nat} {β : Type} (y : Option β), q < (ms_L x).length → zk_g (nI ((ms_L x).getD q 0)) 16 y = y := fun {q β} y hq => mg_g (show (ms_L x).getD q 0 < 16 from (ms_l_getD (x := x) (p := 16) hq).1) (by omega) y
    have hc0 : ∀ {q : Nat}, q < (ms_L x).length → (nI ((ms_L x).getD q 0)).toNatClampNeg = (ms_L x).getD q 0 := fun {q} hq => nI_clamp (by have : (ms_L x).getD q 0 < 16 := (ms_l_getD (x := x) (p := 16) hq).1; omega)
    have ks := mx_keepsStep hN hgn hg W
    have eA := hA _ _ hgn hg
    have z0 : (0 : Int32).toNatClampNeg = 0 := by decide
    have hz0 : ∀ {β : Type} (y : Option β), zk_g (0 : Int32) (ms_L x).length y = y := fun y => mg_g (show 0 < (ms_L x).length by omega) (by omega) y
    have e2 : f_X8_stepShare_50 N A (nI (ms_L x).length) (fun i => nI ((ms_L x).getD i 0)) (f2 + 1) (nI s) (nI i) lr = f_X8_stepShare_50 N A (nI (ms_L x).length) (fun i => nI ((ms_L x).getD i 0)) f2 (nI (s + if ma_ap F ((ms_L x).getD 0 0) ((ms_L x).getD i 0) c then 0 else 1)) (nI (i + 1)) (nI i) := by
      rw [f_X8_stepShare_50.eq_def]
      simp only []
      rw [mk_hasNext, if_neg (fun q => absurd ((nI_eq (by omega) (by omega)).mp q) (show ¬ i = (ms_L x).length by omega)), Option.bind_some, if_neg (show ¬ (1 : Int32) = 0 by decide), nI_1, nI_1, z0, nI_clamp (n := i) (by omega), nI_clamp (n := (ms_L x).length) (by omega), mg_g hil (by omega), hz0, hg0 _ hl0, hg0 _ hil, hc0 hil, hc0 hl0, eA]
      split
      · rw [if_neg (show ¬ (1 : Int32) = 0 by decide), show nI s + (0 : Int32) = nI s from by simp, Nat.add_zero s]
      · rw [if_pos rfl]
    have e1 : f_X4_countWithFirst_4 N (nI (ms_L x).length) places (nI l) (nI c) fl (f1 + 1) (nI s) (nI i) = f_X4_countWithFirst_4 N (nI (ms_L x).length) places (nI l) (nI c) fl f1 (nI (s + if ma_ap F ((ms_L x).getD 0 0) ((ms_L x).getD i 0) c then 0 else 1)) (nI (i + 1)) := by
      rw [f_X4_countWithFirst_4.eq_def]
      simp only []
      rw [if_neg (show ¬ nI (ms_L x).length ≤ nI i from nI_ge hil (by omega)), nI_1, mg_g (show i < 16 by omega) (by omega), nI_clamp (n := i) (by omega), z0, hp i hil, hp 0 (by omega), ks, Option.bind_some]
      split
      · rw [if_pos rfl, Nat.add_zero s]
      · rw [if_neg (by decide), nI_1]
    rw [e1, e2]
    exact ih (i + 1) _ f1 f2 _ (by omega) (by omega) (by omega)
set_option maxHeartbeats 4000000 in
theorem ca_islands {N n cap h t0 z : Nat} (hN : 5100 ≤ N) (hh : h < 100) (ht : t0 < 2 ^ 29) (hz : z < 2147483647) {x : Int32} {places per qui ans froms tos delays st : Nat → Int32} {fr to de : Nat → Nat} {S : ma_S} (C : ma_C x n places ans froms tos delays st fr to de) (hinv : ma_inv x per S) {X : Nat → ma_S} (hX : X = ma_X x per qui (fun p q => ans (p * 4 + q)) n fr to de st S) {row : Int32} {ph co : Nat → Int32} (hR : ma_R row ph co S) {kn en lt ct : Int32} {fl : Nat → Int32} (hA : ma_ahead x per qui (fun p q => ans (p * 4 + q)) X kn en lt ct fl) {anR : Nat → Nat → Int32} {fromsR tosR delaysR strsR : Nat → Int32} (E : ma_E x n cap anR (fun p q => ans (p * 4 + q)) fromsR tosR delaysR strsR fr to de st) {nT np nph nq nw : Nat → Int32} (hf : ma_fd x per qui nT np nq) (hrm : ma_rm t0 nph nw S) (br : Int32) (bp bc : Nat → Int32) (frw : Int32) (fp fc : Nat → Int32) (a2 a3 a4 : Int32) (b2 b4 b6 b8 b9 : Nat → Int32) (a6 : Int32) (c1 c2 c3 c4 c5 : Nat → Int32) (a7 : Int32) (d1 d2 d3 d4 d5 d6 sf B : Nat → Int32) (A : Nat → Nat → Int32) (out : Nat → Int64) (thr : Int32) : ∃ (k v : Int32) (out' : Nat → Int64), ∃ (kn' en' lt' ct' br' : Int32) (bp' bc' : Nat → Int32) (fr' : Int32) (fp' fc' fl' : Nat → Int32), ∃ (lead cyc st' : Int32) (aT ap aph aq aw : Nat → Int32) (sl : Int32) (sT sp sph sq sw : Nat → Int32) (ft : Int32) (fT fp2 fph fq fw ff sf' B' : Nat → Int32) (A' : Nat → Nat → Int32), ma_ahead x per qui (fun p q => ans (p * 4 + q)) X kn' en' lt' ct' fl' ∧ f_L_islands N (nI h) kn en lt ct row br ph bp co bc frw fp fc (nI (ms_L x).length) (nI n) places per qui ans froms delays tos st fl out = some (k, kn', en', lt', ct', br', bp', bc', fr', fp', fc', fl', out') ∧ f_X8_islands N thr (nI h) (lN z) a2 a3 (nI t0) nT a4 b2 np b4 nph b6 nq b8 b9 nw a6 c1 c2 c3 c4 c5 a7 d1 d2 d3 d4 d5 d6 anR (nI n) cap fromsR tosR delaysR strsR sf B A = some (v, k, lN z, lead, cyc, st', aT, ap, aph, aq, aw, sl, sT, sp, sph, sq, sw, ft, fT, fp2, fph, fq, fw, ff, sf', B', A') ∧ (k = 0 → out' 0 = v.toInt64) := by
  have hlen : (ms_L x).length ≤ 16 := ms_l_len x 16
  have hb : zs_b nT 16 = ms_L x := zb_L (fun q hq => (hf q hq).1) 16 (Nat.le_refl _)
  obtain ⟨kn', en', lt', ct', br', bp', bc', fr', fp', fc', fl', lead, cyc, st', aT, ap, aph, aq, aw, sl, sT, sp, sph, sq, sw, ft, fT, fp2, fph, fq, fw, ff, sf', B', A', hA', hw⟩ := ca_ways hN hh ht hz C hinv hX hR hA E hf hrm br bp bc frw fp fc a2 a3 a4 b2 b4 b6 b8 b9 a6 c1 c2 c3 c4 c5 a7 d1 d2 d3 d4 d5 d6 sf B A 1
  rcases hw with ⟨e1, e2⟩ | ⟨e1, e2⟩ | ⟨-, l, c, e1, e2, q1, W, rfl, rfl, rfl, rfl, rfl, q4, q5, q6, q7⟩
  · refine ⟨1, 0, out, kn', en', lt', ct', br', bp', bc', fr', fp', fc', fl', lead, cyc, st', aT, ap, aph, aq, aw, sl, sT, sp, sph, sq, sw, ft, fT, fp2, fph, fq, fw, ff, sf', B', A', hA', ?_, ?_, fun w => absurd w (by decide)⟩
    · unfold f_L_islands f_X5_islands
      rw [e1, Option.bind_some]
      rfl
    · unfold f_X8_islands
      rw [f_X8_islands_0.eq_def]
      simp only []
      rw [e2, Option.bind_some]
      rfl
  · refine ⟨2, 0, out, kn', en', lt', ct', br', bp', bc', fr', fp', fc', fl', lead, cyc, st', aT, ap, aph, aq, aw, sl, sT, sp, sph, sq, sw, ft, fT, fp2, fph, fq, fw, ff, sf', B', A', hA', ?_, ?_, fun w => absurd w (by decide)⟩
    · unfold f_L_islands f_X5_islands
      rw [e1, Option.bind_some]
      rfl
    · unfold f_X8_islands
      rw [f_X8_islands_0.eq_def]
      simp only []
      rw [e2, Option.bind_some]
      rfl
  · obtain ⟨v, a, b, g1, g2, g3⟩ := is_loop (N := N) (by omega) C.2.2.1 W q7 (ms_L x).length 0 0 N N (by omega) (by omega) (by omega)
    have g1 : f_X4_countBreaks_4 N (nI (ms_L x).length) places (nI l) (nI c) fl' N (0 : Int32) (0 : Int32) = _ := g1
    have g2 : f_X8_islands_19 N A' (nI (ms_L x).length) (fun i => nI ((ms_L x).getD i 0)) N (0 : Int32) (0 : Int32) = _ := g2
    have gb : f_X4_countBreaks N (nI (ms_L x).length) places (nI l) (nI c) fl' = some (nI v) := by
      unfold f_X4_countBreaks
      rw [g1]
      rfl
    have key : ∃ w : Nat, (if nI v = 0 then (if nI (ms_L x).length ≤ 0 then nI v else (1 : Int32)) else nI v) = nI w ∧ f_X8_islands_15 N A' (nI (ms_L x).length) (fun i => nI ((ms_L x).getD i 0)) 1 = some (nI w) := by
      rw [f_X8_islands_15.eq_def]
      simp only []
      rw [g2, Option.bind_some]
      by_cases h0 : (ms_L x).length = 0
      · have he : f_Jx4a65c_isEmpty_aae02 N (nI (ms_L x).length) = some 1 := by rw [h0]; rfl
        have hv0 : v = 0 := by omega
        subst hv0
        rw [he, Option.bind_some]
        refine ⟨0, ?_, ?_⟩
        · rw [h0]
          decide
        · rw [if_neg (show ¬ (1 : Int32) = 0 by decide)]
          rfl
      · have he : f_Jx4a65c_isEmpty_aae02 N (nI (ms_L x).length) = some 0 := by
          unfold f_Jx4a65c_isEmpty_aae02
          rw [if_neg (nI_ne0 (by omega) (by omega))]
        rw [he, Option.bind_some, if_pos rfl]
        have hn : ¬ nI (ms_L x).length ≤ (0 : Int32) := nI_ge (a := 0) (by omega) (by omega)
        rw [if_neg hn]
        by_cases v0 : v = 0
        · subst v0
          exact ⟨1, rfl, rfl⟩
        · rw [if_neg (nI_ne0 (by omega) (by omega))]
          refine ⟨v, rfl, ?_⟩
          by_cases v1 : v = 1
          · subst v1
            rfl
          · rw [if_pos (show (1 : Int32) < nI v from nI_lt (a := 1) (by omega) (by omega))]
    obtain ⟨w, k1, k2⟩ := key
    refine ⟨0, nI w, vp_updL out 0 (nI w).toInt64, kn', en', nI l, nI c, br', bp', bc', fr', fp', fc', fl', nI l, nI c, st', aT, ap, aph, aq, aw, sl, sT, sp, sph, sq, sw, nI (t0 + (l + c + c)), fT, fp2, fph, fq, fw, ff, sf', B', A', hA', ?_, ?_, fun _ => by unfold vp_updL; rw [if_pos rfl]⟩
    · unfold f_L_islands f_X5_islands
      rw [e1, Option.bind_some]
      simp only [Sum.elim_inr]
      rw [gb, Option.bind_some]
      rw [← k1]
      by_cases v0 : nI v = 0
      · by_cases l0 : nI (ms_L x).length ≤ (0 : Int32)
        · simp only [if_pos v0, if_pos l0]
          rfl
        · simp only [if_pos v0, if_neg l0]
          rfl
      · simp only [if_neg v0]
        rfl
    · unfold f_X8_islands
      rw [f_X8_islands_0.eq_def]
      simp only []
      rw [hb, e2, Option.bind_some]
      simp only [if_true]
      rw [Option.bind_some]
      simp only [Sum.elim_inr]
      rw [k2, Option.bind_some]
set_option maxHeartbeats 4000000 in
theorem ca_stepShare {N n cap h t0 z : Nat} (hN : 5100 ≤ N) (hh : h < 100) (ht : t0 < 2 ^ 29) (hz : z < 2147483647) {x : Int32} {places per qui ans froms tos delays st : Nat → Int32} {fr to de : Nat → Nat} {S : ma_S} (C : ma_C x n places ans froms tos delays st fr to de) (hinv : ma_inv x per S) {X : Nat → ma_S} (hX : X = ma_X x per qui (fun p q => ans (p * 4 + q)) n fr to de st S) {row : Int32} {ph co : Nat → Int32} (hR : ma_R row ph co S) {kn en lt ct : Int32} {fl : Nat → Int32} (hA : ma_ahead x per qui (fun p q => ans (p * 4 + q)) X kn en lt ct fl) {anR : Nat → Nat → Int32} {fromsR tosR delaysR strsR : Nat → Int32} (E : ma_E x n cap anR (fun p q => ans (p * 4 + q)) fromsR tosR delaysR strsR fr to de st) {nT np nph nq nw : Nat → Int32} (hf : ma_fd x per qui nT np nq) (hrm : ma_rm t0 nph nw S) (br : Int32) (bp bc : Nat → Int32) (frw : Int32) (fp fc : Nat → Int32) (a2 a3 a4 : Int32) (b2 b4 b6 b8 b9 : Nat → Int32) (a6 : Int32) (c1 c2 c3 c4 c5 : Nat → Int32) (a7 : Int32) (d1 d2 d3 d4 d5 d6 sf B : Nat → Int32) (A : Nat → Nat → Int32) (out : Nat → UInt64) (thr : Int32) : ∃ (k : Int32) (v : UInt32) (out' : Nat → UInt64), ∃ (kn' en' lt' ct' br' : Int32) (bp' bc' : Nat → Int32) (fr' : Int32) (fp' fc' fl' : Nat → Int32), ∃ (lead cyc st' : Int32) (aT ap aph aq aw : Nat → Int32) (sl : Int32) (sT sp sph sq sw : Nat → Int32) (ft : Int32) (fT fp2 fph fq fw ff sf' B' : Nat → Int32) (A' : Nat → Nat → Int32), ma_ahead x per qui (fun p q => ans (p * 4 + q)) X kn' en' lt' ct' fl' ∧ f_L_stepShare N (nI h) kn en (nI (ms_L x).length) (nI n) lt ct row br ph bp co bc frw fp fc places per qui ans froms delays tos st fl out = some (k, kn', en', lt', ct', br', bp', bc', fr', fp', fc', fl', out') ∧ f_X8_stepShare N thr (nI h) (lN z) a2 a3 (nI t0) nT a4 b2 np b4 nph b6 nq b8 b9 nw a6 c1 c2 c3 c4 c5 a7 d1 d2 d3 d4 d5 d6 anR (nI n) cap fromsR tosR delaysR strsR sf B A = some (v, k, lN z, lead, cyc, st', aT, ap, aph, aq, aw, sl, sT, sp, sph, sq, sw, ft, fT, fp2, fph, fq, fw, ff, sf', B', A') ∧ (k = 0 → vf_n64 (FP.f2d v) ∧ Op.cmpValue (FP.dcmp (out' 0) (FP.f2d v)) CmpOp.l = 0) := by
  have hlen : (ms_L x).length ≤ 16 := ms_l_len x 16
  have hb : zs_b nT 16 = ms_L x := zb_L (fun q hq => (hf q hq).1) 16 (Nat.le_refl _)
  by_cases h0 : h = 0
  · subst h0
    have n0 : nI 0 ≤ (0 : Int32) := by decide
    have cn : f_X5_checkNoNoise N (nI 0) = some (.inr ()) := by unfold f_X5_checkNoNoise; rw [if_pos n0]
    by_cases hl0 : 1 ≤ (ms_L x).length
    · have he : f_Jx4a65c_isEmpty_aae02 N (nI (ms_L x).length) = some 0 := by
        unfold f_Jx4a65c_isEmpty_aae02
        rw [if_neg (nI_ne0 (by omega) (by omega))]
      obtain ⟨kn', en', lt', ct', br', bp', bc', fr', fp', fc', fl', lead, cyc, st', aT, ap, aph, aq, aw, sl, sT, sp, sph, sq, sw, ft, fT, fp2, fph, fq, fw, ff, sf', B', A', hA', hw⟩ := ca_ways hN hh ht hz C hinv hX hR hA E hf hrm br bp bc frw fp fc a2 a3 a4 b2 b4 b6 b8 b9 a6 c1 c2 c3 c4 c5 a7 d1 d2 d3 d4 d5 d6 sf B A 1
      rcases hw with ⟨e1, e2⟩ | ⟨e1, e2⟩ | ⟨-, l, c, e1, e2, q1, W, rfl, rfl, rfl, rfl, rfl, q4, q5, q6, q7⟩
      · refine ⟨1, FP.fconst0, out, kn', en', lt', ct', br', bp', bc', fr', fp', fc', fl', lead, cyc, st', aT, ap, aph, aq, aw, sl, sT, sp, sph, sq, sw, ft, fT, fp2, fph, fq, fw, ff, sf', B', A', hA', ?_, ?_, fun w => absurd w (by decide)⟩
        · unfold f_L_stepShare f_X5_stepShare
          rw [cn, Option.bind_some]
          simp only [Sum.elim_inr]
          rw [if_pos (show (1 : Int32) ≤ nI (ms_L x).length from nI_le (a := 1) hl0 (by omega)), e1, Option.bind_some]
          rfl
        · unfold f_X8_stepShare
          rw [f_X8_stepShare_0.eq_def]
          simp only []
          rw [if_pos n0, Option.bind_some]
          simp only [Sum.elim_inr]
          rw [f_X8_stepShare_19.eq_def]
          simp only []
          rw [hb, he, Option.bind_some, if_pos rfl, e2, Option.bind_some]
          rfl
      · refine ⟨2, FP.fconst0, out, kn', en', lt', ct', br', bp', bc', fr', fp', fc', fl', lead, cyc, st', aT, ap, aph, aq, aw, sl, sT, sp, sph, sq, sw, ft, fT, fp2, fph, fq, fw, ff, sf', B', A', hA', ?_, ?_, fun w => absurd w (by decide)⟩
        · unfold f_L_stepShare f_X5_stepShare
          rw [cn, Option.bind_some]
          simp only [Sum.elim_inr]
          rw [if_pos (show (1 : Int32) ≤ nI (ms_L x).length from nI_le (a := 1) hl0 (by omega)), e1, Option.bind_some]
          rfl
        · unfold f_X8_stepShare
          rw [f_X8_stepShare_0.eq_def]
          simp only []
          rw [if_pos n0, Option.bind_some]
          simp only [Sum.elim_inr]
          rw [f_X8_stepShare_19.eq_def]
          simp only []
          rw [hb, he, Option.bind_some, if_pos rfl, e2, Option.bind_some]
          rfl
      · obtain ⟨v, a, b, d, g1, g2⟩ := sh_loop (N := N) (by omega) C.2.2.1 W q7 hl0 (ms_L x).length 0 0 N N (-1) (by omega) (by omega) (by omega)
        have g1 : f_X4_countWithFirst_4 N (nI (ms_L x).length) places (nI l) (nI c) fl' N (0 : Int32) (0 : Int32) = _ := g1
        have g2 : f_X8_stepShare_50 N A' (nI (ms_L x).length) (fun i => nI ((ms_L x).getD i 0)) N (0 : Int32) (0 : Int32) (-1) = _ := g2
        have gb : f_X4_countWithFirst N (nI (ms_L x).length) places (nI l) (nI c) fl' = some (nI v) := by
          unfold f_X4_countWithFirst
          rw [g1]
          rfl
        have hn : vf_n32 (FP.fdiv (FP.i2f (nI v)) (FP.i2f (nI (ms_L x).length))) := by
          apply (fs_n _).mpr
          apply (FP.Core.notNaN_iff32 _).mp
          exact FP.Core.fdiv_out (FP.Core.i2f_fin _).notNaN (FP.Core.i2f_fin _) (fun z => FP.Core.i2f_ne_zero (nI_ne0 (by omega) (by omega)) ((FP.Core.zero_bits232 _).mp z))
        have hd : FP.dIsNaN (FP.f2d (FP.fdiv (FP.i2f (nI v)) (FP.i2f (nI (ms_L x).length)))) = false := (FP.f2d_nan _).trans (fs_nn hn)
        refine ⟨0, FP.fdiv (FP.i2f (nI v)) (FP.i2f (nI (ms_L x).length)), vf_upd out 0 (FP.f2d (FP.fdiv (FP.i2f (nI v)) (FP.i2f (nI (ms_L x).length)))), kn', en', nI l, nI c, br', bp', bc', fr', fp', fc', fl', nI l, nI c, st', aT, ap, aph, aq, aw, sl, sT, sp, sph, sq, sw, nI (t0 + (l + c + c)), fT, fp2, fph, fq, fw, ff, sf', B', A', hA', ?_, ?_, fun _ => ⟨fl_n64 hd, ?_⟩⟩
        · unfold f_L_stepShare f_X5_stepShare
          rw [cn, Option.bind_some]
          simp only [Sum.elim_inr]
          rw [if_pos (show (1 : Int32) ≤ nI (ms_L x).length from nI_le (a := 1) hl0 (by omega)), e1, Option.bind_some]
          simp only [Sum.elim_inr]
          rw [gb, Option.bind_some, fs_g32 hn, Option.bind_some]
          simp only [Sum.elim_inr]
          rw [fs_g64 hn]
          rfl
        · unfold f_X8_stepShare
          rw [f_X8_stepShare_0.eq_def]
          simp only []
          rw [if_pos n0, Option.bind_some]
          simp only [Sum.elim_inr]
          rw [f_X8_stepShare_19.eq_def]
          simp only []
          rw [hb, he, Option.bind_some, if_pos rfl, e2, Option.bind_some]
          simp only [if_true]
          rw [Option.bind_some]
          simp only [Sum.elim_inr]
          rw [g2, Option.bind_some]
        · have hu : vf_upd out 0 (FP.f2d (FP.fdiv (FP.i2f (nI v)) (FP.i2f (nI (ms_L x).length)))) 0 = FP.f2d (FP.fdiv (FP.i2f (nI v)) (FP.i2f (nI (ms_L x).length))) := by simp [vf_upd]
          rw [hu]
          exact fl_eq hd
    · have hz0 : (ms_L x).length = 0 := by omega
      have he : f_Jx4a65c_isEmpty_aae02 N (nI (ms_L x).length) = some 1 := by rw [hz0]; rfl
      refine ⟨2, FP.fconst0, out, kn, en, lt, ct, br, bp, bc, frw, fp, fc, fl, a2, a3, a4, b2, b4, b6, b8, b9, a6, c1, c2, c3, c4, c5, a7, d1, d2, d3, d4, d5, d6, sf, B, A, hA, ?_, ?_, fun w => absurd w (by decide)⟩
      · unfold f_L_stepShare f_X5_stepShare
        rw [cn, Option.bind_some]
        simp only [Sum.elim_inr]
        rw [if_neg (show ¬ (1 : Int32) ≤ nI (ms_L x).length by rw [hz0]; decide), Option.bind_some]
        rfl
      · unfold f_X8_stepShare
        rw [f_X8_stepShare_0.eq_def]
        simp only []
        rw [if_pos n0, Option.bind_some]
        simp only [Sum.elim_inr]
        rw [f_X8_stepShare_19.eq_def]
        simp only []
        rw [hb, he, Option.bind_some, if_neg (show ¬ (1 : Int32) = 0 by decide), Option.bind_some]
        rfl
  · have n0 : ¬ nI h ≤ (0 : Int32) := nI_ge (a := 0) (by omega) (by omega)
    have cn : f_X5_checkNoNoise N (nI h) = some (.inl "java/lang/UnsupportedOperationException") := by unfold f_X5_checkNoNoise; rw [if_neg n0]
    refine ⟨1, FP.fconst0, out, kn, en, lt, ct, br, bp, bc, frw, fp, fc, fl, a2, a3, a4, b2, b4, b6, b8, b9, a6, c1, c2, c3, c4, c5, a7, d1, d2, d3, d4, d5, d6, sf, B, A, hA, ?_, ?_, fun w => absurd w (by decide)⟩
    · unfold f_L_stepShare f_X5_stepShare
      rw [cn, Option.bind_some]
      rfl
    · unfold f_X8_stepShare
      rw [f_X8_stepShare_0.eq_def]
      simp only []
      rw [if_neg n0, Option.bind_some]
      rfl
set_option maxHeartbeats 2000000 in
theorem lr_islands : lw_S_islands ma_Rel := by
  intro j hj v_x_ticksPassed v_x_noiseShare v_x_lot v_x_aheadKnown v_x_aheadEnds v_x_swings_stiffness v_x_swings_pull v_x_swings_there v_x_swings_angles v_x_setting_beaters v_x_setting_mask v_x_setting_links v_x_setting_answers v_x_setting_periods v_x_setting_quiets v_x_setting_places v_x_now_row v_x_now_phases v_x_flashCounts v_x_lastFlashes v_x_ahead_leadTicks v_x_ahead_cycleTicks v_x_ahead_behind_row v_x_ahead_behind_phases v_x_now_coming v_x_ahead_behind_coming v_x_ahead_front_row v_x_ahead_front_phases v_x_ahead_front_coming v_x_setting_froms v_x_setting_delays v_x_setting_tos v_x_setting_strengths v_x_ahead_flashed v_x_swings_speeds v_x_marks_count v_x_marks_ticks v_x_ahead_groupNumbers v_x_trial_leadTicks v_x_trial_cycleTicks v_x_trial_behind_row v_x_trial_behind_phases v_x_trial_behind_coming v_x_trial_front_row v_x_trial_front_phases v_x_trial_front_coming v_x_trial_flashed v_x_trial_groupNumbers v_x_trialStart_row v_x_trialStart_phases v_x_trialStart_coming v_x_pair_beaters v_x_pair_mask v_x_pair_links v_x_pair_places v_x_pair_periods v_x_pair_quiets v_x_pair_answers v_x_pair_froms v_x_pair_tos v_x_pair_delays v_x_pair_strengths v_t_thrown v_t_noise v_t_z v_t_lead v_t_cycle v_t_stiffness v_t_pull v_t_swings v_t_angles v_t_now_time v_t_now_isThere v_t_answers v_t_now_period v_t_now_phase v_t_now_quiet v_t_flashed v_t_last v_t_start_time v_t_start_isThere v_t_start_period v_t_start_phase v_t_start_quiet v_t_start_waiting v_t_now_waiting v_t_slow_time v_t_slow_isThere v_t_slow_period v_t_slow_phase v_t_slow_quiet v_t_slow_waiting v_t_fast_time v_t_fast_isThere v_t_fast_period v_t_fast_phase v_t_fast_quiet v_t_fast_waiting v_t_fast_flashes v_t_slow_flashes v_t_beats v_t_areApart v_t_speeds v_t_now_flashes nl fr tt de st nk vv hR v_out v_outD ml mk cl hl1 hl2 
  obtain ⟨h, t, z, fr0, to0, de0, S, ⟨r1, r2, r3, r4⟩, hx, ⟨rfl, rfl, rfl, rfl, rfl, rfl, rfl, rfl⟩, C, E, hf, hinv, hR, hrm, hA, hc, hl, htr, hmk, hsw, hqb⟩ := hR
  have E' : ma_E v_x_setting_mask nl cl v_t_answers (fun p q => v_x_setting_answers (p * 4 + q)) fr tt de st fr0 to0 de0 v_x_setting_strengths := ⟨E.1, hl1, E.2.2⟩
  obtain ⟨k, v, out9, kn9, en9, lt9, ct9, br9, bp9, bc9, fr9, fp9, fc9, fl9, lead, cyc, st9, aT, ap, aph, aq, aw, sl, sT, sp, sph, sq, sw, ft, fT, fp2, fph, fq, fw, ff, sf9, B9, A9, hA2, h1, h2, ho⟩ := ca_islands (N := 6000) (n := nl) (cap := cl) (h := h) (t0 := t) (z := z) (hN := (by decide)) (hh := r3) (ht := (by omega)) (hz := r4) (places := v_x_setting_places) (per := v_x_setting_periods) (qui := v_x_setting_quiets) (ans := v_x_setting_answers) (froms := v_x_setting_froms) (tos := v_x_setting_tos) (delays := v_x_setting_delays) (st := v_x_setting_strengths) (fr := fr0) (to := to0) (de := de0) (S := S) (C := C) (hinv := hinv) (hX := rfl) (row := v_x_now_row) (ph := v_x_now_phases) (co := v_x_now_coming) (hR := hR) (kn := v_x_aheadKnown) (en := v_x_aheadEnds) (lt := v_x_ahead_leadTicks) (ct := v_x_ahead_cycleTicks) (fl := v_x_ahead_flashed) (hA := hA) (anR := v_t_answers) (fromsR := fr) (tosR := tt) (delaysR := de) (strsR := st) (E := E') (nT := v_t_now_isThere) (np := v_t_now_period) (nph := v_t_now_phase) (nq := v_t_now_quiet) (nw := v_t_now_waiting) (hf := hf) (hrm := hrm) (br := v_x_ahead_behind_row) (bp := v_x_ahead_behind_phases) (bc := v_x_ahead_behind_coming) (frw := v_x_ahead_front_row) (fp := v_x_ahead_front_phases) (fc := v_x_ahead_front_coming) (a2 := v_t_lead) (a3 := v_t_cycle) (a4 := v_t_start_time) (b2 := v_t_start_isThere) (b4 := v_t_start_period) (b6 := v_t_start_phase) (b8 := v_t_start_quiet) (b9 := v_t_start_waiting) (a6 := v_t_slow_time) (c1 := v_t_slow_isThere) (c2 := v_t_slow_period) (c3 := v_t_slow_phase) (c4 := v_t_slow_quiet) (c5 := v_t_slow_waiting) (a7 := v_t_fast_time) (d1 := v_t_fast_isThere) (d2 := v_t_fast_period) (d3 := v_t_fast_phase) (d4 := v_t_fast_quiet) (d5 := v_t_fast_waiting) (d6 := v_t_fast_flashes) (sf := v_t_slow_flashes) (B := v_t_beats) (A := v_t_areApart) (out := v_out) (thr := v_t_thrown)
  refine ⟨6000, 6000, _, _, h1, h2, ⟨rfl, ho⟩, h, t, z, fr0, to0, de0, S, ⟨by omega, by omega, r3, r4⟩, hx, ⟨rfl, rfl, rfl, rfl, rfl, rfl, rfl, rfl⟩, C, E, hf, hinv, hR, hrm, ?_, hc, hl, htr, hmk, hsw, hqb⟩
  exact hA2

set_option maxHeartbeats 2000000 in
theorem lr_stepShare : lw_S_stepShare ma_Rel := by
  intro j hj v_x_ticksPassed v_x_noiseShare v_x_lot v_x_aheadKnown v_x_aheadEnds v_x_swings_stiffness v_x_swings_pull v_x_swings_there v_x_swings_angles v_x_setting_beaters v_x_setting_mask v_x_setting_links v_x_setting_answers v_x_setting_periods v_x_setting_quiets v_x_setting_places v_x_now_row v_x_now_phases v_x_flashCounts v_x_lastFlashes v_x_ahead_leadTicks v_x_ahead_cycleTicks v_x_ahead_behind_row v_x_ahead_behind_phases v_x_now_coming v_x_ahead_behind_coming v_x_ahead_front_row v_x_ahead_front_phases v_x_ahead_front_coming v_x_setting_froms v_x_setting_delays v_x_setting_tos v_x_setting_strengths v_x_ahead_flashed v_x_swings_speeds v_x_marks_count v_x_marks_ticks v_x_ahead_groupNumbers v_x_trial_leadTicks v_x_trial_cycleTicks v_x_trial_behind_row v_x_trial_behind_phases v_x_trial_behind_coming v_x_trial_front_row v_x_trial_front_phases v_x_trial_front_coming v_x_trial_flashed v_x_trial_groupNumbers v_x_trialStart_row v_x_trialStart_phases v_x_trialStart_coming v_x_pair_beaters v_x_pair_mask v_x_pair_links v_x_pair_places v_x_pair_periods v_x_pair_quiets v_x_pair_answers v_x_pair_froms v_x_pair_tos v_x_pair_delays v_x_pair_strengths v_t_thrown v_t_noise v_t_z v_t_lead v_t_cycle v_t_stiffness v_t_pull v_t_swings v_t_angles v_t_now_time v_t_now_isThere v_t_answers v_t_now_period v_t_now_phase v_t_now_quiet v_t_flashed v_t_last v_t_start_time v_t_start_isThere v_t_start_period v_t_start_phase v_t_start_quiet v_t_start_waiting v_t_now_waiting v_t_slow_time v_t_slow_isThere v_t_slow_period v_t_slow_phase v_t_slow_quiet v_t_slow_waiting v_t_fast_time v_t_fast_isThere v_t_fast_period v_t_fast_phase v_t_fast_quiet v_t_fast_waiting v_t_fast_flashes v_t_slow_flashes v_t_beats v_t_areApart v_t_speeds v_t_now_flashes nl fr tt de st nk vv hR v_out v_outD ml mk cl hl1 hl2 
  obtain ⟨h, t, z, fr0, to0, de0, S, ⟨r1, r2, r3, r4⟩, hx, ⟨rfl, rfl, rfl, rfl, rfl, rfl, rfl, rfl⟩, C, E, hf, hinv, hR, hrm, hA, hc, hl, htr, hmk, hsw, hqb⟩ := hR
  have E' : ma_E v_x_setting_mask nl cl v_t_answers (fun p q => v_x_setting_answers (p * 4 + q)) fr tt de st fr0 to0 de0 v_x_setting_strengths := ⟨E.1, hl1, E.2.2⟩
  obtain ⟨k, v, out9, kn9, en9, lt9, ct9, br9, bp9, bc9, fr9, fp9, fc9, fl9, lead, cyc, st9, aT, ap, aph, aq, aw, sl, sT, sp, sph, sq, sw, ft, fT, fp2, fph, fq, fw, ff, sf9, B9, A9, hA2, h1, h2, ho⟩ := ca_stepShare (N := 6000) (n := nl) (cap := cl) (h := h) (t0 := t) (z := z) (hN := (by decide)) (hh := r3) (ht := (by omega)) (hz := r4) (places := v_x_setting_places) (per := v_x_setting_periods) (qui := v_x_setting_quiets) (ans := v_x_setting_answers) (froms := v_x_setting_froms) (tos := v_x_setting_tos) (delays := v_x_setting_delays) (st := v_x_setting_strengths) (fr := fr0) (to := to0) (de := de0) (S := S) (C := C) (hinv := hinv) (hX := rfl) (row := v_x_now_row) (ph := v_x_now_phases) (co := v_x_now_coming) (hR := hR) (kn := v_x_aheadKnown) (en := v_x_aheadEnds) (lt := v_x_ahead_leadTicks) (ct := v_x_ahead_cycleTicks) (fl := v_x_ahead_flashed) (hA := hA) (anR := v_t_answers) (fromsR := fr) (tosR := tt) (delaysR := de) (strsR := st) (E := E') (nT := v_t_now_isThere) (np := v_t_now_period) (nph := v_t_now_phase) (nq := v_t_now_quiet) (nw := v_t_now_waiting) (hf := hf) (hrm := hrm) (br := v_x_ahead_behind_row) (bp := v_x_ahead_behind_phases) (bc := v_x_ahead_behind_coming) (frw := v_x_ahead_front_row) (fp := v_x_ahead_front_phases) (fc := v_x_ahead_front_coming) (a2 := v_t_lead) (a3 := v_t_cycle) (a4 := v_t_start_time) (b2 := v_t_start_isThere) (b4 := v_t_start_period) (b6 := v_t_start_phase) (b8 := v_t_start_quiet) (b9 := v_t_start_waiting) (a6 := v_t_slow_time) (c1 := v_t_slow_isThere) (c2 := v_t_slow_period) (c3 := v_t_slow_phase) (c4 := v_t_slow_quiet) (c5 := v_t_slow_waiting) (a7 := v_t_fast_time) (d1 := v_t_fast_isThere) (d2 := v_t_fast_period) (d3 := v_t_fast_phase) (d4 := v_t_fast_quiet) (d5 := v_t_fast_waiting) (d6 := v_t_fast_flashes) (sf := v_t_slow_flashes) (B := v_t_beats) (A := v_t_areApart) (out := v_outD) (thr := v_t_thrown)
  refine ⟨6000, 6000, _, _, h1, h2, ⟨rfl, ho⟩, h, t, z, fr0, to0, de0, S, ⟨by omega, by omega, r3, r4⟩, hx, ⟨rfl, rfl, rfl, rfl, rfl, rfl, rfl, rfl⟩, C, E, hf, hinv, hR, hrm, ?_, hc, hl, htr, hmk, hsw, hqb⟩
  exact hA2

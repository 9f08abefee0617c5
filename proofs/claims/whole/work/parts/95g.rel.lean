/-! rows of mine: the swings' step, for the class and for the reference -/
theorem fs_put {a : Nat → UInt64} {r : Nat → UInt32} {p : Nat} {o : UInt64} {x : UInt32} (h : ∀ i, i < 4 → ma_f (a i) (r i)) (ho : ma_f o x) : ∀ i, i < 4 → ma_f (vf_upd a p o i) (vf_upd r p x i) := by
  intro i hi
  by_cases e : i = p
  · subst e
    have a1 : vf_upd a i o i = o := by simp [vf_upd]
    have a2 : vf_upd r i x i = x := by simp [vf_upd]
    rw [a1, a2]
    exact ho
  · have a1 : vf_upd a p o i = a i := by simp [vf_upd, e]
    have a2 : vf_upd r p x i = r i := by simp [vf_upd, e]
    rw [a1, a2]
    exact h i hi
theorem fs_putz {r : Nat → UInt32} {p : Nat} {x : UInt32} (h : ∀ i, i < 4 → r i ≠ 0x80000000) (hx : x ≠ 0x80000000) : ∀ i, i < 4 → vf_upd r p x i ≠ 0x80000000 := by
  intro i hi
  by_cases e : i = p
  · subst e
    have a2 : vf_upd r i x i = x := by simp [vf_upd]
    rw [a2]
    exact hx
  · have a2 : vf_upd r p x i = r i := by simp [vf_upd, e]
    rw [a2]
    exact h i hi
theorem fs_alz {a b x : UInt32} (h : rs_al x (FP.fadd a b)) (ha : a ≠ 0x80000000) : x ≠ 0x80000000 := by
  rintro rfl
  rcases fs_al h with k | ⟨k, -⟩
  · exact ha (fs_nz k.symm)
  · exact k (by unfold vf_n32; decide)
theorem fs_sameN {r : UInt32} {a : Nat → UInt32} {p : Nat} : vf_upd a p (a p) = a := by
  funext i
  unfold vf_upd
  split
  · rename_i h; rw [h]
  · rfl
theorem fs_sum {N : Nat} {there sw : Nat → Int32} {ang : Nat → UInt64} {a : Nat → UInt32} (hs : ∀ i, i < 4 → sw i = there i) (ha : ∀ i, i < 4 → ma_f (ang i) (a i)) : ∀ (j i f : Nat) (s s2 : UInt32) (d : UInt64), i + j = 4 → j < f → ma_f d s → rs_sum sw a j i s s2 → ∃ o w, f_X3_meanAngle_4 N there ang f d (nI i) = some (o, w) ∧ ma_f o s2 := by
  intro j
  induction j with
  | zero =>
    intro i f s s2 d hi hf hd h
    obtain ⟨f, rfl⟩ : ∃ g, f = g + 1 := ⟨f - 1, by omega⟩
    have h : s2 = s := h
    subst h
    rw [f_X3_meanAngle_4.eq_def]
    simp only []
    rw [if_pos (show (4 : Int32) ≤ nI i from nI_le (a := 4) (b := i) (by omega) (by omega))]
    exact ⟨_, _, rfl, hd⟩
  | succ j ih =>
    intro i f s s2 d hi hf hd h
    obtain ⟨f, rfl⟩ : ∃ g, f = g + 1 := ⟨f - 1, by omega⟩
    obtain ⟨s1, h1, h2, h3⟩ := h
    rw [f_X3_meanAngle_4.eq_def]
    simp only []
    rw [if_neg (show ¬ (4 : Int32) ≤ nI i from nI_ge (a := i) (b := 4) (by omega) (by omega)), mg_g (show i < 4 by omega) (by omega), nI_clamp (n := i) (by omega), nI_1, mg_g (show i < 4 by omega) (by omega)]
    by_cases hz : there i = 0
    · rw [if_pos hz]
      have := h1 ((hs i (by omega)).trans hz)
      subst this
      exact ih (i + 1) f s1 s2 d (by omega) (by omega) hd h3
    · rw [if_neg hz]
      obtain ⟨o, e1, e2⟩ := fs_plus (N := N) hd (ha i (by omega)) (h2 (fun q => hz ((hs i (by omega)).symm.trans q)))
      rw [e1, Option.bind_some]
      exact ih (i + 1) f s1 s2 o (by omega) (by omega) e2 h3
def sw_cnt (there : Nat → Int32) : Nat → Nat
  | 0 => 0
  | k + 1 => sw_cnt there k + if there k = 0 then 0 else 1
theorem sw_cnt_le (there : Nat → Int32) : ∀ k, sw_cnt there k ≤ k := by
  intro k
  induction k with
  | zero => exact Nat.le_refl _
  | succ k ih => unfold sw_cnt; split <;> omega
theorem sw_cnt_c {there sw : Nat → Int32} : ∀ k, (∀ i, i < k → sw i = there i) → sw_cnt sw k = sw_cnt there k := by
  intro k
  induction k with
  | zero => intro _; rfl
  | succ k ih => intro h; unfold sw_cnt; rw [ih (fun i hi => h i (by omega)), h k (by omega)]
theorem sw_cnt_0 {there : Nat → Int32} : ∀ k, sw_cnt there k = 0 → ∀ i, i < k → there i = 0 := by
  intro k
  induction k with
  | zero => intro _ i hi; omega
  | succ k ih =>
    intro h i hi
    unfold sw_cnt at h
    by_cases e : there k = 0
    · rw [if_pos e] at h
      rcases Nat.lt_or_eq_of_le (Nat.le_of_lt_succ hi) with w | w
      · exact ih h i w
      · rw [w]; exact e
    · rw [if_neg e] at h
      omega
theorem sw_count_4 {N : Nat} {there : Nat → Int32} : ∀ (j i f : Nat), i + j = 4 → j < f → ∃ w, f_X3_count_4 N there f (nI (sw_cnt there i)) (nI i) = some (nI (sw_cnt there 4), w) := by
  intro j
  induction j with
  | zero =>
    intro i f hi hf
    obtain ⟨f, rfl⟩ : ∃ g, f = g + 1 := ⟨f - 1, by omega⟩
    rw [f_X3_count_4.eq_def]
    simp only []
    rw [if_pos (show (4 : Int32) ≤ nI i from nI_le (a := 4) (b := i) (by omega) (by omega)), show i = 4 by omega]
    exact ⟨_, rfl⟩
  | succ j ih =>
    intro i f hi hf
    obtain ⟨f, rfl⟩ : ∃ g, f = g + 1 := ⟨f - 1, by omega⟩
    have h := ih (i + 1) f (by omega) (by omega)
    rw [f_X3_count_4.eq_def]
    simp only []
    rw [if_neg (show ¬ (4 : Int32) ≤ nI i from nI_ge (a := i) (b := 4) (by omega) (by omega)), mg_g (show i < 4 by omega) (by omega), nI_clamp (n := i) (by omega), nI_1, nI_1]
    unfold sw_cnt at h
    by_cases hz : there i = 0
    · rw [if_pos hz] at h ⊢
      exact h
    · rw [if_neg hz] at h ⊢
      exact h
theorem sw_count {N : Nat} (hN : 5 ≤ N) {there : Nat → Int32} : f_X3_count N there = some (nI (sw_cnt there 4)) := by
  obtain ⟨w, h⟩ := sw_count_4 (N := N) (there := there) 4 0 N (by omega) (by omega)
  unfold f_X3_count
  have h : f_X3_count_4 N there N (0 : Int32) (0 : Int32) = _ := h
  rw [h]
  rfl
theorem sw_many_13 {N : Nat} {there : Nat → Int32} : ∀ (j i f : Nat), i + j = 4 → j < f → ∃ w, f_X8_manySwings_13 N there 4 f (nI (sw_cnt there i)) (nI i) = some (nI (sw_cnt there 4), w) := by
  intro j
  induction j with
  | zero =>
    intro i f hi hf
    obtain ⟨f, rfl⟩ : ∃ g, f = g + 1 := ⟨f - 1, by omega⟩
    rw [f_X8_manySwings_13.eq_def]
    simp only []
    rw [if_pos (show (4 : Int32) ≤ nI i from nI_le (a := 4) (b := i) (by omega) (by omega)), show i = 4 by omega]
    exact ⟨_, rfl⟩
  | succ j ih =>
    intro i f hi hf
    obtain ⟨f, rfl⟩ : ∃ g, f = g + 1 := ⟨f - 1, by omega⟩
    have h := ih (i + 1) f (by omega) (by omega)
    rw [f_X8_manySwings_13.eq_def]
    simp only []
    rw [if_neg (show ¬ (4 : Int32) ≤ nI i from nI_ge (a := i) (b := 4) (by omega) (by omega)), mg_g (show i < 4 by omega) (by omega), nI_clamp (n := i) (by omega), nI_1, nI_1, show nI (sw_cnt there i) + (0 : Int32) = nI (sw_cnt there i) from by simp]
    unfold sw_cnt at h
    by_cases hz : there i = 0
    · rw [if_pos hz] at h ⊢
      exact h
    · rw [if_neg hz] at h ⊢
      exact h
theorem sw_many {N : Nat} (hN : 5 ≤ N) {there : Nat → Int32} : f_X8_manySwings N there = some (nI (sw_cnt there 4)) := by
  obtain ⟨w, h⟩ := sw_many_13 (N := N) (there := there) 4 0 N (by omega) (by omega)
  unfold f_X8_manySwings
  have h : f_X8_manySwings_13 N there (4 : Int32) N (0 : Int32) (0 : Int32) = _ := h
  rw [h]
  rfl
theorem fs_mean {N m : Nat} (hN : 5 ≤ N) {there sw : Nat → Int32} {ang : Nat → UInt64} {a : Nat → UInt32} {sum mean : UInt32} (hs : ∀ i, i < 4 → sw i = there i) (ha : ∀ i, i < 4 → ma_f (ang i) (a i)) (hm : sw_cnt there 4 = m) (hm0 : 0 < m) (h1 : rs_sum sw a 4 0 FP.fconst0 sum) (h2 : rs_al mean (FP.fdiv sum (FP.i2f (nI m)))) : ∃ o, f_X3_meanAngle N there ang = some o ∧ ma_f o mean := by
  have hm4 := sw_cnt_le there 4
  have z0 : ma_f FP.dconst0 FP.fconst0 := Or.inr ⟨by unfold vf_n32; decide, by decide +kernel⟩
  obtain ⟨d, w, e1, e2⟩ := fs_sum (N := N) hs ha 4 0 N _ _ _ (by omega) (by omega) z0 h1
  have e1 : f_X3_meanAngle_4 N there ang N FP.dconst0 (0 : Int32) = _ := e1
  unfold f_X3_meanAngle
  rw [e1, Option.bind_some, sw_count hN, Option.bind_some, hm, if_neg (nI_ne0 hm0 (by omega))]
  dsimp only
  rcases e2 with ⟨n1, rfl⟩ | ⟨n1, rfl⟩
  · rw [fs_ll, Option.bind_some, if_neg (by decide)]
    refine ⟨_, rfl, Or.inl ⟨fs_alN h2 (fun k => ?_), rfl⟩⟩
    have a := (FP.Core.notNaN_iff32 _).mpr ((fs_n _).mp k)
    have b := (FP.Core.fdiv_nan_iff sum (FP.i2f (nI m))).mpr (Or.inl (fs_n0 n1))
    rw [b] at a
    cases a
  · have hn : vf_n32 (FP.fdiv sum (FP.i2f (nI m))) := by
      apply (fs_n _).mpr
      apply (FP.Core.notNaN_iff32 _).mp
      exact FP.Core.fdiv_out (fs_nn n1) (FP.Core.i2f_fin _) (fun z => FP.Core.i2f_ne_zero (nI_ne0 hm0 (by omega)) ((FP.Core.zero_bits232 _).mp z))
    rw [fs_lost n1, Option.bind_some, if_pos rfl, fs_d2f n1, fs_g32 n1, fs_g32 hn, fs_g64 hn]
    exact ⟨_, rfl, Or.inr ⟨by rw [fs_alE h2 hn]; exact hn, by rw [fs_alE h2 hn]⟩⟩
theorem fs_sp {N : Nat} {there sw : Nat → Int32} {ang : Nat → UInt64} {a : Nat → UInt32} {stf pul : Int32} {dm : UInt64} {mean : UInt32} (hs : ∀ i, i < 4 → sw i = there i) (ha : ∀ i, i < 4 → ma_f (ang i) (a i)) (hst : ma_f (FP.i2d stf) (FP.i2f stf)) (hpu : ma_f (FP.i2d pul) (FP.i2f pul)) (hm : ma_f dm mean) : ∀ (j i f : Nat) (spd : Nat → UInt64) (sp sp2 : Nat → UInt32), i + j = 4 → j < f → (∀ i, i < 4 → ma_f (spd i) (sp i)) → (∀ i, i < 4 → sp i ≠ 0x80000000) → rs_sp sw a pul stf mean j i sp sp2 → ∃ w o, f_X3_step_7 N stf pul there ang dm f (nI i) spd = some (w, o) ∧ (∀ i, i < 4 → ma_f (o i) (sp2 i)) ∧ ∀ i, i < 4 → sp2 i ≠ 0x80000000 := by
  intro j
  induction j with
  | zero =>
    intro i f spd sp sp2 hi hf hp hz h
    obtain ⟨f, rfl⟩ : ∃ g, f = g + 1 := ⟨f - 1, by omega⟩
    have h : sp2 = sp := h
    subst h
    rw [f_X3_step_7.eq_def]
    simp only []
    rw [if_pos (show (4 : Int32) ≤ nI i from nI_le (a := 4) (b := i) (by omega) (by omega))]
    exact ⟨_, _, rfl, hp, hz⟩
  | succ j ih =>
    intro i f spd sp sp2 hi hf hp hz h
    obtain ⟨f, rfl⟩ : ∃ g, f = g + 1 := ⟨f - 1, by omega⟩
    obtain ⟨d1, m1, h1, fo, x, k1, k2, k3, k4, k5, k6, k7⟩ := h
    have hi4 : i < 4 := by omega
    rw [f_X3_step_7.eq_def]
    simp only []
    rw [if_neg (show ¬ (4 : Int32) ≤ nI i from nI_ge (a := i) (b := 4) (by omega) (by omega))]
    simp only [mg_g hi4 (show 4 < 2 ^ 31 by omega), nI_clamp (show i < 2 ^ 31 by omega), nI_1]
    by_cases hz0 : there i = 0
    · rw [if_pos hz0]
      have hx := k5 ((hs i hi4).trans hz0)
      subst hx
      rw [fs_sameN (r := 0)] at k7
      exact ih (i + 1) f spd sp sp2 (by omega) (by omega) hp hz k7
    · rw [if_neg hz0]
      obtain ⟨q, g1, g2⟩ := k6 (fun q => hz0 ((hs i hi4).symm.trans q))
      obtain ⟨o1, a1, b1⟩ := fs_minus (N := N) hm (ha i hi4) k1
      obtain ⟨o2, a2, b2⟩ := fs_times (N := N) hpu b1 k2
      obtain ⟨o3, a3, b3⟩ := fs_times (N := N) hst (ha i hi4) k3
      obtain ⟨o4, a4, b4⟩ := fs_minus (N := N) b2 b3 k4
      obtain ⟨o5, a5, b5⟩ := fs_times (N := N) fs_hun b4 g1
      obtain ⟨o6, a6, b6⟩ := fs_plus (N := N) (hp i hi4) b5 g2
      rw [a1, Option.bind_some, a2, Option.bind_some, a3, Option.bind_some, a4, Option.bind_some, a5, Option.bind_some, a6, Option.bind_some]
      exact ih (i + 1) f _ _ sp2 (by omega) (by omega) (fs_put hp b6) (fs_putz hz (fs_alz g2 (hz i hi4))) k7
theorem fs_an {N : Nat} {there sw : Nat → Int32} {spd : Nat → UInt64} {sp : Nat → UInt32} (hs : ∀ i, i < 4 → sw i = there i) (hp : ∀ i, i < 4 → ma_f (spd i) (sp i)) : ∀ (j i f : Nat) (ang : Nat → UInt64) (a a2 : Nat → UInt32), i + j = 4 → j < f → (∀ i, i < 4 → ma_f (ang i) (a i)) → (∀ i, i < 4 → a i ≠ 0x80000000) → rs_an sw sp j i a a2 → ∃ w o, f_X3_step_93 N there spd f (nI i) ang = some (w, o) ∧ (∀ i, i < 4 → ma_f (o i) (a2 i)) ∧ ∀ i, i < 4 → a2 i ≠ 0x80000000 := by
  intro j
  induction j with
  | zero =>
    intro i f ang a a2 hi hf ha hz h
    obtain ⟨f, rfl⟩ : ∃ g, f = g + 1 := ⟨f - 1, by omega⟩
    have h : a2 = a := h
    subst h
    rw [f_X3_step_93.eq_def]
    simp only []
    rw [if_pos (show (4 : Int32) ≤ nI i from nI_le (a := 4) (b := i) (by omega) (by omega))]
    exact ⟨_, _, rfl, ha, hz⟩
  | succ j ih =>
    intro i f ang a a2 hi hf ha hz h
    obtain ⟨f, rfl⟩ : ∃ g, f = g + 1 := ⟨f - 1, by omega⟩
    obtain ⟨x, k5, k6, k7⟩ := h
    have hi4 : i < 4 := by omega
    rw [f_X3_step_93.eq_def]
    simp only []
    rw [if_neg (show ¬ (4 : Int32) ≤ nI i from nI_ge (a := i) (b := 4) (by omega) (by omega))]
    simp only [mg_g hi4 (show 4 < 2 ^ 31 by omega), nI_clamp (show i < 2 ^ 31 by omega), nI_1]
    by_cases hz0 : there i = 0
    · rw [if_pos hz0]
      have hx := k5 ((hs i hi4).trans hz0)
      subst hx
      rw [fs_sameN (r := 0)] at k7
      exact ih (i + 1) f ang a a2 (by omega) (by omega) ha hz k7
    · rw [if_neg hz0]
      obtain ⟨q, g1, g2⟩ := k6 (fun q => hz0 ((hs i hi4).symm.trans q))
      obtain ⟨o5, a5, b5⟩ := fs_times (N := N) fs_hun (hp i hi4) g1
      obtain ⟨o6, a6, b6⟩ := fs_plus (N := N) (ha i hi4) b5 g2
      rw [a5, Option.bind_some, a6, Option.bind_some]
      exact ih (i + 1) f _ _ a2 (by omega) (by omega) (fs_put ha b6) (fs_putz hz (fs_alz g2 (hz i hi4))) k7
theorem fs_step {N m : Nat} (hN : 5 ≤ N) {there sw : Nat → Int32} {ang spd : Nat → UInt64} {a sp a2 sp2 : Nat → UInt32} {stf pul : Int32} (hs : ∀ i, i < 4 → sw i = there i) (hm : sw_cnt there 4 = m) (hm0 : 0 < m) (hst : ma_f (FP.i2d stf) (FP.i2f stf)) (hpu : ma_f (FP.i2d pul) (FP.i2f pul)) (ha : ∀ i, i < 4 → ma_f (ang i) (a i)) (haz : ∀ i, i < 4 → a i ≠ 0x80000000) (hp : ∀ i, i < 4 → ma_f (spd i) (sp i)) (hpz : ∀ i, i < 4 → sp i ≠ 0x80000000) (h : rs_step sw pul stf (nI m) a sp a2 sp2) : ∃ o, f_X3_step N stf pul there ang spd = some o ∧ (∀ i, i < 4 → ma_f (o.1 i) (a2 i)) ∧ (∀ i, i < 4 → a2 i ≠ 0x80000000) ∧ (∀ i, i < 4 → ma_f (o.2 i) (sp2 i)) ∧ ∀ i, i < 4 → sp2 i ≠ 0x80000000 := by
  obtain ⟨sum, mean, h1, h2, h3, h4⟩ := h
  obtain ⟨dm, e1, e2⟩ := fs_mean hN hs ha hm hm0 h1 h2
  obtain ⟨w, o7, e3, e4, e5⟩ := fs_sp (N := N) hs ha hst hpu e2 4 0 N spd sp sp2 (by omega) (by omega) hp hpz h3
  obtain ⟨w2, o93, e6, e7, e8⟩ := fs_an (N := N) hs e4 4 0 N ang a a2 (by omega) (by omega) ha haz h4
  have e3 : f_X3_step_7 N stf pul there ang dm N (0 : Int32) spd = _ := e3
  have e6 : f_X3_step_93 N there o7 N (0 : Int32) ang = _ := e6
  refine ⟨(o93, o7), ?_, e7, e8, e4, e5⟩
  unfold f_X3_step
  rw [e1, Option.bind_some, e3, Option.bind_some, e6, Option.bind_some]
theorem fs_run {N m : Nat} (hN : 5 ≤ N) {there sw : Nat → Int32} {stf pul : Int32} (hs : ∀ i, i < 4 → sw i = there i) (hm : sw_cnt there 4 = m) (hm0 : 0 < m) (hst : ma_f (FP.i2d stf) (FP.i2f stf)) (hpu : ma_f (FP.i2d pul) (FP.i2f pul)) : ∀ (k i f : Nat) (ang spd : Nat → UInt64) (a sp a2 sp2 : Nat → UInt32), k < f → i + k ≤ 1000 → (∀ i, i < 4 → ma_f (ang i) (a i)) → (∀ i, i < 4 → a i ≠ 0x80000000) → (∀ i, i < 4 → ma_f (spd i) (sp i)) → (∀ i, i < 4 → sp i ≠ 0x80000000) → rs_run sw pul stf (nI m) k a sp a2 sp2 → ∃ o, f_X5_sway_10 N stf pul there (nI (i + k)) f (nI i) ang spd = some o ∧ (∀ i, i < 4 → ma_f (o.2.1 i) (a2 i)) ∧ (∀ i, i < 4 → a2 i ≠ 0x80000000) ∧ (∀ i, i < 4 → ma_f (o.2.2 i) (sp2 i)) ∧ ∀ i, i < 4 → sp2 i ≠ 0x80000000 := by
  intro k
  induction k with
  | zero =>
    intro i f ang spd a sp a2 sp2 hf hi ha haz hp hpz h
    obtain ⟨f, rfl⟩ : ∃ g, f = g + 1 := ⟨f - 1, by omega⟩
    obtain ⟨rfl, rfl⟩ := h
    rw [f_X5_sway_10.eq_def]
    simp only []
    rw [if_pos (show nI (i + 0) ≤ nI i from nI_le (by omega) (by omega))]
    exact ⟨_, rfl, ha, haz, hp, hpz⟩
  | succ k ih =>
    intro i f ang spd a sp a2 sp2 hf hi ha haz hp hpz h
    obtain ⟨f, rfl⟩ : ∃ g, f = g + 1 := ⟨f - 1, by omega⟩
    obtain ⟨a1, sp1, h1, h2⟩ := h
    obtain ⟨o, e1, e2, e3, e4, e5⟩ := fs_step hN hs hm hm0 hst hpu ha haz hp hpz h1
    rw [f_X5_sway_10.eq_def]
    simp only []
    rw [if_neg (show ¬ nI (i + (k + 1)) ≤ nI i from nI_ge (by omega) (by omega)), e1, Option.bind_some, nI_1, show i + (k + 1) = i + 1 + k by omega]
    exact ih (i + 1) f o.1 o.2 a1 sp1 a2 sp2 (by omega) (by omega) e2 e3 e4 e5 h2

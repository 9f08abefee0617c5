/-! rows of mine: fits and guess agree -/
def mk_f (vv : Nat → Int32) (p : Int32) (i : Nat) : Int32 := vv i - vv i / p * p
def mk_ag (n : Nat) (vv : Nat → Int32) (p : Int32) : Bool := (List.range n).all (fun i => decide (mk_f vv p i = mk_f vv p 0))
theorem mk_ag_iff {n : Nat} {vv : Nat → Int32} {p : Int32} : mk_ag n vv p = true ↔ ∀ i, i < n → mk_f vv p i = mk_f vv p 0 := by
  unfold mk_ag
  rw [List.all_eq_true]
  constructor
  · intro h i hi
    exact of_decide_eq_true (h i (List.mem_range.mpr hi))
  · intro h i hi
    exact decide_eq_true (h i (List.mem_range.mp hi))
theorem mk_class2 {N n : Nat} {ticks : Nat → Int32} {k : Nat} (hk : 1 ≤ k) (hk2 : k ≤ 99) (hn : n ≤ 20) : ∀ (f i : Nat), n + 2 ≤ f + i → 1 ≤ i → i ≤ n + 1 → ((∀ r, i ≤ r → r < n → mk_f ticks (nI k) r = mk_f ticks (nI k) 0) → ∃ y, f_X0_agreeOn_2 N (nI n) ticks (nI k) f (nI i) = some (.inr y)) ∧ (¬ (∀ r, i ≤ r → r < n → mk_f ticks (nI k) r = mk_f ticks (nI k) 0) → ∃ y, f_X0_agreeOn_2 N (nI n) ticks (nI k) f (nI i) = some (.inl y)) := by
  intro f
  induction f with
  | zero =>
    intro i h1 h2 h3
    omega
  | succ f ih =>
    intro i h1 h2 h3
    rw [f_X0_agreeOn_2.eq_def]
    simp only []
    by_cases hi : n ≤ i
    · rw [if_pos (nI_le hi (by omega))]
      exact ⟨fun _ => ⟨_, rfl⟩, fun hc => absurd (fun r hr1 hr2 => by omega) hc⟩
    · have hnz : zk_nz (β := Int32 ⊕ Int32) (nI k) = id := by
        funext x
        unfold zk_nz
        first | exact if_neg (nI_ne0 (by omega) (by omega)) | exact if_pos (nI_ne0 (by omega) (by omega)) | simp [nI_ne0 (show 0 < k by omega) (by omega)]
      rw [if_neg (nI_ge (by omega) (by omega)), if_neg (show ¬ nI k < (1 : Int32) from nI_nlt (a := k) (b := 1) hk (by omega)), mg_g (show i < 20 by omega) (by omega), hnz, nI_clamp (by omega)]
      simp only [id]
      have e : nI i + (1 : Int32) = nI (i + 1) := nI_1 i
      have z0 : (0 : Int32).toNatClampNeg = 0 := by decide
      rw [z0]
      by_cases he : mk_f ticks (nI k) i = mk_f ticks (nI k) 0
      · rw [if_pos (show ticks i - ticks i / nI k * nI k = ticks 0 - ticks 0 / nI k * nI k from he), e]
        obtain ⟨a, b⟩ := ih (i + 1) (by omega) (by omega) (by omega)
        refine ⟨fun hc => a (fun r hr1 hr2 => hc r (by omega) hr2), fun hc => b (fun hd => hc (fun r hr1 hr2 => ?_))⟩
        by_cases hr : r = i
        · rw [hr]; exact he
        · exact hd r (by omega) hr2
      · rw [if_neg (show ¬ ticks i - ticks i / nI k * nI k = ticks 0 - ticks 0 / nI k * nI k from he)]
        exact ⟨fun hc => absurd (hc i (Nat.le_refl _) (by omega)) he, fun _ => ⟨_, rfl⟩⟩
theorem mk_class {N n k : Nat} {ticks : Nat → Int32} (hN : 30 ≤ N) (hk : 1 ≤ k) (hk2 : k ≤ 99) (hn : n ≤ 20) : f_X0_agreeOn N (nI n) ticks (nI k) = some (if mk_ag n ticks (nI k) = true then 1 else 0) := by
  unfold f_X0_agreeOn
  obtain ⟨a, b⟩ := mk_class2 (N := N) (ticks := ticks) hk hk2 hn N 1 (by omega) (by omega) (by omega)
  by_cases h : mk_ag n ticks (nI k) = true
  · obtain ⟨y, e⟩ := a (fun r _ hr => mk_ag_iff.mp h r hr)
    have e : f_X0_agreeOn_2 N (nI n) ticks (nI k) N (1 : Int32) = some (.inr y) := e
    rw [e, if_pos h]
    rfl
  · obtain ⟨y, e⟩ := b (fun hc => h (mk_ag_iff.mpr (fun i hi => by
      by_cases h0 : i = 0
      · rw [h0]
      · exact hc i (by omega) hi)))
    have e : f_X0_agreeOn_2 N (nI n) ticks (nI k) N (1 : Int32) = some (.inl y) := e
    rw [e, if_neg h]
    rfl
theorem mk_hasNext {N : Nat} {a b : Int32} : f_Jx35411_hasNext_aae02 N a b = some (if a = b then 0 else 1) := by
  unfold f_Jx35411_hasNext_aae02
  by_cases h : a = b
  · simp [h]
  · simp [h]
theorem mk_ref0 {N n k : Nat} {vv : Nat → Int32} (hk : 1 ≤ k) (hk2 : k ≤ 99) (hn : n ≤ 20) : ∀ (f i : Nat) (l : Int32), n + 1 ≤ f + i → i ≤ n → ∃ a b c : Int32, f_X8_fits_10 N (nI n) vv (nI k) f 0 (nI i) l = some (a, b, c, 0) := by
  intro f
  induction f with
  | zero => intro i l h1 h2; omega
  | succ f ih =>
    intro i l h1 h2
    rw [f_X8_fits_10.eq_def]
    simp only []
    rw [show f_Jx35411_hasNext_aae02 N (nI i) (nI n) = some (if nI i = nI n then 0 else 1) from mk_hasNext]
    by_cases hi : i = n
    · subst hi
      rw [if_pos rfl]
      exact ⟨_, _, _, rfl⟩
    · rw [if_neg (fun q => hi ((nI_eq (by omega) (by omega)).mp q)), Option.bind_some, if_neg (show ¬ (1 : Int32) = 0 by decide), nI_clamp (n := n) (by omega), mg_g (show i < n by omega) (by omega), nI_1]
      simp only [if_true]
      exact ih (i + 1) _ (by omega) (by omega)
theorem mk_ref1 {N n k : Nat} {vv : Nat → Int32} (hk : 1 ≤ k) (hk2 : k ≤ 99) (hn : n ≤ 20) : ∀ (f i : Nat) (l : Int32), n + 1 ≤ f + i → i ≤ n → ((∀ r, i ≤ r → r < n → mk_f vv (nI k) r = mk_f vv (nI k) 0) → ∃ a b c : Int32, f_X8_fits_10 N (nI n) vv (nI k) f 1 (nI i) l = some (a, b, c, 1)) ∧ (¬ (∀ r, i ≤ r → r < n → mk_f vv (nI k) r = mk_f vv (nI k) 0) → ∃ a b c : Int32, f_X8_fits_10 N (nI n) vv (nI k) f 1 (nI i) l = some (a, b, c, 0)) := by
  intro f
  induction f with
  | zero => intro i l h1 h2; omega
  | succ f ih =>
    intro i l h1 h2
    rw [f_X8_fits_10.eq_def]
    simp only []
    rw [show f_Jx35411_hasNext_aae02 N (nI i) (nI n) = some (if nI i = nI n then 0 else 1) from mk_hasNext]
    by_cases hi : i = n
    · subst hi
      rw [if_pos rfl]
      exact ⟨fun _ => ⟨_, _, _, rfl⟩, fun hc => absurd (fun r hr1 hr2 => by omega) hc⟩
    · have hnz : zk_nz (β := Int32 × Int32 × Int32 × Int32) (nI k) = id := by
        funext x
        unfold zk_nz
        first | exact if_neg (nI_ne0 (by omega) (by omega)) | exact if_pos (nI_ne0 (by omega) (by omega)) | simp [nI_ne0 (show 0 < k by omega) (by omega)]
      have z0 : (0 : Int32).toNatClampNeg = 0 := by decide
      have g0 : ∀ x : Option (Int32 × Int32 × Int32 × Int32), zk_g (0 : Int32) n x = x := fun x => by
        have h := mg_g (i := 0) (n := n) (by omega) (by omega) x
        rw [nI_0] at h
        exact h
      rw [if_neg (fun q => hi ((nI_eq (by omega) (by omega)).mp q)), Option.bind_some, if_neg (show ¬ (1 : Int32) = 0 by decide), nI_clamp (n := n) (by omega), mg_g (show i < n by omega) (by omega), if_neg (show ¬ (1 : Int32) = 0 by decide), hnz, g0, nI_clamp (n := i) (by omega), z0, nI_1]
      simp only [id]
      by_cases he : mk_f vv (nI k) i = mk_f vv (nI k) 0
      · rw [if_pos (show vv i - vv i / nI k * nI k = vv 0 - vv 0 / nI k * nI k from he)]
        obtain ⟨a, b⟩ := ih (i + 1) (nI i) (by omega) (by omega)
        refine ⟨fun hc => a (fun r hr1 hr2 => hc r (by omega) hr2), fun hc => b (fun hd => hc (fun r hr1 hr2 => ?_))⟩
        by_cases hr : r = i
        · rw [hr]; exact he
        · exact hd r (by omega) hr2
      · rw [if_neg (show ¬ vv i - vv i / nI k * nI k = vv 0 - vv 0 / nI k * nI k from he)]
        exact ⟨fun hc => absurd (hc i (Nat.le_refl _) (by omega)) he, fun _ => mk_ref0 hk hk2 hn f (i + 1) _ (by omega) (by omega)⟩
theorem mk_ref {N n k : Nat} {vv : Nat → Int32} (hN : 30 ≤ N) (hk : 1 ≤ k) (hk2 : k ≤ 99) (hn : n ≤ 20) : f_X8_fits N n vv (nI k) = some (if mk_ag n vv (nI k) = true then 1 else 0) := by
  unfold f_X8_fits
  obtain ⟨a, b⟩ := mk_ref1 (N := N) (vv := vv) hk hk2 hn N 0 (-1) (by omega) (by omega)
  by_cases h : mk_ag n vv (nI k) = true
  · obtain ⟨x, y, w, e⟩ := a (fun r _ hr => mk_ag_iff.mp h r hr)
    have e : f_X8_fits_10 N (nI n) vv (nI k) N 1 0 (-1) = some (x, y, w, 1) := e
    rw [e, if_pos h]
    rfl
  · obtain ⟨x, y, w, e⟩ := b (fun hc => h (mk_ag_iff.mpr (fun i hi => hc i (Nat.zero_le _) hi)))
    have e : f_X8_fits_10 N (nI n) vv (nI k) N 1 0 (-1) = some (x, y, w, 0) := e
    rw [e, if_neg h]
    rfl
def nN : Nat → Int32
  | 0 => 0
  | i + 1 => -1 + nN i
theorem nN_s {x : Int32} {i : Nat} : x + (-1) + nN i = x + nN (i + 1) := by
  rw [Int32.add_assoc]
  rfl
theorem nN_99 : ∀ i : Nat, i < 98 → ¬ (99 : Int32) + nN i = 0 := by decide +kernel
theorem nN_neg : ∀ i : Nat, i < 98 → ¬ -(nN i) < 0 := by decide +kernel
theorem nN_lt {x : Int32} (hx : x < 0) (i : Nat) (hi : i < 98) : ¬ x + nN i = 0 := by
  intro h
  have e : x = -(nN i) := by
    have : x + nN i + -(nN i) = 0 + -(nN i) := by rw [h]
    rw [Int32.add_assoc, Int32.add_right_neg, Int32.add_zero, Int32.zero_add] at this
    exact this
  rw [e] at hx
  exact nN_neg i hi hx
theorem mk_le1 {n : Nat} {vv : Nat → Int32} (hn : n ≤ 1) (p : Int32) : mk_ag n vv p = true := mk_ag_iff.mpr (fun i hi => by rw [show i = 0 by omega])
theorem mk_ag_eq {n : Nat} {a b : Nat → Int32} (h : ∀ i, i < n → a i = b i) (p : Int32) : mk_ag n a p = mk_ag n b p := by
  by_cases hn : n = 0
  · subst hn; rfl
  · have e : ∀ i, i < n → mk_f a p i = mk_f b p i := fun i hi => by unfold mk_f; rw [h i hi]
    have e0 := e 0 (by omega)
    apply Bool.eq_iff_iff.mpr
    rw [mk_ag_iff, mk_ag_iff]
    constructor
    · intro q i hi
      rw [← e i hi, ← e0]; exact q i hi
    · intro q i hi
      rw [e i hi, e0]; exact q i hi
theorem mk_fits {N n : Nat} {ticks vv : Nat → Int32} (hN : 30 ≤ N) (hn : n ≤ 20) (hv : ∀ i, i < n → ticks i = vv i) : ∀ (f p : Nat) (x : Int32), 101 ≤ f + p → 2 ≤ p → p ≤ 100 → ∃ v y : Int32, f_X0_countPeriods_4 N (nI n) ticks f x (nI p) = some (v, y) ∧ f_X8_fits__9 N n vv f p x = some v := by
  intro f
  induction f with
  | zero => intro p x h1 h2 h3; omega
  | succ f ih =>
    intro p x h1 h2 h3
    rw [f_X0_countPeriods_4.eq_def, f_X8_fits__9.eq_def]
    simp only []
    by_cases hp : 99 < p
    · rw [if_pos (show (99 : Int32) < nI p from nI_lt (a := 99) hp (by omega)), if_pos hp]
      exact ⟨_, _, rfl, rfl⟩
    · rw [if_neg (show ¬ (99 : Int32) < nI p from nI_nlt (b := 99) (a := p) |> fun q => by exact fun h => absurd h (by first | exact nI_nlt (a := 99) (b := p) (by omega) (by omega) | exact nI_nlt (a := p) (b := 99) (by omega) (by omega))), if_neg hp, mk_class hN (by omega) (by omega) hn, mk_ref hN (by omega) (by omega) hn, mk_ag_eq hv, Option.bind_some, Option.bind_some, nI_1]
      cases mk_ag n vv (nI p)
      · simp only [Bool.false_eq_true, if_false, if_true]
        rw [show x + 0 = x from by simp]
        exact ih (p + 1) x (by omega) (by omega) (by omega)
      · simp only [if_true, if_neg (show ¬ (1 : Int32) = 0 by decide)]
        exact ih (p + 1) (x + 1) (by omega) (by omega) (by omega)
theorem mk_gR {N n : Nat} {vv : Nat → Int32} (hN : 30 ≤ N) (hn : n ≤ 20) : ∀ (f p : Nat) (x : Int32), p ≤ f → 1 ≤ p → p ≤ 99 → (∀ i : Nat, i + 1 < p → ¬ x + nN i = 0) → f_X8_guess_30 N n vv f p x = some (0, 1) := by
  intro f
  induction f with
  | zero => intro p x h1 h2; omega
  | succ f ih =>
    intro p x h1 h2 h3 hx
    rw [f_X8_guess_30.eq_def]
    simp only []
    by_cases hp : p < 2
    · rw [if_pos hp]
    · have h0 : ¬ x = 0 := fun q => hx 0 (by omega) (by rw [q]; decide)
      rw [if_neg hp, mk_ref hN (by omega) (by omega) hn, Option.bind_some]
      cases mk_ag n vv (nI p)
      · simp only [Bool.false_eq_true, if_false, if_true]
        exact ih (p - 1) x (by omega) (by omega) (by omega) (fun i hi => hx i (by omega))
      · simp only [if_true, if_neg (show ¬ (1 : Int32) = 0 by decide), if_neg h0]
        exact ih (p - 1) _ (by omega) (by omega) (by omega) (fun i hi => by rw [nN_s]; exact hx (i + 1) (by omega))
theorem mk_gC {N n : Nat} {vv : Nat → Int32} (hN : 30 ≤ N) (hn : n ≤ 20) : ∀ (f p : Nat) (x : Int32), p ≤ f → 1 ≤ p → p ≤ 99 → (∀ i : Nat, i + 1 < p → ¬ x + nN i = 0) → ∃ y, f_X0_periodAt_5 N (nI n) vv f x (nI p) = some (.inr y) := by
  intro f
  induction f with
  | zero => intro p x h1 h2; omega
  | succ f ih =>
    intro p x h1 h2 h3 hx
    rw [f_X0_periodAt_5.eq_def]
    simp only []
    by_cases hp : p < 2
    · rw [if_pos (show nI p < (2 : Int32) from nI_lt (b := 2) hp (by omega))]
      exact ⟨_, rfl⟩
    · have h0 : ¬ x = 0 := fun q => hx 0 (by omega) (by rw [q]; decide)
      rw [if_neg (show ¬ nI p < (2 : Int32) from nI_nlt (a := p) (b := 2) (by omega) (by omega)), mk_class hN (by omega) (by omega) hn, Option.bind_some, nI_m1 (by omega)]
      cases mk_ag n vv (nI p)
      · simp only [Bool.false_eq_true, if_false, if_true]
        exact ih (p - 1) x (by omega) (by omega) (by omega) (fun i hi => hx i (by omega))
      · simp only [if_true, if_neg (show ¬ (1 : Int32) = 0 by decide), if_neg h0]
        exact ih (p - 1) _ (by omega) (by omega) (by omega) (fun i hi => by rw [nN_s]; exact hx (i + 1) (by omega))
theorem mk_gB {N n : Nat} {ticks vv : Nat → Int32} (hN : 30 ≤ N) (hn : n ≤ 20) (hv : ∀ i, i < n → ticks i = vv i) : ∀ (f p : Nat) (x : Int32), p ≤ f → 1 ≤ p → p ≤ 99 → ((∃ y, f_X0_periodAt_5 N (nI n) ticks f x (nI p) = some (.inr y)) ∧ f_X8_guess_30 N n vv f p x = some (0, 1)) ∨ ∃ q y, 2 ≤ q ∧ q ≤ 99 ∧ f_X0_periodAt_5 N (nI n) ticks f x (nI p) = some (.inl (y, nI q)) ∧ f_X8_guess_30 N n vv f p x = some (nI q, 0) := by
  intro f
  induction f with
  | zero => intro p x h1 h2; omega
  | succ f ih =>
    intro p x h1 h2 h3
    rw [f_X0_periodAt_5.eq_def, f_X8_guess_30.eq_def]
    simp only []
    by_cases hp : p < 2
    · rw [if_pos (show nI p < (2 : Int32) from nI_lt (b := 2) hp (by omega)), if_pos hp]
      exact Or.inl ⟨⟨_, rfl⟩, rfl⟩
    · rw [if_neg (show ¬ nI p < (2 : Int32) from nI_nlt (a := p) (b := 2) (by omega) (by omega)), if_neg hp, mk_class hN (by omega) (by omega) hn, mk_ref hN (by omega) (by omega) hn, mk_ag_eq hv, Option.bind_some, Option.bind_some, nI_m1 (by omega)]
      cases mk_ag n vv (nI p)
      · simp only [Bool.false_eq_true, if_false, if_true]
        exact ih (p - 1) x (by omega) (by omega) (by omega)
      · simp only [if_true, if_neg (show ¬ (1 : Int32) = 0 by decide)]
        by_cases h0 : x = 0
        · rw [if_pos h0, if_pos h0]
          exact Or.inr ⟨p, x, by omega, h3, rfl, rfl⟩
        · rw [if_neg h0, if_neg h0]
          exact ih (p - 1) _ (by omega) (by omega) (by omega)

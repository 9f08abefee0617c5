/-! rows of mine: plus, minus, times of floats kept in doubles -/
theorem fs_n (r : UInt32) : vf_n32 r ↔ FP.Core.val32 r ≠ .nan := by
  rw [FP.Core.ne_nan32]
  unfold vf_n32
  rw [UInt32.le_iff_toNat_le, UInt32.toNat_and, show (0x7fffffff : UInt32).toNat = 2 ^ 31 - 1 from rfl, Nat.and_two_pow_sub_one_eq_mod, show (0x7f800000 : UInt32).toNat = 2139095040 from rfl]
theorem fs_n0 {r : UInt32} (h : ¬ vf_n32 r) : FP.Core.val32 r = .nan := Classical.byContradiction fun q => h ((fs_n r).mpr q)
theorem fs_al {x y : UInt32} (h : rs_al x y) : x = y ∨ (¬ vf_n32 x ∧ ¬ vf_n32 y) := by
  unfold rs_al alike32 at h
  rw [Bool.or_eq_true, Bool.and_eq_true] at h
  rcases h with h | ⟨h1, h2⟩
  · exact Or.inl (of_decide_eq_true h)
  · exact Or.inr ⟨isNaN32_not.mp h1, isNaN32_not.mp h2⟩
theorem fs_alN {x y : UInt32} (h : rs_al x y) (hy : ¬ vf_n32 y) : ¬ vf_n32 x := by
  rcases fs_al h with rfl | ⟨h1, -⟩
  · exact hy
  · exact h1
theorem fs_alE {x y : UInt32} (h : rs_al x y) (hy : vf_n32 y) : x = y := by
  rcases fs_al h with h | ⟨-, h1⟩
  · exact h
  · exact absurd hy h1
theorem fs_nn {r : UInt32} (h : vf_n32 r) : FP.fIsNaN r = false := (FP.Core.notNaN_iff32 r).mpr ((fs_n r).mp h)
theorem fs_d2f {r : UInt32} (h : vf_n32 r) : FP.d2f (FP.f2d r) = r := by
  have n := fs_nn h
  have n2 : FP.dIsNaN (FP.f2d r) = false := by rw [FP.f2d_nan]; exact n
  rw [FP.d2f_core n2, FP.f2d_core n]
  exact FP.Core.d2f_f2d ((fs_n r).mp h)
theorem fs_vd {r : UInt32} (h : vf_n32 r) : FP.Core.val64 (FP.f2d r) = FP.Core.round FP.Core.b64 (FP.Core.val32 r) := by
  rw [FP.f2d_core (fs_nn h), FP.Core.val64_f2d]
theorem fs_nd {r : UInt32} (h : vf_n32 r) : FP.Core.val64 (FP.f2d r) ≠ .nan := by
  apply (FP.Core.notNaN_iff _).mp
  exact (FP.f2d_nan r).trans (fs_nn h)
theorem fs_ll {N : Nat} : f_X3_isLost N 9094988921128908188 = some 1 := by
  unfold f_X3_isLost f_X3_lost
  rw [Option.bind_some, if_pos (by decide +kernel)]
theorem fs_lost {N : Nat} {r : UInt32} (h : vf_n32 r) : f_X3_isLost N (FP.f2d r) = some 0 := by
  unfold f_X3_isLost f_X3_lost
  rw [Option.bind_some, if_neg]
  intro k
  have e : FP.dcmp (FP.f2d r) 9094988921128908188 = some .eq := by
    generalize FP.dcmp (FP.f2d r) 9094988921128908188 = o at k
    rcases o with _ | (_ | _ | _)
    · exact absurd k (by decide)
    · exact absurd k (by decide)
    · rfl
    · exact absurd k (by decide)
  have nz : ¬ FP.Core.DZero 9094988921128908188 := by
    rintro ⟨s, q, h⟩
    rw [fq_vl] at h
    cases h
  have e2 := FP.Core.eq_bits nz e
  have e3 := fs_d2f h
  rw [e2] at e3
  have e4 : FP.d2f 9094988921128908188 = 0x7f800000 := by decide +kernel
  rw [e4] at e3
  subst e3
  exact absurd e2 (by decide +kernel)
theorem fs_inf {r : UInt32} {s : Bool} (h : FP.Core.val32 r = .inf s) : r = if s then 0xff800000 else 0x7f800000 := by
  cases s with
  | false => exact FP.Core.val32_inj (by rw [h]; exact fun e => by cases e) (h.trans (FP.Core.val32_inf false).symm)
  | true => exact FP.Core.val32_inj (by rw [h]; exact fun e => by cases e) (h.trans (FP.Core.val32_inf true).symm)
theorem fs_f1 : FP.f2d 0x7f800000 = 0x7ff0000000000000 := by decide +kernel
theorem fs_f2 : FP.f2d 0xff800000 = 0xfff0000000000000 := by decide +kernel
theorem fs_e1 {N : Nat} : f_X3_isEndless N 0x7ff0000000000000 = some 1 := by
  unfold f_X3_isEndless
  rw [if_pos (by decide +kernel)]
theorem fs_e2 {N : Nat} : f_X3_isEndless N 0xfff0000000000000 = some 1 := by
  unfold f_X3_isEndless
  rw [if_neg (by decide +kernel), if_neg (by decide +kernel)]
theorem fs_fit {r : UInt32} {s : Bool} {c : Nat} {q : Int} (h : FP.Core.val32 r = .fin s c q) : c < 2 ^ 24 ∧ -149 ≤ q ∧ q ≤ 104 := by
  have f := FP.Core.val32_fits r
  rw [h] at f
  have m : FP.Core.b32.qmin = -149 := by decide
  have mx : FP.Core.b32.qmax = 104 := by decide
  exact ⟨f.1, by have := f.2.1; omega, by have := f.2.2.1; omega⟩
theorem fs_e0 {N : Nat} {r : UInt32} {s : Bool} {c : Nat} {q : Int} (h : FP.Core.val32 r = .fin s c q) : f_X3_isEndless N (FP.f2d r) = some 0 := by
  obtain ⟨h1, h2, h3⟩ := fs_fit h
  rw [fq_f2d h]
  have z := fq_zvalS (s := s) (c := c) (q := q) (by omega) (by omega) (by omega)
  have b := fq_small2 (c := c) (e := q) (by omega) (by omega)
  have big := fq_big (m := 0x11CCF385EBC8A0) (k := 2045) (by decide) (by decide) b
  have big := Int.ofNat_lt.mpr big
  have nb : (0 : Int) ≤ ((c * 2 ^ (q + 1074).toNat : Nat) : Int) := Int.natCast_nonneg _
  have d1 := FP.Core.dcmp_zval (a := fq_R s c q) (b := 9214871658872686752) (fq_nn _ _ _) (by rw [fq_ve]; exact fun e => by cases e)
  have d2 := FP.Core.dcmp_zval (a := fq_R s c q) (b := 18438243695727462560) (fq_nn _ _ _) (by rw [fq_vf]; exact fun e => by cases e)
  rw [z, fq_ze] at d1
  rw [z, fq_zf] at d2
  generalize ((0x11CCF385EBC8A0 * 2 ^ 2045 : Nat) : Int) = X at big d1 d2
  have sg : FP.Core.signed s (c * 2 ^ (q + 1074).toNat) = ((c * 2 ^ (q + 1074).toNat : Nat) : Int) ∨ FP.Core.signed s (c * 2 ^ (q + 1074).toNat) = -((c * 2 ^ (q + 1074).toNat : Nat) : Int) := by
    cases s
    · exact Or.inl rfl
    · exact Or.inr rfl
  have big : ((c * 2 ^ (q + 1074).toNat : Nat) : Int) < X := big
  rw [(FP.Core.compare_lt_iff _ _).mpr (by omega)] at d1
  rw [(FP.Core.compare_gt_iff _ _).mpr (by omega)] at d2
  have d1 : FP.dcmp (fq_R s c q) 9214871658872686752 = some .lt := d1
  have d2 : FP.dcmp (fq_R s c q) 18438243695727462560 = some .gt := d2
  unfold f_X3_isEndless
  rw [d1, d2]
  rfl
theorem fs_c {r : UInt32} (h : vf_n32 r) : (∃ s, FP.Core.val32 r = .inf s) ∨ ∃ s c q, FP.Core.val32 r = .fin s c q := by
  have := (fs_n r).mp h
  cases e : FP.Core.val32 r with
  | nan => exact absurd e this
  | inf s => exact Or.inl ⟨s, rfl⟩
  | fin s c q => exact Or.inr ⟨s, c, q, rfl⟩
theorem fs_g32 {r : UInt32} (h : vf_n32 r) {β : Type} (y : Option β) : zk_n32 r y = y := by
  unfold zk_n32
  exact if_pos h
theorem fs_g64 {r : UInt32} (h : vf_n32 r) {β : Type} (y : Option β) : zk_n64 (FP.f2d r) y = y := by
  have n := fl_n64 ((FP.Core.notNaN_iff _).mpr (fs_nd h))
  unfold zk_n64
  exact if_pos n
theorem fs_add {r s : UInt32} (hr : vf_n32 r) (hs : vf_n32 s) (h : vf_n32 (FP.fadd r s)) : zk_n32 (FP.d2f (FP.f2d r)) (zk_n32 (FP.d2f (FP.f2d s)) (zk_n32 (FP.fadd (FP.d2f (FP.f2d r)) (FP.d2f (FP.f2d s))) (zk_n64 (FP.f2d (FP.fadd (FP.d2f (FP.f2d r)) (FP.d2f (FP.f2d s)))) (some (FP.f2d (FP.fadd (FP.d2f (FP.f2d r)) (FP.d2f (FP.f2d s)))))))) = some (FP.f2d (FP.fadd r s)) := by
  rw [fs_d2f hr, fs_d2f hs, fs_g32 hr, fs_g32 hs, fs_g32 h, fs_g64 h]
theorem fs_mulg {r s : UInt32} (hr : vf_n32 r) (hs : vf_n32 s) (h : vf_n32 (FP.fmul r s)) : zk_n32 (FP.d2f (FP.f2d r)) (zk_n32 (FP.d2f (FP.f2d s)) (zk_n32 (FP.fmul (FP.d2f (FP.f2d r)) (FP.d2f (FP.f2d s))) (zk_n64 (FP.f2d (FP.fmul (FP.d2f (FP.f2d r)) (FP.d2f (FP.f2d s)))) (some (FP.f2d (FP.fmul (FP.d2f (FP.f2d r)) (FP.d2f (FP.f2d s)))))))) = some (FP.f2d (FP.fmul r s)) := by
  rw [fs_d2f hr, fs_d2f hs, fs_g32 hr, fs_g32 hs, fs_g32 h, fs_g64 h]
theorem fs_addn {r s : UInt32} (h : ∀ t, ¬ (FP.Core.val32 r = .inf t ∧ FP.Core.val32 s = .inf (!t))) (hr : vf_n32 r) (hs : vf_n32 s) : vf_n32 (FP.fadd r s) := by
  apply (fs_n _).mpr
  apply (FP.Core.notNaN_iff32 _).mp
  apply FP.Core.not_true32 (FP.Core.fadd_nan_iff r s)
  rintro (k | k | ⟨t, k⟩)
  · exact (fs_n r).mp hr k
  · exact (fs_n s).mp hs k
  · exact h t k
theorem fs_addN {r s : UInt32} (h : FP.Core.val32 r = .nan ∨ FP.Core.val32 s = .nan) : ¬ vf_n32 (FP.fadd r s) := by
  intro k
  have := (FP.Core.notNaN_iff32 _).mpr ((fs_n _).mp k)
  have h2 := (FP.Core.fadd_nan_iff r s).mpr (by rcases h with h | h; exact Or.inl h; exact Or.inr (Or.inl h))
  rw [h2] at this
  cases this
theorem fs_mulN {r s : UInt32} (h : FP.Core.val32 r = .nan ∨ FP.Core.val32 s = .nan) : ¬ vf_n32 (FP.fmul r s) := by
  intro k
  have := (FP.Core.notNaN_iff32 _).mpr ((fs_n _).mp k)
  have h2 := (FP.Core.fmul_nan_iff r s).mpr (by rcases h with h | h; exact Or.inl h; exact Or.inr (Or.inl h))
  rw [h2] at this
  cases this
theorem fs_plus {N : Nat} {a b : UInt64} {r s x : UInt32} (ha : ma_f a r) (hb : ma_f b s) (hx : rs_al x (FP.fadd r s)) : ∃ o, f_X3_plus N a b = some o ∧ ma_f o x := by
  rcases ha with ⟨n1, rfl⟩ | ⟨n1, rfl⟩
  · refine ⟨9094988921128908188, ?_, Or.inl ⟨fs_alN hx (fs_addN (Or.inl (fs_n0 n1))), rfl⟩⟩
    unfold f_X3_plus
    rw [fs_ll, Option.bind_some, if_neg (by decide)]
    rfl
  rcases hb with ⟨n2, rfl⟩ | ⟨n2, rfl⟩
  · refine ⟨9094988921128908188, ?_, Or.inl ⟨fs_alN hx (fs_addN (Or.inr (fs_n0 n2))), rfl⟩⟩
    unfold f_X3_plus
    rw [fs_lost n1, Option.bind_some, if_pos rfl, fs_ll, Option.bind_some, if_neg (by decide)]
    rfl
  have main : vf_n32 (FP.fadd r s) → f_X3_plus N (FP.f2d r) (FP.f2d s) = some (FP.f2d (FP.fadd r s)) → ∃ o, f_X3_plus N (FP.f2d r) (FP.f2d s) = some o ∧ ma_f o x := fun h1 h2 => ⟨_, h2, Or.inr ⟨by rw [fs_alE hx h1]; exact h1, by rw [fs_alE hx h1]⟩⟩
  rcases fs_c n1 with ⟨t, e1⟩ | ⟨t, c, q, e1⟩
  · rcases fs_c n2 with ⟨u, e2⟩ | ⟨u, c, q, e2⟩
    · have r1 := fs_inf e1
      have r2 := fs_inf e2
      cases t <;> cases u <;> simp only [if_true, if_false, Bool.false_eq_true] at r1 r2 <;> subst r1 <;> subst r2
      · refine main (by unfold vf_n32; decide +kernel) ?_
        unfold f_X3_plus
        rw [fs_lost n1, Option.bind_some, if_pos rfl, Option.bind_some, if_pos rfl, fs_f1, fs_e1, Option.bind_some, if_neg (by decide), Option.bind_some, if_neg (by decide), if_neg (by decide +kernel), if_neg (by decide +kernel), ← fs_f1, fs_add n1 n2 (by unfold vf_n32; decide +kernel)]
      · refine ⟨9094988921128908188, ?_, Or.inl ⟨fs_alN hx (by unfold vf_n32; decide +kernel), rfl⟩⟩
        unfold f_X3_plus
        rw [fs_lost n1, Option.bind_some, if_pos rfl, fs_lost n2, Option.bind_some, if_pos rfl, fs_f1, fs_f2, fs_e1, Option.bind_some, if_neg (by decide), fs_e2, Option.bind_some, if_neg (by decide), if_neg (by decide +kernel), if_pos (by decide +kernel)]
        rfl
      · refine ⟨9094988921128908188, ?_, Or.inl ⟨fs_alN hx (by unfold vf_n32; decide +kernel), rfl⟩⟩
        unfold f_X3_plus
        rw [fs_lost n1, Option.bind_some, if_pos rfl, fs_lost n2, Option.bind_some, if_pos rfl, fs_f1, fs_f2, fs_e2, Option.bind_some, if_neg (by decide), fs_e1, Option.bind_some, if_neg (by decide), if_pos (by decide +kernel), if_neg (by decide +kernel)]
        rfl
      · refine main (by unfold vf_n32; decide +kernel) ?_
        unfold f_X3_plus
        rw [fs_lost n1, Option.bind_some, if_pos rfl, Option.bind_some, if_pos rfl, fs_f2, fs_e2, Option.bind_some, if_neg (by decide), Option.bind_some, if_neg (by decide), if_pos (by decide +kernel), if_pos (by decide +kernel), ← fs_f2, fs_add n1 n2 (by unfold vf_n32; decide +kernel)]
    · have hn := fs_addn (r := r) (s := s) (fun t h => by rw [e2] at h; cases h.2) n1 n2
      refine main hn ?_
      have e3 : f_X3_isEndless N (FP.f2d r) = some 1 := by
        have r1 := fs_inf e1
        cases t <;> simp only [if_true, if_false, Bool.false_eq_true] at r1 <;> subst r1
        · rw [fs_f1]; exact fs_e1
        · rw [fs_f2]; exact fs_e2
      unfold f_X3_plus
      rw [fs_lost n1, Option.bind_some, if_pos rfl, fs_lost n2, Option.bind_some, if_pos rfl, e3, Option.bind_some, if_neg (by decide), fs_e0 e2, Option.bind_some, if_pos rfl, fs_add n1 n2 hn]
  · have hn := fs_addn (r := r) (s := s) (fun t h => by rw [e1] at h; cases h.1) n1 n2
    refine main hn ?_
    unfold f_X3_plus
    rw [fs_lost n1, Option.bind_some, if_pos rfl, fs_lost n2, Option.bind_some, if_pos rfl, fs_e0 e1, Option.bind_some, if_pos rfl, fs_add n1 n2 hn]
theorem fs_z {r : UInt32} (h : vf_n32 r) : Op.cmpValue (FP.dcmp (FP.f2d r) FP.dconst0) .l = 0 ↔ FP.Core.FZero r := by
  have z : FP.dcmp (FP.f2d r) FP.dconst0 = some .eq ↔ FP.Core.DZero (FP.f2d r) := FP.Core.zero_iff
  have k : Op.cmpValue (FP.dcmp (FP.f2d r) FP.dconst0) .l = 0 ↔ FP.dcmp (FP.f2d r) FP.dconst0 = some .eq := by
    generalize FP.dcmp (FP.f2d r) FP.dconst0 = o
    rcases o with _ | (_ | _ | _) <;> decide
  rw [k, z]
  constructor
  · rintro ⟨s, q, e⟩
    have n2 : FP.dIsNaN (FP.f2d r) = false := (FP.f2d_nan r).trans (fs_nn h)
    have d := fs_d2f h
    rw [FP.d2f_core n2] at d
    have v := FP.Core.val32_d2f (FP.f2d r)
    rw [d, e] at v
    exact ⟨s, _, v⟩
  · rintro ⟨s, q, e⟩
    exact ⟨s, _, (fs_vd h).trans (by rw [e]; rfl)⟩
theorem fs_times {N : Nat} {a b : UInt64} {r s x : UInt32} (ha : ma_f a r) (hb : ma_f b s) (hx : rs_al x (FP.fmul r s)) : ∃ o, f_X3_times N a b = some o ∧ ma_f o x := by
  rcases ha with ⟨n1, rfl⟩ | ⟨n1, rfl⟩
  · refine ⟨9094988921128908188, ?_, Or.inl ⟨fs_alN hx (fs_mulN (Or.inl (fs_n0 n1))), rfl⟩⟩
    unfold f_X3_times
    rw [fs_ll, Option.bind_some, if_neg (by decide)]
    rfl
  rcases hb with ⟨n2, rfl⟩ | ⟨n2, rfl⟩
  · refine ⟨9094988921128908188, ?_, Or.inl ⟨fs_alN hx (fs_mulN (Or.inr (fs_n0 n2))), rfl⟩⟩
    unfold f_X3_times
    rw [fs_lost n1, Option.bind_some, if_pos rfl, fs_ll, Option.bind_some, if_neg (by decide)]
    rfl
  have main : vf_n32 (FP.fmul r s) → f_X3_times N (FP.f2d r) (FP.f2d s) = some (FP.f2d (FP.fmul r s)) → ∃ o, f_X3_times N (FP.f2d r) (FP.f2d s) = some o ∧ ma_f o x := fun h1 h2 => ⟨_, h2, Or.inr ⟨by rw [fs_alE hx h1]; exact h1, by rw [fs_alE hx h1]⟩⟩
  have bad : (∃ t, FP.Core.val32 r = .inf t ∧ FP.Core.FZero s) ∨ (∃ t, FP.Core.FZero r ∧ FP.Core.val32 s = .inf t) → ¬ vf_n32 (FP.fmul r s) := fun h k => by
    have a := (FP.Core.notNaN_iff32 _).mpr ((fs_n _).mp k)
    have b := (FP.Core.fmul_nan_iff r s).mpr (Or.inr (Or.inr h))
    rw [b] at a
    cases a
  have good : ¬ ((∃ t, FP.Core.val32 r = .inf t ∧ FP.Core.FZero s) ∨ (∃ t, FP.Core.FZero r ∧ FP.Core.val32 s = .inf t)) → vf_n32 (FP.fmul r s) := fun h => by
    apply (fs_n _).mpr
    apply (FP.Core.notNaN_iff32 _).mp
    apply FP.Core.not_true32 (FP.Core.fmul_nan_iff r s)
    rintro (k | k | k)
    · exact (fs_n r).mp n1 k
    · exact (fs_n s).mp n2 k
    · exact h k
  have ei : ∀ {u : UInt32} {t : Bool}, FP.Core.val32 u = .inf t → f_X3_isEndless N (FP.f2d u) = some 1 := fun {u t} e => by
    have r1 := fs_inf e
    cases t <;> simp only [if_true, if_false, Bool.false_eq_true] at r1 <;> subst r1
    · rw [fs_f1]; exact fs_e1
    · rw [fs_f2]; exact fs_e2
  rcases fs_c n1 with ⟨t, e1⟩ | ⟨t, c, q, e1⟩
  · have nz : ¬ FP.Core.FZero r := by rintro ⟨s, q, h⟩; rw [e1] at h; cases h
    by_cases z2 : FP.Core.FZero s
    · refine ⟨9094988921128908188, ?_, Or.inl ⟨fs_alN hx (bad (Or.inl ⟨t, e1, z2⟩)), rfl⟩⟩
      unfold f_X3_times
      rw [fs_lost n1, Option.bind_some, if_pos rfl, fs_lost n2, Option.bind_some, if_pos rfl, ei e1, Option.bind_some, if_neg (by decide), if_pos ((fs_z n2).mpr z2)]
      rfl
    · have hn := good (by rintro (⟨t, -, h⟩ | ⟨t, h, -⟩); exact z2 h; exact nz h)
      refine main hn ?_
      unfold f_X3_times
      rw [fs_lost n1, Option.bind_some, if_pos rfl, fs_lost n2, Option.bind_some, if_pos rfl, ei e1, Option.bind_some, if_neg (by decide), if_neg (fun h => z2 ((fs_z n2).mp h)), if_neg (fun h => nz ((fs_z n1).mp h)), fs_mulg n1 n2 hn]
  · by_cases z1 : FP.Core.FZero r
    · rcases fs_c n2 with ⟨u, e2⟩ | ⟨u, d, p, e2⟩
      · refine ⟨9094988921128908188, ?_, Or.inl ⟨fs_alN hx (bad (Or.inr ⟨u, z1, e2⟩)), rfl⟩⟩
        unfold f_X3_times
        rw [fs_lost n1, Option.bind_some, if_pos rfl, fs_lost n2, Option.bind_some, if_pos rfl, fs_e0 e1, Option.bind_some, if_pos rfl, if_pos ((fs_z n1).mpr z1), ei e2, Option.bind_some, if_neg (by decide)]
        rfl
      · have hn := good (by rintro (⟨t, h, -⟩ | ⟨t, -, h⟩); rw [e1] at h; cases h; rw [e2] at h; cases h)
        refine main hn ?_
        unfold f_X3_times
        rw [fs_lost n1, Option.bind_some, if_pos rfl, fs_lost n2, Option.bind_some, if_pos rfl, fs_e0 e1, Option.bind_some, if_pos rfl, if_pos ((fs_z n1).mpr z1), fs_e0 e2, Option.bind_some, if_pos rfl, fs_mulg n1 n2 hn]
    · have hn := good (by rintro (⟨t, h, -⟩ | ⟨t, h, -⟩); rw [e1] at h; cases h; exact z1 h)
      refine main hn ?_
      unfold f_X3_times
      rw [fs_lost n1, Option.bind_some, if_pos rfl, fs_lost n2, Option.bind_some, if_pos rfl, fs_e0 e1, Option.bind_some, if_pos rfl, if_neg (fun h => z1 ((fs_z n1).mp h)), fs_mulg n1 n2 hn]
theorem fs_fneg {s : UInt32} (h : vf_n32 s) : vf_n32 (FP.fneg s) := by
  apply (fs_n _).mpr
  rw [FP.val32_fneg]
  exact FP.Core.negate_ne_nan ((fs_n _).mp h)
theorem fs_dneg {s : UInt32} (h : vf_n32 s) : FP.dneg (FP.f2d s) = FP.f2d (FP.fneg s) := by
  refine FP.Core.val64_inj ?_ ?_
  · rw [FP.val64_dneg]
    exact FP.Core.negate_ne_nan (fs_nd h)
  · rw [FP.val64_dneg, fs_vd h, fs_vd (fs_fneg h), FP.val32_fneg, FP.Core.negate_round]
theorem fs_minus {N : Nat} {a b : UInt64} {r s x : UInt32} (ha : ma_f a r) (hb : ma_f b s) (hx : rs_al x (FP.fsub r s)) : ∃ o, f_X3_minus N a b = some o ∧ ma_f o x := by
  rcases hb with ⟨n2, rfl⟩ | ⟨n2, rfl⟩
  · have hN : ¬ vf_n32 (FP.fsub r s) := fun k => by
      have a := (FP.Core.notNaN_iff32 _).mpr ((fs_n _).mp k)
      have b := (FP.Core.fsub_nan_iff r s).mpr (Or.inr (Or.inl (fs_n0 n2)))
      rw [b] at a
      cases a
    refine ⟨9094988921128908188, ?_, Or.inl ⟨fs_alN hx hN, rfl⟩⟩
    unfold f_X3_minus
    rw [fs_ll, Option.bind_some, if_neg (by decide)]
    rfl
  · have e : FP.fsub r s = FP.fadd r (FP.fneg s) := by
      have : FP.Core.fsub r s = _ := FP.Core.fsub_eq r s
      rw [FP.fneg_core (fs_nn n2)]
      exact this
    rw [e] at hx
    obtain ⟨o, h1, h2⟩ := fs_plus (N := N) ha (show ma_f (FP.dneg (FP.f2d s)) (FP.fneg s) from Or.inr ⟨fs_fneg n2, fs_dneg n2⟩) hx
    refine ⟨o, ?_, h2⟩
    unfold f_X3_minus
    rw [fs_lost n2, Option.bind_some, if_pos rfl, h1]
    rfl
theorem fs_i {v : Int32} (h : v.toInt.natAbs ≤ 2 ^ 24) : ma_f (FP.i2d v) (FP.i2f v) := by
  refine Or.inr ⟨(fs_n _).mpr (FP.Core.i2f_fin v).ne_nan, ?_⟩
  have n : FP.fIsNaN (FP.i2f v) = false := (FP.Core.i2f_fin v).notNaN
  rw [FP.f2d_core n]
  have e1 : FP.i2f v = FP.Core.l2f v.toInt64 := FP.Core.i2f_l2f v
  have e2 : FP.i2d v = FP.Core.l2d v.toInt64 := FP.Core.i2d_l2d v
  rw [e1, e2]
  exact (FP.Core.f2d_l2f (by rw [Int32.toInt_toInt64]; exact h)).symm
theorem fs_hun : ma_f 4576918229175238656 1008981770 := Or.inr ⟨by unfold vf_n32; decide, by decide +kernel⟩
/-- a sum is -0 only where the first number is -0 -/
theorem fs_nz {a b : UInt32} (h : FP.fadd a b = 0x80000000) : a = 0x80000000 := by
  have v : FP.Core.val32 (FP.fadd a b) = .fin true 0 FP.Core.b32.qmin := by rw [h]; exact FP.Core.val32_fzeroNeg
  have e : FP.Core.val32 (FP.fadd a b) = FP.Core.round FP.Core.b32 (FP.Core.exactSum (FP.Core.val32 a) (FP.Core.val32 b)) := FP.Core.val32_fadd a b
  rw [v] at e
  have fa := FP.Core.val32_fits a
  have fb := FP.Core.val32_fits b
  cases ea : FP.Core.val32 a with
  | nan => rw [ea] at e; cases e
  | inf s =>
    rw [ea] at e
    cases eb : FP.Core.val32 b with
    | nan => rw [eb] at e; cases e
    | inf t =>
      rw [eb] at e
      by_cases w : s = t
      · have z : FP.Core.exactSum (.inf s) (.inf t) = .inf s := by simp [FP.Core.exactSum, w]
        rw [z] at e
        cases e
      · have z : FP.Core.exactSum (.inf s) (.inf t) = .nan := by simp [FP.Core.exactSum, w]
        rw [z] at e
        cases e
    | fin t d r => rw [eb] at e; cases e
  | fin s c q =>
    rw [ea] at e fa
    cases eb : FP.Core.val32 b with
    | nan => rw [eb] at e; cases e
    | inf t => rw [eb] at e; cases e
    | fin t d r =>
      rw [eb] at e fb
      obtain ⟨sg, n, x, k1, k2, k3⟩ := FP.Core.sum_units fa fb
      rw [k1] at e
      have e : FP.Core.Datum.fin true 0 FP.Core.b32.qmin = FP.Core.roundRatio FP.Core.b32 sg n 1 x := e
      have hsg : true = sg := by
        have := FP.Core.sgn_roundRatio FP.Core.b32 sg n 1 x
        rw [← e] at this
        exact this
      have hn : n = 0 := by
        rcases Nat.eq_zero_or_pos n with w | w
        · exact w
        · exfalso
          have hV : FP.Core.fits FP.Core.b32 (.fin false 1 FP.Core.b32.qmin) := ⟨by decide, by decide, by decide, Or.inl rfl⟩
          have g := FP.Core.zmag_roundRatio_ge FP.Core.good_b32 (s := sg) (A := n) (B := 1) (e := x) (e0 := FP.Core.b32.qmin) (by decide) hV (Int.le_refl _) k2 (by
            unfold FP.Core.inUnits
            have z : FP.Core.zmag FP.Core.b32 (.fin false 1 FP.Core.b32.qmin) = 1 := by decide
            rw [z, Int.sub_self]
            have : 0 < n * 2 ^ (x - FP.Core.b32.qmin).toNat := Nat.mul_pos w (Nat.two_pow_pos _)
            exact (show 1 * 2 ^ (0 : Int).toNat * 1 ≤ n * 2 ^ (x - FP.Core.b32.qmin).toNat from this))
          rw [← e] at g
          exact absurd g (by decide)
      subst hn
      subst hsg
      have hx : FP.Core.exactSum (.fin s c q) (.fin t d r) = .fin (FP.Core.sumSign s t (FP.Core.sumUnits s c q t d r (min q r))) (FP.Core.sumUnits s c q t d r (min q r)).natAbs (min q r) := rfl
      rw [hx] at k1
      have h5 : FP.Core.sumSign s t (FP.Core.sumUnits s c q t d r (min q r)) = true := by injection k1
      have h6 : (FP.Core.sumUnits s c q t d r (min q r)).natAbs = 0 := by injection k1
      have h7 : FP.Core.sumUnits s c q t d r (min q r) = 0 := Int.natAbs_eq_zero.mp h6
      rw [h7] at h5
      unfold FP.Core.sumSign at h5
      rw [if_pos rfl, Bool.and_eq_true] at h5
      obtain ⟨rfl, rfl⟩ := h5
      have h8 : FP.Core.inUnits c q (min q r) = 0 := by
        unfold FP.Core.sumUnits FP.Core.signed at h7
        simp only [if_true] at h7
        omega
      have hc : c = 0 := by
        unfold FP.Core.inUnits at h8
        rcases Nat.mul_eq_zero.mp h8 with w | w
        · exact w
        · have := Nat.two_pow_pos (q - min q r).toNat
          omega
      subst hc
      have hq : q = FP.Core.b32.qmin := by
        rcases fa.2.2.2 with w | w
        · exact w
        · exact absurd w (by decide)
      subst hq
      exact FP.Core.val32_inj (by rw [ea]; exact fun e => by cases e) (ea.trans FP.Core.val32_fzeroNeg.symm)

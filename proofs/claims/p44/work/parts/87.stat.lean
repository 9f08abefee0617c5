/-! rows of mine: what the start gives of the law's text -/
set_option maxRecDepth 100000 in
theorem arr_z : (Cond.arrayOver (.array .boolean)) ∈ lw_tbl := by decide +kernel
set_option maxRecDepth 100000 in
theorem lw_stS {s : State} {b : Nat} {A : Nat → Prop} (hts : ∀ w ∈ lw_tbl, w.before #[Value.ref b] s = true) (hgv : (Jvm.Cond.and given_1 narrow_1).before #[Value.ref b] s = true) (hA : ∀ a : Nat, a < s.heap.size → ¬ A a) : ∃ ad vl, ns_K ad vl A s s.heap := by
  have hq := flat_of_before _ hgv
  obtain ⟨adK, adV, hS, hE⟩ := vk_Sof (args := #[Value.ref b]) (s := s) (N := 1) (tm := fun _ => Term.string "PulseMeadowLaw" 196) (len := [4]) (byt := [[114, 108, 104, 97]]) (A := A)
    (fun i hi => by rw [show i = 0 by omega]; decide)
    (fun i hi => hq (Cond.exactly (Term.string "PulseMeadowLaw" 196) "java/lang/String") (by decide +kernel))
    (fun i hi => hq (Cond.eq (.field (Term.string "PulseMeadowLaw" 196) "java/lang/String" "coder" "B") (.int 0)) (by decide +kernel))
    (fun i hi => hq (Cond.arrayOf (.field (Term.string "PulseMeadowLaw" 196) "java/lang/String" "value" "[B") .byte) (by decide +kernel))
    (fun i hi => by
      obtain rfl : i = 0 := by omega
      exact hq (Cond.eq (.length (.field (Term.string "PulseMeadowLaw" 196) "java/lang/String" "value" "[B")) (.int 4)) (by decide +kernel))
    (fun i hi j hj => by
      obtain rfl : i = 0 := by omega
      have hj : j < 4 := hj
      rcases (by omega : j = 0 ∨ j = 1 ∨ j = 2 ∨ j = 3) with rfl | rfl | rfl | rfl
      · exact hq (Cond.eq (.elem (.field (Term.string "PulseMeadowLaw" 196) "java/lang/String" "value" "[B") (.int 0)) (.int 114)) (by decide +kernel)
      · exact hq (Cond.eq (.elem (.field (Term.string "PulseMeadowLaw" 196) "java/lang/String" "value" "[B") (.int 1)) (.int 108)) (by decide +kernel)
      · exact hq (Cond.eq (.elem (.field (Term.string "PulseMeadowLaw" 196) "java/lang/String" "value" "[B") (.int 2)) (.int 104)) (by decide +kernel)
      · exact hq (Cond.eq (.elem (.field (Term.string "PulseMeadowLaw" 196) "java/lang/String" "value" "[B") (.int 3)) (.int 97)) (by decide +kernel))
    (fun i j hi hj hij => absurd (show i = j by omega) hij) hA
  refine ⟨adK 0, adV 0, vk_R.of (hts (.stringRef RL 196 "rlha") (by decide +kernel)) (hE 0 (by omega)), ⟨fun i hi => ?_, fun i j hi hj _ => by omega⟩, va_Zof (hts (.laysStatic "java/lang/String" "COMPACT_STRINGS" "Z") (by decide +kernel)) (hts (.initialized "java/lang/String") (by decide +kernel)) (va_eqi (hq (Cond.eq (.static "java/lang/String" "COMPACT_STRINGS" "Z") (.int 1)) (by decide +kernel))) hA, va_Zqof (hts (.laysStatic "jdk/internal/util/Preconditions" "SIOOBE_FORMATTER" "Ljava/util/function/BiFunction;") (by decide +kernel)) (hts (.initialized "jdk/internal/util/Preconditions") (by decide +kernel)) (hq (Cond.isRef (.static "jdk/internal/util/Preconditions" "SIOOBE_FORMATTER" "Ljava/util/function/BiFunction;")) (by decide +kernel)) hA⟩
  obtain rfl : i = 0 := by omega
  exact hS.1 0 hi

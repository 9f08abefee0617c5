/-! rows of mine: what the start gives: classes, arrays, statics -/
theorem lw_arrC {args : Array Value} {s : State} {ty : FieldType} (ht : ∀ C, ty ≠ .object C) (h : (Cond.arrayClass ty).before args s = true) : ∃ cA : ClassId, ArrOfT s cA ty ∧ va_RA s cA ty := by
  obtain ⟨c, k, comp, h1, h2, h3⟩ := Cond.arrayClass_spec (show (Cond.arrayClass ty).holds args s none s [] = true from h)
  refine ⟨c, fun n z => ⟨fun k h => (by cases h), k, h2, comp, h3⟩, ?_⟩
  cases ty <;> first | exact h1 | exact absurd rfl (ht _)
theorem lw_arrA {args : Array Value} {s : State} {ty : FieldType} (h : (Cond.arrayOver (.array ty)).before args s = true) : ∃ cA : ClassId, ArrOfT s cA (.array ty) ∧ va_RA s cA (.array ty) := by
  obtain ⟨comp, c, k, h1, h2, h3, h4⟩ := Cond.arrayOver_specA (show (Cond.arrayOver (.array ty)).holds args s none s [] = true from h)
  exact ⟨c, fun n z => ⟨fun k h => (by cases h), k, h2, comp, h3⟩, h4⟩
theorem lw_arrO {args : Array Value} {s : State} {C : String} (h : (Cond.arrayOver (.object C)).before args s = true) : ∃ cA : ClassId, ArrOfT s cA (.object C) ∧ va_RA s cA (.object C) := by
  obtain ⟨comp, c, k, h1, h2, h3, h4, h5⟩ := Cond.arrayOver_spec (show (Cond.arrayOver (.object C)).holds args s none s [] = true from h)
  exact ⟨c, fun n z => ⟨fun k h => (by cases h), k, h3, comp, h4⟩, k, comp, h3, h4, h1, h5⟩
set_option maxRecDepth 100000 in
theorem lw_cls {s : State} {args : Array Value} (hts : ∀ w ∈ lw_tbl, w.before args s = true) : ∃ D : va_G, ∀ (k : Nat) (q : vw_C), vwCl[k]? = some q → u_Kn s q.1 q.2.1 q.2.2 (D.1 k) (D.2 k) := by
  have H : ∀ k : Nat, ∃ (cC : ClassId) (iS : Nat → Nat), ∀ q : vw_C, vwCl[k]? = some q → u_Kn s q.1 q.2.1 q.2.2 cC iS := by
    intro k
    match k with
    | 0 =>
      obtain ⟨c, i, h⟩ := u_known (C := RJ0) (T := TJ0) (N := 2) (n := 4) hts (by decide +kernel) (hts (.instantiable RJ0 4) (by decide +kernel))
      exact ⟨c, i, fun q hq => by cases hq; exact h⟩
    | 1 =>
      obtain ⟨c, i, h⟩ := u_known (C := RJ6) (T := TJ6) (N := 1) (n := 1) hts (by decide +kernel) (hts (.instantiable RJ6 1) (by decide +kernel))
      exact ⟨c, i, fun q hq => by cases hq; exact h⟩
    | 2 =>
      obtain ⟨c, i, h⟩ := u_known (C := RJx00060) (T := TJx00060) (N := 6) (n := 6) hts (by decide +kernel) (hts (.instantiable RJx00060 6) (by decide +kernel))
      exact ⟨c, i, fun q hq => by cases hq; exact h⟩
    | 3 =>
      obtain ⟨c, i, h⟩ := u_known (C := RJx35411) (T := TJx35411) (N := 4) (n := 4) hts (by decide +kernel) (hts (.instantiable RJx35411 4) (by decide +kernel))
      exact ⟨c, i, fun q hq => by cases hq; exact h⟩
    | 4 =>
      obtain ⟨c, i, h⟩ := u_known (C := RJx4a65c) (T := TJx4a65c) (N := 3) (n := 3) hts (by decide +kernel) (hts (.instantiable RJx4a65c 3) (by decide +kernel))
      exact ⟨c, i, fun q hq => by cases hq; exact h⟩
    | 5 =>
      obtain ⟨c, i, h⟩ := u_known (C := RX0) (T := TX0) (N := 2) (n := 2) hts (by decide +kernel) (hts (.instantiable RX0 2) (by decide +kernel))
      exact ⟨c, i, fun q hq => by cases hq; exact h⟩
    | 6 =>
      obtain ⟨c, i, h⟩ := u_known (C := RX1) (T := TX1) (N := 11) (n := 11) hts (by decide +kernel) (hts (.instantiable RX1 11) (by decide +kernel))
      exact ⟨c, i, fun q hq => by cases hq; exact h⟩
    | 7 =>
      obtain ⟨c, i, h⟩ := u_known (C := RX2) (T := TX2) (N := 3) (n := 3) hts (by decide +kernel) (hts (.instantiable RX2 3) (by decide +kernel))
      exact ⟨c, i, fun q hq => by cases hq; exact h⟩
    | 8 =>
      obtain ⟨c, i, h⟩ := u_known (C := RX3) (T := TX3) (N := 5) (n := 5) hts (by decide +kernel) (hts (.instantiable RX3 5) (by decide +kernel))
      exact ⟨c, i, fun q hq => by cases hq; exact h⟩
    | 9 =>
      obtain ⟨c, i, h⟩ := u_known (C := RX4) (T := TX4) (N := 6) (n := 6) hts (by decide +kernel) (hts (.instantiable RX4 6) (by decide +kernel))
      exact ⟨c, i, fun q hq => by cases hq; exact h⟩
    | 10 =>
      obtain ⟨c, i, h⟩ := u_known (C := RX5) (T := TX5) (N := 15) (n := 15) hts (by decide +kernel) (hts (.instantiable RX5 15) (by decide +kernel))
      exact ⟨c, i, fun q hq => by cases hq; exact h⟩
    | 11 =>
      obtain ⟨c, i, h⟩ := u_known (C := RX6) (T := TX6) (N := 8) (n := 8) hts (by decide +kernel) (hts (.instantiable RX6 8) (by decide +kernel))
      exact ⟨c, i, fun q hq => by cases hq; exact h⟩
    | 12 =>
      obtain ⟨c, i, h⟩ := u_known (C := RX7) (T := TX7) (N := 4) (n := 4) hts (by decide +kernel) (hts (.instantiable RX7 4) (by decide +kernel))
      exact ⟨c, i, fun q hq => by cases hq; exact h⟩
    | 13 =>
      obtain ⟨c, i, h⟩ := u_known (C := RX8) (T := TX8) (N := 21) (n := 21) hts (by decide +kernel) (hts (.instantiable RX8 21) (by decide +kernel))
      exact ⟨c, i, fun q hq => by cases hq; exact h⟩
    | k + 14 => exact ⟨(0 : Nat), fun _ => 0, fun q hq => by simp [vwCl] at hq⟩
  obtain ⟨dC, h⟩ := Classical.skolem.mp H
  obtain ⟨dI, h⟩ := Classical.skolem.mp h
  exact ⟨(dC, dI), h⟩
set_option maxRecDepth 100000 in
theorem lw_tys {s : State} {args : Array Value} (hts : ∀ w ∈ lw_tbl, w.before args s = true) : ∃ T : Nat → ClassId, ∀ (k : Nat) (q : ClassId × FieldType), (zr_ty T)[k]? = some q → ArrOfT s q.1 q.2 ∧ va_RA s q.1 q.2 := by
  obtain ⟨c0, h0⟩ := lw_arrC (ty := .int) (fun _ h => by cases h) (hts (.arrayClass .int) (by decide +kernel))
  obtain ⟨c1, h1⟩ := lw_arrC (ty := .boolean) (fun _ h => by cases h) (hts (.arrayClass .boolean) (by decide +kernel))
  obtain ⟨c2, h2⟩ := lw_arrC (ty := .long) (fun _ h => by cases h) (hts (.arrayClass .long) (by decide +kernel))
  obtain ⟨c3, h3⟩ := lw_arrC (ty := .float) (fun _ h => by cases h) (hts (.arrayClass .float) (by decide +kernel))
  obtain ⟨c4, h4⟩ := lw_arrC (ty := .double) (fun _ h => by cases h) (hts (.arrayClass .double) (by decide +kernel))
  obtain ⟨c5, h5⟩ := lw_arrA (ty := .int) (hts (.arrayOver (.array .int)) (by decide +kernel))
  obtain ⟨c6, h6⟩ := lw_arrA (ty := .boolean) (hts (.arrayOver (.array .boolean)) (by decide +kernel))
  obtain ⟨c7, h7⟩ := lw_arrO (C := "java/lang/Object") (hts (.arrayOver (.object "java/lang/Object")) (by decide +kernel))
  refine ⟨fun k => match k with | 0 => c0 | 1 => c1 | 2 => c2 | 3 => c3 | 4 => c4 | 5 => c5 | 6 => c6 | _ => c7, fun k q hq => ?_⟩
  match k with
  | 0 => cases hq; exact h0
  | 1 => cases hq; exact h1
  | 2 => cases hq; exact h2
  | 3 => cases hq; exact h3
  | 4 => cases hq; exact h4
  | 5 => cases hq; exact h5
  | 6 => cases hq; exact h6
  | 7 => cases hq; exact h7
  | k + 8 => simp [zr_ty] at hq
set_option maxRecDepth 100000 in
theorem lw_stN {s : State} {args : Array Value} (hts : ∀ w ∈ lw_tbl, w.before args s = true) : zr_N s :=
  ⟨⟨fun q hq => va_Nw.of rfl (hts _ ((by decide +kernel : ∀ q ∈ zk_nF, (Cond.fieldLinkNest q.1 q.2.1 q.2.2.1 q.2.2.2.1 q.2.2.2.2.1 q.2.2.2.2.2) ∈ lw_tbl) q hq)), fun q hq => va_Nw.of rfl (hts _ ((by decide +kernel : ∀ q ∈ zk_nM, (Cond.methodLinkNest q.1 q.2.1 q.2.2.1 q.2.2.2) ∈ lw_tbl) q hq))⟩, fun q hq => va_Nw.of rfl (hts _ ((by decide +kernel : ∀ q ∈ zr_cast, (Cond.castable q.1 q.2) ∈ lw_tbl) q hq))⟩
set_option maxRecDepth 100000 in
theorem lw_stX {s : State} {b : Nat} {A : Nat → Prop} (hts : ∀ w ∈ lw_tbl, w.before #[Value.ref b] s = true) (hgv : (Jvm.Cond.and given_1 narrow_1).before #[Value.ref b] s = true) (hA : ∀ a : Nat, a < s.heap.size → ¬ A a) : zx_K A s s.heap := by
  have hq := flat_of_before _ hgv
  refine ⟨vx_Zqof (hts _ (by decide +kernel)) (hts _ (by decide +kernel)) (hq _ (by decide +kernel)) hA, vx_Zqof (hts _ (by decide +kernel)) (hts _ (by decide +kernel)) (hq _ (by decide +kernel)) hA, fun q h => ?_, fun q h => va_Nw.of rfl (hts _ ((by decide +kernel : ∀ q ∈ zx_bad, (Cond.castable q q) ∈ lw_tbl) q h)), fun q h => va_Nw.of rfl (hts _ ((by decide +kernel : ∀ q ∈ zx_decl, (Cond.declares q) ∈ lw_tbl) q h))⟩
  have h1 := hts _ ((by decide +kernel : ∀ q ∈ zx_str, (Cond.stringRef q.1 q.2.1 q.2.2) ∈ lw_tbl) q h)
  have h2 := hq (Cond.exactly (Term.string q.1 q.2.1) "java/lang/String") ((by decide +kernel : ∀ q ∈ zx_str, (Cond.exactly (Term.string q.1 q.2.1) "java/lang/String") ∈ flatC (Jvm.Cond.and given_1 narrow_1)) q h)
  obtain ⟨a, c, cA, kA, q1, -⟩ := Cond.exactly_spec (show (Cond.exactly (Term.string q.1 q.2.1) "java/lang/String").holds #[Value.ref b] s none s [] = true from h2)
  exact ⟨a, vk_R.of h1 q1⟩
set_option maxRecDepth 100000 in
theorem lw_stC {s : State} {b : Nat} (hgv : (Jvm.Cond.and given_1 narrow_1).before #[Value.ref b] s = true) : zn_K s := by
  have hq := flat_of_before _ hgv
  intro q h
  exact va_Nc.of (hq (Cond.not (.castable q.1 q.2)) ((by decide +kernel : ∀ q ∈ zn_nc, (Cond.not (.castable q.1 q.2)) ∈ flatC (Jvm.Cond.and given_1 narrow_1)) q h))
set_option maxRecDepth 100000 in
theorem lw_stZ {s : State} {b : Nat} {A : Nat → Prop} (hts : ∀ w ∈ lw_tbl, w.before #[Value.ref b] s = true) (hgv : (Jvm.Cond.and given_1 narrow_1).before #[Value.ref b] s = true) (hA : ∀ a : Nat, a < s.heap.size → ¬ A a) : ∃ Z : zs_T, zs_K Z A s s.heap := by
  have hq := flat_of_before _ hgv
  have e1 := va_eqt (hq (Cond.eq (Term.length (Term.static "java/util/ArrayList" "DEFAULTCAPACITY_EMPTY_ELEMENTDATA" "[Ljava/lang/Object;")) (Term.int (0 : Int32))) (by decide +kernel))
  have e2 := va_eqt (hq (Cond.eq (Term.length (Term.static "java/lang/Integer$IntegerCache" "cache" "[Ljava/lang/Integer;")) (Term.int (256 : Int32))) (by decide +kernel))
  have e3 := va_eqt (hq (Cond.eq (Term.static "java/lang/Integer$IntegerCache" "high" "I") (Term.int (127 : Int32))) (by decide +kernel))
  obtain ⟨t1, ht1, hT1⟩ := va_Tof (N := 0) (f := fun _ => .null) (A := A) (by decide) (hq (Cond.arrayOf (Term.static "java/util/ArrayList" "DEFAULTCAPACITY_EMPTY_ELEMENTDATA" "[Ljava/lang/Object;") (.object "java/lang/Object")) (by decide +kernel)) e1 (fun j hj => absurd hj (Nat.not_lt_zero _)) hA
  obtain ⟨ad, hC, hel⟩ := vb_Cof (A := A) (st := Term.static "java/lang/Integer$IntegerCache" "cache" "[Ljava/lang/Integer;") rfl e2 (hq _ (by decide +kernel)) hA
  obtain ⟨t2, ht2, hT2⟩ := va_Tof (N := 256) (f := fun k => .ref (ad k)) (A := A) (by decide) (hq (Cond.arrayOf (Term.static "java/lang/Integer$IntegerCache" "cache" "[Ljava/lang/Integer;") (.object "java/lang/Integer")) (by decide +kernel)) e2 hel hA
  obtain ⟨mi, hmi⟩ := va_Mi.of (hq (Cond.isRef (.mirror "[Ljava/lang/Object;")) (by decide +kernel))
  exact ⟨(ad, t1, t2, mi), va_Zof (hts _ (by decide +kernel)) (hts _ (by decide +kernel)) ht1 hA, hT1, va_Zof (hts _ (by decide +kernel)) (hts _ (by decide +kernel)) e3 hA, va_Zof (hts _ (by decide +kernel)) (hts _ (by decide +kernel)) ht2 hA, hT2, hC, va_AO.of (hts _ (by decide +kernel)), hmi, va_Dc.of (hts _ (by decide +kernel)), va_Fw.of (hts _ (by decide +kernel)) (hts _ (by decide +kernel)) (hts _ (by decide +kernel)) (hts _ (by decide +kernel)) (hts _ (by decide +kernel)), va_Fw.of (hts _ (by decide +kernel)) (hts _ (by decide +kernel)) (hts _ (by decide +kernel)) (hts _ (by decide +kernel)) (hts _ (by decide +kernel))⟩
theorem lw_stA {s : State} {args : Array Value} (hts : ∀ w ∈ lw_tbl, w.before args s = true) : zs_AOA s := ⟨hts (.arrayOver (.array .int)) (by decide +kernel), hts (.arrayOver (.array .boolean)) (by decide +kernel)⟩

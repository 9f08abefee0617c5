/-! rows of mine: what the start gives: classes, arrays, statics -/
theorem lw_arrC {args : Array Value} {s : State} {ty : FieldType} (ht : ∀ C, ty ≠ .object C) (h : (Cond.arrayClass ty).before args s = true) : ∃ cA : ClassId, ArrOfT s cA ty ∧ va_RA s cA ty := by
  obtain ⟨c, k, comp, h1, h2, h3⟩ := Cond.arrayClass_spec (show (Cond.arrayClass ty).holds args s none s [] = true from h)
  refine ⟨c, fun n z => ⟨fun k h => (by cases h), k, h2, comp, h3⟩, ?_⟩
  cases ty <;> first | exact h1 | exact absurd rfl (ht _)
set_option maxRecDepth 100000 in
theorem lw_cls {s : State} {args : Array Value} (hts : ∀ w ∈ lw_tbl, w.before args s = true) : ∃ D : va_G, ∀ (k : Nat) (q : vw_C), vwCl[k]? = some q → u_Kn s q.1 q.2.1 q.2.2 (D.1 k) (D.2 k) := by
  have H : ∀ k : Nat, ∃ (cC : ClassId) (iS : Nat → Nat), ∀ q : vw_C, vwCl[k]? = some q → u_Kn s q.1 q.2.1 q.2.2 cC iS := by
    intro k
    match k with
    | 0 =>
      obtain ⟨c, i, h⟩ := u_known (C := RJ0) (T := TJ0) (N := 2) (n := 4) hts (by decide +kernel) (hts (.instantiable RJ0 4) (by decide +kernel))
      exact ⟨c, i, fun q hq => by cases hq; exact h⟩
    | 1 =>
      obtain ⟨c, i, h⟩ := u_known (C := RJx00060) (T := TJx00060) (N := 6) (n := 6) hts (by decide +kernel) (hts (.instantiable RJx00060 6) (by decide +kernel))
      exact ⟨c, i, fun q hq => by cases hq; exact h⟩
    | 2 =>
      obtain ⟨c, i, h⟩ := u_known (C := RX0) (T := TX0) (N := 2) (n := 2) hts (by decide +kernel) (hts (.instantiable RX0 2) (by decide +kernel))
      exact ⟨c, i, fun q hq => by cases hq; exact h⟩
    | 3 =>
      obtain ⟨c, i, h⟩ := u_known (C := RX1) (T := TX1) (N := 11) (n := 11) hts (by decide +kernel) (hts (.instantiable RX1 11) (by decide +kernel))
      exact ⟨c, i, fun q hq => by cases hq; exact h⟩
    | 4 =>
      obtain ⟨c, i, h⟩ := u_known (C := RX2) (T := TX2) (N := 3) (n := 3) hts (by decide +kernel) (hts (.instantiable RX2 3) (by decide +kernel))
      exact ⟨c, i, fun q hq => by cases hq; exact h⟩
    | 5 =>
      obtain ⟨c, i, h⟩ := u_known (C := RX3) (T := TX3) (N := 5) (n := 5) hts (by decide +kernel) (hts (.instantiable RX3 5) (by decide +kernel))
      exact ⟨c, i, fun q hq => by cases hq; exact h⟩
    | 6 =>
      obtain ⟨c, i, h⟩ := u_known (C := RX4) (T := TX4) (N := 6) (n := 6) hts (by decide +kernel) (hts (.instantiable RX4 6) (by decide +kernel))
      exact ⟨c, i, fun q hq => by cases hq; exact h⟩
    | 7 =>
      obtain ⟨c, i, h⟩ := u_known (C := RX5) (T := TX5) (N := 15) (n := 15) hts (by decide +kernel) (hts (.instantiable RX5 15) (by decide +kernel))
      exact ⟨c, i, fun q hq => by cases hq; exact h⟩
    | k + 8 => exact ⟨(0 : Nat), fun _ => 0, fun q hq => by simp [vwCl] at hq⟩
  obtain ⟨dC, h⟩ := Classical.skolem.mp H
  obtain ⟨dI, h⟩ := Classical.skolem.mp h
  exact ⟨(dC, dI), h⟩
set_option maxRecDepth 100000 in
theorem lw_tys {s : State} {args : Array Value} (hts : ∀ w ∈ lw_tbl, w.before args s = true) : ∃ T : Nat → ClassId, ∀ (k : Nat) (q : ClassId × FieldType), (zk_ty T)[k]? = some q → ArrOfT s q.1 q.2 ∧ va_RA s q.1 q.2 := by
  obtain ⟨c0, h0⟩ := lw_arrC (ty := .int) (fun _ h => by cases h) (hts (.arrayClass .int) (by decide +kernel))
  obtain ⟨c1, h1⟩ := lw_arrC (ty := .boolean) (fun _ h => by cases h) (hts (.arrayClass .boolean) (by decide +kernel))
  have h2 := h0
  have h3 := h0
  obtain ⟨c4, h4⟩ := lw_arrC (ty := .double) (fun _ h => by cases h) (hts (.arrayClass .double) (by decide +kernel))
  refine ⟨fun k => match k with | 0 => c0 | 1 => c1 | 2 => c0 | 3 => c0 | _ => c4, fun k q hq => ?_⟩
  match k with
  | 0 => cases hq; exact h0
  | 1 => cases hq; exact h1
  | 2 => cases hq; exact h2
  | 3 => cases hq; exact h3
  | 4 => cases hq; exact h4
  | k + 5 => simp [zk_ty] at hq
set_option maxRecDepth 100000 in
theorem lw_stN {s : State} {args : Array Value} (hts : ∀ w ∈ lw_tbl, w.before args s = true) : zk_N s :=
  ⟨fun q hq => va_Nw.of rfl (hts _ ((by decide +kernel : ∀ q ∈ zk_nF, (Cond.fieldLinkNest q.1 q.2.1 q.2.2.1 q.2.2.2.1 q.2.2.2.2.1 q.2.2.2.2.2) ∈ lw_tbl) q hq)), fun q hq => va_Nw.of rfl (hts _ ((by decide +kernel : ∀ q ∈ zk_nM, (Cond.methodLinkNest q.1 q.2.1 q.2.2.1 q.2.2.2) ∈ lw_tbl) q hq))⟩
set_option maxRecDepth 100000 in
theorem lw_stX {s : State} {b : Nat} {A : Nat → Prop} (hts : ∀ w ∈ lw_tbl, w.before #[Value.ref b] s = true) (hgv : (Jvm.Cond.and given_1 narrow_1).before #[Value.ref b] s = true) (hA : ∀ a : Nat, a < s.heap.size → ¬ A a) : zx_K A s s.heap := by
  have hq := flat_of_before _ hgv
  refine ⟨vx_Zqof (hts _ (by decide +kernel)) (hts _ (by decide +kernel)) (hq _ (by decide +kernel)) hA, vx_Zqof (hts _ (by decide +kernel)) (hts _ (by decide +kernel)) (hq _ (by decide +kernel)) hA, fun q h => ?_, fun q h => va_Nw.of rfl (hts _ ((by decide +kernel : ∀ q ∈ zx_bad, (Cond.castable q q) ∈ lw_tbl) q h)), fun q h => va_Nw.of rfl (hts _ ((by decide +kernel : ∀ q ∈ zx_decl, (Cond.declares q) ∈ lw_tbl) q h))⟩
  have h1 := hts _ ((by decide +kernel : ∀ q ∈ zx_str, (Cond.stringRef q.1 q.2.1 q.2.2) ∈ lw_tbl) q h)
  have h2 := hq (Cond.exactly (Term.string q.1 q.2.1) "java/lang/String") ((by decide +kernel : ∀ q ∈ zx_str, (Cond.exactly (Term.string q.1 q.2.1) "java/lang/String") ∈ flatC (Jvm.Cond.and given_1 narrow_1)) q h)
  obtain ⟨a, c, cA, kA, q1, -⟩ := Cond.exactly_spec (show (Cond.exactly (Term.string q.1 q.2.1) "java/lang/String").holds #[Value.ref b] s none s [] = true from h2)
  exact ⟨a, vk_R.of h1 q1⟩
set_option maxRecDepth 100000 in
theorem lw_stC {s : State} {b : Nat} (hgv : (Jvm.Cond.and given_1 narrow_1).before #[Value.ref b] s = true) : zn_K s := by
  have hq := flat_of_before _ hgv
  intro q h
  exact va_Nc.of (hq (Cond.not (.castable q.1 q.2)) ((by decide +kernel : ∀ q ∈ zn_nc, (Cond.not (.castable q.1 q.2)) ∈ flatC (Jvm.Cond.and given_1 narrow_1)) q h))


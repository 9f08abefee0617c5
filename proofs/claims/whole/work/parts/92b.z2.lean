set_option maxHeartbeats 8000000 in
set_option maxRecDepth 100000 in
theorem k_J7_copyOf_6403c (l : Launch) (D : va_G) (T : Nat → ClassId) (Z : zs_T) (C : String) (L : List Nat) (hC : (C, "java/lang/Object") ∈ zr_cast) (q_a n n2 : Nat) (f : Nat → Option Nat) (sz : Nat) (h1 : n ≤ n2) (h2 : n2 ≤ 100) (hL : ∀ i : Nat, i < n → ∀ y : Nat, f i = some y → y ∈ L) : Met l yJ7_copyOf_6403c wsJ7_copyOf_6403c ({ frames := 1, cells := 1, slots := 100, locals := 60 } : Room) (zs_Pc Z C L D T [.ref q_a, .int (nI n2), .ref Z.2.2.2] [(q_a, .inl (T 7, n, .inr (.inr (.inr (.inr f)))))] sz) (zs_Qr (fun _ : Nat => True) (fun u => u) D (fun u => [(q_a, .inl (T 7, n, .inr (.inr (.inr (.inr f))))), (u, .inl (T 7, n2, .inr (.inr (.inr (.inr (va_cpy f (fun _ => none) 0 0 n))))))]) (va_A [(q_a, .inl (T 7, n, .inr (.inr (.inr (.inr f)))))] sz) (va_A [(q_a, .inl (T 7, n, .inr (.inr (.inr (.inr f)))))] sz)) 1 100 (va_A [(q_a, .inl (T 7, n, .inr (.inr (.inr (.inr f)))))] sz) := by
  refine Met.ofW (cc := cJ7_copyOf_6403c) (maxL := 4) (ret := (some (.array (.object "java/lang/Object")))) (by decide) rfl ?_
  intro p e s m args below meth c s₁ B hml hv
  obtain ⟨rfl, hsz, hP, hK, hN, hD0, hZ, hL0⟩ := hv
  have hx := B.exec
  have hb := B.bytes
  have hr := B.returns
  have hts := atoms_spec (ws := wsJ7_copyOf_6403c) B.pre
  have hown : s.vm.findClass RJ7 = some m.cls := findClass_of_methodNamed B.named
  have hlocks := B.notSynchronized
  subst hsz
  have hD := hD0.self (sz := s.heap.size)
  generalize hAe : va_A [(q_a, .inl (T 7, n, .inr (.inr (.inr (.inr f)))))] s.heap.size = A at hD hZ hL0 ⊢
  have hA : ∀ q : Nat, s.heap.size ≤ q → A q := fun q h => by rw [← hAe]; exact Or.inr h
  have hS : va_S A s.heap s.heap [] := va_S.rf
  have hP : va_P D vwCl [(q_a, .inl (T 7, n, .inr (.inr (.inr (.inr f)))))] s.heap := hP
  have hl := lv_entry ([.ref q_a, .int (nI n2), .ref Z.2.2.2]) (n := 4) (Nat.le_of_ble_eq_true rfl)
  rw [lg_entry_eq]
  generalize (lg_sl ([.ref q_a, .int (nI n2), .ref Z.2.2.2]) ++ List.replicate (4 - (lg_sl ([.ref q_a, .int (nI n2), .ref Z.2.2.2])).length) Slot.unset).toArray = ls at hl ⊢
  have hl : lv_has ls 4 [(0, .ref q_a), (1, .int (nI n2)), (2, .ref Z.2.2.2)] := hl
  obtain ⟨z1, z2, z3, z4, z5, z6, z7, z8, z9, z10⟩ := id hZ
  refine lv_aload_n hx hb dJ7_copyOf_6403c_0 rfl (lv_at hl 2 rfl) ?_
  refine va_ldcM hx hb hown (hts (.classLink RJ7 110 "[Ljava/lang/Object;") (by decide +kernel)) z8 dJ7_copyOf_6403c_1 ?_
  refine lv_acmp_ne (rx := some Z.2.2.2) (ry := some Z.2.2.2) (tgt := 13) hx hb dJ7_copyOf_6403c_3 (by decide) (fun h => absurd rfl h) (fun _ => ?_)
  refine lv_iload_n hx hb dJ7_copyOf_6403c_6 rfl (lv_at hl 1 rfl) ?_
  refine va_newq (N' := n2) hx hb hown (hts (.classLink RJ7 2 "java/lang/Object") (by decide +kernel)) z7 hK hP hD hS hA (nI_pos (by omega)) (nI_clamp (by omega)) (by omega) (Nat.le_of_ble_eq_true rfl) (by show 0 + n2 ≤ 100; omega) dJ7_copyOf_6403c_7 (fun u cA H hK9 hP hD hS => ?_)
  obtain rfl := zs_cA hK9
  refine lv_goto (tgt := 24) hx hb dJ7_copyOf_6403c_10 (by decide) ?_
  refine lv_astore_n (lv' := [(3, .ref u), (0, .ref q_a), (1, .int (nI n2)), (2, .ref Z.2.2.2)]) hx hb dJ7_copyOf_6403c_24 rfl hl (by decide) rfl (fun ls hl => ?_)
  refine lv_aload_n hx hb dJ7_copyOf_6403c_25 rfl (lv_at hl 1 rfl) ?_
  refine lv_iconst (v := (0 : Int32)) hx hb dJ7_copyOf_6403c_26 (by decide) ?_
  refine lv_aload_n hx hb dJ7_copyOf_6403c_27 rfl (lv_at hl 0 rfl) ?_
  refine lv_iconst (v := (0 : Int32)) hx hb dJ7_copyOf_6403c_28 (by decide) ?_
  refine lv_aload_n hx hb dJ7_copyOf_6403c_29 rfl (lv_at hl 1 rfl) ?_
  refine va_alen (v := nI n) hx hb hK hP 0 7 rfl rfl rfl dJ7_copyOf_6403c_30 ?_
  refine lv_iload_n hx hb dJ7_copyOf_6403c_31 rfl (lv_at hl 2 rfl) ?_
  refine va_mmin hx hb (hml.trans hl.1.symm) hown (hts (.methodLink RJ7 304 Lib.Math.min.name) (by decide +kernel)) (hts (.static Lib.Math.min.name) (by decide +kernel)) (hts (.initialized "java/lang/Math") (by decide +kernel)) (hts (.code Lib.Math.min.name Lib.Math.min.code 2 (some .int)) (by decide +kernel)) (Nat.le_of_ble_eq_true rfl) (Nat.le_of_ble_eq_true rfl) (Nat.le_of_ble_eq_true rfl) (by show 0 + n2 ≤ 100; omega) dJ7_copyOf_6403c_32 ?_
  have e0 : (if nI n2 < nI n then nI n2 else nI n) = nI n := if_neg (nI_nlt h1 (by omega))
  rw [e0]
  have e1 : (nI n).toNatClampNeg = n := nI_clamp (by omega)
  have hP : va_P D vwCl [(q_a, .inl (T 7, n, .inr (.inr (.inr (.inr f))))), (u, .inl (T 7, n2, .inr (.inr (.inr (.inr (fun _ => none))))))] H := hP
  have hD : va_D A [(q_a, .inl (T 7, n, .inr (.inr (.inr (.inr f))))), (u, .inl (T 7, n2, .inr (.inr (.inr (.inr (fun _ => none))))))] := hD
  refine va_copyq (C := C) (E0 := "java/lang/Object") (E1 := "java/lang/Object") (sp := 0) (dp := 0) (n := nI n) (g := fun _ => none) hx hb (hml.trans hl.1.symm) hown (hts (.methodLink RJ7 150 arraycopyName) (by decide +kernel)) (hts (.native arraycopyName) (by decide +kernel)) (hts (.static arraycopyName) (by decide +kernel)) (hts (.initialized "java/lang/System") (by decide +kernel)) hK hP hD hS 0 1 7 7 rfl rfl rfl rfl (by decide) (by decide) (nI_pos (by omega)) (by rw [e1]; show 0 + n ≤ n; omega) (by rw [e1]; show 0 + n ≤ n2; omega) (fun i hi y hy => zs_O_keep (hL0 y (hL i (by rw [e1] at hi; exact hi) y (by rw [show (0 : Int32).toNatClampNeg + i = i by show 0 + i = i; omega] at hy; exact hy))) hS) (zs_asg hN hC) (Nat.le_of_ble_eq_true rfl) (by decide +kernel) dJ7_copyOf_6403c_35 (fun H locs hP hD hS => ?_)
  rw [e1] at hP hD
  have hP : va_P D vwCl [(q_a, .inl (T 7, n, .inr (.inr (.inr (.inr f))))), (u, .inl (T 7, n2, .inr (.inr (.inr (.inr (va_cpy f (fun _ => none) 0 0 n))))))] H := hP
  have hD : va_D A [(q_a, .inl (T 7, n, .inr (.inr (.inr (.inr f))))), (u, .inl (T 7, n2, .inr (.inr (.inr (.inr (va_cpy f (fun _ => none) 0 0 n))))))] := hD
  refine lv_aload_n hx hb dJ7_copyOf_6403c_38 rfl (lv_at hl 0 rfl) ?_
  refine W.widen (k := 1) (n := 100) (Nat.le_of_ble_eq_true rfl) (by show 0 + n2 ≤ 100; omega) ?_
  exact W.aret (v := .ref u) hx hb hr (Or.inr ⟨_, rfl⟩) (Or.inr ⟨_, rfl⟩) (fun t ht hW => ⟨⟨u, _, rfl, trivial, ⟨rfl, by rw [ht]; exact hP, hD⟩⟩, hS.F ht⟩) hS.2.2 dJ7_copyOf_6403c_39
set_option maxHeartbeats 8000000 in
set_option maxRecDepth 100000 in
theorem k_J7_copyOf_1904c (l : Launch) (D : va_G) (T : Nat → ClassId) (Z : zs_T) (C : String) (L : List Nat) (hC : (C, "java/lang/Object") ∈ zr_cast) (q_a n n2 : Nat) (f : Nat → Option Nat) (sz : Nat) (h1 : n ≤ n2) (h2 : n2 ≤ 100) (hL : ∀ i : Nat, i < n → ∀ y : Nat, f i = some y → y ∈ L) : Met l yJ7_copyOf_1904c wsJ7_copyOf_1904c ({ frames := 2, cells := 1, slots := 100, locals := 90 } : Room) (zs_Pc Z C L D T [.ref q_a, .int (nI n2)] [(q_a, .inl (T 7, n, .inr (.inr (.inr (.inr f)))))] sz) (zs_Qr (fun _ : Nat => True) (fun u => u) D (fun u => [(q_a, .inl (T 7, n, .inr (.inr (.inr (.inr f))))), (u, .inl (T 7, n2, .inr (.inr (.inr (.inr (va_cpy f (fun _ => none) 0 0 n))))))]) (va_A [(q_a, .inl (T 7, n, .inr (.inr (.inr (.inr f)))))] sz) (va_A [(q_a, .inl (T 7, n, .inr (.inr (.inr (.inr f)))))] sz)) 1 100 (va_A [(q_a, .inl (T 7, n, .inr (.inr (.inr (.inr f)))))] sz) := by
  refine Met.ofW (cc := cJ7_copyOf_1904c) (maxL := 2) (ret := (some (.array (.object "java/lang/Object")))) (by decide) rfl ?_
  intro p e s m args below meth c s₁ B hml hv
  obtain ⟨rfl, hsz, hP, hK, hN, hD0, hZ, hL0⟩ := hv
  have hx := B.exec
  have hb := B.bytes
  have hr := B.returns
  have hts := atoms_spec (ws := wsJ7_copyOf_1904c) B.pre
  have hown : s.vm.findClass RJ7 = some m.cls := findClass_of_methodNamed B.named
  have hlocks := B.notSynchronized
  subst hsz
  have hD := hD0.self (sz := s.heap.size)
  generalize hAe : va_A [(q_a, .inl (T 7, n, .inr (.inr (.inr (.inr f)))))] s.heap.size = A at hD hZ hL0 ⊢
  have hA : ∀ q : Nat, s.heap.size ≤ q → A q := fun q h => by rw [← hAe]; exact Or.inr h
  have hS : va_S A s.heap s.heap [] := va_S.rf
  have hP : va_P D vwCl [(q_a, .inl (T 7, n, .inr (.inr (.inr (.inr f)))))] s.heap := hP
  have hl := lv_entry ([.ref q_a, .int (nI n2)]) (n := 2) (Nat.le_of_ble_eq_true rfl)
  rw [lg_entry_eq]
  generalize (lg_sl ([.ref q_a, .int (nI n2)]) ++ List.replicate (2 - (lg_sl ([.ref q_a, .int (nI n2)])).length) Slot.unset).toArray = ls at hl ⊢
  have hl : lv_has ls 2 [(0, .ref q_a), (1, .int (nI n2))] := hl
  obtain ⟨z1, z2, z3, z4, z5, z6, z7, z8, z9, z10⟩ := id hZ
  have hF : ∀ q, va_A [(q_a, .inl (T 7, n, .inr (.inr (.inr (.inr f)))))] s.heap.size q → A q := fun q h => by rw [← hAe]; exact h
  refine lv_aload_n hx hb dJ7_copyOf_1904c_0 rfl (lv_at hl 0 rfl) ?_
  refine lv_iload_n hx hb dJ7_copyOf_1904c_1 rfl (lv_at hl 1 rfl) ?_
  refine lv_aload_n hx hb dJ7_copyOf_1904c_2 rfl (lv_at hl 0 rfl) ?_
  refine va_getC (C := "[Ljava/lang/Object;") hx hb (hml.trans hl.1.symm) hown (hts (.methodLink RJ7 86 ⟨"java/lang/Object", "getClass", "()Ljava/lang/Class;"⟩) (by decide +kernel)) (va_Dc.use z9) (hts (.selects "[Ljava/lang/Object;" ⟨"java/lang/Object", "getClass", "()Ljava/lang/Class;"⟩ ⟨"java/lang/Object", "getClass", "()Ljava/lang/Class;"⟩) (by decide +kernel)) (hts (.instanceMethod ⟨"java/lang/Object", "getClass", "()Ljava/lang/Class;"⟩) (by decide +kernel)) (hts (.native ⟨"java/lang/Object", "getClass", "()Ljava/lang/Class;"⟩) (by decide +kernel)) z8 ⟨_, hP 0 _ rfl, rfl, va_nmO (hK.2 7 _ rfl).2 rfl⟩ (Nat.le_of_ble_eq_true rfl) (Nat.le_of_ble_eq_true rfl) dJ7_copyOf_1904c_3 ?_
  refine zs_cr (wf := fun u => [(q_a, .inl (T 7, n, .inr (.inr (.inr (.inr f))))), (u, .inl (T 7, n2, .inr (.inr (.inr (.inr (va_cpy f (fun _ => none) 0 0 n))))))]) (va_runS (As := [.ref q_a, .int (nI n2), .ref Z.2.2.2]) (rest := []) ⟨hx, hb, hml, hown, hts⟩ (k_J7_copyOf_6403c l D T Z C L hC q_a n n2 f s.heap.size h1 h2 hL) (va_cwS 3 hts gJ7_copyOf_1904c_J7_copyOf_6403c rfl rfl rfl (by decide +kernel) ⟨Nat.le_of_ble_eq_true rfl, Nat.le_of_ble_eq_true rfl⟩) (zs_preS hK hN hZ hS hF hP hD (by rw [hAe]; exact hL0)) rfl rfl hl.1 rfl (lv_room (Nat.le_of_ble_eq_true rfl)) dJ7_copyOf_1904c_6 ⟨Nat.le_of_ble_eq_true rfl, Nat.le_of_ble_eq_true rfl⟩) hS hF (fun u H1 g1 g2 _ => zs_self g1 g2 hF) (fun u H locs _ hP hD hS => ?_)
  refine W.widen (k := 1) (n := 100) (Nat.le_of_ble_eq_true rfl) (Nat.le_of_ble_eq_true rfl) ?_
  exact W.aret (v := .ref u) hx hb hr (Or.inr ⟨_, rfl⟩) (Or.inr ⟨_, rfl⟩) (fun t ht hW => ⟨⟨u, _, rfl, trivial, ⟨rfl, by rw [ht]; exact hP, hD⟩⟩, hS.F ht⟩) hS.2.2 dJ7_copyOf_1904c_9

set_option maxHeartbeats 8000000 in
set_option maxRecDepth 100000 in
theorem k_Jxd2413_init_da8c8 (l : Launch) (D : va_G) (T : Nat → ClassId) (q_t : Nat) (sz : Nat) : Met l yJxd2413_init_da8c8 wsJxd2413_init_da8c8 ({ frames := 1, cells := 0, slots := 0, locals := 12 } : Room) (zr_Pc D T [.ref q_t] [] sz) (zk_Qv D [] (va_A [] sz) (va_A [] sz)) 0 0 (va_A [] sz) := by
  refine Met.ofW (cc := cJxd2413_init_da8c8) (maxL := 1) (ret := none) (by decide) rfl ?_
  intro p e s m args below meth c s₁ B hml hv
  obtain ⟨rfl, hsz, hP, hK, hN, hD0⟩ := hv
  have hx := B.exec
  have hb := B.bytes
  have hr := B.returns
  have hts := atoms_spec (ws := wsJxd2413_init_da8c8) B.pre
  have hown : s.vm.findClass RJxd2413 = some m.cls := findClass_of_methodNamed B.named
  have hlocks := B.notSynchronized
  subst hsz
  have hD := hD0.self (sz := s.heap.size)
  generalize hAe : va_A ([] : va_W) s.heap.size = A at hD ⊢
  have hA : ∀ q : Nat, s.heap.size ≤ q → A q := fun q h => by rw [← hAe]; exact Or.inr h
  have hS : va_S A s.heap s.heap [] := va_S.rf
  have hP : va_P D vwCl ([] : va_W) s.heap := hP
  have hl := lv_entry ([.ref q_t]) (n := 1) (Nat.le_of_ble_eq_true rfl)
  rw [lg_entry_eq]
  generalize (lg_sl ([.ref q_t]) ++ List.replicate (1 - (lg_sl ([.ref q_t])).length) Slot.unset).toArray = ls at hl ⊢
  have hl : lv_has ls 1 [(0, .ref q_t)] := hl
  refine lv_aload_n hx hb dJxd2413_init_da8c8_0 rfl (lv_at hl 0 rfl) ?_
  refine W.objInit hx hb hown (hts (.methodLink RJxd2413 1 objectInit) (by decide +kernel)) (hts (.instanceMethod objectInit) (by decide +kernel)) (hts (.code objectInit ⟨#[0xb1]⟩ 1 none) (by decide +kernel)) rfl (by rw [hml]; exact hl.1) rfl dJxd2413_init_da8c8_1 (Nat.le_of_ble_eq_true rfl) (Nat.le_of_ble_eq_true rfl) ?_
  refine W.eq (g2 := F0 m 4 ls []) rfl ?_
  exact W.vret hx hb hr (fun t ht hW => ⟨⟨(), rfl, trivial, by rw [ht]; exact hP, hD⟩, hS.F ht⟩) hS.2.2 dJxd2413_init_da8c8_4
set_option maxHeartbeats 8000000 in
set_option maxRecDepth 100000 in
theorem k_Jxa1e45_init_da8c8 (l : Launch) (D : va_G) (T : Nat → ClassId) (q_t : Nat) (sz : Nat) : Met l yJxa1e45_init_da8c8 wsJxa1e45_init_da8c8 ({ frames := 1, cells := 0, slots := 0, locals := 12 } : Room) (zr_Pc D T [.ref q_t] [] sz) (zk_Qv D [] (va_A [] sz) (va_A [] sz)) 0 0 (va_A [] sz) := by
  refine Met.ofW (cc := cJxa1e45_init_da8c8) (maxL := 1) (ret := none) (by decide) rfl ?_
  intro p e s m args below meth c s₁ B hml hv
  obtain ⟨rfl, hsz, hP, hK, hN, hD0⟩ := hv
  have hx := B.exec
  have hb := B.bytes
  have hr := B.returns
  have hts := atoms_spec (ws := wsJxa1e45_init_da8c8) B.pre
  have hown : s.vm.findClass RJxa1e45 = some m.cls := findClass_of_methodNamed B.named
  have hlocks := B.notSynchronized
  subst hsz
  have hD := hD0.self (sz := s.heap.size)
  generalize hAe : va_A ([] : va_W) s.heap.size = A at hD ⊢
  have hA : ∀ q : Nat, s.heap.size ≤ q → A q := fun q h => by rw [← hAe]; exact Or.inr h
  have hS : va_S A s.heap s.heap [] := va_S.rf
  have hP : va_P D vwCl ([] : va_W) s.heap := hP
  have hl := lv_entry ([.ref q_t]) (n := 1) (Nat.le_of_ble_eq_true rfl)
  rw [lg_entry_eq]
  generalize (lg_sl ([.ref q_t]) ++ List.replicate (1 - (lg_sl ([.ref q_t])).length) Slot.unset).toArray = ls at hl ⊢
  have hl : lv_has ls 1 [(0, .ref q_t)] := hl
  refine lv_aload_n hx hb dJxa1e45_init_da8c8_0 rfl (lv_at hl 0 rfl) ?_
  refine W.objInit hx hb hown (hts (.methodLink RJxa1e45 1 objectInit) (by decide +kernel)) (hts (.instanceMethod objectInit) (by decide +kernel)) (hts (.code objectInit ⟨#[0xb1]⟩ 1 none) (by decide +kernel)) rfl (by rw [hml]; exact hl.1) rfl dJxa1e45_init_da8c8_1 (Nat.le_of_ble_eq_true rfl) (Nat.le_of_ble_eq_true rfl) ?_
  refine W.eq (g2 := F0 m 4 ls []) rfl ?_
  exact W.vret hx hb hr (fun t ht hW => ⟨⟨(), rfl, trivial, by rw [ht]; exact hP, hD⟩, hS.F ht⟩) hS.2.2 dJxa1e45_init_da8c8_4
theorem iJ6_init_d00df_J6 : ∀ w ∈ wsJ60, w ∈ wsJ6_init_d00df := by decide +kernel
set_option maxHeartbeats 8000000 in
set_option maxRecDepth 100000 in
theorem k_J6_init_d00df (l : Launch) (D : va_G) (T : Nat → ClassId) (q_t : Nat) (x : Int32) (sz : Nat) : Met l yJ6_init_d00df wsJ6_init_d00df ({ frames := 2, cells := 0, slots := 0, locals := 40 } : Room) (zr_Pc D T [.ref q_t, .int x] [(q_t, .inr (1, [.int 0]))] sz) (zk_Qv D [(q_t, .inr (1, [.int x]))] (va_A [(q_t, .inr (1, [.int 0]))] sz) (va_A [(q_t, .inr (1, [.int 0]))] sz)) 0 0 (va_A [(q_t, .inr (1, [.int 0]))] sz) := by
  refine Met.ofW (cc := cJ6_init_d00df) (maxL := 2) (ret := none) (by decide) rfl ?_
  intro p e s m args below meth c s₁ B hml hv
  obtain ⟨rfl, hsz, hP, hK, hN, hD0⟩ := hv
  have hx := B.exec
  have hb := B.bytes
  have hr := B.returns
  have hts := atoms_spec (ws := wsJ6_init_d00df) B.pre
  have hown : s.vm.findClass RJ6 = some m.cls := findClass_of_methodNamed B.named
  have hlocks := B.notSynchronized
  have hin : meth.name = "<init>" := (name_of_methodNamed B.named B.method).1
  subst hsz
  have hD := hD0.self (sz := s.heap.size)
  generalize hAe : va_A [(q_t, .inr (1, [.int 0]))] s.heap.size = A at hD ⊢
  have hA : ∀ q : Nat, s.heap.size ≤ q → A q := fun q h => by rw [← hAe]; exact Or.inr h
  have hS : va_S A s.heap s.heap [] := va_S.rf
  have hP : va_P D vwCl [(q_t, .inr (1, [.int 0]))] s.heap := hP
  have hl := lv_entry ([.ref q_t, .int x]) (n := 2) (Nat.le_of_ble_eq_true rfl)
  rw [lg_entry_eq]
  generalize (lg_sl ([.ref q_t, .int x]) ++ List.replicate (2 - (lg_sl ([.ref q_t, .int x])).length) Slot.unset).toArray = ls at hl ⊢
  have hl : lv_has ls 2 [(0, .ref q_t), (1, .int x)] := hl
  refine lv_aload_n hx hb dJ6_init_d00df_0 rfl (lv_at hl 0 rfl) ?_
  refine zk_cv (wr := [(q_t, .inr (1, [.int 0]))]) (va_runI (As := []) (rest := []) ⟨hx, hb, hml, hown, hts⟩ (k_Jxd2413_init_da8c8 l D T q_t _) (cwI 0 hts gJ6_init_d00df_Jxd2413_init_da8c8 rfl rfl rfl (hts (.initialized RJxd2413) (by decide +kernel)) (hts (.methodLink RJ6 202 yJxd2413_init_da8c8) (by decide +kernel)) (hts (.instanceMethod yJxd2413_init_da8c8) (by decide +kernel)) rfl (by decide +kernel) ⟨Nat.le_of_ble_eq_true rfl, Nat.le_of_ble_eq_true rfl⟩) (zr_preS hK hN (hP.sub [] rfl) (hD.sub [] (by decide) rfl)) rfl rfl hl.1 rfl (lv_room (Nat.le_of_ble_eq_true rfl)) dJ6_init_d00df_1 ⟨Nat.le_of_ble_eq_true rfl, Nat.le_of_ble_eq_true rfl⟩) hP hD hS hA [] [0] rfl rfl (by decide) (by decide) [0] (wf := [(q_t, .inr (1, [.int 0]))]) rfl (by decide) (fun H locs hP hD hS => ?_)
  refine lv_aload_n hx hb dJ6_init_d00df_4 rfl (lv_at hl 0 rfl) ?_
  refine lv_iload_n hx hb dJ6_init_d00df_5 rfl (lv_at hl 1 rfl) ?_
  refine va_putF (D := D) (ci := 1) (v := .int x) (ty := .int) (C := RJ6) (T := TJ6) (N := 1) hx hb hts iJ6_init_d00df_J6 tyJ6 tyJ6_ok nmJ6 hown hK hP hD hS 0 rfl rfl 0 (by decide) (hts (.fieldLink RJ6 205 "java/lang/Integer" "value" "I") (by decide +kernel)) (fun _ h9 => h9) rfl hin rfl (by decide +kernel) rfl rfl (Nat.le_of_ble_eq_true rfl) dJ6_init_d00df_6 (fun H locs hP hD hS => ?_)
  have hP : va_P D vwCl [(q_t, .inr (1, [.int x]))] H := hP
  have hD : va_D A [(q_t, .inr (1, [.int x]))] := hD
  exact W.vret hx hb hr (fun t ht hW => ⟨⟨(), rfl, trivial, by rw [ht]; exact hP, hD⟩, hS.F ht⟩) hS.2.2 dJ6_init_d00df_9
theorem zs_c_rng : ∀ k : Fin 256, ¬ vb_c k.1 < (-128) ∧ ¬ 127 < vb_c k.1 := by decide +kernel
theorem zs_c_inj {j k : Nat} (hj : j < 256) (hk : k < 256) (h : vb_c j = vb_c k) : j = k := by
  have h1 : nI j - 128 = nI k - 128 := h
  have h2 : nI j = nI k := by
    have := congrArg (fun z => z + 128) h1
    simpa using this
  exact (nI_eq (by omega) (by omega)).mp h2
theorem iJ6_valueOf_2dffe_J6 : ∀ w ∈ wsJ60, w ∈ wsJ6_valueOf_2dffe := by decide +kernel
set_option maxHeartbeats 8000000 in
set_option maxRecDepth 100000 in
theorem k_J6_valueOf_2dffe (l : Launch) (D : va_G) (T : Nat → ClassId) (Z : zs_T) (C : String) (x : Int32) (sz : Nat) : Met l yJ6_valueOf_2dffe wsJ6_valueOf_2dffe ({ frames := 3, cells := 1, slots := 1, locals := 70 } : Room) (zs_Pc Z C [] D T [.int x] [] sz) (zs_Qr (fun u : Nat × List Nat => (∀ k : Nat, k < 256 → x = vb_c k → u.2 = [] ∧ u.1 = Z.1 k) ∧ ((u.2 = [] ∧ ∃ k : Nat, k < 256 ∧ u.1 = Z.1 k ∧ x = vb_c k) ∨ u.2 = [u.1])) (fun u => u.1) D (fun u => va_pl u.2 (fun _ => .inr (1, [.int x]))) (va_A [] sz) (va_A [] sz)) 1 1 (va_A [] sz) := by
  refine Met.ofW (cc := cJ6_valueOf_2dffe) (maxL := 1) (ret := (some (.object "java/lang/Integer"))) (by decide) rfl ?_
  intro p e s m args below meth c s₁ B hml hv
  obtain ⟨rfl, hsz, hP, hK, hN, hD0, hZ, hL0⟩ := hv
  have hx := B.exec
  have hb := B.bytes
  have hr := B.returns
  have hts := atoms_spec (ws := wsJ6_valueOf_2dffe) B.pre
  have hown : s.vm.findClass RJ6 = some m.cls := findClass_of_methodNamed B.named
  have hlocks := B.notSynchronized
  subst hsz
  have hD := hD0.self (sz := s.heap.size)
  generalize hAe : va_A ([] : va_W) s.heap.size = A at hD hZ hL0 ⊢
  have hA : ∀ q : Nat, s.heap.size ≤ q → A q := fun q h => by rw [← hAe]; exact Or.inr h
  have hS : va_S A s.heap s.heap [] := va_S.rf
  have hP : va_P D vwCl ([] : va_W) s.heap := hP
  have hl := lv_entry ([.int x]) (n := 1) (Nat.le_of_ble_eq_true rfl)
  rw [lg_entry_eq]
  generalize (lg_sl ([.int x]) ++ List.replicate (1 - (lg_sl ([.int x])).length) Slot.unset).toArray = ls at hl ⊢
  have hl : lv_has ls 1 [(0, .int x)] := hl
  obtain ⟨z1, z2, z3, z4, z5, z6, z7, z8, z9, z10⟩ := id hZ
  have K : (x < (-128) ∨ 127 < x) → W p l e ({ frames := 3, cells := 1, slots := 1, locals := 70 } : Room) s m (([.int x] : List Value).toArray) below meth c s.heap [] 0 0 (MQ below (zs_Qr (fun u : Nat × List Nat => (∀ k : Nat, k < 256 → x = vb_c k → u.2 = [] ∧ u.1 = Z.1 k) ∧ ((u.2 = [] ∧ ∃ k : Nat, k < 256 ∧ u.1 = Z.1 k ∧ x = vb_c k) ∨ u.2 = [u.1])) (fun u => u.1) D (fun u => va_pl u.2 (fun _ => .inr (1, [.int x]))) A A) (([.int x] : List Value).toArray) s 1 1 A) (F0 m 23 ls []) := by
    intro hx9
    refine va_new (ci := 1) (fs := [.int 0]) (C := RJ6) (T := TJ6) (N := 1) hx hb hts iJ6_valueOf_2dffe_J6 tyJ6 tyJ6_ok hown (hts (.classLink RJ6 1 RJ6) (by decide +kernel)) (hts (.instantiable RJ6 1) (by decide +kernel)) (hts (.initialized RJ6) (by decide +kernel)) hK hP hD hS hA rfl (fun j hj => by rcases (show j = 0 by omega) with rfl; rfl) (Nat.le_of_ble_eq_true rfl) (Nat.le_of_ble_eq_true rfl) dJ6_valueOf_2dffe_23 (fun q_t H hP hD hS => ?_)
    have hP : va_P D vwCl [(q_t, .inr (1, [.int 0]))] H := hP
    have hD : va_D A [(q_t, .inr (1, [.int 0]))] := hD
    refine lv_dup hx hb dJ6_valueOf_2dffe_26 rfl ?_
    refine lv_iload_n hx hb dJ6_valueOf_2dffe_27 rfl (lv_at hl 0 rfl) ?_
    refine zk_cv (wr := []) (va_runI (As := [.int x]) (rest := [.ref q_t]) ⟨hx, hb, hml, hown, hts⟩ (k_J6_init_d00df l D T q_t x _) (cwI 1 hts gJ6_valueOf_2dffe_J6_init_d00df rfl rfl rfl (hts (.initialized RJ6) (by decide +kernel)) (hts (.methodLink RJ6 199 yJ6_init_d00df) (by decide +kernel)) (hts (.instanceMethod yJ6_init_d00df) (by decide +kernel)) rfl (by decide +kernel) ⟨Nat.le_of_ble_eq_true rfl, Nat.le_of_ble_eq_true rfl⟩) (zr_preS hK hN (hP.sub [0] rfl) (hD.sub [0] (by decide) rfl)) rfl rfl hl.1 rfl (lv_room (Nat.le_of_ble_eq_true rfl)) dJ6_valueOf_2dffe_28 ⟨Nat.le_of_ble_eq_true rfl, Nat.le_of_ble_eq_true rfl⟩) hP hD hS hA [0] [] rfl rfl (by decide) (by decide) [0] (wf := [(q_t, .inr (1, [.int x]))]) rfl (by decide) (fun H locs hP hD hS => ?_)
    exact W.aret (v := .ref q_t) hx hb hr (Or.inl ⟨_, rfl⟩) (Or.inr ⟨_, rfl⟩) (fun t ht hW => ⟨⟨(q_t, [q_t]), _, rfl, ⟨fun k hk hxk => absurd hx9 (by rw [hxk]; have := zs_c_rng ⟨k, hk⟩; exact fun q => q.elim this.1 this.2), Or.inr rfl⟩, ⟨rfl, by rw [ht]; exact hP, hD⟩⟩, hS.F ht⟩) hS.2.2 dJ6_valueOf_2dffe_31
  refine lv_iload_n hx hb dJ6_valueOf_2dffe_0 rfl (lv_at hl 0 rfl) ?_
  refine lv_bipush (v := (-128 : Int32)) hx hb dJ6_valueOf_2dffe_1 (by decide) ?_
  refine lv_icmp_lt (tgt := 23) hx hb dJ6_valueOf_2dffe_3 (by decide) (fun c1 => K (Or.inl c1)) (fun c1 => ?_)
  refine lv_iload_n hx hb dJ6_valueOf_2dffe_6 rfl (lv_at hl 0 rfl) ?_
  refine va_gets hx hb z3 hS hown (hts (.fieldLink RJ6 191 "java/lang/Integer$IntegerCache" "high" "I") (by decide +kernel)) (fun _ h9 => h9) dJ6_valueOf_2dffe_7 ?_
  refine lv_icmp_gt (tgt := 23) hx hb dJ6_valueOf_2dffe_10 (by decide) (fun c2 => K (Or.inr c2)) (fun c2 => ?_)
  obtain ⟨j, hj, e1, e2⟩ := bx_small c1 c2
  refine va_gets hx hb z4 hS hown (hts (.fieldLink RJ6 195 "java/lang/Integer$IntegerCache" "cache" "[Ljava/lang/Integer;") (by decide +kernel)) (fun _ h9 => h9) dJ6_valueOf_2dffe_13 ?_
  refine lv_iload_n hx hb dJ6_valueOf_2dffe_16 rfl (lv_at hl 0 rfl) ?_
  refine lv_sipush (v := (128 : Int32)) hx hb dJ6_valueOf_2dffe_17 (by decide) ?_
  refine lv_iadd hx hb dJ6_valueOf_2dffe_20 ?_
  rw [e1]
  refine vb_tq (v := .ref (Z.1 j)) hx hb z5 hS (nI_in hj (by decide)) (by rw [nI_clamp (by omega)]) dJ6_valueOf_2dffe_21 ?_
  refine W.widen (k := 1) (n := 1) (Nat.le_of_ble_eq_true rfl) (Nat.le_of_ble_eq_true rfl) ?_
  exact W.aret (v := .ref (Z.1 j)) hx hb hr (Or.inl ⟨_, rfl⟩) (Or.inr ⟨_, rfl⟩) (fun t ht hW => ⟨⟨(Z.1 j, []), _, rfl, ⟨fun k hk hxk => ⟨rfl, by rw [zs_c_inj hk hj (hxk.symm.trans e2)]⟩, Or.inl ⟨rfl, j, hj, rfl, e2⟩⟩, ⟨rfl, by rw [ht]; exact hP, hD⟩⟩, hS.F ht⟩) hS.2.2 dJ6_valueOf_2dffe_22
theorem iJ6_intValue_8abf5_J6 : ∀ w ∈ wsJ60, w ∈ wsJ6_intValue_8abf5 := by decide +kernel
set_option maxHeartbeats 8000000 in
set_option maxRecDepth 100000 in
theorem k_J6_intValue_8abf5 (l : Launch) (D : va_G) (T : Nat → ClassId) (Z : zs_T) (C : String) (LP : List Nat) (pv : Nat → Int32) (y : Nat) (v : Int32) (sz : Nat) (hbx : vb_bx LP pv Z.1 y v) : Met l yJ6_intValue_8abf5 wsJ6_intValue_8abf5 ({ frames := 0, cells := 0, slots := 0, locals := 0 } : Room) (zs_Pc Z C [] D T [.ref y] (zw [va_pl LP (fun a => .inr (1, [.int (pv a)]))]) sz) (zk_Qi v D (zw [va_pl LP (fun a => .inr (1, [.int (pv a)]))]) (va_A (zw [va_pl LP (fun a => .inr (1, [.int (pv a)]))]) sz) (va_A (zw [va_pl LP (fun a => .inr (1, [.int (pv a)]))]) sz)) 0 0 (va_A (zw [va_pl LP (fun a => .inr (1, [.int (pv a)]))]) sz) := by
  refine Met.ofW (cc := cJ6_intValue_8abf5) (maxL := 1) (ret := (some .int)) (by decide) rfl ?_
  intro p e s m args below meth c s₁ B hml hv
  obtain ⟨rfl, hsz, hP, hK, hN, hD0, hZ, hL0⟩ := hv
  have hx := B.exec
  have hb := B.bytes
  have hr := B.returns
  have hts := atoms_spec (ws := wsJ6_intValue_8abf5) B.pre
  have hown : s.vm.findClass RJ6 = some m.cls := findClass_of_methodNamed B.named
  have hlocks := B.notSynchronized
  subst hsz
  have hD := hD0.self (sz := s.heap.size)
  generalize hAe : va_A (zw [va_pl LP (fun a => .inr (1, [.int (pv a)]))]) s.heap.size = A at hD hZ hL0 ⊢
  have hA : ∀ q : Nat, s.heap.size ≤ q → A q := fun q h => by rw [← hAe]; exact Or.inr h
  have hS : va_S A s.heap s.heap [] := va_S.rf
  have hP : va_P D vwCl (zw [va_pl LP (fun a => .inr (1, [.int (pv a)]))]) s.heap := hP
  have hl := lv_entry ([.ref y]) (n := 1) (Nat.le_of_ble_eq_true rfl)
  rw [lg_entry_eq]
  generalize (lg_sl ([.ref y]) ++ List.replicate (1 - (lg_sl ([.ref y])).length) Slot.unset).toArray = ls at hl ⊢
  have hl : lv_has ls 1 [(0, .ref y)] := hl
  obtain ⟨z1, z2, z3, z4, z5, z6, z7, z8, z9, z10⟩ := id hZ
  refine lv_aload_n hx hb dJ6_intValue_8abf5_0 rfl (lv_at hl 0 rfl) ?_
  refine vb_get (X := []) (ci := 1) (T := TJ6) (LP := LP) (pv := pv) hx hb hts iJ6_intValue_8abf5_J6 hown z6 hS hK (zs_pl hP 0 rfl) rfl ⟨rfl, rfl, rfl⟩ hbx (hts (.fieldLink RJ6 205 "java/lang/Integer" "value" "I") (by decide +kernel)) (fun _ h9 => h9) dJ6_intValue_8abf5_1 ?_
  exact W.iret (v := v) hx hb hr (fun t ht hW => ⟨⟨_, (), rfl, rfl, by rw [ht]; exact hP, hD⟩, hS.F ht⟩) hS.2.2 dJ6_intValue_8abf5_4
theorem iJxc12de_init_da8c8_Jx4a65c : ∀ w ∈ wsJx4a65c0, w ∈ wsJxc12de_init_da8c8 := by decide +kernel
set_option maxHeartbeats 8000000 in
set_option maxRecDepth 100000 in
theorem k_Jxc12de_init_da8c8 (l : Launch) (D : va_G) (T : Nat → ClassId) (q_t : Nat) (sz : Nat) : Met l yJxc12de_init_da8c8 wsJxc12de_init_da8c8 ({ frames := 2, cells := 0, slots := 0, locals := 40 } : Room) (zr_Pc D T [.ref q_t] [(q_t, .inr (4, [.int 0, .null, .int 0]))] sz) (zk_Qv D [(q_t, .inr (4, [.int 0, .null, .int 0]))] (va_A [(q_t, .inr (4, [.int 0, .null, .int 0]))] sz) (va_A [(q_t, .inr (4, [.int 0, .null, .int 0]))] sz)) 0 0 (va_A [(q_t, .inr (4, [.int 0, .null, .int 0]))] sz) := by
  refine Met.ofW (cc := cJxc12de_init_da8c8) (maxL := 1) (ret := none) (by decide) rfl ?_
  intro p e s m args below meth c s₁ B hml hv
  obtain ⟨rfl, hsz, hP, hK, hN, hD0⟩ := hv
  have hx := B.exec
  have hb := B.bytes
  have hr := B.returns
  have hts := atoms_spec (ws := wsJxc12de_init_da8c8) B.pre
  have hown : s.vm.findClass RJxc12de = some m.cls := findClass_of_methodNamed B.named
  have hlocks := B.notSynchronized
  have hin : meth.name = "<init>" := (name_of_methodNamed B.named B.method).1
  subst hsz
  have hD := hD0.self (sz := s.heap.size)
  generalize hAe : va_A [(q_t, .inr (4, [.int 0, .null, .int 0]))] s.heap.size = A at hD ⊢
  have hA : ∀ q : Nat, s.heap.size ≤ q → A q := fun q h => by rw [← hAe]; exact Or.inr h
  have hS : va_S A s.heap s.heap [] := va_S.rf
  have hP : va_P D vwCl [(q_t, .inr (4, [.int 0, .null, .int 0]))] s.heap := hP
  have hl := lv_entry ([.ref q_t]) (n := 1) (Nat.le_of_ble_eq_true rfl)
  rw [lg_entry_eq]
  generalize (lg_sl ([.ref q_t]) ++ List.replicate (1 - (lg_sl ([.ref q_t])).length) Slot.unset).toArray = ls at hl ⊢
  have hl : lv_has ls 1 [(0, .ref q_t)] := hl
  refine lv_aload_n hx hb dJxc12de_init_da8c8_0 rfl (lv_at hl 0 rfl) ?_
  refine zk_cv (wr := [(q_t, .inr (4, [.int 0, .null, .int 0]))]) (va_runI (As := []) (rest := []) ⟨hx, hb, hml, hown, hts⟩ (k_Jxa1e45_init_da8c8 l D T q_t _) (cwI 0 hts gJxc12de_init_da8c8_Jxa1e45_init_da8c8 rfl rfl rfl (hts (.initialized RJxa1e45) (by decide +kernel)) (hts (.methodLink RJxc12de 1 yJxa1e45_init_da8c8) (by decide +kernel)) (hts (.instanceMethod yJxa1e45_init_da8c8) (by decide +kernel)) rfl (by decide +kernel) ⟨Nat.le_of_ble_eq_true rfl, Nat.le_of_ble_eq_true rfl⟩) (zr_preS hK hN (hP.sub [] rfl) (hD.sub [] (by decide) rfl)) rfl rfl hl.1 rfl (lv_room (Nat.le_of_ble_eq_true rfl)) dJxc12de_init_da8c8_1 ⟨Nat.le_of_ble_eq_true rfl, Nat.le_of_ble_eq_true rfl⟩) hP hD hS hA [] [0] rfl rfl (by decide) (by decide) [0] (wf := [(q_t, .inr (4, [.int 0, .null, .int 0]))]) rfl (by decide) (fun H locs hP hD hS => ?_)
  refine lv_aload_n hx hb dJxc12de_init_da8c8_4 rfl (lv_at hl 0 rfl) ?_
  refine lv_iconst (v := (0 : Int32)) hx hb dJxc12de_init_da8c8_5 (by decide) ?_
  refine va_put (D := D) (ci := 4) (v := .int 0) (ty := .int) (C := RJx4a65c) (T := TJx4a65c) (N := 3) hx hb hts iJxc12de_init_da8c8_Jx4a65c tyJx4a65c tyJx4a65c_ok nmJx4a65c hown hK hP hD hS 0 rfl rfl 0 (by decide) (hts (.fieldLink RJxc12de 7 "java/util/AbstractList" "modCount" "I") (by decide +kernel)) (fun _ h9 => h9) rfl (by decide +kernel) rfl rfl (Nat.le_of_ble_eq_true rfl) dJxc12de_init_da8c8_6 (fun H locs hP hD hS => ?_)
  have hP : va_P D vwCl [(q_t, .inr (4, [.int 0, .null, .int 0]))] H := hP
  have hD : va_D A [(q_t, .inr (4, [.int 0, .null, .int 0]))] := hD
  exact W.vret hx hb hr (fun t ht hW => ⟨⟨(), rfl, trivial, by rw [ht]; exact hP, hD⟩, hS.F ht⟩) hS.2.2 dJxc12de_init_da8c8_9
theorem iJx4a65c_init_da8c8_Jx4a65c : ∀ w ∈ wsJx4a65c0, w ∈ wsJx4a65c_init_da8c8 := by decide +kernel
set_option maxHeartbeats 8000000 in
set_option maxRecDepth 100000 in
theorem k_Jx4a65c_init_da8c8 (l : Launch) (D : va_G) (T : Nat → ClassId) (Z : zs_T) (C : String) (q_t : Nat) (sz : Nat) : Met l yJx4a65c_init_da8c8 wsJx4a65c_init_da8c8 ({ frames := 3, cells := 0, slots := 0, locals := 70 } : Room) (zs_Pc Z C [] D T [.ref q_t] [(q_t, .inr (4, [.int 0, .null, .int 0]))] sz) (zk_Qv D [(q_t, .inr (4, [.int 0, .ref Z.2.1, .int 0]))] (va_A [(q_t, .inr (4, [.int 0, .null, .int 0]))] sz) (va_A [(q_t, .inr (4, [.int 0, .null, .int 0]))] sz)) 0 0 (va_A [(q_t, .inr (4, [.int 0, .null, .int 0]))] sz) := by
  refine Met.ofW (cc := cJx4a65c_init_da8c8) (maxL := 1) (ret := none) (by decide) rfl ?_
  intro p e s m args below meth c s₁ B hml hv
  obtain ⟨rfl, hsz, hP, hK, hN, hD0, hZ, hL0⟩ := hv
  have hx := B.exec
  have hb := B.bytes
  have hr := B.returns
  have hts := atoms_spec (ws := wsJx4a65c_init_da8c8) B.pre
  have hown : s.vm.findClass RJx4a65c = some m.cls := findClass_of_methodNamed B.named
  have hlocks := B.notSynchronized
  have hin : meth.name = "<init>" := (name_of_methodNamed B.named B.method).1
  subst hsz
  have hD := hD0.self (sz := s.heap.size)
  generalize hAe : va_A [(q_t, .inr (4, [.int 0, .null, .int 0]))] s.heap.size = A at hD hZ hL0 ⊢
  have hA : ∀ q : Nat, s.heap.size ≤ q → A q := fun q h => by rw [← hAe]; exact Or.inr h
  have hS : va_S A s.heap s.heap [] := va_S.rf
  have hP : va_P D vwCl [(q_t, .inr (4, [.int 0, .null, .int 0]))] s.heap := hP
  have hl := lv_entry ([.ref q_t]) (n := 1) (Nat.le_of_ble_eq_true rfl)
  rw [lg_entry_eq]
  generalize (lg_sl ([.ref q_t]) ++ List.replicate (1 - (lg_sl ([.ref q_t])).length) Slot.unset).toArray = ls at hl ⊢
  have hl : lv_has ls 1 [(0, .ref q_t)] := hl
  obtain ⟨z1, z2, z3, z4, z5, z6, z7, z8, z9, z10⟩ := id hZ
  refine lv_aload_n hx hb dJx4a65c_init_da8c8_0 rfl (lv_at hl 0 rfl) ?_
  refine zk_cv (wr := []) (va_runI (As := []) (rest := []) ⟨hx, hb, hml, hown, hts⟩ (k_Jxc12de_init_da8c8 l D T q_t _) (cwI 0 hts gJx4a65c_init_da8c8_Jxc12de_init_da8c8 rfl rfl rfl (hts (.initialized RJxc12de) (by decide +kernel)) (hts (.methodLink RJx4a65c 1 yJxc12de_init_da8c8) (by decide +kernel)) (hts (.instanceMethod yJxc12de_init_da8c8) (by decide +kernel)) rfl (by decide +kernel) ⟨Nat.le_of_ble_eq_true rfl, Nat.le_of_ble_eq_true rfl⟩) (zr_preS hK hN (hP.sub [0] rfl) (hD.sub [0] (by decide) rfl)) rfl rfl hl.1 rfl (lv_room (Nat.le_of_ble_eq_true rfl)) dJx4a65c_init_da8c8_1 ⟨Nat.le_of_ble_eq_true rfl, Nat.le_of_ble_eq_true rfl⟩) hP hD hS hA [0] [] rfl rfl (by decide) (by decide) [0] (wf := [(q_t, .inr (4, [.int 0, .null, .int 0]))]) rfl (by decide) (fun H locs hP hD hS => ?_)
  refine lv_aload_n hx hb dJx4a65c_init_da8c8_4 rfl (lv_at hl 0 rfl) ?_
  refine va_gets hx hb z1 hS hown (hts (.fieldLink RJx4a65c 39 "java/util/ArrayList" "DEFAULTCAPACITY_EMPTY_ELEMENTDATA" "[Ljava/lang/Object;") (by decide +kernel)) (fun _ h9 => h9) dJx4a65c_init_da8c8_5 ?_
  refine va_put (D := D) (ci := 4) (v := .ref Z.2.1) (ty := (.array (.object "java/lang/Object"))) (C := RJx4a65c) (T := TJx4a65c) (N := 3) hx hb hts iJx4a65c_init_da8c8_Jx4a65c tyJx4a65c tyJx4a65c_ok nmJx4a65c hown hK hP hD hS 0 rfl rfl 1 (by decide) (hts (.fieldLink RJx4a65c 9 "java/util/ArrayList" "elementData" "[Ljava/lang/Object;") (by decide +kernel)) (fun _ h9 => h9) rfl (by decide +kernel) rfl rfl (Nat.le_of_ble_eq_true rfl) dJx4a65c_init_da8c8_8 (fun H locs hP hD hS => ?_)
  have hP : va_P D vwCl [(q_t, .inr (4, [.int 0, .ref Z.2.1, .int 0]))] H := hP
  have hD : va_D A [(q_t, .inr (4, [.int 0, .ref Z.2.1, .int 0]))] := hD
  exact W.vret hx hb hr (fun t ht hW => ⟨⟨(), rfl, trivial, by rw [ht]; exact hP, hD⟩, hS.F ht⟩) hS.2.2 dJx4a65c_init_da8c8_11

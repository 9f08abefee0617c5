def f_Jxf58ca_isNaN_12338 (N : Nat) (x0 : UInt32) : Option (Int32) := if (Op.cmpValue (FP.fcmp x0 x0) .l) = 0 then (some (0 : Int32)) else (some (1 : Int32))
set_option maxHeartbeats 8000000 in
set_option maxRecDepth 100000 in
theorem k_Jxf58ca_isNaN_12338 (l : Launch) (D : va_G) (T : Nat → ClassId) (N : Nat) (sz : Nat) (x0 : UInt32) (o : Int32) (h : f_Jxf58ca_isNaN_12338 N x0 = some o) : Met l yJxf58ca_isNaN_12338 wsJxf58ca_isNaN_12338 ({ frames := 0, cells := 0, slots := 0, locals := 0 } : Room) (zr_Pc D T [.float x0] [] sz) (zk_Qi o D [] (va_A [] sz) (va_A [] sz)) 0 0 (va_A [] sz) := by
  refine zr_ofW (cc := cJxf58ca_isNaN_12338) (maxL := 1) (ret := (some .boolean)) (by decide +kernel) rfl ?_
  intro p e s m args below meth c s₁ B hml hv
  obtain ⟨rfl, hsz, hP, hK, hN, hD0⟩ := hv
  have hx := B.exec
  have hb := B.bytes
  have hr := B.returns
  have hts := atoms_spec (ws := wsJxf58ca_isNaN_12338) B.pre
  have hown : s.vm.findClass RJxf58ca = some m.cls := findClass_of_methodNamed B.named
  have hlocks := B.notSynchronized
  subst hsz
  have hD := hD0.self (sz := s.heap.size)
  generalize hAe : va_A [] s.heap.size = A at hD ⊢
  have hA : ∀ q : Nat, s.heap.size ≤ q → A q := fun q h => by rw [← hAe]; exact Or.inr h
  have hS : va_S A s.heap s.heap [] := va_S.rf
  have hP : va_P D vwCl [] s.heap := hP
  have hl := lv_entry ([.float x0]) (n := 1) (Nat.le_of_ble_eq_true rfl)
  rw [lg_entry_eq]
  generalize (lg_sl ([.float x0]) ++ List.replicate (1 - (lg_sl ([.float x0])).length) Slot.unset).toArray = ls at hl ⊢
  have hl : lv_has ls 1 [(0, .float x0)] := hl
  unfold f_Jxf58ca_isNaN_12338 at h
  refine lv_fload_n hx hb dJxf58ca_isNaN_12338_0 rfl (lv_at hl 0 rfl) ?_
  refine lv_fload_n hx hb dJxf58ca_isNaN_12338_1 rfl (lv_at hl 0 rfl) ?_
  refine lv_fcmp hx hb dJxf58ca_isNaN_12338_2 ?_
  refine lv_if_eq (tgt := 10) hx hb dJxf58ca_isNaN_12338_3 (by decide) (fun c3 => ?_) (fun c3 => ?_)
  · replace h := (if_pos c3).symm.trans h
    refine lv_iconst (v := (0 : Int32)) hx hb dJxf58ca_isNaN_12338_10 (by decide) ?_
    obtain rfl := Option.some.inj h
    exact W.zret (v := (0 : Int32)) hx hb hr rfl (fun t ht hW => ⟨⟨_, (), rfl, rfl, ⟨by rw [ht]; exact hP, hD⟩⟩, hS.F ht⟩) hS.2.2 dJxf58ca_isNaN_12338_11
  · replace h := (if_neg c3).symm.trans h
    refine lv_iconst (v := (1 : Int32)) hx hb dJxf58ca_isNaN_12338_6 (by decide) ?_
    refine lv_goto (tgt := 11) hx hb dJxf58ca_isNaN_12338_7 (by decide) ?_
    obtain rfl := Option.some.inj h
    exact W.zret (v := (1 : Int32)) hx hb hr rfl (fun t ht hW => ⟨⟨_, (), rfl, rfl, ⟨by rw [ht]; exact hP, hD⟩⟩, hS.F ht⟩) hS.2.2 dJxf58ca_isNaN_12338_11
def f_Jxf58ca_floatToIntBits_5c35a (N : Nat) (x0 : UInt32) : Option (Int32) := (f_Jxf58ca_isNaN_12338 N x0).bind fun o1 => if o1 = 0 then (some x0.toInt32) else (some (2143289344 : Int32))
set_option maxHeartbeats 8000000 in
set_option maxRecDepth 100000 in
theorem k_Jxf58ca_floatToIntBits_5c35a (l : Launch) (D : va_G) (T : Nat → ClassId) (N : Nat) (sz : Nat) (x0 : UInt32) (o : Int32) (h : f_Jxf58ca_floatToIntBits_5c35a N x0 = some o) : Met l yJxf58ca_floatToIntBits_5c35a wsJxf58ca_floatToIntBits_5c35a ({ frames := 1, cells := 0, slots := 0, locals := 20 } : Room) (zr_Pc D T [.float x0] [] sz) (zk_Qi o D [] (va_A [] sz) (va_A [] sz)) 0 0 (va_A [] sz) := by
  refine zr_ofW (cc := cJxf58ca_floatToIntBits_5c35a) (maxL := 1) (ret := (some .int)) (by decide +kernel) rfl ?_
  intro p e s m args below meth c s₁ B hml hv
  obtain ⟨rfl, hsz, hP, hK, hN, hD0⟩ := hv
  have hx := B.exec
  have hb := B.bytes
  have hr := B.returns
  have hts := atoms_spec (ws := wsJxf58ca_floatToIntBits_5c35a) B.pre
  have hown : s.vm.findClass RJxf58ca = some m.cls := findClass_of_methodNamed B.named
  have hlocks := B.notSynchronized
  subst hsz
  have hD := hD0.self (sz := s.heap.size)
  generalize hAe : va_A [] s.heap.size = A at hD ⊢
  have hA : ∀ q : Nat, s.heap.size ≤ q → A q := fun q h => by rw [← hAe]; exact Or.inr h
  have hS : va_S A s.heap s.heap [] := va_S.rf
  have hP : va_P D vwCl [] s.heap := hP
  have hl := lv_entry ([.float x0]) (n := 1) (Nat.le_of_ble_eq_true rfl)
  rw [lg_entry_eq]
  generalize (lg_sl ([.float x0]) ++ List.replicate (1 - (lg_sl ([.float x0])).length) Slot.unset).toArray = ls at hl ⊢
  have hl : lv_has ls 1 [(0, .float x0)] := hl
  unfold f_Jxf58ca_floatToIntBits_5c35a at h
  refine lv_fload_n hx hb dJxf58ca_floatToIntBits_5c35a_0 rfl (lv_at hl 0 rfl) ?_
  obtain ⟨o1, hc1, h⟩ := zk_bind h
  refine zk_ci (wr := []) (va_runS (As := [.float x0]) (rest := []) ⟨hx, hb, hml, hown, hts⟩ (k_Jxf58ca_isNaN_12338 l D T N  _  x0 o1 hc1) (va_cwS 1 hts gJxf58ca_floatToIntBits_5c35a_Jxf58ca_isNaN_12338 rfl rfl rfl (by decide +kernel) ⟨Nat.le_of_ble_eq_true rfl, Nat.le_of_ble_eq_true rfl⟩) (zr_preS hK hN (hP.sub [] rfl) (hD.sub [] (by decide) rfl)) rfl rfl hl.1 rfl (lv_room (Nat.le_of_ble_eq_true rfl)) dJxf58ca_floatToIntBits_5c35a_1 ⟨Nat.zero_le _, Nat.zero_le _⟩) hP hD hS hA [] [] rfl rfl (by decide) (by decide) [] (wf := []) rfl (by decide) (fun H locs hP hD hS => ?_)
  refine lv_if_ne (tgt := 12) hx hb dJxf58ca_floatToIntBits_5c35a_4 (by decide) (fun c4 => ?_) (fun c4 => ?_)
  · replace h := (if_neg c4).symm.trans h
    refine lv_ldc (v := (2143289344 : Int32)) hx hb hown (hts (.constant RJxf58ca 77 (2143289344 : Int32)) (by decide +kernel)) dJxf58ca_floatToIntBits_5c35a_12 ?_
    obtain rfl := Option.some.inj h
    exact W.iret (v := (2143289344 : Int32)) hx hb hr (fun t ht hW => ⟨⟨_, (), rfl, rfl, ⟨by rw [ht]; exact hP, hD⟩⟩, hS.F ht⟩) hS.2.2 dJxf58ca_floatToIntBits_5c35a_14
  · replace h := (if_pos c4).symm.trans h
    refine lv_fload_n hx hb dJxf58ca_floatToIntBits_5c35a_7 rfl (lv_at hl 0 rfl) ?_
    refine vn_f2i hx hb (hml.trans hl.1.symm) hown (hts (.methodLink RJxf58ca 74 ⟨"java/lang/Float", "floatToRawIntBits", "(F)I"⟩) (by decide +kernel)) (hts (.native ⟨"java/lang/Float", "floatToRawIntBits", "(F)I"⟩) (by decide +kernel)) (hts (.static ⟨"java/lang/Float", "floatToRawIntBits", "(F)I"⟩) (by decide +kernel)) (hts (.initialized "java/lang/Float") (by decide +kernel)) (Nat.le_of_ble_eq_true rfl) (Nat.le_of_ble_eq_true rfl) dJxf58ca_floatToIntBits_5c35a_8 ?_
    obtain rfl := Option.some.inj h
    exact W.iret (v := x0.toInt32) hx hb hr (fun t ht hW => ⟨⟨_, (), rfl, rfl, ⟨by rw [ht]; exact hP, hD⟩⟩, hS.F ht⟩) hS.2.2 dJxf58ca_floatToIntBits_5c35a_11
def f_Jxe99ae_isNaN_b9ae7 (N : Nat) (x0 : UInt64) : Option (Int32) := if (Op.cmpValue (FP.dcmp x0 x0) .l) = 0 then (some (0 : Int32)) else (some (1 : Int32))
set_option maxHeartbeats 8000000 in
set_option maxRecDepth 100000 in
theorem k_Jxe99ae_isNaN_b9ae7 (l : Launch) (D : va_G) (T : Nat → ClassId) (N : Nat) (sz : Nat) (x0 : UInt64) (o : Int32) (h : f_Jxe99ae_isNaN_b9ae7 N x0 = some o) : Met l yJxe99ae_isNaN_b9ae7 wsJxe99ae_isNaN_b9ae7 ({ frames := 0, cells := 0, slots := 0, locals := 0 } : Room) (zr_Pc D T [.double x0] [] sz) (zk_Qi o D [] (va_A [] sz) (va_A [] sz)) 0 0 (va_A [] sz) := by
  refine Met.ofW (cc := cJxe99ae_isNaN_b9ae7) (maxL := 2) (ret := (some .boolean)) (by decide) rfl ?_
  intro p e s m args below meth c s₁ B hml hv
  obtain ⟨rfl, hsz, hP, hK, hN, hD0⟩ := hv
  have hx := B.exec
  have hb := B.bytes
  have hr := B.returns
  have hts := atoms_spec (ws := wsJxe99ae_isNaN_b9ae7) B.pre
  have hown : s.vm.findClass RJxe99ae = some m.cls := findClass_of_methodNamed B.named
  have hlocks := B.notSynchronized
  subst hsz
  have hD := hD0.self (sz := s.heap.size)
  generalize hAe : va_A [] s.heap.size = A at hD ⊢
  have hA : ∀ q : Nat, s.heap.size ≤ q → A q := fun q h => by rw [← hAe]; exact Or.inr h
  have hS : va_S A s.heap s.heap [] := va_S.rf
  have hP : va_P D vwCl [] s.heap := hP
  have hl := lv_entry ([.double x0]) (n := 2) (Nat.le_of_ble_eq_true rfl)
  rw [lg_entry_eq]
  generalize (lg_sl ([.double x0]) ++ List.replicate (2 - (lg_sl ([.double x0])).length) Slot.unset).toArray = ls at hl ⊢
  have hl : lv_has ls 2 [(0, .double x0)] := hl
  unfold f_Jxe99ae_isNaN_b9ae7 at h
  refine lv_dload_n hx hb dJxe99ae_isNaN_b9ae7_0 rfl (lv_at hl 0 rfl) ?_
  refine lv_dload_n hx hb dJxe99ae_isNaN_b9ae7_1 rfl (lv_at hl 0 rfl) ?_
  refine lv_dcmp hx hb dJxe99ae_isNaN_b9ae7_2 ?_
  refine lv_if_eq (tgt := 10) hx hb dJxe99ae_isNaN_b9ae7_3 (by decide) (fun c3 => ?_) (fun c3 => ?_)
  · replace h := (if_pos c3).symm.trans h
    refine lv_iconst (v := (0 : Int32)) hx hb dJxe99ae_isNaN_b9ae7_10 (by decide) ?_
    obtain rfl := Option.some.inj h
    exact W.zret (v := (0 : Int32)) hx hb hr rfl (fun t ht hW => ⟨⟨_, (), rfl, rfl, ⟨by rw [ht]; exact hP, hD⟩⟩, hS.F ht⟩) hS.2.2 dJxe99ae_isNaN_b9ae7_11
  · replace h := (if_neg c3).symm.trans h
    refine lv_iconst (v := (1 : Int32)) hx hb dJxe99ae_isNaN_b9ae7_6 (by decide) ?_
    refine lv_goto (tgt := 11) hx hb dJxe99ae_isNaN_b9ae7_7 (by decide) ?_
    obtain rfl := Option.some.inj h
    exact W.zret (v := (1 : Int32)) hx hb hr rfl (fun t ht hW => ⟨⟨_, (), rfl, rfl, ⟨by rw [ht]; exact hP, hD⟩⟩, hS.F ht⟩) hS.2.2 dJxe99ae_isNaN_b9ae7_11
def f_Jxe99ae_doubleToLongBits_ccdee (N : Nat) (x0 : UInt64) : Option (Int64) := (f_Jxe99ae_isNaN_b9ae7 N x0).bind fun o1 => if o1 = 0 then (some x0.toInt64) else (some (9221120237041090560 : Int64))
set_option maxHeartbeats 8000000 in
set_option maxRecDepth 100000 in
theorem k_Jxe99ae_doubleToLongBits_ccdee (l : Launch) (D : va_G) (T : Nat → ClassId) (N : Nat) (sz : Nat) (x0 : UInt64) (o : Int64) (h : f_Jxe99ae_doubleToLongBits_ccdee N x0 = some o) : Met l yJxe99ae_doubleToLongBits_ccdee wsJxe99ae_doubleToLongBits_ccdee ({ frames := 1, cells := 0, slots := 0, locals := 21 } : Room) (zr_Pc D T [.double x0] [] sz) (zk_Ql o D [] (va_A [] sz) (va_A [] sz)) 0 0 (va_A [] sz) := by
  refine Met.ofW (cc := cJxe99ae_doubleToLongBits_ccdee) (maxL := 2) (ret := (some .long)) (by decide) rfl ?_
  intro p e s m args below meth c s₁ B hml hv
  obtain ⟨rfl, hsz, hP, hK, hN, hD0⟩ := hv
  have hx := B.exec
  have hb := B.bytes
  have hr := B.returns
  have hts := atoms_spec (ws := wsJxe99ae_doubleToLongBits_ccdee) B.pre
  have hown : s.vm.findClass RJxe99ae = some m.cls := findClass_of_methodNamed B.named
  have hlocks := B.notSynchronized
  subst hsz
  have hD := hD0.self (sz := s.heap.size)
  generalize hAe : va_A [] s.heap.size = A at hD ⊢
  have hA : ∀ q : Nat, s.heap.size ≤ q → A q := fun q h => by rw [← hAe]; exact Or.inr h
  have hS : va_S A s.heap s.heap [] := va_S.rf
  have hP : va_P D vwCl [] s.heap := hP
  have hl := lv_entry ([.double x0]) (n := 2) (Nat.le_of_ble_eq_true rfl)
  rw [lg_entry_eq]
  generalize (lg_sl ([.double x0]) ++ List.replicate (2 - (lg_sl ([.double x0])).length) Slot.unset).toArray = ls at hl ⊢
  have hl : lv_has ls 2 [(0, .double x0)] := hl
  unfold f_Jxe99ae_doubleToLongBits_ccdee at h
  refine lv_dload_n hx hb dJxe99ae_doubleToLongBits_ccdee_0 rfl (lv_at hl 0 rfl) ?_
  obtain ⟨o1, hc1, h⟩ := zk_bind h
  refine zk_ci (wr := []) (va_runS (As := [.double x0]) (rest := []) ⟨hx, hb, hml, hown, hts⟩ (k_Jxe99ae_isNaN_b9ae7 l D T N  _  x0 o1 hc1) (va_cwS 1 hts gJxe99ae_doubleToLongBits_ccdee_Jxe99ae_isNaN_b9ae7 rfl rfl rfl (by decide +kernel) ⟨Nat.le_of_ble_eq_true rfl, Nat.le_of_ble_eq_true rfl⟩) (zr_preS hK hN (hP.sub [] rfl) (hD.sub [] (by decide) rfl)) rfl rfl hl.1 rfl (lv_room (Nat.le_of_ble_eq_true rfl)) dJxe99ae_doubleToLongBits_ccdee_1 ⟨Nat.zero_le _, Nat.zero_le _⟩) hP hD hS hA [] [] rfl rfl (by decide) (by decide) [] (wf := []) rfl (by decide) (fun H locs hP hD hS => ?_)
  refine lv_if_ne (tgt := 12) hx hb dJxe99ae_doubleToLongBits_ccdee_4 (by decide) (fun c4 => ?_) (fun c4 => ?_)
  · replace h := (if_neg c4).symm.trans h
    refine lv_ldc2 (v := (9221120237041090560 : Int64)) hx hb hown (hts (.constantLong RJxe99ae 137 (9221120237041090560 : Int64)) (by decide +kernel)) dJxe99ae_doubleToLongBits_ccdee_12 ?_
    obtain rfl := Option.some.inj h
    exact W.lret (v := (9221120237041090560 : Int64)) hx hb hr (fun t ht hW => ⟨⟨_, (), rfl, rfl, ⟨by rw [ht]; exact hP, hD⟩⟩, hS.F ht⟩) hS.2.2 dJxe99ae_doubleToLongBits_ccdee_15
  · replace h := (if_pos c4).symm.trans h
    refine lv_dload_n hx hb dJxe99ae_doubleToLongBits_ccdee_7 rfl (lv_at hl 0 rfl) ?_
    refine vn_d2l hx hb (hml.trans hl.1.symm) hown (hts (.methodLink RJxe99ae 134 ⟨"java/lang/Double", "doubleToRawLongBits", "(D)J"⟩) (by decide +kernel)) (hts (.native ⟨"java/lang/Double", "doubleToRawLongBits", "(D)J"⟩) (by decide +kernel)) (hts (.static ⟨"java/lang/Double", "doubleToRawLongBits", "(D)J"⟩) (by decide +kernel)) (hts (.initialized "java/lang/Double") (by decide +kernel)) (Nat.le_of_ble_eq_true rfl) (Nat.le_of_ble_eq_true rfl) dJxe99ae_doubleToLongBits_ccdee_8 ?_
    obtain rfl := Option.some.inj h
    exact W.lret (v := x0.toInt64) hx hb hr (fun t ht hW => ⟨⟨_, (), rfl, rfl, ⟨by rw [ht]; exact hP, hD⟩⟩, hS.F ht⟩) hS.2.2 dJxe99ae_doubleToLongBits_ccdee_11
def f_J3_checkIndex_8e157 (N : Nat) (x0 : Int32) (x1 : Int32) : Option (Int32) := if x0 < 0 then (none) else (if x0 < x1 then (some x0) else (none))
set_option maxHeartbeats 8000000 in
set_option maxRecDepth 100000 in
theorem k_J3_checkIndex_8e157 (l : Launch) (D : va_G) (T : Nat → ClassId) (N : Nat) (sz : Nat) (x0 : Int32) (x1 : Int32) (o : Int32) (h : f_J3_checkIndex_8e157 N x0 x1 = some o) : Met l yJ3_checkIndex_8e157 wsJ3_checkIndex_8e157 ({ frames := 0, cells := 0, slots := 0, locals := 0 } : Room) (zr_Pc D T [.int x0, .int x1, .null] [] sz) (zk_Qi o D [] (va_A [] sz) (va_A [] sz)) 0 0 (va_A [] sz) := by
  refine Met.ofW (cc := cJ3_checkIndex_8e157) (maxL := 3) (ret := (some .int)) (by decide) rfl ?_
  intro p e s m args below meth c s₁ B hml hv
  obtain ⟨rfl, hsz, hP, hK, hN, hD0⟩ := hv
  have hx := B.exec
  have hb := B.bytes
  have hr := B.returns
  have hts := atoms_spec (ws := wsJ3_checkIndex_8e157) B.pre
  have hown : s.vm.findClass RJ3 = some m.cls := findClass_of_methodNamed B.named
  have hlocks := B.notSynchronized
  subst hsz
  have hD := hD0.self (sz := s.heap.size)
  generalize hAe : va_A [] s.heap.size = A at hD ⊢
  have hA : ∀ q : Nat, s.heap.size ≤ q → A q := fun q h => by rw [← hAe]; exact Or.inr h
  have hS : va_S A s.heap s.heap [] := va_S.rf
  have hP : va_P D vwCl [] s.heap := hP
  have hl := lv_entry ([.int x0, .int x1, .null]) (n := 3) (Nat.le_of_ble_eq_true rfl)
  rw [lg_entry_eq]
  generalize (lg_sl ([.int x0, .int x1, .null]) ++ List.replicate (3 - (lg_sl ([.int x0, .int x1, .null])).length) Slot.unset).toArray = ls at hl ⊢
  have hl : lv_has ls 3 [(0, .int x0), (1, .int x1), (2, .null)] := hl
  unfold f_J3_checkIndex_8e157 at h
  refine lv_iload_n hx hb dJ3_checkIndex_8e157_0 rfl (lv_at hl 0 rfl) ?_
  refine lv_if_lt (tgt := 9) hx hb dJ3_checkIndex_8e157_1 (by decide) (fun c1 => ?_) (fun c1 => ?_)
  · replace h := (if_pos c1).symm.trans h
    exact absurd h (by simp)
  · replace h := (if_neg c1).symm.trans h
    refine lv_iload_n hx hb dJ3_checkIndex_8e157_4 rfl (lv_at hl 0 rfl) ?_
    refine lv_iload_n hx hb dJ3_checkIndex_8e157_5 rfl (lv_at hl 1 rfl) ?_
    refine lv_icmp_lt (tgt := 16) hx hb dJ3_checkIndex_8e157_6 (by decide) (fun c6 => ?_) (fun c6 => ?_)
    · replace h := (if_pos c6).symm.trans h
      refine lv_iload_n hx hb dJ3_checkIndex_8e157_16 rfl (lv_at hl 0 rfl) ?_
      obtain rfl := Option.some.inj h
      exact W.iret (v := x0) hx hb hr (fun t ht hW => ⟨⟨_, (), rfl, rfl, ⟨by rw [ht]; exact hP, hD⟩⟩, hS.F ht⟩) hS.2.2 dJ3_checkIndex_8e157_17
    · replace h := (if_neg c6).symm.trans h
      exact absurd h (by simp)
def f_J15_checkIndex_7cf53 (N : Nat) (x0 : Int32) (x1 : Int32) : Option (Int32) := (f_J3_checkIndex_8e157 N x0 x1).bind fun o3 => some o3
set_option maxHeartbeats 8000000 in
set_option maxRecDepth 100000 in
theorem k_J15_checkIndex_7cf53 (l : Launch) (D : va_G) (T : Nat → ClassId) (N : Nat) (sz : Nat) (x0 : Int32) (x1 : Int32) (o : Int32) (h : f_J15_checkIndex_7cf53 N x0 x1 = some o) : Met l yJ15_checkIndex_7cf53 wsJ15_checkIndex_7cf53 ({ frames := 1, cells := 0, slots := 0, locals := 22 } : Room) (zr_Pc D T [.int x0, .int x1] [] sz) (zk_Qi o D [] (va_A [] sz) (va_A [] sz)) 0 0 (va_A [] sz) := by
  refine Met.ofW (cc := cJ15_checkIndex_7cf53) (maxL := 2) (ret := (some .int)) (by decide) rfl ?_
  intro p e s m args below meth c s₁ B hml hv
  obtain ⟨rfl, hsz, hP, hK, hN, hD0⟩ := hv
  have hx := B.exec
  have hb := B.bytes
  have hr := B.returns
  have hts := atoms_spec (ws := wsJ15_checkIndex_7cf53) B.pre
  have hown : s.vm.findClass RJ15 = some m.cls := findClass_of_methodNamed B.named
  have hlocks := B.notSynchronized
  subst hsz
  have hD := hD0.self (sz := s.heap.size)
  generalize hAe : va_A [] s.heap.size = A at hD ⊢
  have hA : ∀ q : Nat, s.heap.size ≤ q → A q := fun q h => by rw [← hAe]; exact Or.inr h
  have hS : va_S A s.heap s.heap [] := va_S.rf
  have hP : va_P D vwCl [] s.heap := hP
  have hl := lv_entry ([.int x0, .int x1]) (n := 2) (Nat.le_of_ble_eq_true rfl)
  rw [lg_entry_eq]
  generalize (lg_sl ([.int x0, .int x1]) ++ List.replicate (2 - (lg_sl ([.int x0, .int x1])).length) Slot.unset).toArray = ls at hl ⊢
  have hl : lv_has ls 2 [(0, .int x0), (1, .int x1)] := hl
  unfold f_J15_checkIndex_7cf53 at h
  refine lv_iload_n hx hb dJ15_checkIndex_7cf53_0 rfl (lv_at hl 0 rfl) ?_
  refine lv_iload_n hx hb dJ15_checkIndex_7cf53_1 rfl (lv_at hl 1 rfl) ?_
  refine lv_null hx hb dJ15_checkIndex_7cf53_2 ?_
  obtain ⟨o3, hc3, h⟩ := zk_bind h
  refine zk_ci (wr := []) (va_runS (As := [.int x0, .int x1, .null]) (rest := []) ⟨hx, hb, hml, hown, hts⟩ (k_J3_checkIndex_8e157 l D T N  _  x0 x1 o3 hc3) (va_cwS 3 hts gJ15_checkIndex_7cf53_J3_checkIndex_8e157 rfl rfl rfl (by decide +kernel) ⟨Nat.le_of_ble_eq_true rfl, Nat.le_of_ble_eq_true rfl⟩) (zr_preS hK hN (hP.sub [] rfl) (hD.sub [] (by decide) rfl)) rfl rfl hl.1 rfl (lv_room (Nat.le_of_ble_eq_true rfl)) dJ15_checkIndex_7cf53_3 ⟨Nat.zero_le _, Nat.zero_le _⟩) hP hD hS hA [] [] rfl rfl (by decide) (by decide) [] (wf := []) rfl (by decide) (fun H locs hP hD hS => ?_)
  obtain rfl := Option.some.inj h
  exact W.iret (v := o3) hx hb hr (fun t ht hW => ⟨⟨_, (), rfl, rfl, ⟨by rw [ht]; exact hP, hD⟩⟩, hS.F ht⟩) hS.2.2 dJ15_checkIndex_7cf53_6
theorem iJx4a65c_size_8abf5_Jx4a65c : ∀ w ∈ wsJx4a65c0, w ∈ wsJx4a65c_size_8abf5 := by decide +kernel
def f_Jx4a65c_size_8abf5 (N : Nat) (v_t_size : Int32) : Option (Int32) := some v_t_size
set_option maxHeartbeats 8000000 in
set_option maxRecDepth 100000 in
theorem k_Jx4a65c_size_8abf5 (l : Launch) (D : va_G) (T : Nat → ClassId) (N : Nat) (q_t q_t_elementData : Nat) (sz : Nat) (v_t_modCount : Int32) (v_t_size : Int32) (o : Int32) (h : f_Jx4a65c_size_8abf5 N v_t_size = some o) : Met l yJx4a65c_size_8abf5 wsJx4a65c_size_8abf5 ({ frames := 0, cells := 0, slots := 0, locals := 0 } : Room) (zr_Pc D T [.ref q_t] [(q_t, .inr (4, [.int v_t_modCount, .ref q_t_elementData, .int v_t_size]))] sz) (zk_Qi o D [(q_t, .inr (4, [.int v_t_modCount, .ref q_t_elementData, .int v_t_size]))] (va_A [(q_t, .inr (4, [.int v_t_modCount, .ref q_t_elementData, .int v_t_size]))] sz) (va_A [(q_t, .inr (4, [.int v_t_modCount, .ref q_t_elementData, .int v_t_size]))] sz)) 0 0 (va_A [(q_t, .inr (4, [.int v_t_modCount, .ref q_t_elementData, .int v_t_size]))] sz) := by
  refine Met.ofW (cc := cJx4a65c_size_8abf5) (maxL := 1) (ret := (some .int)) (by decide) rfl ?_
  intro p e s m args below meth c s₁ B hml hv
  obtain ⟨rfl, hsz, hP, hK, hN, hD0⟩ := hv
  have hx := B.exec
  have hb := B.bytes
  have hr := B.returns
  have hts := atoms_spec (ws := wsJx4a65c_size_8abf5) B.pre
  have hown : s.vm.findClass RJx4a65c = some m.cls := findClass_of_methodNamed B.named
  have hlocks := B.notSynchronized
  subst hsz
  have hD := hD0.self (sz := s.heap.size)
  generalize hAe : va_A [(q_t, .inr (4, [.int v_t_modCount, .ref q_t_elementData, .int v_t_size]))] s.heap.size = A at hD ⊢
  have hA : ∀ q : Nat, s.heap.size ≤ q → A q := fun q h => by rw [← hAe]; exact Or.inr h
  have hS : va_S A s.heap s.heap [] := va_S.rf
  have hP : va_P D vwCl [(q_t, .inr (4, [.int v_t_modCount, .ref q_t_elementData, .int v_t_size]))] s.heap := hP
  have hl := lv_entry ([.ref q_t]) (n := 1) (Nat.le_of_ble_eq_true rfl)
  rw [lg_entry_eq]
  generalize (lg_sl ([.ref q_t]) ++ List.replicate (1 - (lg_sl ([.ref q_t])).length) Slot.unset).toArray = ls at hl ⊢
  have hl : lv_has ls 1 [(0, .ref q_t)] := hl
  unfold f_Jx4a65c_size_8abf5 at h
  refine lv_aload_n hx hb dJx4a65c_size_8abf5_0 rfl (lv_at hl 0 rfl) ?_
  refine va_get (D := D) (ci := 4) (v := .int v_t_size) (C := RJx4a65c) (T := TJx4a65c) (N := 3) hx hb hts iJx4a65c_size_8abf5_Jx4a65c hown hK hP 0 rfl rfl 2 (by decide) (hts (.fieldLink RJx4a65c 48 "java/util/ArrayList" "size" "I") (by decide +kernel)) (fun _ h9 => h9) rfl dJx4a65c_size_8abf5_1 ?_
  obtain rfl := Option.some.inj h
  exact W.iret (v := v_t_size) hx hb hr (fun t ht hW => ⟨⟨_, (), rfl, rfl, ⟨by rw [ht]; exact hP, hD⟩⟩, hS.F ht⟩) hS.2.2 dJx4a65c_size_8abf5_4
theorem iJx4a65c_isEmpty_aae02_Jx4a65c : ∀ w ∈ wsJx4a65c0, w ∈ wsJx4a65c_isEmpty_aae02 := by decide +kernel
def f_Jx4a65c_isEmpty_aae02 (N : Nat) (v_t_size : Int32) : Option (Int32) := if v_t_size = 0 then (some (1 : Int32)) else (some (0 : Int32))
set_option maxHeartbeats 8000000 in
set_option maxRecDepth 100000 in
theorem k_Jx4a65c_isEmpty_aae02 (l : Launch) (D : va_G) (T : Nat → ClassId) (N : Nat) (q_t q_t_elementData : Nat) (sz : Nat) (v_t_modCount : Int32) (v_t_size : Int32) (o : Int32) (h : f_Jx4a65c_isEmpty_aae02 N v_t_size = some o) : Met l yJx4a65c_isEmpty_aae02 wsJx4a65c_isEmpty_aae02 ({ frames := 0, cells := 0, slots := 0, locals := 0 } : Room) (zr_Pc D T [.ref q_t] [(q_t, .inr (4, [.int v_t_modCount, .ref q_t_elementData, .int v_t_size]))] sz) (zk_Qi o D [(q_t, .inr (4, [.int v_t_modCount, .ref q_t_elementData, .int v_t_size]))] (va_A [(q_t, .inr (4, [.int v_t_modCount, .ref q_t_elementData, .int v_t_size]))] sz) (va_A [(q_t, .inr (4, [.int v_t_modCount, .ref q_t_elementData, .int v_t_size]))] sz)) 0 0 (va_A [(q_t, .inr (4, [.int v_t_modCount, .ref q_t_elementData, .int v_t_size]))] sz) := by
  refine Met.ofW (cc := cJx4a65c_isEmpty_aae02) (maxL := 1) (ret := (some .boolean)) (by decide) rfl ?_
  intro p e s m args below meth c s₁ B hml hv
  obtain ⟨rfl, hsz, hP, hK, hN, hD0⟩ := hv
  have hx := B.exec
  have hb := B.bytes
  have hr := B.returns
  have hts := atoms_spec (ws := wsJx4a65c_isEmpty_aae02) B.pre
  have hown : s.vm.findClass RJx4a65c = some m.cls := findClass_of_methodNamed B.named
  have hlocks := B.notSynchronized
  subst hsz
  have hD := hD0.self (sz := s.heap.size)
  generalize hAe : va_A [(q_t, .inr (4, [.int v_t_modCount, .ref q_t_elementData, .int v_t_size]))] s.heap.size = A at hD ⊢
  have hA : ∀ q : Nat, s.heap.size ≤ q → A q := fun q h => by rw [← hAe]; exact Or.inr h
  have hS : va_S A s.heap s.heap [] := va_S.rf
  have hP : va_P D vwCl [(q_t, .inr (4, [.int v_t_modCount, .ref q_t_elementData, .int v_t_size]))] s.heap := hP
  have hl := lv_entry ([.ref q_t]) (n := 1) (Nat.le_of_ble_eq_true rfl)
  rw [lg_entry_eq]
  generalize (lg_sl ([.ref q_t]) ++ List.replicate (1 - (lg_sl ([.ref q_t])).length) Slot.unset).toArray = ls at hl ⊢
  have hl : lv_has ls 1 [(0, .ref q_t)] := hl
  unfold f_Jx4a65c_isEmpty_aae02 at h
  refine lv_aload_n hx hb dJx4a65c_isEmpty_aae02_0 rfl (lv_at hl 0 rfl) ?_
  refine va_get (D := D) (ci := 4) (v := .int v_t_size) (C := RJx4a65c) (T := TJx4a65c) (N := 3) hx hb hts iJx4a65c_isEmpty_aae02_Jx4a65c hown hK hP 0 rfl rfl 2 (by decide) (hts (.fieldLink RJx4a65c 48 "java/util/ArrayList" "size" "I") (by decide +kernel)) (fun _ h9 => h9) rfl dJx4a65c_isEmpty_aae02_1 ?_
  refine lv_if_ne (tgt := 11) hx hb dJx4a65c_isEmpty_aae02_4 (by decide) (fun c4 => ?_) (fun c4 => ?_)
  · replace h := (if_neg c4).symm.trans h
    refine lv_iconst (v := (0 : Int32)) hx hb dJx4a65c_isEmpty_aae02_11 (by decide) ?_
    obtain rfl := Option.some.inj h
    exact W.zret (v := (0 : Int32)) hx hb hr rfl (fun t ht hW => ⟨⟨_, (), rfl, rfl, ⟨by rw [ht]; exact hP, hD⟩⟩, hS.F ht⟩) hS.2.2 dJx4a65c_isEmpty_aae02_12
  · replace h := (if_pos c4).symm.trans h
    refine lv_iconst (v := (1 : Int32)) hx hb dJx4a65c_isEmpty_aae02_7 (by decide) ?_
    refine lv_goto (tgt := 12) hx hb dJx4a65c_isEmpty_aae02_8 (by decide) ?_
    obtain rfl := Option.some.inj h
    exact W.zret (v := (1 : Int32)) hx hb hr rfl (fun t ht hW => ⟨⟨_, (), rfl, rfl, ⟨by rw [ht]; exact hP, hD⟩⟩, hS.F ht⟩) hS.2.2 dJx4a65c_isEmpty_aae02_12
theorem iJx4a65c_elementData_915e3_Jx4a65c : ∀ w ∈ wsJx4a65c0, w ∈ wsJx4a65c_elementData_915e3 := by decide +kernel
def f_Jx4a65c_elementData_915e3 (N : Nat) (n_t_elementData : Nat) (v_t_elementData : Nat → Option Nat) (x1 : Int32) : Option (Nat) := zk_g x1 n_t_elementData ((v_t_elementData x1.toNatClampNeg).bind fun a5 => some a5)
set_option maxHeartbeats 8000000 in
set_option maxRecDepth 100000 in
theorem k_Jx4a65c_elementData_915e3 (l : Launch) (D : va_G) (T : Nat → ClassId) (N : Nat) (q_t q_t_elementData : Nat) (sz : Nat) (v_t_modCount : Int32) (v_t_size : Int32) (n_t_elementData : Nat) (v_t_elementData : Nat → Option Nat) (x1 : Int32) (o : Nat) (h : f_Jx4a65c_elementData_915e3 N n_t_elementData v_t_elementData x1 = some o) : Met l yJx4a65c_elementData_915e3 wsJx4a65c_elementData_915e3 ({ frames := 0, cells := 0, slots := 0, locals := 0 } : Room) (zr_Pc D T [.ref q_t, .int x1] [(q_t, .inr (4, [.int v_t_modCount, .ref q_t_elementData, .int v_t_size])), (q_t_elementData, .inl (T 7, n_t_elementData, .inr (.inr (.inr (.inr v_t_elementData)))))] sz) (zk_Qr o D [(q_t, .inr (4, [.int v_t_modCount, .ref q_t_elementData, .int v_t_size])), (q_t_elementData, .inl (T 7, n_t_elementData, .inr (.inr (.inr (.inr v_t_elementData)))))] (va_A [(q_t, .inr (4, [.int v_t_modCount, .ref q_t_elementData, .int v_t_size])), (q_t_elementData, .inl (T 7, n_t_elementData, .inr (.inr (.inr (.inr v_t_elementData)))))] sz) (va_A [(q_t, .inr (4, [.int v_t_modCount, .ref q_t_elementData, .int v_t_size])), (q_t_elementData, .inl (T 7, n_t_elementData, .inr (.inr (.inr (.inr v_t_elementData)))))] sz)) 0 0 (va_A [(q_t, .inr (4, [.int v_t_modCount, .ref q_t_elementData, .int v_t_size])), (q_t_elementData, .inl (T 7, n_t_elementData, .inr (.inr (.inr (.inr v_t_elementData)))))] sz) := by
  refine Met.ofW (cc := cJx4a65c_elementData_915e3) (maxL := 2) (ret := (some (.object "java/lang/Object"))) (by decide) rfl ?_
  intro p e s m args below meth c s₁ B hml hv
  obtain ⟨rfl, hsz, hP, hK, hN, hD0⟩ := hv
  have hx := B.exec
  have hb := B.bytes
  have hr := B.returns
  have hts := atoms_spec (ws := wsJx4a65c_elementData_915e3) B.pre
  have hown : s.vm.findClass RJx4a65c = some m.cls := findClass_of_methodNamed B.named
  have hlocks := B.notSynchronized
  subst hsz
  have hD := hD0.self (sz := s.heap.size)
  generalize hAe : va_A [(q_t, .inr (4, [.int v_t_modCount, .ref q_t_elementData, .int v_t_size])), (q_t_elementData, .inl (T 7, n_t_elementData, .inr (.inr (.inr (.inr v_t_elementData)))))] s.heap.size = A at hD ⊢
  have hA : ∀ q : Nat, s.heap.size ≤ q → A q := fun q h => by rw [← hAe]; exact Or.inr h
  have hS : va_S A s.heap s.heap [] := va_S.rf
  have hP : va_P D vwCl [(q_t, .inr (4, [.int v_t_modCount, .ref q_t_elementData, .int v_t_size])), (q_t_elementData, .inl (T 7, n_t_elementData, .inr (.inr (.inr (.inr v_t_elementData)))))] s.heap := hP
  have hl := lv_entry ([.ref q_t, .int x1]) (n := 2) (Nat.le_of_ble_eq_true rfl)
  rw [lg_entry_eq]
  generalize (lg_sl ([.ref q_t, .int x1]) ++ List.replicate (2 - (lg_sl ([.ref q_t, .int x1])).length) Slot.unset).toArray = ls at hl ⊢
  have hl : lv_has ls 2 [(0, .ref q_t), (1, .int x1)] := hl
  unfold f_Jx4a65c_elementData_915e3 at h
  refine lv_aload_n hx hb dJx4a65c_elementData_915e3_0 rfl (lv_at hl 0 rfl) ?_
  refine va_get (D := D) (ci := 4) (v := .ref q_t_elementData) (C := RJx4a65c) (T := TJx4a65c) (N := 3) hx hb hts iJx4a65c_elementData_915e3_Jx4a65c hown hK hP 0 rfl rfl 1 (by decide) (hts (.fieldLink RJx4a65c 9 "java/util/ArrayList" "elementData" "[Ljava/lang/Object;") (by decide +kernel)) (fun _ h9 => h9) rfl dJx4a65c_elementData_915e3_1 ?_
  refine lv_iload_n hx hb dJx4a65c_elementData_915e3_4 rfl (lv_at hl 1 rfl) ?_
  obtain ⟨hb5, h⟩ := zk_g_spec h
  obtain ⟨a5, ha5, h⟩ := zk_bind h
  refine zl_aald hx hb hK hP 1 7 rfl rfl hb5 ha5 dJx4a65c_elementData_915e3_5 ?_
  obtain rfl := Option.some.inj h
  exact W.aret (v := .ref a5) hx hb hr (Or.inl ⟨_, rfl⟩) (Or.inr ⟨_, rfl⟩) (fun t ht hW => ⟨⟨(), _, rfl, trivial, ⟨rfl, by rw [ht]; exact hP, hD⟩⟩, hS.F ht⟩) hS.2.2 dJx4a65c_elementData_915e3_6
theorem iJx4a65c_get_915e3_Jx4a65c : ∀ w ∈ wsJx4a65c0, w ∈ wsJx4a65c_get_915e3 := by decide +kernel
def f_Jx4a65c_get_915e3 (N : Nat) (v_t_size : Int32) (n_t_elementData : Nat) (v_t_elementData : Nat → Option Nat) (x1 : Int32) : Option (Nat) := (f_J15_checkIndex_7cf53 N x1 v_t_size).bind fun o5 => (f_Jx4a65c_elementData_915e3 N n_t_elementData v_t_elementData x1).bind fun o11 => some o11
set_option maxHeartbeats 8000000 in
set_option maxRecDepth 100000 in
theorem k_Jx4a65c_get_915e3 (l : Launch) (D : va_G) (T : Nat → ClassId) (N : Nat) (q_t q_t_elementData : Nat) (sz : Nat) (v_t_modCount : Int32) (v_t_size : Int32) (n_t_elementData : Nat) (v_t_elementData : Nat → Option Nat) (x1 : Int32) (o : Nat) (h : f_Jx4a65c_get_915e3 N v_t_size n_t_elementData v_t_elementData x1 = some o) : Met l yJx4a65c_get_915e3 wsJx4a65c_get_915e3 ({ frames := 2, cells := 0, slots := 0, locals := 43 } : Room) (zr_Pc D T [.ref q_t, .int x1] [(q_t, .inr (4, [.int v_t_modCount, .ref q_t_elementData, .int v_t_size])), (q_t_elementData, .inl (T 7, n_t_elementData, .inr (.inr (.inr (.inr v_t_elementData)))))] sz) (zk_Qr o D [(q_t, .inr (4, [.int v_t_modCount, .ref q_t_elementData, .int v_t_size])), (q_t_elementData, .inl (T 7, n_t_elementData, .inr (.inr (.inr (.inr v_t_elementData)))))] (va_A [(q_t, .inr (4, [.int v_t_modCount, .ref q_t_elementData, .int v_t_size])), (q_t_elementData, .inl (T 7, n_t_elementData, .inr (.inr (.inr (.inr v_t_elementData)))))] sz) (va_A [(q_t, .inr (4, [.int v_t_modCount, .ref q_t_elementData, .int v_t_size])), (q_t_elementData, .inl (T 7, n_t_elementData, .inr (.inr (.inr (.inr v_t_elementData)))))] sz)) 0 0 (va_A [(q_t, .inr (4, [.int v_t_modCount, .ref q_t_elementData, .int v_t_size])), (q_t_elementData, .inl (T 7, n_t_elementData, .inr (.inr (.inr (.inr v_t_elementData)))))] sz) := by
  refine Met.ofW (cc := cJx4a65c_get_915e3) (maxL := 2) (ret := (some (.object "java/lang/Object"))) (by decide) rfl ?_
  intro p e s m args below meth c s₁ B hml hv
  obtain ⟨rfl, hsz, hP, hK, hN, hD0⟩ := hv
  have hx := B.exec
  have hb := B.bytes
  have hr := B.returns
  have hts := atoms_spec (ws := wsJx4a65c_get_915e3) B.pre
  have hown : s.vm.findClass RJx4a65c = some m.cls := findClass_of_methodNamed B.named
  have hlocks := B.notSynchronized
  subst hsz
  have hD := hD0.self (sz := s.heap.size)
  generalize hAe : va_A [(q_t, .inr (4, [.int v_t_modCount, .ref q_t_elementData, .int v_t_size])), (q_t_elementData, .inl (T 7, n_t_elementData, .inr (.inr (.inr (.inr v_t_elementData)))))] s.heap.size = A at hD ⊢
  have hA : ∀ q : Nat, s.heap.size ≤ q → A q := fun q h => by rw [← hAe]; exact Or.inr h
  have hS : va_S A s.heap s.heap [] := va_S.rf
  have hP : va_P D vwCl [(q_t, .inr (4, [.int v_t_modCount, .ref q_t_elementData, .int v_t_size])), (q_t_elementData, .inl (T 7, n_t_elementData, .inr (.inr (.inr (.inr v_t_elementData)))))] s.heap := hP
  have hl := lv_entry ([.ref q_t, .int x1]) (n := 2) (Nat.le_of_ble_eq_true rfl)
  rw [lg_entry_eq]
  generalize (lg_sl ([.ref q_t, .int x1]) ++ List.replicate (2 - (lg_sl ([.ref q_t, .int x1])).length) Slot.unset).toArray = ls at hl ⊢
  have hl : lv_has ls 2 [(0, .ref q_t), (1, .int x1)] := hl
  unfold f_Jx4a65c_get_915e3 at h
  refine lv_iload_n hx hb dJx4a65c_get_915e3_0 rfl (lv_at hl 1 rfl) ?_
  refine lv_aload_n hx hb dJx4a65c_get_915e3_1 rfl (lv_at hl 0 rfl) ?_
  refine va_get (D := D) (ci := 4) (v := .int v_t_size) (C := RJx4a65c) (T := TJx4a65c) (N := 3) hx hb hts iJx4a65c_get_915e3_Jx4a65c hown hK hP 0 rfl rfl 2 (by decide) (hts (.fieldLink RJx4a65c 48 "java/util/ArrayList" "size" "I") (by decide +kernel)) (fun _ h9 => h9) rfl dJx4a65c_get_915e3_2 ?_
  obtain ⟨o5, hc5, h⟩ := zk_bind h
  refine zk_ci (wr := [(q_t, .inr (4, [.int v_t_modCount, .ref q_t_elementData, .int v_t_size])), (q_t_elementData, .inl (T 7, n_t_elementData, .inr (.inr (.inr (.inr v_t_elementData)))))]) (va_runS (As := [.int x1, .int v_t_size]) (rest := []) ⟨hx, hb, hml, hown, hts⟩ (k_J15_checkIndex_7cf53 l D T N  _  x1 v_t_size o5 hc5) (va_cwS 2 hts gJx4a65c_get_915e3_J15_checkIndex_7cf53 rfl rfl rfl (by decide +kernel) ⟨Nat.le_of_ble_eq_true rfl, Nat.le_of_ble_eq_true rfl⟩) (zr_preS hK hN (hP.sub [] rfl) (hD.sub [] (by decide) rfl)) rfl rfl hl.1 rfl (lv_room (Nat.le_of_ble_eq_true rfl)) dJx4a65c_get_915e3_5 ⟨Nat.zero_le _, Nat.zero_le _⟩) hP hD hS hA [] [0, 1] rfl rfl (by decide) (by decide) [0, 1] (wf := [(q_t, .inr (4, [.int v_t_modCount, .ref q_t_elementData, .int v_t_size])), (q_t_elementData, .inl (T 7, n_t_elementData, .inr (.inr (.inr (.inr v_t_elementData)))))]) rfl (by decide) (fun H locs hP hD hS => ?_)
  refine lv_pop hx hb dJx4a65c_get_915e3_8 rfl ?_
  refine lv_aload_n hx hb dJx4a65c_get_915e3_9 rfl (lv_at hl 0 rfl) ?_
  refine lv_iload_n hx hb dJx4a65c_get_915e3_10 rfl (lv_at hl 1 rfl) ?_
  obtain ⟨o11, hc11, h⟩ := zk_bind h
  refine zk_cr (wr := []) (va_runV (As := [.int x1]) (rest := []) ⟨hx, hb, hml, hown, hts⟩ (k_Jx4a65c_elementData_915e3 l D T N q_t q_t_elementData _ v_t_modCount v_t_size n_t_elementData v_t_elementData x1 o11 hc11) (cwV 1 hts gJx4a65c_get_915e3_Jx4a65c_elementData_915e3 rfl rfl rfl (by decide +kernel) ⟨Nat.le_of_ble_eq_true rfl, Nat.le_of_ble_eq_true rfl⟩) (zr_preV (q := (RJx4a65c, TJx4a65c, 3)) hK hN (hP.sub [0, 1] rfl) (hD.sub [0, 1] (by decide) rfl) 0 rfl rfl) rfl rfl hl.1 rfl (lv_room (Nat.le_of_ble_eq_true rfl)) dJx4a65c_get_915e3_11 ⟨Nat.zero_le _, Nat.zero_le _⟩) hP hD hS hA [0, 1] [] rfl rfl (by decide) (by decide) [0, 1] (wf := [(q_t, .inr (4, [.int v_t_modCount, .ref q_t_elementData, .int v_t_size])), (q_t_elementData, .inl (T 7, n_t_elementData, .inr (.inr (.inr (.inr v_t_elementData)))))]) rfl (by decide) (fun H locs hP hD hS => ?_)
  obtain rfl := Option.some.inj h
  exact W.aret (v := .ref o11) hx hb hr (Or.inl ⟨_, rfl⟩) (Or.inr ⟨_, rfl⟩) (fun t ht hW => ⟨⟨(), _, rfl, trivial, ⟨rfl, by rw [ht]; exact hP, hD⟩⟩, hS.F ht⟩) hS.2.2 dJx4a65c_get_915e3_14
theorem iJx35411_hasNext_aae02_Jx35411 : ∀ w ∈ wsJx354110, w ∈ wsJx35411_hasNext_aae02 := by decide +kernel
theorem iJx35411_hasNext_aae02_Jx4a65c : ∀ w ∈ wsJx4a65c0, w ∈ wsJx35411_hasNext_aae02 := by decide +kernel
def f_Jx35411_hasNext_aae02 (N : Nat) (v_t_cursor : Int32) (v_t_this0_size : Int32) : Option (Int32) := if v_t_cursor = v_t_this0_size then (some (0 : Int32)) else (some (1 : Int32))
set_option maxHeartbeats 8000000 in
set_option maxRecDepth 100000 in
theorem k_Jx35411_hasNext_aae02 (l : Launch) (D : va_G) (T : Nat → ClassId) (N : Nat) (q_t q_t_this0 q_t_this0_elementData : Nat) (sz : Nat) (v_t_cursor : Int32) (v_t_lastRet : Int32) (v_t_expectedModCount : Int32) (v_t_this0_modCount : Int32) (v_t_this0_size : Int32) (o : Int32) (h : f_Jx35411_hasNext_aae02 N v_t_cursor v_t_this0_size = some o) : Met l yJx35411_hasNext_aae02 wsJx35411_hasNext_aae02 ({ frames := 0, cells := 0, slots := 0, locals := 0 } : Room) (zr_Pc D T [.ref q_t] [(q_t, .inr (3, [.int v_t_cursor, .int v_t_lastRet, .int v_t_expectedModCount, .ref q_t_this0])), (q_t_this0, .inr (4, [.int v_t_this0_modCount, .ref q_t_this0_elementData, .int v_t_this0_size]))] sz) (zk_Qi o D [(q_t, .inr (3, [.int v_t_cursor, .int v_t_lastRet, .int v_t_expectedModCount, .ref q_t_this0])), (q_t_this0, .inr (4, [.int v_t_this0_modCount, .ref q_t_this0_elementData, .int v_t_this0_size]))] (va_A [(q_t, .inr (3, [.int v_t_cursor, .int v_t_lastRet, .int v_t_expectedModCount, .ref q_t_this0])), (q_t_this0, .inr (4, [.int v_t_this0_modCount, .ref q_t_this0_elementData, .int v_t_this0_size]))] sz) (va_A [(q_t, .inr (3, [.int v_t_cursor, .int v_t_lastRet, .int v_t_expectedModCount, .ref q_t_this0])), (q_t_this0, .inr (4, [.int v_t_this0_modCount, .ref q_t_this0_elementData, .int v_t_this0_size]))] sz)) 0 0 (va_A [(q_t, .inr (3, [.int v_t_cursor, .int v_t_lastRet, .int v_t_expectedModCount, .ref q_t_this0])), (q_t_this0, .inr (4, [.int v_t_this0_modCount, .ref q_t_this0_elementData, .int v_t_this0_size]))] sz) := by
  refine Met.ofW (cc := cJx35411_hasNext_aae02) (maxL := 1) (ret := (some .boolean)) (by decide) rfl ?_
  intro p e s m args below meth c s₁ B hml hv
  obtain ⟨rfl, hsz, hP, hK, hN, hD0⟩ := hv
  have hx := B.exec
  have hb := B.bytes
  have hr := B.returns
  have hts := atoms_spec (ws := wsJx35411_hasNext_aae02) B.pre
  have hown : s.vm.findClass RJx35411 = some m.cls := findClass_of_methodNamed B.named
  have hlocks := B.notSynchronized
  subst hsz
  have hD := hD0.self (sz := s.heap.size)
  generalize hAe : va_A [(q_t, .inr (3, [.int v_t_cursor, .int v_t_lastRet, .int v_t_expectedModCount, .ref q_t_this0])), (q_t_this0, .inr (4, [.int v_t_this0_modCount, .ref q_t_this0_elementData, .int v_t_this0_size]))] s.heap.size = A at hD ⊢
  have hA : ∀ q : Nat, s.heap.size ≤ q → A q := fun q h => by rw [← hAe]; exact Or.inr h
  have hS : va_S A s.heap s.heap [] := va_S.rf
  have hP : va_P D vwCl [(q_t, .inr (3, [.int v_t_cursor, .int v_t_lastRet, .int v_t_expectedModCount, .ref q_t_this0])), (q_t_this0, .inr (4, [.int v_t_this0_modCount, .ref q_t_this0_elementData, .int v_t_this0_size]))] s.heap := hP
  have hl := lv_entry ([.ref q_t]) (n := 1) (Nat.le_of_ble_eq_true rfl)
  rw [lg_entry_eq]
  generalize (lg_sl ([.ref q_t]) ++ List.replicate (1 - (lg_sl ([.ref q_t])).length) Slot.unset).toArray = ls at hl ⊢
  have hl : lv_has ls 1 [(0, .ref q_t)] := hl
  unfold f_Jx35411_hasNext_aae02 at h
  refine lv_aload_n hx hb dJx35411_hasNext_aae02_0 rfl (lv_at hl 0 rfl) ?_
  refine va_get (D := D) (ci := 3) (v := .int v_t_cursor) (C := RJx35411) (T := TJx35411) (N := 4) hx hb hts iJx35411_hasNext_aae02_Jx35411 hown hK hP 0 rfl rfl 0 (by decide) (hts (.fieldLink RJx35411 25 "java/util/ArrayList$Itr" "cursor" "I") (by decide +kernel)) (fun _ h9 => h9) rfl dJx35411_hasNext_aae02_1 ?_
  refine lv_aload_n hx hb dJx35411_hasNext_aae02_4 rfl (lv_at hl 0 rfl) ?_
  refine va_get (D := D) (ci := 3) (v := .ref q_t_this0) (C := RJx35411) (T := TJx35411) (N := 4) hx hb hts iJx35411_hasNext_aae02_Jx35411 hown hK hP 0 rfl rfl 3 (by decide) (hts (.fieldLink RJx35411 1 "java/util/ArrayList$Itr" "this$0" "Ljava/util/ArrayList;") (by decide +kernel)) (fun _ h9 => h9) rfl dJx35411_hasNext_aae02_5 ?_
  refine va_getN (D := D) (ci := 4) (v := .int v_t_this0_size) (C := RJx4a65c) (T := TJx4a65c) (N := 3) hx hb hts iJx35411_hasNext_aae02_Jx4a65c hown hK hP 1 rfl rfl 2 (by decide) (zk_f hN.1 (own := RJx35411) (index := 28) (ref := "java/util/ArrayList") (n := "size") (d := "I") (host := "java/util/ArrayList") (by decide +kernel)) (fun _ h9 => h9) rfl dJx35411_hasNext_aae02_8 ?_
  refine lv_icmp_eq (tgt := 18) hx hb dJx35411_hasNext_aae02_11 (by decide) (fun c11 => ?_) (fun c11 => ?_)
  · replace h := (if_pos c11).symm.trans h
    refine lv_iconst (v := (0 : Int32)) hx hb dJx35411_hasNext_aae02_18 (by decide) ?_
    obtain rfl := Option.some.inj h
    exact W.zret (v := (0 : Int32)) hx hb hr rfl (fun t ht hW => ⟨⟨_, (), rfl, rfl, ⟨by rw [ht]; exact hP, hD⟩⟩, hS.F ht⟩) hS.2.2 dJx35411_hasNext_aae02_19
  · replace h := (if_neg c11).symm.trans h
    refine lv_iconst (v := (1 : Int32)) hx hb dJx35411_hasNext_aae02_14 (by decide) ?_
    refine lv_goto (tgt := 19) hx hb dJx35411_hasNext_aae02_15 (by decide) ?_
    obtain rfl := Option.some.inj h
    exact W.zret (v := (1 : Int32)) hx hb hr rfl (fun t ht hW => ⟨⟨_, (), rfl, rfl, ⟨by rw [ht]; exact hP, hD⟩⟩, hS.F ht⟩) hS.2.2 dJx35411_hasNext_aae02_19
theorem iJx35411_checkForComodification_da8c8_Jx35411 : ∀ w ∈ wsJx354110, w ∈ wsJx35411_checkForComodification_da8c8 := by decide +kernel
theorem iJx35411_checkForComodification_da8c8_Jx4a65c : ∀ w ∈ wsJx4a65c0, w ∈ wsJx35411_checkForComodification_da8c8 := by decide +kernel
def f_Jx35411_checkForComodification_da8c8 (N : Nat) (v_t_expectedModCount : Int32) (v_t_this0_modCount : Int32) : Option (Unit) := if v_t_this0_modCount = v_t_expectedModCount then (some ()) else (none)
set_option maxHeartbeats 8000000 in
set_option maxRecDepth 100000 in
theorem k_Jx35411_checkForComodification_da8c8 (l : Launch) (D : va_G) (T : Nat → ClassId) (N : Nat) (q_t q_t_this0 q_t_this0_elementData : Nat) (sz : Nat) (v_t_cursor : Int32) (v_t_lastRet : Int32) (v_t_expectedModCount : Int32) (v_t_this0_modCount : Int32) (v_t_this0_size : Int32) (o : Unit) (h : f_Jx35411_checkForComodification_da8c8 N v_t_expectedModCount v_t_this0_modCount = some o) : Met l yJx35411_checkForComodification_da8c8 wsJx35411_checkForComodification_da8c8 ({ frames := 0, cells := 0, slots := 0, locals := 0 } : Room) (zr_Pc D T [.ref q_t] [(q_t, .inr (3, [.int v_t_cursor, .int v_t_lastRet, .int v_t_expectedModCount, .ref q_t_this0])), (q_t_this0, .inr (4, [.int v_t_this0_modCount, .ref q_t_this0_elementData, .int v_t_this0_size]))] sz) (zk_Qv D [(q_t, .inr (3, [.int v_t_cursor, .int v_t_lastRet, .int v_t_expectedModCount, .ref q_t_this0])), (q_t_this0, .inr (4, [.int v_t_this0_modCount, .ref q_t_this0_elementData, .int v_t_this0_size]))] (va_A [(q_t, .inr (3, [.int v_t_cursor, .int v_t_lastRet, .int v_t_expectedModCount, .ref q_t_this0])), (q_t_this0, .inr (4, [.int v_t_this0_modCount, .ref q_t_this0_elementData, .int v_t_this0_size]))] sz) (va_A [(q_t, .inr (3, [.int v_t_cursor, .int v_t_lastRet, .int v_t_expectedModCount, .ref q_t_this0])), (q_t_this0, .inr (4, [.int v_t_this0_modCount, .ref q_t_this0_elementData, .int v_t_this0_size]))] sz)) 0 0 (va_A [(q_t, .inr (3, [.int v_t_cursor, .int v_t_lastRet, .int v_t_expectedModCount, .ref q_t_this0])), (q_t_this0, .inr (4, [.int v_t_this0_modCount, .ref q_t_this0_elementData, .int v_t_this0_size]))] sz) := by
  refine Met.ofW (cc := cJx35411_checkForComodification_da8c8) (maxL := 1) (ret := none) (by decide) rfl ?_
  intro p e s m args below meth c s₁ B hml hv
  obtain ⟨rfl, hsz, hP, hK, hN, hD0⟩ := hv
  have hx := B.exec
  have hb := B.bytes
  have hr := B.returns
  have hts := atoms_spec (ws := wsJx35411_checkForComodification_da8c8) B.pre
  have hown : s.vm.findClass RJx35411 = some m.cls := findClass_of_methodNamed B.named
  have hlocks := B.notSynchronized
  subst hsz
  have hD := hD0.self (sz := s.heap.size)
  generalize hAe : va_A [(q_t, .inr (3, [.int v_t_cursor, .int v_t_lastRet, .int v_t_expectedModCount, .ref q_t_this0])), (q_t_this0, .inr (4, [.int v_t_this0_modCount, .ref q_t_this0_elementData, .int v_t_this0_size]))] s.heap.size = A at hD ⊢
  have hA : ∀ q : Nat, s.heap.size ≤ q → A q := fun q h => by rw [← hAe]; exact Or.inr h
  have hS : va_S A s.heap s.heap [] := va_S.rf
  have hP : va_P D vwCl [(q_t, .inr (3, [.int v_t_cursor, .int v_t_lastRet, .int v_t_expectedModCount, .ref q_t_this0])), (q_t_this0, .inr (4, [.int v_t_this0_modCount, .ref q_t_this0_elementData, .int v_t_this0_size]))] s.heap := hP
  have hl := lv_entry ([.ref q_t]) (n := 1) (Nat.le_of_ble_eq_true rfl)
  rw [lg_entry_eq]
  generalize (lg_sl ([.ref q_t]) ++ List.replicate (1 - (lg_sl ([.ref q_t])).length) Slot.unset).toArray = ls at hl ⊢
  have hl : lv_has ls 1 [(0, .ref q_t)] := hl
  unfold f_Jx35411_checkForComodification_da8c8 at h
  refine lv_aload_n hx hb dJx35411_checkForComodification_da8c8_0 rfl (lv_at hl 0 rfl) ?_
  refine va_get (D := D) (ci := 3) (v := .ref q_t_this0) (C := RJx35411) (T := TJx35411) (N := 4) hx hb hts iJx35411_checkForComodification_da8c8_Jx35411 hown hK hP 0 rfl rfl 3 (by decide) (hts (.fieldLink RJx35411 1 "java/util/ArrayList$Itr" "this$0" "Ljava/util/ArrayList;") (by decide +kernel)) (fun _ h9 => h9) rfl dJx35411_checkForComodification_da8c8_1 ?_
  refine va_get (D := D) (ci := 4) (v := .int v_t_this0_modCount) (C := RJx4a65c) (T := TJx4a65c) (N := 3) hx hb hts iJx35411_checkForComodification_da8c8_Jx4a65c hown hK hP 1 rfl rfl 0 (by decide) (hts (.fieldLink RJx35411 17 "java/util/ArrayList" "modCount" "I") (by decide +kernel)) (fun x h9 => u_same (hts (.sameField "java/util/ArrayList" "java/util/AbstractList" "modCount" "I") (by decide +kernel)) x h9) rfl dJx35411_checkForComodification_da8c8_4 ?_
  refine lv_aload_n hx hb dJx35411_checkForComodification_da8c8_7 rfl (lv_at hl 0 rfl) ?_
  refine va_get (D := D) (ci := 3) (v := .int v_t_expectedModCount) (C := RJx35411) (T := TJx35411) (N := 4) hx hb hts iJx35411_checkForComodification_da8c8_Jx35411 hown hK hP 0 rfl rfl 2 (by decide) (hts (.fieldLink RJx35411 22 "java/util/ArrayList$Itr" "expectedModCount" "I") (by decide +kernel)) (fun _ h9 => h9) rfl dJx35411_checkForComodification_da8c8_8 ?_
  refine lv_icmp_eq (tgt := 22) hx hb dJx35411_checkForComodification_da8c8_11 (by decide) (fun c11 => ?_) (fun c11 => ?_)
  · replace h := (if_pos c11).symm.trans h
    obtain rfl := Option.some.inj h
    exact W.vret hx hb hr (fun t ht hW => ⟨⟨(), rfl, trivial, ⟨by rw [ht]; exact hP, hD⟩⟩, hS.F ht⟩) hS.2.2 dJx35411_checkForComodification_da8c8_22
  · replace h := (if_neg c11).symm.trans h
    exact absurd h (by simp)
theorem iJx35411_next_0502b_Jx35411 : ∀ w ∈ wsJx354110, w ∈ wsJx35411_next_0502b := by decide +kernel
theorem iJx35411_next_0502b_Jx4a65c : ∀ w ∈ wsJx4a65c0, w ∈ wsJx35411_next_0502b := by decide +kernel
def f_Jx35411_next_0502b (N : Nat) (v_t_cursor : Int32) (v_t_expectedModCount : Int32) (v_t_this0_modCount : Int32) (v_t_this0_size : Int32) (n_t_this0_elementData : Nat) (v_t_this0_elementData : Nat → Option Nat) : Option (Nat × Int32 × Int32) := (f_Jx35411_checkForComodification_da8c8 N v_t_expectedModCount v_t_this0_modCount).bind fun o1 => if v_t_cursor < v_t_this0_size then (if v_t_cursor < (Int32.ofNat n_t_this0_elementData) then (zk_g v_t_cursor n_t_this0_elementData ((v_t_this0_elementData v_t_cursor.toNatClampNeg).bind fun a64 => some (a64, v_t_cursor + (1 : Int32), v_t_cursor))) else (none)) else (none)
set_option maxHeartbeats 8000000 in
set_option maxRecDepth 100000 in
theorem k_Jx35411_next_0502b (l : Launch) (D : va_G) (T : Nat → ClassId) (N : Nat) (q_t q_t_this0 q_t_this0_elementData : Nat) (sz : Nat) (v_t_cursor : Int32) (v_t_lastRet : Int32) (v_t_expectedModCount : Int32) (v_t_this0_modCount : Int32) (v_t_this0_size : Int32) (n_t_this0_elementData : Nat) (v_t_this0_elementData : Nat → Option Nat) (o : Nat × Int32 × Int32) (h : f_Jx35411_next_0502b N v_t_cursor v_t_expectedModCount v_t_this0_modCount v_t_this0_size n_t_this0_elementData v_t_this0_elementData = some o) : Met l yJx35411_next_0502b wsJx35411_next_0502b ({ frames := 1, cells := 0, slots := 0, locals := 20 } : Room) (zr_Pc D T [.ref q_t] [(q_t, .inr (3, [.int v_t_cursor, .int v_t_lastRet, .int v_t_expectedModCount, .ref q_t_this0])), (q_t_this0, .inr (4, [.int v_t_this0_modCount, .ref q_t_this0_elementData, .int v_t_this0_size])), (q_t_this0_elementData, .inl (T 7, n_t_this0_elementData, .inr (.inr (.inr (.inr v_t_this0_elementData)))))] sz) (zk_Qr o.1 D [(q_t, .inr (3, [.int o.2.1, .int o.2.2, .int v_t_expectedModCount, .ref q_t_this0])), (q_t_this0, .inr (4, [.int v_t_this0_modCount, .ref q_t_this0_elementData, .int v_t_this0_size])), (q_t_this0_elementData, .inl (T 7, n_t_this0_elementData, .inr (.inr (.inr (.inr v_t_this0_elementData)))))] (va_A [(q_t, .inr (3, [.int v_t_cursor, .int v_t_lastRet, .int v_t_expectedModCount, .ref q_t_this0])), (q_t_this0, .inr (4, [.int v_t_this0_modCount, .ref q_t_this0_elementData, .int v_t_this0_size])), (q_t_this0_elementData, .inl (T 7, n_t_this0_elementData, .inr (.inr (.inr (.inr v_t_this0_elementData)))))] sz) (va_A [(q_t, .inr (3, [.int v_t_cursor, .int v_t_lastRet, .int v_t_expectedModCount, .ref q_t_this0])), (q_t_this0, .inr (4, [.int v_t_this0_modCount, .ref q_t_this0_elementData, .int v_t_this0_size])), (q_t_this0_elementData, .inl (T 7, n_t_this0_elementData, .inr (.inr (.inr (.inr v_t_this0_elementData)))))] sz)) 0 0 (va_A [(q_t, .inr (3, [.int v_t_cursor, .int v_t_lastRet, .int v_t_expectedModCount, .ref q_t_this0])), (q_t_this0, .inr (4, [.int v_t_this0_modCount, .ref q_t_this0_elementData, .int v_t_this0_size])), (q_t_this0_elementData, .inl (T 7, n_t_this0_elementData, .inr (.inr (.inr (.inr v_t_this0_elementData)))))] sz) := by
  refine Met.ofW (cc := cJx35411_next_0502b) (maxL := 3) (ret := (some (.object "java/lang/Object"))) (by decide) rfl ?_
  intro p e s m args below meth c s₁ B hml hv
  obtain ⟨rfl, hsz, hP, hK, hN, hD0⟩ := hv
  have hx := B.exec
  have hb := B.bytes
  have hr := B.returns
  have hts := atoms_spec (ws := wsJx35411_next_0502b) B.pre
  have hown : s.vm.findClass RJx35411 = some m.cls := findClass_of_methodNamed B.named
  have hlocks := B.notSynchronized
  subst hsz
  have hD := hD0.self (sz := s.heap.size)
  generalize hAe : va_A [(q_t, .inr (3, [.int v_t_cursor, .int v_t_lastRet, .int v_t_expectedModCount, .ref q_t_this0])), (q_t_this0, .inr (4, [.int v_t_this0_modCount, .ref q_t_this0_elementData, .int v_t_this0_size])), (q_t_this0_elementData, .inl (T 7, n_t_this0_elementData, .inr (.inr (.inr (.inr v_t_this0_elementData)))))] s.heap.size = A at hD ⊢
  have hA : ∀ q : Nat, s.heap.size ≤ q → A q := fun q h => by rw [← hAe]; exact Or.inr h
  have hS : va_S A s.heap s.heap [] := va_S.rf
  have hP : va_P D vwCl [(q_t, .inr (3, [.int v_t_cursor, .int v_t_lastRet, .int v_t_expectedModCount, .ref q_t_this0])), (q_t_this0, .inr (4, [.int v_t_this0_modCount, .ref q_t_this0_elementData, .int v_t_this0_size])), (q_t_this0_elementData, .inl (T 7, n_t_this0_elementData, .inr (.inr (.inr (.inr v_t_this0_elementData)))))] s.heap := hP
  have hl := lv_entry ([.ref q_t]) (n := 3) (Nat.le_of_ble_eq_true rfl)
  rw [lg_entry_eq]
  generalize (lg_sl ([.ref q_t]) ++ List.replicate (3 - (lg_sl ([.ref q_t])).length) Slot.unset).toArray = ls at hl ⊢
  have hl : lv_has ls 3 [(0, .ref q_t)] := hl
  unfold f_Jx35411_next_0502b at h
  refine lv_aload_n hx hb dJx35411_next_0502b_0 rfl (lv_at hl 0 rfl) ?_
  obtain ⟨o1, hc1, h⟩ := zk_bind h
  refine zk_cv (wr := [(q_t_this0_elementData, .inl (T 7, n_t_this0_elementData, .inr (.inr (.inr (.inr v_t_this0_elementData)))))]) (va_runV (As := []) (rest := []) ⟨hx, hb, hml, hown, hts⟩ (k_Jx35411_checkForComodification_da8c8 l D T N q_t q_t_this0 q_t_this0_elementData _ v_t_cursor v_t_lastRet v_t_expectedModCount v_t_this0_modCount v_t_this0_size  o1 hc1) (cwV 0 hts gJx35411_next_0502b_Jx35411_checkForComodification_da8c8 rfl rfl rfl (by decide +kernel) ⟨Nat.le_of_ble_eq_true rfl, Nat.le_of_ble_eq_true rfl⟩) (zr_preV (q := (RJx35411, TJx35411, 4)) hK hN (hP.sub [0, 1] rfl) (hD.sub [0, 1] (by decide) rfl) 0 rfl rfl) rfl rfl hl.1 rfl (lv_room (Nat.le_of_ble_eq_true rfl)) dJx35411_next_0502b_1 ⟨Nat.zero_le _, Nat.zero_le _⟩) hP hD hS hA [0, 1] [2] rfl rfl (by decide) (by decide) [1, 2, 0] (wf := [(q_t, .inr (3, [.int v_t_cursor, .int v_t_lastRet, .int v_t_expectedModCount, .ref q_t_this0])), (q_t_this0, .inr (4, [.int v_t_this0_modCount, .ref q_t_this0_elementData, .int v_t_this0_size])), (q_t_this0_elementData, .inl (T 7, n_t_this0_elementData, .inr (.inr (.inr (.inr v_t_this0_elementData)))))]) rfl (by decide) (fun H locs hP hD hS => ?_)
  refine lv_aload_n hx hb dJx35411_next_0502b_4 rfl (lv_at hl 0 rfl) ?_
  refine va_get (D := D) (ci := 3) (v := .int v_t_cursor) (C := RJx35411) (T := TJx35411) (N := 4) hx hb hts iJx35411_next_0502b_Jx35411 hown hK hP 0 rfl rfl 0 (by decide) (hts (.fieldLink RJx35411 25 "java/util/ArrayList$Itr" "cursor" "I") (by decide +kernel)) (fun _ h9 => h9) rfl dJx35411_next_0502b_5 ?_
  refine lv_istore_n (lv' := [(1, .int v_t_cursor), (0, .ref q_t)]) hx hb dJx35411_next_0502b_8 rfl hl (by decide) rfl (fun ls hl => ?_)
  refine lv_iload_n hx hb dJx35411_next_0502b_9 rfl (lv_at hl 0 rfl) ?_
  refine lv_aload_n hx hb dJx35411_next_0502b_10 rfl (lv_at hl 1 rfl) ?_
  refine va_get (D := D) (ci := 3) (v := .ref q_t_this0) (C := RJx35411) (T := TJx35411) (N := 4) hx hb hts iJx35411_next_0502b_Jx35411 hown hK hP 0 rfl rfl 3 (by decide) (hts (.fieldLink RJx35411 1 "java/util/ArrayList$Itr" "this$0" "Ljava/util/ArrayList;") (by decide +kernel)) (fun _ h9 => h9) rfl dJx35411_next_0502b_11 ?_
  refine va_getN (D := D) (ci := 4) (v := .int v_t_this0_size) (C := RJx4a65c) (T := TJx4a65c) (N := 3) hx hb hts iJx35411_next_0502b_Jx4a65c hown hK hP 1 rfl rfl 2 (by decide) (zk_f hN.1 (own := RJx35411) (index := 28) (ref := "java/util/ArrayList") (n := "size") (d := "I") (host := "java/util/ArrayList") (by decide +kernel)) (fun _ h9 => h9) rfl dJx35411_next_0502b_14 ?_
  refine lv_icmp_lt (tgt := 28) hx hb dJx35411_next_0502b_17 (by decide) (fun c17 => ?_) (fun c17 => ?_)
  · replace h := (if_pos c17).symm.trans h
    refine lv_aload_n hx hb dJx35411_next_0502b_28 rfl (lv_at hl 1 rfl) ?_
    refine va_get (D := D) (ci := 3) (v := .ref q_t_this0) (C := RJx35411) (T := TJx35411) (N := 4) hx hb hts iJx35411_next_0502b_Jx35411 hown hK hP 0 rfl rfl 3 (by decide) (hts (.fieldLink RJx35411 1 "java/util/ArrayList$Itr" "this$0" "Ljava/util/ArrayList;") (by decide +kernel)) (fun _ h9 => h9) rfl dJx35411_next_0502b_29 ?_
    refine va_get (D := D) (ci := 4) (v := .ref q_t_this0_elementData) (C := RJx4a65c) (T := TJx4a65c) (N := 3) hx hb hts iJx35411_next_0502b_Jx4a65c hown hK hP 1 rfl rfl 1 (by decide) (hts (.fieldLink RJx35411 37 "java/util/ArrayList" "elementData" "[Ljava/lang/Object;") (by decide +kernel)) (fun _ h9 => h9) rfl dJx35411_next_0502b_32 ?_
    refine lv_astore_n (lv' := [(2, .ref q_t_this0_elementData), (1, .int v_t_cursor), (0, .ref q_t)]) hx hb dJx35411_next_0502b_35 rfl hl (by decide) rfl (fun ls hl => ?_)
    refine lv_iload_n hx hb dJx35411_next_0502b_36 rfl (lv_at hl 1 rfl) ?_
    refine lv_aload_n hx hb dJx35411_next_0502b_37 rfl (lv_at hl 0 rfl) ?_
    refine va_alen (v := Int32.ofNat n_t_this0_elementData) hx hb hK hP 2 7 rfl rfl rfl dJx35411_next_0502b_38 ?_
    refine lv_icmp_lt (tgt := 50) hx hb dJx35411_next_0502b_39 (by decide) (fun c39 => ?_) (fun c39 => ?_)
    · replace h := (if_pos c39).symm.trans h
      refine lv_aload_n hx hb dJx35411_next_0502b_50 rfl (lv_at hl 2 rfl) ?_
      refine lv_iload_n hx hb dJx35411_next_0502b_51 rfl (lv_at hl 1 rfl) ?_
      refine lv_iconst (v := (1 : Int32)) hx hb dJx35411_next_0502b_52 (by decide) ?_
      refine lv_iadd hx hb dJx35411_next_0502b_53 ?_
      refine va_put (D := D) (ci := 3) (v := .int (v_t_cursor + (1 : Int32))) (ty := .int) (C := RJx35411) (T := TJx35411) (N := 4) hx hb hts iJx35411_next_0502b_Jx35411 tyJx35411 tyJx35411_ok nmJx35411 hown hK hP hD hS 0 rfl rfl 0 (by decide) (hts (.fieldLink RJx35411 25 "java/util/ArrayList$Itr" "cursor" "I") (by decide +kernel)) (fun _ h9 => h9) rfl (by decide +kernel) rfl rfl (Nat.le_of_ble_eq_true rfl) dJx35411_next_0502b_54 (fun H locs hP hD hS => ?_)
      have hP : va_P D vwCl [(q_t, .inr (3, [.int (v_t_cursor + (1 : Int32)), .int v_t_lastRet, .int v_t_expectedModCount, .ref q_t_this0])), (q_t_this0, .inr (4, [.int v_t_this0_modCount, .ref q_t_this0_elementData, .int v_t_this0_size])), (q_t_this0_elementData, .inl (T 7, n_t_this0_elementData, .inr (.inr (.inr (.inr v_t_this0_elementData)))))] H := hP
      have hD : va_D A [(q_t, .inr (3, [.int (v_t_cursor + (1 : Int32)), .int v_t_lastRet, .int v_t_expectedModCount, .ref q_t_this0])), (q_t_this0, .inr (4, [.int v_t_this0_modCount, .ref q_t_this0_elementData, .int v_t_this0_size])), (q_t_this0_elementData, .inl (T 7, n_t_this0_elementData, .inr (.inr (.inr (.inr v_t_this0_elementData)))))] := hD
      refine lv_aload_n hx hb dJx35411_next_0502b_57 rfl (lv_at hl 0 rfl) ?_
      refine lv_aload_n hx hb dJx35411_next_0502b_58 rfl (lv_at hl 2 rfl) ?_
      refine lv_iload_n hx hb dJx35411_next_0502b_59 rfl (lv_at hl 1 rfl) ?_
      refine lv_dup_x1 hx hb dJx35411_next_0502b_60 rfl rfl ?_
      refine va_put (D := D) (ci := 3) (v := .int v_t_cursor) (ty := .int) (C := RJx35411) (T := TJx35411) (N := 4) hx hb hts iJx35411_next_0502b_Jx35411 tyJx35411 tyJx35411_ok nmJx35411 hown hK hP hD hS 0 rfl rfl 1 (by decide) (hts (.fieldLink RJx35411 13 "java/util/ArrayList$Itr" "lastRet" "I") (by decide +kernel)) (fun _ h9 => h9) rfl (by decide +kernel) rfl rfl (Nat.le_of_ble_eq_true rfl) dJx35411_next_0502b_61 (fun H locs hP hD hS => ?_)
      have hP : va_P D vwCl [(q_t, .inr (3, [.int (v_t_cursor + (1 : Int32)), .int v_t_cursor, .int v_t_expectedModCount, .ref q_t_this0])), (q_t_this0, .inr (4, [.int v_t_this0_modCount, .ref q_t_this0_elementData, .int v_t_this0_size])), (q_t_this0_elementData, .inl (T 7, n_t_this0_elementData, .inr (.inr (.inr (.inr v_t_this0_elementData)))))] H := hP
      have hD : va_D A [(q_t, .inr (3, [.int (v_t_cursor + (1 : Int32)), .int v_t_cursor, .int v_t_expectedModCount, .ref q_t_this0])), (q_t_this0, .inr (4, [.int v_t_this0_modCount, .ref q_t_this0_elementData, .int v_t_this0_size])), (q_t_this0_elementData, .inl (T 7, n_t_this0_elementData, .inr (.inr (.inr (.inr v_t_this0_elementData)))))] := hD
      obtain ⟨hb64, h⟩ := zk_g_spec h
      obtain ⟨a64, ha64, h⟩ := zk_bind h
      refine zl_aald hx hb hK hP 2 7 rfl rfl hb64 ha64 dJx35411_next_0502b_64 ?_
      obtain rfl := Option.some.inj h
      exact W.aret (v := .ref a64) hx hb hr (Or.inl ⟨_, rfl⟩) (Or.inr ⟨_, rfl⟩) (fun t ht hW => ⟨⟨(), _, rfl, trivial, ⟨rfl, by rw [ht]; exact hP, hD⟩⟩, hS.F ht⟩) hS.2.2 dJx35411_next_0502b_65
    · replace h := (if_neg c39).symm.trans h
      exact absurd h (by simp)
  · replace h := (if_neg c17).symm.trans h
    exact absurd h (by simp)

def f_X3_lost (N : Nat) : Option (UInt64) := some (9094988921128908188 : UInt64)
set_option maxHeartbeats 8000000 in
set_option maxRecDepth 100000 in
theorem k_X3_lost (l : Launch) (D : va_G) (T : Nat → ClassId) (N : Nat) (sz : Nat) (o : UInt64) (h : f_X3_lost N = some o) : Met l yX3_lost wsX3_lost ({ frames := 0, cells := 0, slots := 0, locals := 0 } : Room) (zk_Pc D T [] [] sz) (zk_Qd o D [] (va_A [] sz) (va_A [] sz)) 0 0 (va_A [] sz) := by
  refine Met.ofW (cc := cX3_lost) (maxL := 0) (ret := (some .double)) (by decide) rfl ?_
  intro p e s m args below meth c s₁ B hml hv
  obtain ⟨rfl, hsz, hP, hK, hN, hD0⟩ := hv
  have hx := B.exec
  have hb := B.bytes
  have hr := B.returns
  have hts := atoms_spec (ws := wsX3_lost) B.pre
  have hown : s.vm.findClass RX3 = some m.cls := findClass_of_methodNamed B.named
  have hlocks := B.notSynchronized
  subst hsz
  have hD := hD0.self (sz := s.heap.size)
  generalize hAe : va_A [] s.heap.size = A at hD ⊢
  have hA : ∀ q : Nat, s.heap.size ≤ q → A q := fun q h => by rw [← hAe]; exact Or.inr h
  have hS : va_S A s.heap s.heap [] := va_S.rf
  have hP : va_P D vwCl [] s.heap := hP
  have hl := lv_entry ([]) (n := 0) (Nat.le_of_ble_eq_true rfl)
  rw [lg_entry_eq]
  generalize (lg_sl ([]) ++ List.replicate (0 - (lg_sl ([])).length) Slot.unset).toArray = ls at hl ⊢
  have hl : lv_has ls 0 [] := hl
  unfold f_X3_lost at h
  refine lv_ldc2d (v := (9094988921128908188 : UInt64)) hx hb hown (hts (.constantDouble RX3 53 (9094988921128908188 : UInt64)) (by decide +kernel)) dX3_lost_0 ?_
  obtain rfl := Option.some.inj h
  exact W.dret (v := (9094988921128908188 : UInt64)) hx hb hr (fun t ht hW => ⟨⟨_, (), rfl, rfl, ⟨by rw [ht]; exact hP, hD⟩⟩, hS.F ht⟩) hS.2.2 dX3_lost_3
def f_X3_isLost (N : Nat) (x0 : UInt64) : Option (Int32) := (f_X3_lost N).bind fun o1 => if (Op.cmpValue (FP.dcmp x0 o1) .l) = 0 then (some (1 : Int32)) else (some (0 : Int32))
set_option maxHeartbeats 8000000 in
set_option maxRecDepth 100000 in
theorem k_X3_isLost (l : Launch) (D : va_G) (T : Nat → ClassId) (N : Nat) (sz : Nat) (x0 : UInt64) (o : Int32) (h : f_X3_isLost N x0 = some o) : Met l yX3_isLost wsX3_isLost ({ frames := 1, cells := 0, slots := 0, locals := 19 } : Room) (zk_Pc D T [.double x0] [] sz) (zk_Qi o D [] (va_A [] sz) (va_A [] sz)) 0 0 (va_A [] sz) := by
  refine Met.ofW (cc := cX3_isLost) (maxL := 2) (ret := (some .boolean)) (by decide) rfl ?_
  intro p e s m args below meth c s₁ B hml hv
  obtain ⟨rfl, hsz, hP, hK, hN, hD0⟩ := hv
  have hx := B.exec
  have hb := B.bytes
  have hr := B.returns
  have hts := atoms_spec (ws := wsX3_isLost) B.pre
  have hown : s.vm.findClass RX3 = some m.cls := findClass_of_methodNamed B.named
  have hlocks := B.notSynchronized
  subst hsz
  have hD := hD0.self (sz := s.heap.size)
  generalize hAe : va_A [] s.heap.size = A at hD ⊢
  have hA : ∀ q : Nat, s.heap.size ≤ q → A q := fun q h => by rw [← hAe]; exact Or.inr h
  have hS : va_S A s.heap s.heap [] := va_S.rf
  have hP : va_P D vwCl [] s.heap := hP
  have hl := lv_entry ([.double x0]) (n := 2) (Nat.le_of_ble_eq_true rfl)
  rw [lg_entry_eq]
  generalize (lg_sl ([.double x0]) ++ List.replicate (2 - (lg_sl ([.double x0])).length) Slot.unset).toArray = ls at hl ⊢
  have hl : lv_has ls 2 [(0, .double x0)] := hl
  unfold f_X3_isLost at h
  refine lv_dload_n hx hb dX3_isLost_0 rfl (lv_at hl 0 rfl) ?_
  obtain ⟨o1, hc1, h⟩ := zk_bind h
  refine zk_cd (wr := []) (va_runS (As := []) (rest := [.double x0]) ⟨hx, hb, hml, hown, hts⟩ (k_X3_lost l D T N  _   o1 hc1) (va_cwS 0 hts gX3_isLost_X3_lost rfl rfl rfl (by decide +kernel) ⟨Nat.le_of_ble_eq_true rfl, Nat.le_of_ble_eq_true rfl⟩) (zk_preS hK hN (hP.sub [] rfl) (hD.sub [] (by decide) rfl)) rfl rfl hl.1 rfl (lv_room (Nat.le_of_ble_eq_true rfl)) dX3_isLost_1 ⟨Nat.zero_le _, Nat.zero_le _⟩) hP hD hS hA [] [] rfl rfl (by decide) (by decide) [] (wf := []) rfl (by decide) (fun H locs hP hD hS => ?_)
  refine lv_dcmp hx hb dX3_isLost_4 ?_
  refine lv_if_ne (tgt := 12) hx hb dX3_isLost_5 (by decide) (fun c5 => ?_) (fun c5 => ?_)
  · replace h := (if_neg c5).symm.trans h
    refine lv_iconst (v := (0 : Int32)) hx hb dX3_isLost_12 (by decide) ?_
    obtain rfl := Option.some.inj h
    exact W.zret (v := (0 : Int32)) hx hb hr rfl (fun t ht hW => ⟨⟨_, (), rfl, rfl, ⟨by rw [ht]; exact hP, hD⟩⟩, hS.F ht⟩) hS.2.2 dX3_isLost_13
  · replace h := (if_pos c5).symm.trans h
    refine lv_iconst (v := (1 : Int32)) hx hb dX3_isLost_8 (by decide) ?_
    refine lv_goto (tgt := 13) hx hb dX3_isLost_9 (by decide) ?_
    obtain rfl := Option.some.inj h
    exact W.zret (v := (1 : Int32)) hx hb hr rfl (fun t ht hW => ⟨⟨_, (), rfl, rfl, ⟨by rw [ht]; exact hP, hD⟩⟩, hS.F ht⟩) hS.2.2 dX3_isLost_13
def f_X3_isEndless (N : Nat) (x0 : UInt64) : Option (Int32) := if 0 < (Op.cmpValue (FP.dcmp x0 (9214871658872686752 : UInt64)) .l) then (some (1 : Int32)) else (if 0 ≤ (Op.cmpValue (FP.dcmp x0 (18438243695727462560 : UInt64)) .g) then (some (0 : Int32)) else (some (1 : Int32)))
set_option maxHeartbeats 8000000 in
set_option maxRecDepth 100000 in
theorem k_X3_isEndless (l : Launch) (D : va_G) (T : Nat → ClassId) (N : Nat) (sz : Nat) (x0 : UInt64) (o : Int32) (h : f_X3_isEndless N x0 = some o) : Met l yX3_isEndless wsX3_isEndless ({ frames := 0, cells := 0, slots := 0, locals := 0 } : Room) (zk_Pc D T [.double x0] [] sz) (zk_Qi o D [] (va_A [] sz) (va_A [] sz)) 0 0 (va_A [] sz) := by
  refine Met.ofW (cc := cX3_isEndless) (maxL := 2) (ret := (some .boolean)) (by decide) rfl ?_
  intro p e s m args below meth c s₁ B hml hv
  obtain ⟨rfl, hsz, hP, hK, hN, hD0⟩ := hv
  have hx := B.exec
  have hb := B.bytes
  have hr := B.returns
  have hts := atoms_spec (ws := wsX3_isEndless) B.pre
  have hown : s.vm.findClass RX3 = some m.cls := findClass_of_methodNamed B.named
  have hlocks := B.notSynchronized
  subst hsz
  have hD := hD0.self (sz := s.heap.size)
  generalize hAe : va_A [] s.heap.size = A at hD ⊢
  have hA : ∀ q : Nat, s.heap.size ≤ q → A q := fun q h => by rw [← hAe]; exact Or.inr h
  have hS : va_S A s.heap s.heap [] := va_S.rf
  have hP : va_P D vwCl [] s.heap := hP
  have hl := lv_entry ([.double x0]) (n := 2) (Nat.le_of_ble_eq_true rfl)
  rw [lg_entry_eq]
  generalize (lg_sl ([.double x0]) ++ List.replicate (2 - (lg_sl ([.double x0])).length) Slot.unset).toArray = ls at hl ⊢
  have hl : lv_has ls 2 [(0, .double x0)] := hl
  unfold f_X3_isEndless at h
  refine lv_dload_n hx hb dX3_isEndless_0 rfl (lv_at hl 0 rfl) ?_
  refine lv_ldc2d (v := (9214871658872686752 : UInt64)) hx hb hown (hts (.constantDouble RX3 58 (9214871658872686752 : UInt64)) (by decide +kernel)) dX3_isEndless_1 ?_
  refine lv_dcmp hx hb dX3_isEndless_4 ?_
  refine lv_if_gt (tgt := 16) hx hb dX3_isEndless_5 (by decide) (fun c5 => ?_) (fun c5 => ?_)
  · replace h := (if_pos c5).symm.trans h
    refine lv_iconst (v := (1 : Int32)) hx hb dX3_isEndless_16 (by decide) ?_
    refine lv_goto (tgt := 21) hx hb dX3_isEndless_17 (by decide) ?_
    obtain rfl := Option.some.inj h
    exact W.zret (v := (1 : Int32)) hx hb hr rfl (fun t ht hW => ⟨⟨_, (), rfl, rfl, ⟨by rw [ht]; exact hP, hD⟩⟩, hS.F ht⟩) hS.2.2 dX3_isEndless_21
  · replace h := (if_neg c5).symm.trans h
    refine lv_dload_n hx hb dX3_isEndless_8 rfl (lv_at hl 0 rfl) ?_
    refine lv_ldc2d (v := (18438243695727462560 : UInt64)) hx hb hown (hts (.constantDouble RX3 60 (18438243695727462560 : UInt64)) (by decide +kernel)) dX3_isEndless_9 ?_
    refine lv_dcmp hx hb dX3_isEndless_12 ?_
    refine lv_if_ge (tgt := 20) hx hb dX3_isEndless_13 (by decide) (fun c13 => ?_) (fun c13 => ?_)
    · replace h := (if_pos c13).symm.trans h
      refine lv_iconst (v := (0 : Int32)) hx hb dX3_isEndless_20 (by decide) ?_
      obtain rfl := Option.some.inj h
      exact W.zret (v := (0 : Int32)) hx hb hr rfl (fun t ht hW => ⟨⟨_, (), rfl, rfl, ⟨by rw [ht]; exact hP, hD⟩⟩, hS.F ht⟩) hS.2.2 dX3_isEndless_21
    · replace h := (if_neg c13).symm.trans h
      refine lv_iconst (v := (1 : Int32)) hx hb dX3_isEndless_16 (by decide) ?_
      refine lv_goto (tgt := 21) hx hb dX3_isEndless_17 (by decide) ?_
      obtain rfl := Option.some.inj h
      exact W.zret (v := (1 : Int32)) hx hb hr rfl (fun t ht hW => ⟨⟨_, (), rfl, rfl, ⟨by rw [ht]; exact hP, hD⟩⟩, hS.F ht⟩) hS.2.2 dX3_isEndless_21
def f_X3_plus (N : Nat) (x0 : UInt64) (x2 : UInt64) : Option (UInt64) := (f_X3_isLost N x0).bind fun o1 => if o1 = 0 then ((f_X3_isLost N x2).bind fun o8 => if o8 = 0 then ((f_X3_isEndless N x0).bind fun o15 => if o15 = 0 then (zk_n32 (FP.d2f x0) (zk_n32 (FP.d2f x2) (zk_n32 (FP.fadd (FP.d2f x0) (FP.d2f x2)) (zk_n64 (FP.f2d (FP.fadd (FP.d2f x0) (FP.d2f x2))) (some (FP.f2d (FP.fadd (FP.d2f x0) (FP.d2f x2)))))))) else ((f_X3_isEndless N x2).bind fun o22 => if o22 = 0 then (zk_n32 (FP.d2f x0) (zk_n32 (FP.d2f x2) (zk_n32 (FP.fadd (FP.d2f x0) (FP.d2f x2)) (zk_n64 (FP.f2d (FP.fadd (FP.d2f x0) (FP.d2f x2))) (some (FP.f2d (FP.fadd (FP.d2f x0) (FP.d2f x2)))))))) else (if (Op.cmpValue (FP.dcmp x0 FP.dconst0) .l) ≤ 0 then (if (Op.cmpValue (FP.dcmp x2 FP.dconst0) .l) ≤ 0 then (zk_n32 (FP.d2f x0) (zk_n32 (FP.d2f x2) (zk_n32 (FP.fadd (FP.d2f x0) (FP.d2f x2)) (zk_n64 (FP.f2d (FP.fadd (FP.d2f x0) (FP.d2f x2))) (some (FP.f2d (FP.fadd (FP.d2f x0) (FP.d2f x2)))))))) else ((f_X3_lost N).bind fun o53 => some o53)) else (if (Op.cmpValue (FP.dcmp x2 FP.dconst0) .l) ≤ 0 then ((f_X3_lost N).bind fun o53 => some o53) else (zk_n32 (FP.d2f x0) (zk_n32 (FP.d2f x2) (zk_n32 (FP.fadd (FP.d2f x0) (FP.d2f x2)) (zk_n64 (FP.f2d (FP.fadd (FP.d2f x0) (FP.d2f x2))) (some (FP.f2d (FP.fadd (FP.d2f x0) (FP.d2f x2)))))))))))) else ((f_X3_lost N).bind fun o53 => some o53)) else ((f_X3_lost N).bind fun o53 => some o53)
set_option maxHeartbeats 8000000 in
set_option maxRecDepth 100000 in
theorem k_X3_plus (l : Launch) (D : va_G) (T : Nat → ClassId) (N : Nat) (sz : Nat) (x0 : UInt64) (x2 : UInt64) (o : UInt64) (h : f_X3_plus N x0 x2 = some o) : Met l yX3_plus wsX3_plus ({ frames := 2, cells := 0, slots := 0, locals := 40 } : Room) (zk_Pc D T [.double x0, .double x2] [] sz) (zk_Qd o D [] (va_A [] sz) (va_A [] sz)) 0 0 (va_A [] sz) := by
  refine Met.ofW (cc := cX3_plus) (maxL := 4) (ret := (some .double)) (by decide) rfl ?_
  intro p e s m args below meth c s₁ B hml hv
  obtain ⟨rfl, hsz, hP, hK, hN, hD0⟩ := hv
  have hx := B.exec
  have hb := B.bytes
  have hr := B.returns
  have hts := atoms_spec (ws := wsX3_plus) B.pre
  have hown : s.vm.findClass RX3 = some m.cls := findClass_of_methodNamed B.named
  have hlocks := B.notSynchronized
  subst hsz
  have hD := hD0.self (sz := s.heap.size)
  generalize hAe : va_A [] s.heap.size = A at hD ⊢
  have hA : ∀ q : Nat, s.heap.size ≤ q → A q := fun q h => by rw [← hAe]; exact Or.inr h
  have hS : va_S A s.heap s.heap [] := va_S.rf
  have hP : va_P D vwCl [] s.heap := hP
  have hl := lv_entry ([.double x0, .double x2]) (n := 4) (Nat.le_of_ble_eq_true rfl)
  rw [lg_entry_eq]
  generalize (lg_sl ([.double x0, .double x2]) ++ List.replicate (4 - (lg_sl ([.double x0, .double x2])).length) Slot.unset).toArray = ls at hl ⊢
  have hl : lv_has ls 4 [(0, .double x0), (2, .double x2)] := hl
  unfold f_X3_plus at h
  refine lv_dload_n hx hb dX3_plus_0 rfl (lv_at hl 0 rfl) ?_
  obtain ⟨o1, hc1, h⟩ := zk_bind h
  refine zk_ci (wr := []) (va_runS (As := [.double x0]) (rest := []) ⟨hx, hb, hml, hown, hts⟩ (k_X3_isLost l D T N  _  x0 o1 hc1) (va_cwS 1 hts gX3_plus_X3_isLost rfl rfl rfl (by decide +kernel) ⟨Nat.le_of_ble_eq_true rfl, Nat.le_of_ble_eq_true rfl⟩) (zk_preS hK hN (hP.sub [] rfl) (hD.sub [] (by decide) rfl)) rfl rfl hl.1 rfl (lv_room (Nat.le_of_ble_eq_true rfl)) dX3_plus_1 ⟨Nat.zero_le _, Nat.zero_le _⟩) hP hD hS hA [] [] rfl rfl (by decide) (by decide) [] (wf := []) rfl (by decide) (fun H locs hP hD hS => ?_)
  refine lv_if_ne (tgt := 53) hx hb dX3_plus_4 (by decide) (fun c4 => ?_) (fun c4 => ?_)
  · replace h := (if_neg c4).symm.trans h
    obtain ⟨o53, hc53, h⟩ := zk_bind h
    refine zk_cd (wr := []) (va_runS (As := []) (rest := []) ⟨hx, hb, hml, hown, hts⟩ (k_X3_lost l D T N  _   o53 hc53) (va_cwS 0 hts gX3_plus_X3_lost rfl rfl rfl (by decide +kernel) ⟨Nat.le_of_ble_eq_true rfl, Nat.le_of_ble_eq_true rfl⟩) (zk_preS hK hN (hP.sub [] rfl) (hD.sub [] (by decide) rfl)) rfl rfl hl.1 rfl (lv_room (Nat.le_of_ble_eq_true rfl)) dX3_plus_53 ⟨Nat.zero_le _, Nat.zero_le _⟩) hP hD hS hA [] [] rfl rfl (by decide) (by decide) [] (wf := []) rfl (by decide) (fun H locs hP hD hS => ?_)
    obtain rfl := Option.some.inj h
    exact W.dret (v := o53) hx hb hr (fun t ht hW => ⟨⟨_, (), rfl, rfl, ⟨by rw [ht]; exact hP, hD⟩⟩, hS.F ht⟩) hS.2.2 dX3_plus_56
  · replace h := (if_pos c4).symm.trans h
    refine lv_dload_n hx hb dX3_plus_7 rfl (lv_at hl 1 rfl) ?_
    obtain ⟨o8, hc8, h⟩ := zk_bind h
    refine zk_ci (wr := []) (va_runS (As := [.double x2]) (rest := []) ⟨hx, hb, hml, hown, hts⟩ (k_X3_isLost l D T N  _  x2 o8 hc8) (va_cwS 1 hts gX3_plus_X3_isLost rfl rfl rfl (by decide +kernel) ⟨Nat.le_of_ble_eq_true rfl, Nat.le_of_ble_eq_true rfl⟩) (zk_preS hK hN (hP.sub [] rfl) (hD.sub [] (by decide) rfl)) rfl rfl hl.1 rfl (lv_room (Nat.le_of_ble_eq_true rfl)) dX3_plus_8 ⟨Nat.zero_le _, Nat.zero_le _⟩) hP hD hS hA [] [] rfl rfl (by decide) (by decide) [] (wf := []) rfl (by decide) (fun H locs hP hD hS => ?_)
    refine lv_if_ne (tgt := 53) hx hb dX3_plus_11 (by decide) (fun c11 => ?_) (fun c11 => ?_)
    · replace h := (if_neg c11).symm.trans h
      obtain ⟨o53, hc53, h⟩ := zk_bind h
      refine zk_cd (wr := []) (va_runS (As := []) (rest := []) ⟨hx, hb, hml, hown, hts⟩ (k_X3_lost l D T N  _   o53 hc53) (va_cwS 0 hts gX3_plus_X3_lost rfl rfl rfl (by decide +kernel) ⟨Nat.le_of_ble_eq_true rfl, Nat.le_of_ble_eq_true rfl⟩) (zk_preS hK hN (hP.sub [] rfl) (hD.sub [] (by decide) rfl)) rfl rfl hl.1 rfl (lv_room (Nat.le_of_ble_eq_true rfl)) dX3_plus_53 ⟨Nat.zero_le _, Nat.zero_le _⟩) hP hD hS hA [] [] rfl rfl (by decide) (by decide) [] (wf := []) rfl (by decide) (fun H locs hP hD hS => ?_)
      obtain rfl := Option.some.inj h
      exact W.dret (v := o53) hx hb hr (fun t ht hW => ⟨⟨_, (), rfl, rfl, ⟨by rw [ht]; exact hP, hD⟩⟩, hS.F ht⟩) hS.2.2 dX3_plus_56
    · replace h := (if_pos c11).symm.trans h
      refine lv_dload_n hx hb dX3_plus_14 rfl (lv_at hl 0 rfl) ?_
      obtain ⟨o15, hc15, h⟩ := zk_bind h
      refine zk_ci (wr := []) (va_runS (As := [.double x0]) (rest := []) ⟨hx, hb, hml, hown, hts⟩ (k_X3_isEndless l D T N  _  x0 o15 hc15) (va_cwS 1 hts gX3_plus_X3_isEndless rfl rfl rfl (by decide +kernel) ⟨Nat.le_of_ble_eq_true rfl, Nat.le_of_ble_eq_true rfl⟩) (zk_preS hK hN (hP.sub [] rfl) (hD.sub [] (by decide) rfl)) rfl rfl hl.1 rfl (lv_room (Nat.le_of_ble_eq_true rfl)) dX3_plus_15 ⟨Nat.zero_le _, Nat.zero_le _⟩) hP hD hS hA [] [] rfl rfl (by decide) (by decide) [] (wf := []) rfl (by decide) (fun H locs hP hD hS => ?_)
      refine lv_if_eq (tgt := 57) hx hb dX3_plus_18 (by decide) (fun c18 => ?_) (fun c18 => ?_)
      · replace h := (if_pos c18).symm.trans h
        refine lv_dload_n hx hb dX3_plus_57 rfl (lv_at hl 0 rfl) ?_
        obtain ⟨hz58, h⟩ := zk_n32_spec h
        refine lv_d2f hx hb dX3_plus_58 hz58 ?_
        refine lv_dload_n hx hb dX3_plus_59 rfl (lv_at hl 1 rfl) ?_
        obtain ⟨hz60, h⟩ := zk_n32_spec h
        refine lv_d2f hx hb dX3_plus_60 hz60 ?_
        obtain ⟨hz61, h⟩ := zk_n32_spec h
        refine lv_fadd hx hb dX3_plus_61 hz61 ?_
        obtain ⟨hz62, h⟩ := zk_n64_spec h
        refine lv_f2d hx hb dX3_plus_62 hz62 ?_
        obtain rfl := Option.some.inj h
        exact W.dret (v := FP.f2d (FP.fadd (FP.d2f x0) (FP.d2f x2))) hx hb hr (fun t ht hW => ⟨⟨_, (), rfl, rfl, ⟨by rw [ht]; exact hP, hD⟩⟩, hS.F ht⟩) hS.2.2 dX3_plus_63
      · replace h := (if_neg c18).symm.trans h
        refine lv_dload_n hx hb dX3_plus_21 rfl (lv_at hl 1 rfl) ?_
        obtain ⟨o22, hc22, h⟩ := zk_bind h
        refine zk_ci (wr := []) (va_runS (As := [.double x2]) (rest := []) ⟨hx, hb, hml, hown, hts⟩ (k_X3_isEndless l D T N  _  x2 o22 hc22) (va_cwS 1 hts gX3_plus_X3_isEndless rfl rfl rfl (by decide +kernel) ⟨Nat.le_of_ble_eq_true rfl, Nat.le_of_ble_eq_true rfl⟩) (zk_preS hK hN (hP.sub [] rfl) (hD.sub [] (by decide) rfl)) rfl rfl hl.1 rfl (lv_room (Nat.le_of_ble_eq_true rfl)) dX3_plus_22 ⟨Nat.zero_le _, Nat.zero_le _⟩) hP hD hS hA [] [] rfl rfl (by decide) (by decide) [] (wf := []) rfl (by decide) (fun H locs hP hD hS => ?_)
        refine lv_if_eq (tgt := 57) hx hb dX3_plus_25 (by decide) (fun c25 => ?_) (fun c25 => ?_)
        · replace h := (if_pos c25).symm.trans h
          refine lv_dload_n hx hb dX3_plus_57 rfl (lv_at hl 0 rfl) ?_
          obtain ⟨hz58, h⟩ := zk_n32_spec h
          refine lv_d2f hx hb dX3_plus_58 hz58 ?_
          refine lv_dload_n hx hb dX3_plus_59 rfl (lv_at hl 1 rfl) ?_
          obtain ⟨hz60, h⟩ := zk_n32_spec h
          refine lv_d2f hx hb dX3_plus_60 hz60 ?_
          obtain ⟨hz61, h⟩ := zk_n32_spec h
          refine lv_fadd hx hb dX3_plus_61 hz61 ?_
          obtain ⟨hz62, h⟩ := zk_n64_spec h
          refine lv_f2d hx hb dX3_plus_62 hz62 ?_
          obtain rfl := Option.some.inj h
          exact W.dret (v := FP.f2d (FP.fadd (FP.d2f x0) (FP.d2f x2))) hx hb hr (fun t ht hW => ⟨⟨_, (), rfl, rfl, ⟨by rw [ht]; exact hP, hD⟩⟩, hS.F ht⟩) hS.2.2 dX3_plus_63
        · replace h := (if_neg c25).symm.trans h
          refine lv_dload_n hx hb dX3_plus_28 rfl (lv_at hl 0 rfl) ?_
          refine lv_dconst0 hx hb dX3_plus_29 ?_
          refine lv_dcmp hx hb dX3_plus_30 ?_
          refine lv_if_le (tgt := 38) hx hb dX3_plus_31 (by decide) (fun c31 => ?_) (fun c31 => ?_)
          · replace h := (if_pos c31).symm.trans h
            refine lv_iconst (v := (0 : Int32)) hx hb dX3_plus_38 (by decide) ?_
            refine lv_dload_n hx hb dX3_plus_39 rfl (lv_at hl 1 rfl) ?_
            refine lv_dconst0 hx hb dX3_plus_40 ?_
            refine lv_dcmp hx hb dX3_plus_41 ?_
            refine lv_if_le (tgt := 49) hx hb dX3_plus_42 (by decide) (fun c42 => ?_) (fun c42 => ?_)
            · replace h := (if_pos c42).symm.trans h
              refine lv_iconst (v := (0 : Int32)) hx hb dX3_plus_49 (by decide) ?_
              refine lv_icmp_eq (tgt := 57) hx hb dX3_plus_50 (by decide) (fun _ => ?_) (fun c9 => absurd (by decide) c9)
              refine lv_dload_n hx hb dX3_plus_57 rfl (lv_at hl 0 rfl) ?_
              obtain ⟨hz58, h⟩ := zk_n32_spec h
              refine lv_d2f hx hb dX3_plus_58 hz58 ?_
              refine lv_dload_n hx hb dX3_plus_59 rfl (lv_at hl 1 rfl) ?_
              obtain ⟨hz60, h⟩ := zk_n32_spec h
              refine lv_d2f hx hb dX3_plus_60 hz60 ?_
              obtain ⟨hz61, h⟩ := zk_n32_spec h
              refine lv_fadd hx hb dX3_plus_61 hz61 ?_
              obtain ⟨hz62, h⟩ := zk_n64_spec h
              refine lv_f2d hx hb dX3_plus_62 hz62 ?_
              obtain rfl := Option.some.inj h
              exact W.dret (v := FP.f2d (FP.fadd (FP.d2f x0) (FP.d2f x2))) hx hb hr (fun t ht hW => ⟨⟨_, (), rfl, rfl, ⟨by rw [ht]; exact hP, hD⟩⟩, hS.F ht⟩) hS.2.2 dX3_plus_63
            · replace h := (if_neg c42).symm.trans h
              refine lv_iconst (v := (1 : Int32)) hx hb dX3_plus_45 (by decide) ?_
              refine lv_goto (tgt := 50) hx hb dX3_plus_46 (by decide) ?_
              refine lv_icmp_eq (tgt := 57) hx hb dX3_plus_50 (by decide) (fun c9 => absurd c9 (by decide)) (fun _ => ?_)
              obtain ⟨o53, hc53, h⟩ := zk_bind h
              refine zk_cd (wr := []) (va_runS (As := []) (rest := []) ⟨hx, hb, hml, hown, hts⟩ (k_X3_lost l D T N  _   o53 hc53) (va_cwS 0 hts gX3_plus_X3_lost rfl rfl rfl (by decide +kernel) ⟨Nat.le_of_ble_eq_true rfl, Nat.le_of_ble_eq_true rfl⟩) (zk_preS hK hN (hP.sub [] rfl) (hD.sub [] (by decide) rfl)) rfl rfl hl.1 rfl (lv_room (Nat.le_of_ble_eq_true rfl)) dX3_plus_53 ⟨Nat.zero_le _, Nat.zero_le _⟩) hP hD hS hA [] [] rfl rfl (by decide) (by decide) [] (wf := []) rfl (by decide) (fun H locs hP hD hS => ?_)
              obtain rfl := Option.some.inj h
              exact W.dret (v := o53) hx hb hr (fun t ht hW => ⟨⟨_, (), rfl, rfl, ⟨by rw [ht]; exact hP, hD⟩⟩, hS.F ht⟩) hS.2.2 dX3_plus_56
          · replace h := (if_neg c31).symm.trans h
            refine lv_iconst (v := (1 : Int32)) hx hb dX3_plus_34 (by decide) ?_
            refine lv_goto (tgt := 39) hx hb dX3_plus_35 (by decide) ?_
            refine lv_dload_n hx hb dX3_plus_39 rfl (lv_at hl 1 rfl) ?_
            refine lv_dconst0 hx hb dX3_plus_40 ?_
            refine lv_dcmp hx hb dX3_plus_41 ?_
            refine lv_if_le (tgt := 49) hx hb dX3_plus_42 (by decide) (fun c42 => ?_) (fun c42 => ?_)
            · replace h := (if_pos c42).symm.trans h
              refine lv_iconst (v := (0 : Int32)) hx hb dX3_plus_49 (by decide) ?_
              refine lv_icmp_eq (tgt := 57) hx hb dX3_plus_50 (by decide) (fun c9 => absurd c9 (by decide)) (fun _ => ?_)
              obtain ⟨o53, hc53, h⟩ := zk_bind h
              refine zk_cd (wr := []) (va_runS (As := []) (rest := []) ⟨hx, hb, hml, hown, hts⟩ (k_X3_lost l D T N  _   o53 hc53) (va_cwS 0 hts gX3_plus_X3_lost rfl rfl rfl (by decide +kernel) ⟨Nat.le_of_ble_eq_true rfl, Nat.le_of_ble_eq_true rfl⟩) (zk_preS hK hN (hP.sub [] rfl) (hD.sub [] (by decide) rfl)) rfl rfl hl.1 rfl (lv_room (Nat.le_of_ble_eq_true rfl)) dX3_plus_53 ⟨Nat.zero_le _, Nat.zero_le _⟩) hP hD hS hA [] [] rfl rfl (by decide) (by decide) [] (wf := []) rfl (by decide) (fun H locs hP hD hS => ?_)
              obtain rfl := Option.some.inj h
              exact W.dret (v := o53) hx hb hr (fun t ht hW => ⟨⟨_, (), rfl, rfl, ⟨by rw [ht]; exact hP, hD⟩⟩, hS.F ht⟩) hS.2.2 dX3_plus_56
            · replace h := (if_neg c42).symm.trans h
              refine lv_iconst (v := (1 : Int32)) hx hb dX3_plus_45 (by decide) ?_
              refine lv_goto (tgt := 50) hx hb dX3_plus_46 (by decide) ?_
              refine lv_icmp_eq (tgt := 57) hx hb dX3_plus_50 (by decide) (fun _ => ?_) (fun c9 => absurd (by decide) c9)
              refine lv_dload_n hx hb dX3_plus_57 rfl (lv_at hl 0 rfl) ?_
              obtain ⟨hz58, h⟩ := zk_n32_spec h
              refine lv_d2f hx hb dX3_plus_58 hz58 ?_
              refine lv_dload_n hx hb dX3_plus_59 rfl (lv_at hl 1 rfl) ?_
              obtain ⟨hz60, h⟩ := zk_n32_spec h
              refine lv_d2f hx hb dX3_plus_60 hz60 ?_
              obtain ⟨hz61, h⟩ := zk_n32_spec h
              refine lv_fadd hx hb dX3_plus_61 hz61 ?_
              obtain ⟨hz62, h⟩ := zk_n64_spec h
              refine lv_f2d hx hb dX3_plus_62 hz62 ?_
              obtain rfl := Option.some.inj h
              exact W.dret (v := FP.f2d (FP.fadd (FP.d2f x0) (FP.d2f x2))) hx hb hr (fun t ht hW => ⟨⟨_, (), rfl, rfl, ⟨by rw [ht]; exact hP, hD⟩⟩, hS.F ht⟩) hS.2.2 dX3_plus_63
def f_X3_minus (N : Nat) (x0 : UInt64) (x2 : UInt64) : Option (UInt64) := (f_X3_isLost N x2).bind fun o1 => if o1 = 0 then ((f_X3_plus N x0 (FP.dneg x2)).bind fun o16 => some o16) else ((f_X3_lost N).bind fun o7 => some o7)
set_option maxHeartbeats 8000000 in
set_option maxRecDepth 100000 in
theorem k_X3_minus (l : Launch) (D : va_G) (T : Nat → ClassId) (N : Nat) (sz : Nat) (x0 : UInt64) (x2 : UInt64) (o : UInt64) (h : f_X3_minus N x0 x2 = some o) : Met l yX3_minus wsX3_minus ({ frames := 3, cells := 0, slots := 0, locals := 63 } : Room) (zk_Pc D T [.double x0, .double x2] [] sz) (zk_Qd o D [] (va_A [] sz) (va_A [] sz)) 0 0 (va_A [] sz) := by
  refine Met.ofW (cc := cX3_minus) (maxL := 4) (ret := (some .double)) (by decide) rfl ?_
  intro p e s m args below meth c s₁ B hml hv
  obtain ⟨rfl, hsz, hP, hK, hN, hD0⟩ := hv
  have hx := B.exec
  have hb := B.bytes
  have hr := B.returns
  have hts := atoms_spec (ws := wsX3_minus) B.pre
  have hown : s.vm.findClass RX3 = some m.cls := findClass_of_methodNamed B.named
  have hlocks := B.notSynchronized
  subst hsz
  have hD := hD0.self (sz := s.heap.size)
  generalize hAe : va_A [] s.heap.size = A at hD ⊢
  have hA : ∀ q : Nat, s.heap.size ≤ q → A q := fun q h => by rw [← hAe]; exact Or.inr h
  have hS : va_S A s.heap s.heap [] := va_S.rf
  have hP : va_P D vwCl [] s.heap := hP
  have hl := lv_entry ([.double x0, .double x2]) (n := 4) (Nat.le_of_ble_eq_true rfl)
  rw [lg_entry_eq]
  generalize (lg_sl ([.double x0, .double x2]) ++ List.replicate (4 - (lg_sl ([.double x0, .double x2])).length) Slot.unset).toArray = ls at hl ⊢
  have hl : lv_has ls 4 [(0, .double x0), (2, .double x2)] := hl
  unfold f_X3_minus at h
  refine lv_dload_n hx hb dX3_minus_0 rfl (lv_at hl 1 rfl) ?_
  obtain ⟨o1, hc1, h⟩ := zk_bind h
  refine zk_ci (wr := []) (va_runS (As := [.double x2]) (rest := []) ⟨hx, hb, hml, hown, hts⟩ (k_X3_isLost l D T N  _  x2 o1 hc1) (va_cwS 1 hts gX3_minus_X3_isLost rfl rfl rfl (by decide +kernel) ⟨Nat.le_of_ble_eq_true rfl, Nat.le_of_ble_eq_true rfl⟩) (zk_preS hK hN (hP.sub [] rfl) (hD.sub [] (by decide) rfl)) rfl rfl hl.1 rfl (lv_room (Nat.le_of_ble_eq_true rfl)) dX3_minus_1 ⟨Nat.zero_le _, Nat.zero_le _⟩) hP hD hS hA [] [] rfl rfl (by decide) (by decide) [] (wf := []) rfl (by decide) (fun H locs hP hD hS => ?_)
  refine lv_if_eq (tgt := 13) hx hb dX3_minus_4 (by decide) (fun c4 => ?_) (fun c4 => ?_)
  · replace h := (if_pos c4).symm.trans h
    refine lv_dload_n hx hb dX3_minus_13 rfl (lv_at hl 0 rfl) ?_
    refine lv_dload_n hx hb dX3_minus_14 rfl (lv_at hl 1 rfl) ?_
    refine lv_dneg hx hb dX3_minus_15 ?_
    obtain ⟨o16, hc16, h⟩ := zk_bind h
    refine zk_cd (wr := []) (va_runS (As := [.double x0, .double (FP.dneg x2)]) (rest := []) ⟨hx, hb, hml, hown, hts⟩ (k_X3_plus l D T N  _  x0 (FP.dneg x2) o16 hc16) (va_cwS 2 hts gX3_minus_X3_plus rfl rfl rfl (by decide +kernel) ⟨Nat.le_of_ble_eq_true rfl, Nat.le_of_ble_eq_true rfl⟩) (zk_preS hK hN (hP.sub [] rfl) (hD.sub [] (by decide) rfl)) rfl rfl hl.1 rfl (lv_room (Nat.le_of_ble_eq_true rfl)) dX3_minus_16 ⟨Nat.zero_le _, Nat.zero_le _⟩) hP hD hS hA [] [] rfl rfl (by decide) (by decide) [] (wf := []) rfl (by decide) (fun H locs hP hD hS => ?_)
    obtain rfl := Option.some.inj h
    exact W.dret (v := o16) hx hb hr (fun t ht hW => ⟨⟨_, (), rfl, rfl, ⟨by rw [ht]; exact hP, hD⟩⟩, hS.F ht⟩) hS.2.2 dX3_minus_19
  · replace h := (if_neg c4).symm.trans h
    obtain ⟨o7, hc7, h⟩ := zk_bind h
    refine zk_cd (wr := []) (va_runS (As := []) (rest := []) ⟨hx, hb, hml, hown, hts⟩ (k_X3_lost l D T N  _   o7 hc7) (va_cwS 0 hts gX3_minus_X3_lost rfl rfl rfl (by decide +kernel) ⟨Nat.le_of_ble_eq_true rfl, Nat.le_of_ble_eq_true rfl⟩) (zk_preS hK hN (hP.sub [] rfl) (hD.sub [] (by decide) rfl)) rfl rfl hl.1 rfl (lv_room (Nat.le_of_ble_eq_true rfl)) dX3_minus_7 ⟨Nat.zero_le _, Nat.zero_le _⟩) hP hD hS hA [] [] rfl rfl (by decide) (by decide) [] (wf := []) rfl (by decide) (fun H locs hP hD hS => ?_)
    refine lv_goto (tgt := 19) hx hb dX3_minus_10 (by decide) ?_
    obtain rfl := Option.some.inj h
    exact W.dret (v := o7) hx hb hr (fun t ht hW => ⟨⟨_, (), rfl, rfl, ⟨by rw [ht]; exact hP, hD⟩⟩, hS.F ht⟩) hS.2.2 dX3_minus_19
def f_X3_times (N : Nat) (x0 : UInt64) (x2 : UInt64) : Option (UInt64) := (f_X3_isLost N x0).bind fun o1 => if o1 = 0 then ((f_X3_isLost N x2).bind fun o8 => if o8 = 0 then ((f_X3_isEndless N x0).bind fun o15 => if o15 = 0 then (if (Op.cmpValue (FP.dcmp x0 FP.dconst0) .l) = 0 then ((f_X3_isEndless N x2).bind fun o34 => if o34 = 0 then (zk_n32 (FP.d2f x0) (zk_n32 (FP.d2f x2) (zk_n32 (FP.fmul (FP.d2f x0) (FP.d2f x2)) (zk_n64 (FP.f2d (FP.fmul (FP.d2f x0) (FP.d2f x2))) (some (FP.f2d (FP.fmul (FP.d2f x0) (FP.d2f x2)))))))) else ((f_X3_lost N).bind fun o40 => some o40)) else (zk_n32 (FP.d2f x0) (zk_n32 (FP.d2f x2) (zk_n32 (FP.fmul (FP.d2f x0) (FP.d2f x2)) (zk_n64 (FP.f2d (FP.fmul (FP.d2f x0) (FP.d2f x2))) (some (FP.f2d (FP.fmul (FP.d2f x0) (FP.d2f x2))))))))) else (if (Op.cmpValue (FP.dcmp x2 FP.dconst0) .l) = 0 then ((f_X3_lost N).bind fun o40 => some o40) else (if (Op.cmpValue (FP.dcmp x0 FP.dconst0) .l) = 0 then ((f_X3_isEndless N x2).bind fun o34 => if o34 = 0 then (zk_n32 (FP.d2f x0) (zk_n32 (FP.d2f x2) (zk_n32 (FP.fmul (FP.d2f x0) (FP.d2f x2)) (zk_n64 (FP.f2d (FP.fmul (FP.d2f x0) (FP.d2f x2))) (some (FP.f2d (FP.fmul (FP.d2f x0) (FP.d2f x2)))))))) else ((f_X3_lost N).bind fun o40 => some o40)) else (zk_n32 (FP.d2f x0) (zk_n32 (FP.d2f x2) (zk_n32 (FP.fmul (FP.d2f x0) (FP.d2f x2)) (zk_n64 (FP.f2d (FP.fmul (FP.d2f x0) (FP.d2f x2))) (some (FP.f2d (FP.fmul (FP.d2f x0) (FP.d2f x2))))))))))) else ((f_X3_lost N).bind fun o40 => some o40)) else ((f_X3_lost N).bind fun o40 => some o40)
set_option maxHeartbeats 8000000 in
set_option maxRecDepth 100000 in
theorem k_X3_times (l : Launch) (D : va_G) (T : Nat → ClassId) (N : Nat) (sz : Nat) (x0 : UInt64) (x2 : UInt64) (o : UInt64) (h : f_X3_times N x0 x2 = some o) : Met l yX3_times wsX3_times ({ frames := 2, cells := 0, slots := 0, locals := 40 } : Room) (zk_Pc D T [.double x0, .double x2] [] sz) (zk_Qd o D [] (va_A [] sz) (va_A [] sz)) 0 0 (va_A [] sz) := by
  refine Met.ofW (cc := cX3_times) (maxL := 4) (ret := (some .double)) (by decide) rfl ?_
  intro p e s m args below meth c s₁ B hml hv
  obtain ⟨rfl, hsz, hP, hK, hN, hD0⟩ := hv
  have hx := B.exec
  have hb := B.bytes
  have hr := B.returns
  have hts := atoms_spec (ws := wsX3_times) B.pre
  have hown : s.vm.findClass RX3 = some m.cls := findClass_of_methodNamed B.named
  have hlocks := B.notSynchronized
  subst hsz
  have hD := hD0.self (sz := s.heap.size)
  generalize hAe : va_A [] s.heap.size = A at hD ⊢
  have hA : ∀ q : Nat, s.heap.size ≤ q → A q := fun q h => by rw [← hAe]; exact Or.inr h
  have hS : va_S A s.heap s.heap [] := va_S.rf
  have hP : va_P D vwCl [] s.heap := hP
  have hl := lv_entry ([.double x0, .double x2]) (n := 4) (Nat.le_of_ble_eq_true rfl)
  rw [lg_entry_eq]
  generalize (lg_sl ([.double x0, .double x2]) ++ List.replicate (4 - (lg_sl ([.double x0, .double x2])).length) Slot.unset).toArray = ls at hl ⊢
  have hl : lv_has ls 4 [(0, .double x0), (2, .double x2)] := hl
  unfold f_X3_times at h
  refine lv_dload_n hx hb dX3_times_0 rfl (lv_at hl 0 rfl) ?_
  obtain ⟨o1, hc1, h⟩ := zk_bind h
  refine zk_ci (wr := []) (va_runS (As := [.double x0]) (rest := []) ⟨hx, hb, hml, hown, hts⟩ (k_X3_isLost l D T N  _  x0 o1 hc1) (va_cwS 1 hts gX3_times_X3_isLost rfl rfl rfl (by decide +kernel) ⟨Nat.le_of_ble_eq_true rfl, Nat.le_of_ble_eq_true rfl⟩) (zk_preS hK hN (hP.sub [] rfl) (hD.sub [] (by decide) rfl)) rfl rfl hl.1 rfl (lv_room (Nat.le_of_ble_eq_true rfl)) dX3_times_1 ⟨Nat.zero_le _, Nat.zero_le _⟩) hP hD hS hA [] [] rfl rfl (by decide) (by decide) [] (wf := []) rfl (by decide) (fun H locs hP hD hS => ?_)
  refine lv_if_ne (tgt := 40) hx hb dX3_times_4 (by decide) (fun c4 => ?_) (fun c4 => ?_)
  · replace h := (if_neg c4).symm.trans h
    obtain ⟨o40, hc40, h⟩ := zk_bind h
    refine zk_cd (wr := []) (va_runS (As := []) (rest := []) ⟨hx, hb, hml, hown, hts⟩ (k_X3_lost l D T N  _   o40 hc40) (va_cwS 0 hts gX3_times_X3_lost rfl rfl rfl (by decide +kernel) ⟨Nat.le_of_ble_eq_true rfl, Nat.le_of_ble_eq_true rfl⟩) (zk_preS hK hN (hP.sub [] rfl) (hD.sub [] (by decide) rfl)) rfl rfl hl.1 rfl (lv_room (Nat.le_of_ble_eq_true rfl)) dX3_times_40 ⟨Nat.zero_le _, Nat.zero_le _⟩) hP hD hS hA [] [] rfl rfl (by decide) (by decide) [] (wf := []) rfl (by decide) (fun H locs hP hD hS => ?_)
    obtain rfl := Option.some.inj h
    exact W.dret (v := o40) hx hb hr (fun t ht hW => ⟨⟨_, (), rfl, rfl, ⟨by rw [ht]; exact hP, hD⟩⟩, hS.F ht⟩) hS.2.2 dX3_times_43
  · replace h := (if_pos c4).symm.trans h
    refine lv_dload_n hx hb dX3_times_7 rfl (lv_at hl 1 rfl) ?_
    obtain ⟨o8, hc8, h⟩ := zk_bind h
    refine zk_ci (wr := []) (va_runS (As := [.double x2]) (rest := []) ⟨hx, hb, hml, hown, hts⟩ (k_X3_isLost l D T N  _  x2 o8 hc8) (va_cwS 1 hts gX3_times_X3_isLost rfl rfl rfl (by decide +kernel) ⟨Nat.le_of_ble_eq_true rfl, Nat.le_of_ble_eq_true rfl⟩) (zk_preS hK hN (hP.sub [] rfl) (hD.sub [] (by decide) rfl)) rfl rfl hl.1 rfl (lv_room (Nat.le_of_ble_eq_true rfl)) dX3_times_8 ⟨Nat.zero_le _, Nat.zero_le _⟩) hP hD hS hA [] [] rfl rfl (by decide) (by decide) [] (wf := []) rfl (by decide) (fun H locs hP hD hS => ?_)
    refine lv_if_ne (tgt := 40) hx hb dX3_times_11 (by decide) (fun c11 => ?_) (fun c11 => ?_)
    · replace h := (if_neg c11).symm.trans h
      obtain ⟨o40, hc40, h⟩ := zk_bind h
      refine zk_cd (wr := []) (va_runS (As := []) (rest := []) ⟨hx, hb, hml, hown, hts⟩ (k_X3_lost l D T N  _   o40 hc40) (va_cwS 0 hts gX3_times_X3_lost rfl rfl rfl (by decide +kernel) ⟨Nat.le_of_ble_eq_true rfl, Nat.le_of_ble_eq_true rfl⟩) (zk_preS hK hN (hP.sub [] rfl) (hD.sub [] (by decide) rfl)) rfl rfl hl.1 rfl (lv_room (Nat.le_of_ble_eq_true rfl)) dX3_times_40 ⟨Nat.zero_le _, Nat.zero_le _⟩) hP hD hS hA [] [] rfl rfl (by decide) (by decide) [] (wf := []) rfl (by decide) (fun H locs hP hD hS => ?_)
      obtain rfl := Option.some.inj h
      exact W.dret (v := o40) hx hb hr (fun t ht hW => ⟨⟨_, (), rfl, rfl, ⟨by rw [ht]; exact hP, hD⟩⟩, hS.F ht⟩) hS.2.2 dX3_times_43
    · replace h := (if_pos c11).symm.trans h
      refine lv_dload_n hx hb dX3_times_14 rfl (lv_at hl 0 rfl) ?_
      obtain ⟨o15, hc15, h⟩ := zk_bind h
      refine zk_ci (wr := []) (va_runS (As := [.double x0]) (rest := []) ⟨hx, hb, hml, hown, hts⟩ (k_X3_isEndless l D T N  _  x0 o15 hc15) (va_cwS 1 hts gX3_times_X3_isEndless rfl rfl rfl (by decide +kernel) ⟨Nat.le_of_ble_eq_true rfl, Nat.le_of_ble_eq_true rfl⟩) (zk_preS hK hN (hP.sub [] rfl) (hD.sub [] (by decide) rfl)) rfl rfl hl.1 rfl (lv_room (Nat.le_of_ble_eq_true rfl)) dX3_times_15 ⟨Nat.zero_le _, Nat.zero_le _⟩) hP hD hS hA [] [] rfl rfl (by decide) (by decide) [] (wf := []) rfl (by decide) (fun H locs hP hD hS => ?_)
      refine lv_if_eq (tgt := 27) hx hb dX3_times_18 (by decide) (fun c18 => ?_) (fun c18 => ?_)
      · replace h := (if_pos c18).symm.trans h
        refine lv_dload_n hx hb dX3_times_27 rfl (lv_at hl 0 rfl) ?_
        refine lv_dconst0 hx hb dX3_times_28 ?_
        refine lv_dcmp hx hb dX3_times_29 ?_
        refine lv_if_ne (tgt := 44) hx hb dX3_times_30 (by decide) (fun c30 => ?_) (fun c30 => ?_)
        · replace h := (if_neg c30).symm.trans h
          refine lv_dload_n hx hb dX3_times_44 rfl (lv_at hl 0 rfl) ?_
          obtain ⟨hz45, h⟩ := zk_n32_spec h
          refine lv_d2f hx hb dX3_times_45 hz45 ?_
          refine lv_dload_n hx hb dX3_times_46 rfl (lv_at hl 1 rfl) ?_
          obtain ⟨hz47, h⟩ := zk_n32_spec h
          refine lv_d2f hx hb dX3_times_47 hz47 ?_
          obtain ⟨hz48, h⟩ := zk_n32_spec h
          refine lv_fmul hx hb dX3_times_48 hz48 ?_
          obtain ⟨hz49, h⟩ := zk_n64_spec h
          refine lv_f2d hx hb dX3_times_49 hz49 ?_
          obtain rfl := Option.some.inj h
          exact W.dret (v := FP.f2d (FP.fmul (FP.d2f x0) (FP.d2f x2))) hx hb hr (fun t ht hW => ⟨⟨_, (), rfl, rfl, ⟨by rw [ht]; exact hP, hD⟩⟩, hS.F ht⟩) hS.2.2 dX3_times_50
        · replace h := (if_pos c30).symm.trans h
          refine lv_dload_n hx hb dX3_times_33 rfl (lv_at hl 1 rfl) ?_
          obtain ⟨o34, hc34, h⟩ := zk_bind h
          refine zk_ci (wr := []) (va_runS (As := [.double x2]) (rest := []) ⟨hx, hb, hml, hown, hts⟩ (k_X3_isEndless l D T N  _  x2 o34 hc34) (va_cwS 1 hts gX3_times_X3_isEndless rfl rfl rfl (by decide +kernel) ⟨Nat.le_of_ble_eq_true rfl, Nat.le_of_ble_eq_true rfl⟩) (zk_preS hK hN (hP.sub [] rfl) (hD.sub [] (by decide) rfl)) rfl rfl hl.1 rfl (lv_room (Nat.le_of_ble_eq_true rfl)) dX3_times_34 ⟨Nat.zero_le _, Nat.zero_le _⟩) hP hD hS hA [] [] rfl rfl (by decide) (by decide) [] (wf := []) rfl (by decide) (fun H locs hP hD hS => ?_)
          refine lv_if_eq (tgt := 44) hx hb dX3_times_37 (by decide) (fun c37 => ?_) (fun c37 => ?_)
          · replace h := (if_pos c37).symm.trans h
            refine lv_dload_n hx hb dX3_times_44 rfl (lv_at hl 0 rfl) ?_
            obtain ⟨hz45, h⟩ := zk_n32_spec h
            refine lv_d2f hx hb dX3_times_45 hz45 ?_
            refine lv_dload_n hx hb dX3_times_46 rfl (lv_at hl 1 rfl) ?_
            obtain ⟨hz47, h⟩ := zk_n32_spec h
            refine lv_d2f hx hb dX3_times_47 hz47 ?_
            obtain ⟨hz48, h⟩ := zk_n32_spec h
            refine lv_fmul hx hb dX3_times_48 hz48 ?_
            obtain ⟨hz49, h⟩ := zk_n64_spec h
            refine lv_f2d hx hb dX3_times_49 hz49 ?_
            obtain rfl := Option.some.inj h
            exact W.dret (v := FP.f2d (FP.fmul (FP.d2f x0) (FP.d2f x2))) hx hb hr (fun t ht hW => ⟨⟨_, (), rfl, rfl, ⟨by rw [ht]; exact hP, hD⟩⟩, hS.F ht⟩) hS.2.2 dX3_times_50
          · replace h := (if_neg c37).symm.trans h
            obtain ⟨o40, hc40, h⟩ := zk_bind h
            refine zk_cd (wr := []) (va_runS (As := []) (rest := []) ⟨hx, hb, hml, hown, hts⟩ (k_X3_lost l D T N  _   o40 hc40) (va_cwS 0 hts gX3_times_X3_lost rfl rfl rfl (by decide +kernel) ⟨Nat.le_of_ble_eq_true rfl, Nat.le_of_ble_eq_true rfl⟩) (zk_preS hK hN (hP.sub [] rfl) (hD.sub [] (by decide) rfl)) rfl rfl hl.1 rfl (lv_room (Nat.le_of_ble_eq_true rfl)) dX3_times_40 ⟨Nat.zero_le _, Nat.zero_le _⟩) hP hD hS hA [] [] rfl rfl (by decide) (by decide) [] (wf := []) rfl (by decide) (fun H locs hP hD hS => ?_)
            obtain rfl := Option.some.inj h
            exact W.dret (v := o40) hx hb hr (fun t ht hW => ⟨⟨_, (), rfl, rfl, ⟨by rw [ht]; exact hP, hD⟩⟩, hS.F ht⟩) hS.2.2 dX3_times_43
      · replace h := (if_neg c18).symm.trans h
        refine lv_dload_n hx hb dX3_times_21 rfl (lv_at hl 1 rfl) ?_
        refine lv_dconst0 hx hb dX3_times_22 ?_
        refine lv_dcmp hx hb dX3_times_23 ?_
        refine lv_if_eq (tgt := 40) hx hb dX3_times_24 (by decide) (fun c24 => ?_) (fun c24 => ?_)
        · replace h := (if_pos c24).symm.trans h
          obtain ⟨o40, hc40, h⟩ := zk_bind h
          refine zk_cd (wr := []) (va_runS (As := []) (rest := []) ⟨hx, hb, hml, hown, hts⟩ (k_X3_lost l D T N  _   o40 hc40) (va_cwS 0 hts gX3_times_X3_lost rfl rfl rfl (by decide +kernel) ⟨Nat.le_of_ble_eq_true rfl, Nat.le_of_ble_eq_true rfl⟩) (zk_preS hK hN (hP.sub [] rfl) (hD.sub [] (by decide) rfl)) rfl rfl hl.1 rfl (lv_room (Nat.le_of_ble_eq_true rfl)) dX3_times_40 ⟨Nat.zero_le _, Nat.zero_le _⟩) hP hD hS hA [] [] rfl rfl (by decide) (by decide) [] (wf := []) rfl (by decide) (fun H locs hP hD hS => ?_)
          obtain rfl := Option.some.inj h
          exact W.dret (v := o40) hx hb hr (fun t ht hW => ⟨⟨_, (), rfl, rfl, ⟨by rw [ht]; exact hP, hD⟩⟩, hS.F ht⟩) hS.2.2 dX3_times_43
        · replace h := (if_neg c24).symm.trans h
          refine lv_dload_n hx hb dX3_times_27 rfl (lv_at hl 0 rfl) ?_
          refine lv_dconst0 hx hb dX3_times_28 ?_
          refine lv_dcmp hx hb dX3_times_29 ?_
          refine lv_if_ne (tgt := 44) hx hb dX3_times_30 (by decide) (fun c30 => ?_) (fun c30 => ?_)
          · replace h := (if_neg c30).symm.trans h
            refine lv_dload_n hx hb dX3_times_44 rfl (lv_at hl 0 rfl) ?_
            obtain ⟨hz45, h⟩ := zk_n32_spec h
            refine lv_d2f hx hb dX3_times_45 hz45 ?_
            refine lv_dload_n hx hb dX3_times_46 rfl (lv_at hl 1 rfl) ?_
            obtain ⟨hz47, h⟩ := zk_n32_spec h
            refine lv_d2f hx hb dX3_times_47 hz47 ?_
            obtain ⟨hz48, h⟩ := zk_n32_spec h
            refine lv_fmul hx hb dX3_times_48 hz48 ?_
            obtain ⟨hz49, h⟩ := zk_n64_spec h
            refine lv_f2d hx hb dX3_times_49 hz49 ?_
            obtain rfl := Option.some.inj h
            exact W.dret (v := FP.f2d (FP.fmul (FP.d2f x0) (FP.d2f x2))) hx hb hr (fun t ht hW => ⟨⟨_, (), rfl, rfl, ⟨by rw [ht]; exact hP, hD⟩⟩, hS.F ht⟩) hS.2.2 dX3_times_50
          · replace h := (if_pos c30).symm.trans h
            refine lv_dload_n hx hb dX3_times_33 rfl (lv_at hl 1 rfl) ?_
            obtain ⟨o34, hc34, h⟩ := zk_bind h
            refine zk_ci (wr := []) (va_runS (As := [.double x2]) (rest := []) ⟨hx, hb, hml, hown, hts⟩ (k_X3_isEndless l D T N  _  x2 o34 hc34) (va_cwS 1 hts gX3_times_X3_isEndless rfl rfl rfl (by decide +kernel) ⟨Nat.le_of_ble_eq_true rfl, Nat.le_of_ble_eq_true rfl⟩) (zk_preS hK hN (hP.sub [] rfl) (hD.sub [] (by decide) rfl)) rfl rfl hl.1 rfl (lv_room (Nat.le_of_ble_eq_true rfl)) dX3_times_34 ⟨Nat.zero_le _, Nat.zero_le _⟩) hP hD hS hA [] [] rfl rfl (by decide) (by decide) [] (wf := []) rfl (by decide) (fun H locs hP hD hS => ?_)
            refine lv_if_eq (tgt := 44) hx hb dX3_times_37 (by decide) (fun c37 => ?_) (fun c37 => ?_)
            · replace h := (if_pos c37).symm.trans h
              refine lv_dload_n hx hb dX3_times_44 rfl (lv_at hl 0 rfl) ?_
              obtain ⟨hz45, h⟩ := zk_n32_spec h
              refine lv_d2f hx hb dX3_times_45 hz45 ?_
              refine lv_dload_n hx hb dX3_times_46 rfl (lv_at hl 1 rfl) ?_
              obtain ⟨hz47, h⟩ := zk_n32_spec h
              refine lv_d2f hx hb dX3_times_47 hz47 ?_
              obtain ⟨hz48, h⟩ := zk_n32_spec h
              refine lv_fmul hx hb dX3_times_48 hz48 ?_
              obtain ⟨hz49, h⟩ := zk_n64_spec h
              refine lv_f2d hx hb dX3_times_49 hz49 ?_
              obtain rfl := Option.some.inj h
              exact W.dret (v := FP.f2d (FP.fmul (FP.d2f x0) (FP.d2f x2))) hx hb hr (fun t ht hW => ⟨⟨_, (), rfl, rfl, ⟨by rw [ht]; exact hP, hD⟩⟩, hS.F ht⟩) hS.2.2 dX3_times_50
            · replace h := (if_neg c37).symm.trans h
              obtain ⟨o40, hc40, h⟩ := zk_bind h
              refine zk_cd (wr := []) (va_runS (As := []) (rest := []) ⟨hx, hb, hml, hown, hts⟩ (k_X3_lost l D T N  _   o40 hc40) (va_cwS 0 hts gX3_times_X3_lost rfl rfl rfl (by decide +kernel) ⟨Nat.le_of_ble_eq_true rfl, Nat.le_of_ble_eq_true rfl⟩) (zk_preS hK hN (hP.sub [] rfl) (hD.sub [] (by decide) rfl)) rfl rfl hl.1 rfl (lv_room (Nat.le_of_ble_eq_true rfl)) dX3_times_40 ⟨Nat.zero_le _, Nat.zero_le _⟩) hP hD hS hA [] [] rfl rfl (by decide) (by decide) [] (wf := []) rfl (by decide) (fun H locs hP hD hS => ?_)
              obtain rfl := Option.some.inj h
              exact W.dret (v := o40) hx hb hr (fun t ht hW => ⟨⟨_, (), rfl, rfl, ⟨by rw [ht]; exact hP, hD⟩⟩, hS.F ht⟩) hS.2.2 dX3_times_43
theorem iX3_has_X3 : ∀ w ∈ wsX30, w ∈ wsX3_has := by decide +kernel
def f_X3_has (N : Nat) (v_t_there : Nat → Int32) (x1 : Int32) : Option (Int32) := if x1 < 0 then (some (0 : Int32)) else (if (4 : Int32) ≤ x1 then (some (0 : Int32)) else (zk_g x1 4 (if (v_t_there x1.toNatClampNeg) = 0 then (some (0 : Int32)) else (some (1 : Int32)))))
set_option maxHeartbeats 8000000 in
set_option maxRecDepth 100000 in
theorem k_X3_has (l : Launch) (D : va_G) (T : Nat → ClassId) (N : Nat) (q_t q_t_there q_t_angles q_t_speeds : Nat) (sz : Nat) (v_t_stiffness : Int32) (v_t_pull : Int32) (v_t_there : Nat → Int32) (x1 : Int32) (o : Int32) (h : f_X3_has N v_t_there x1 = some o) : Met l yX3_has wsX3_has ({ frames := 0, cells := 0, slots := 0, locals := 0 } : Room) (zk_Pc D T [.ref q_t, .int x1] [(q_t, .inr (5, [.ref q_t_there, .ref q_t_angles, .ref q_t_speeds, .int v_t_stiffness, .int v_t_pull])), (q_t_there, .inl (T 1, 4, .inl v_t_there))] sz) (zk_Qi o D [(q_t, .inr (5, [.ref q_t_there, .ref q_t_angles, .ref q_t_speeds, .int v_t_stiffness, .int v_t_pull])), (q_t_there, .inl (T 1, 4, .inl v_t_there))] (va_A [(q_t, .inr (5, [.ref q_t_there, .ref q_t_angles, .ref q_t_speeds, .int v_t_stiffness, .int v_t_pull])), (q_t_there, .inl (T 1, 4, .inl v_t_there))] sz) (va_A [(q_t, .inr (5, [.ref q_t_there, .ref q_t_angles, .ref q_t_speeds, .int v_t_stiffness, .int v_t_pull])), (q_t_there, .inl (T 1, 4, .inl v_t_there))] sz)) 0 0 (va_A [(q_t, .inr (5, [.ref q_t_there, .ref q_t_angles, .ref q_t_speeds, .int v_t_stiffness, .int v_t_pull])), (q_t_there, .inl (T 1, 4, .inl v_t_there))] sz) := by
  refine Met.ofW (cc := cX3_has) (maxL := 2) (ret := (some .boolean)) (by decide) rfl ?_
  intro p e s m args below meth c s₁ B hml hv
  obtain ⟨rfl, hsz, hP, hK, hN, hD0⟩ := hv
  have hx := B.exec
  have hb := B.bytes
  have hr := B.returns
  have hts := atoms_spec (ws := wsX3_has) B.pre
  have hown : s.vm.findClass RX3 = some m.cls := findClass_of_methodNamed B.named
  have hlocks := B.notSynchronized
  subst hsz
  have hD := hD0.self (sz := s.heap.size)
  generalize hAe : va_A [(q_t, .inr (5, [.ref q_t_there, .ref q_t_angles, .ref q_t_speeds, .int v_t_stiffness, .int v_t_pull])), (q_t_there, .inl (T 1, 4, .inl v_t_there))] s.heap.size = A at hD ⊢
  have hA : ∀ q : Nat, s.heap.size ≤ q → A q := fun q h => by rw [← hAe]; exact Or.inr h
  have hS : va_S A s.heap s.heap [] := va_S.rf
  have hP : va_P D vwCl [(q_t, .inr (5, [.ref q_t_there, .ref q_t_angles, .ref q_t_speeds, .int v_t_stiffness, .int v_t_pull])), (q_t_there, .inl (T 1, 4, .inl v_t_there))] s.heap := hP
  have hl := lv_entry ([.ref q_t, .int x1]) (n := 2) (Nat.le_of_ble_eq_true rfl)
  rw [lg_entry_eq]
  generalize (lg_sl ([.ref q_t, .int x1]) ++ List.replicate (2 - (lg_sl ([.ref q_t, .int x1])).length) Slot.unset).toArray = ls at hl ⊢
  have hl : lv_has ls 2 [(0, .ref q_t), (1, .int x1)] := hl
  unfold f_X3_has at h
  refine lv_iload_n hx hb dX3_has_0 rfl (lv_at hl 1 rfl) ?_
  refine lv_if_lt (tgt := 22) hx hb dX3_has_1 (by decide) (fun c1 => ?_) (fun c1 => ?_)
  · replace h := (if_pos c1).symm.trans h
    refine lv_iconst (v := (0 : Int32)) hx hb dX3_has_22 (by decide) ?_
    obtain rfl := Option.some.inj h
    exact W.zret (v := (0 : Int32)) hx hb hr rfl (fun t ht hW => ⟨⟨_, (), rfl, rfl, ⟨by rw [ht]; exact hP, hD⟩⟩, hS.F ht⟩) hS.2.2 dX3_has_23
  · replace h := (if_neg c1).symm.trans h
    refine lv_iload_n hx hb dX3_has_4 rfl (lv_at hl 1 rfl) ?_
    refine lv_iconst (v := (4 : Int32)) hx hb dX3_has_5 (by decide) ?_
    refine lv_icmp_ge (tgt := 22) hx hb dX3_has_6 (by decide) (fun c6 => ?_) (fun c6 => ?_)
    · replace h := (if_pos c6).symm.trans h
      refine lv_iconst (v := (0 : Int32)) hx hb dX3_has_22 (by decide) ?_
      obtain rfl := Option.some.inj h
      exact W.zret (v := (0 : Int32)) hx hb hr rfl (fun t ht hW => ⟨⟨_, (), rfl, rfl, ⟨by rw [ht]; exact hP, hD⟩⟩, hS.F ht⟩) hS.2.2 dX3_has_23
    · replace h := (if_neg c6).symm.trans h
      refine lv_aload_n hx hb dX3_has_9 rfl (lv_at hl 0 rfl) ?_
      refine va_get (D := D) (ci := 5) (v := .ref q_t_there) (C := RX3) (T := TX3) (N := 5) hx hb hts iX3_has_X3 hown hK hP 0 rfl rfl 0 (by decide) (hts (.fieldLink RX3 9 "PulseMeadow$Swings" "there" "[Z") (by decide +kernel)) (fun _ h9 => h9) rfl dX3_has_10 ?_
      refine lv_iload_n hx hb dX3_has_13 rfl (lv_at hl 1 rfl) ?_
      obtain ⟨hb14, h⟩ := zk_g_spec h
      refine va_zald hx hb hK hP 1 1 rfl rfl hb14 dX3_has_14 ?_
      refine lv_if_eq (tgt := 22) hx hb dX3_has_15 (by decide) (fun c15 => ?_) (fun c15 => ?_)
      · replace h := (if_pos c15).symm.trans h
        refine lv_iconst (v := (0 : Int32)) hx hb dX3_has_22 (by decide) ?_
        obtain rfl := Option.some.inj h
        exact W.zret (v := (0 : Int32)) hx hb hr rfl (fun t ht hW => ⟨⟨_, (), rfl, rfl, ⟨by rw [ht]; exact hP, hD⟩⟩, hS.F ht⟩) hS.2.2 dX3_has_23
      · replace h := (if_neg c15).symm.trans h
        refine lv_iconst (v := (1 : Int32)) hx hb dX3_has_18 (by decide) ?_
        refine lv_goto (tgt := 23) hx hb dX3_has_19 (by decide) ?_
        obtain rfl := Option.some.inj h
        exact W.zret (v := (1 : Int32)) hx hb hr rfl (fun t ht hW => ⟨⟨_, (), rfl, rfl, ⟨by rw [ht]; exact hP, hD⟩⟩, hS.F ht⟩) hS.2.2 dX3_has_23
theorem iX3_put_X3 : ∀ w ∈ wsX30, w ∈ wsX3_put := by decide +kernel
def f_X3_put (N : Nat) (v_t_there : Nat → Int32) (v_t_angles : Nat → UInt64) (v_t_speeds : Nat → UInt64) (x1 : Int32) (x2 : UInt32) : Option (Int32 × (Nat → Int32) × (Nat → UInt64) × (Nat → UInt64)) := if x1 < 0 then (some ((0 : Int32), v_t_there, v_t_angles, v_t_speeds)) else (if x1 < (4 : Int32) then (zk_g x1 4 (zk_g x1 4 (zk_n64 (FP.f2d x2) (zk_g x1 4 (zk_g x1 4 (zk_bo (v_t_there x1.toNatClampNeg) (some (v_t_there x1.toNatClampNeg, upd v_t_there x1.toNatClampNeg (vp_nar .boolean (1 : Int32)), vf_upd v_t_angles x1.toNatClampNeg (FP.f2d x2), vf_upd v_t_speeds x1.toNatClampNeg FP.dconst0)))))))) else (some ((0 : Int32), v_t_there, v_t_angles, v_t_speeds)))
set_option maxHeartbeats 8000000 in
set_option maxRecDepth 100000 in
theorem k_X3_put (l : Launch) (D : va_G) (T : Nat → ClassId) (N : Nat) (q_t q_t_there q_t_angles q_t_speeds : Nat) (sz : Nat) (v_t_stiffness : Int32) (v_t_pull : Int32) (v_t_there : Nat → Int32) (v_t_angles : Nat → UInt64) (v_t_speeds : Nat → UInt64) (x1 : Int32) (x2 : UInt32) (o : Int32 × (Nat → Int32) × (Nat → UInt64) × (Nat → UInt64)) (h : f_X3_put N v_t_there v_t_angles v_t_speeds x1 x2 = some o) : Met l yX3_put wsX3_put ({ frames := 0, cells := 0, slots := 0, locals := 0 } : Room) (zk_Pc D T [.ref q_t, .int x1, .float x2] [(q_t, .inr (5, [.ref q_t_there, .ref q_t_angles, .ref q_t_speeds, .int v_t_stiffness, .int v_t_pull])), (q_t_there, .inl (T 1, 4, .inl v_t_there)), (q_t_angles, .inl (T 4, 4, .inr (.inr (.inr (.inl v_t_angles))))), (q_t_speeds, .inl (T 4, 4, .inr (.inr (.inr (.inl v_t_speeds)))))] sz) (zk_Qi o.1 D [(q_t, .inr (5, [.ref q_t_there, .ref q_t_angles, .ref q_t_speeds, .int v_t_stiffness, .int v_t_pull])), (q_t_there, .inl (T 1, 4, .inl o.2.1)), (q_t_angles, .inl (T 4, 4, .inr (.inr (.inr (.inl o.2.2.1))))), (q_t_speeds, .inl (T 4, 4, .inr (.inr (.inr (.inl o.2.2.2)))))] (va_A [(q_t, .inr (5, [.ref q_t_there, .ref q_t_angles, .ref q_t_speeds, .int v_t_stiffness, .int v_t_pull])), (q_t_there, .inl (T 1, 4, .inl v_t_there)), (q_t_angles, .inl (T 4, 4, .inr (.inr (.inr (.inl v_t_angles))))), (q_t_speeds, .inl (T 4, 4, .inr (.inr (.inr (.inl v_t_speeds)))))] sz) (va_A [(q_t, .inr (5, [.ref q_t_there, .ref q_t_angles, .ref q_t_speeds, .int v_t_stiffness, .int v_t_pull])), (q_t_there, .inl (T 1, 4, .inl v_t_there)), (q_t_angles, .inl (T 4, 4, .inr (.inr (.inr (.inl v_t_angles))))), (q_t_speeds, .inl (T 4, 4, .inr (.inr (.inr (.inl v_t_speeds)))))] sz)) 0 0 (va_A [(q_t, .inr (5, [.ref q_t_there, .ref q_t_angles, .ref q_t_speeds, .int v_t_stiffness, .int v_t_pull])), (q_t_there, .inl (T 1, 4, .inl v_t_there)), (q_t_angles, .inl (T 4, 4, .inr (.inr (.inr (.inl v_t_angles))))), (q_t_speeds, .inl (T 4, 4, .inr (.inr (.inr (.inl v_t_speeds)))))] sz) := by
  refine Met.ofW (cc := cX3_put) (maxL := 4) (ret := (some .boolean)) (by decide) rfl ?_
  intro p e s m args below meth c s₁ B hml hv
  obtain ⟨rfl, hsz, hP, hK, hN, hD0⟩ := hv
  have hx := B.exec
  have hb := B.bytes
  have hr := B.returns
  have hts := atoms_spec (ws := wsX3_put) B.pre
  have hown : s.vm.findClass RX3 = some m.cls := findClass_of_methodNamed B.named
  have hlocks := B.notSynchronized
  subst hsz
  have hD := hD0.self (sz := s.heap.size)
  generalize hAe : va_A [(q_t, .inr (5, [.ref q_t_there, .ref q_t_angles, .ref q_t_speeds, .int v_t_stiffness, .int v_t_pull])), (q_t_there, .inl (T 1, 4, .inl v_t_there)), (q_t_angles, .inl (T 4, 4, .inr (.inr (.inr (.inl v_t_angles))))), (q_t_speeds, .inl (T 4, 4, .inr (.inr (.inr (.inl v_t_speeds)))))] s.heap.size = A at hD ⊢
  have hA : ∀ q : Nat, s.heap.size ≤ q → A q := fun q h => by rw [← hAe]; exact Or.inr h
  have hS : va_S A s.heap s.heap [] := va_S.rf
  have hP : va_P D vwCl [(q_t, .inr (5, [.ref q_t_there, .ref q_t_angles, .ref q_t_speeds, .int v_t_stiffness, .int v_t_pull])), (q_t_there, .inl (T 1, 4, .inl v_t_there)), (q_t_angles, .inl (T 4, 4, .inr (.inr (.inr (.inl v_t_angles))))), (q_t_speeds, .inl (T 4, 4, .inr (.inr (.inr (.inl v_t_speeds)))))] s.heap := hP
  have hl := lv_entry ([.ref q_t, .int x1, .float x2]) (n := 4) (Nat.le_of_ble_eq_true rfl)
  rw [lg_entry_eq]
  generalize (lg_sl ([.ref q_t, .int x1, .float x2]) ++ List.replicate (4 - (lg_sl ([.ref q_t, .int x1, .float x2])).length) Slot.unset).toArray = ls at hl ⊢
  have hl : lv_has ls 4 [(0, .ref q_t), (1, .int x1), (2, .float x2)] := hl
  unfold f_X3_put at h
  refine lv_iload_n hx hb dX3_put_0 rfl (lv_at hl 1 rfl) ?_
  refine lv_if_lt (tgt := 9) hx hb dX3_put_1 (by decide) (fun c1 => ?_) (fun c1 => ?_)
  · replace h := (if_pos c1).symm.trans h
    refine lv_iconst (v := (0 : Int32)) hx hb dX3_put_9 (by decide) ?_
    obtain rfl := Option.some.inj h
    exact W.zret (v := (0 : Int32)) hx hb hr rfl (fun t ht hW => ⟨⟨_, (), rfl, rfl, ⟨by rw [ht]; exact hP, hD⟩⟩, hS.F ht⟩) hS.2.2 dX3_put_10
  · replace h := (if_neg c1).symm.trans h
    refine lv_iload_n hx hb dX3_put_4 rfl (lv_at hl 1 rfl) ?_
    refine lv_iconst (v := (4 : Int32)) hx hb dX3_put_5 (by decide) ?_
    refine lv_icmp_lt (tgt := 11) hx hb dX3_put_6 (by decide) (fun c6 => ?_) (fun c6 => ?_)
    · replace h := (if_pos c6).symm.trans h
      refine lv_aload_n hx hb dX3_put_11 rfl (lv_at hl 0 rfl) ?_
      refine va_get (D := D) (ci := 5) (v := .ref q_t_there) (C := RX3) (T := TX3) (N := 5) hx hb hts iX3_put_X3 hown hK hP 0 rfl rfl 0 (by decide) (hts (.fieldLink RX3 9 "PulseMeadow$Swings" "there" "[Z") (by decide +kernel)) (fun _ h9 => h9) rfl dX3_put_12 ?_
      refine lv_iload_n hx hb dX3_put_15 rfl (lv_at hl 1 rfl) ?_
      obtain ⟨hb16, h⟩ := zk_g_spec h
      refine va_zald hx hb hK hP 1 1 rfl rfl hb16 dX3_put_16 ?_
      refine lv_istore_n (lv' := [(3, .int (v_t_there x1.toNatClampNeg)), (0, .ref q_t), (1, .int x1), (2, .float x2)]) hx hb dX3_put_17 rfl hl (by decide) rfl (fun ls hl => ?_)
      refine lv_aload_n hx hb dX3_put_18 rfl (lv_at hl 1 rfl) ?_
      refine va_get (D := D) (ci := 5) (v := .ref q_t_there) (C := RX3) (T := TX3) (N := 5) hx hb hts iX3_put_X3 hown hK hP 0 rfl rfl 0 (by decide) (hts (.fieldLink RX3 9 "PulseMeadow$Swings" "there" "[Z") (by decide +kernel)) (fun _ h9 => h9) rfl dX3_put_19 ?_
      refine lv_iload_n hx hb dX3_put_22 rfl (lv_at hl 2 rfl) ?_
      refine lv_iconst (v := (1 : Int32)) hx hb dX3_put_23 (by decide) ?_
      obtain ⟨hb24, h⟩ := zk_g_spec h
      refine va_zast hx hb hK hP hD hS 1 1 rfl rfl hb24 dX3_put_24 (fun H locs hP hD hS => ?_)
      have hP : va_P D vwCl [(q_t, .inr (5, [.ref q_t_there, .ref q_t_angles, .ref q_t_speeds, .int v_t_stiffness, .int v_t_pull])), (q_t_there, .inl (T 1, 4, .inl (upd v_t_there x1.toNatClampNeg (vp_nar .boolean (1 : Int32))))), (q_t_angles, .inl (T 4, 4, .inr (.inr (.inr (.inl v_t_angles))))), (q_t_speeds, .inl (T 4, 4, .inr (.inr (.inr (.inl v_t_speeds)))))] H := hP
      have hD : va_D A [(q_t, .inr (5, [.ref q_t_there, .ref q_t_angles, .ref q_t_speeds, .int v_t_stiffness, .int v_t_pull])), (q_t_there, .inl (T 1, 4, .inl (upd v_t_there x1.toNatClampNeg (vp_nar .boolean (1 : Int32))))), (q_t_angles, .inl (T 4, 4, .inr (.inr (.inr (.inl v_t_angles))))), (q_t_speeds, .inl (T 4, 4, .inr (.inr (.inr (.inl v_t_speeds)))))] := hD
      refine lv_aload_n hx hb dX3_put_25 rfl (lv_at hl 1 rfl) ?_
      refine va_get (D := D) (ci := 5) (v := .ref q_t_angles) (C := RX3) (T := TX3) (N := 5) hx hb hts iX3_put_X3 hown hK hP 0 rfl rfl 1 (by decide) (hts (.fieldLink RX3 15 "PulseMeadow$Swings" "angles" "[D") (by decide +kernel)) (fun _ h9 => h9) rfl dX3_put_26 ?_
      refine lv_iload_n hx hb dX3_put_29 rfl (lv_at hl 2 rfl) ?_
      refine lv_fload_n hx hb dX3_put_30 rfl (lv_at hl 3 rfl) ?_
      obtain ⟨hz31, h⟩ := zk_n64_spec h
      refine lv_f2d hx hb dX3_put_31 hz31 ?_
      obtain ⟨hb32, h⟩ := zk_g_spec h
      refine va_dast hx hb hK hP hD hS 2 4 rfl rfl hb32 dX3_put_32 (fun H locs hP hD hS => ?_)
      have hP : va_P D vwCl [(q_t, .inr (5, [.ref q_t_there, .ref q_t_angles, .ref q_t_speeds, .int v_t_stiffness, .int v_t_pull])), (q_t_there, .inl (T 1, 4, .inl (upd v_t_there x1.toNatClampNeg (vp_nar .boolean (1 : Int32))))), (q_t_angles, .inl (T 4, 4, .inr (.inr (.inr (.inl (vf_upd v_t_angles x1.toNatClampNeg (FP.f2d x2))))))), (q_t_speeds, .inl (T 4, 4, .inr (.inr (.inr (.inl v_t_speeds)))))] H := hP
      have hD : va_D A [(q_t, .inr (5, [.ref q_t_there, .ref q_t_angles, .ref q_t_speeds, .int v_t_stiffness, .int v_t_pull])), (q_t_there, .inl (T 1, 4, .inl (upd v_t_there x1.toNatClampNeg (vp_nar .boolean (1 : Int32))))), (q_t_angles, .inl (T 4, 4, .inr (.inr (.inr (.inl (vf_upd v_t_angles x1.toNatClampNeg (FP.f2d x2))))))), (q_t_speeds, .inl (T 4, 4, .inr (.inr (.inr (.inl v_t_speeds)))))] := hD
      refine lv_aload_n hx hb dX3_put_33 rfl (lv_at hl 1 rfl) ?_
      refine va_get (D := D) (ci := 5) (v := .ref q_t_speeds) (C := RX3) (T := TX3) (N := 5) hx hb hts iX3_put_X3 hown hK hP 0 rfl rfl 2 (by decide) (hts (.fieldLink RX3 19 "PulseMeadow$Swings" "speeds" "[D") (by decide +kernel)) (fun _ h9 => h9) rfl dX3_put_34 ?_
      refine lv_iload_n hx hb dX3_put_37 rfl (lv_at hl 2 rfl) ?_
      refine lv_dconst0 hx hb dX3_put_38 ?_
      obtain ⟨hb39, h⟩ := zk_g_spec h
      refine va_dast hx hb hK hP hD hS 3 4 rfl rfl hb39 dX3_put_39 (fun H locs hP hD hS => ?_)
      have hP : va_P D vwCl [(q_t, .inr (5, [.ref q_t_there, .ref q_t_angles, .ref q_t_speeds, .int v_t_stiffness, .int v_t_pull])), (q_t_there, .inl (T 1, 4, .inl (upd v_t_there x1.toNatClampNeg (vp_nar .boolean (1 : Int32))))), (q_t_angles, .inl (T 4, 4, .inr (.inr (.inr (.inl (vf_upd v_t_angles x1.toNatClampNeg (FP.f2d x2))))))), (q_t_speeds, .inl (T 4, 4, .inr (.inr (.inr (.inl (vf_upd v_t_speeds x1.toNatClampNeg FP.dconst0))))))] H := hP
      have hD : va_D A [(q_t, .inr (5, [.ref q_t_there, .ref q_t_angles, .ref q_t_speeds, .int v_t_stiffness, .int v_t_pull])), (q_t_there, .inl (T 1, 4, .inl (upd v_t_there x1.toNatClampNeg (vp_nar .boolean (1 : Int32))))), (q_t_angles, .inl (T 4, 4, .inr (.inr (.inr (.inl (vf_upd v_t_angles x1.toNatClampNeg (FP.f2d x2))))))), (q_t_speeds, .inl (T 4, 4, .inr (.inr (.inr (.inl (vf_upd v_t_speeds x1.toNatClampNeg FP.dconst0))))))] := hD
      refine lv_iload_n hx hb dX3_put_40 rfl (lv_at hl 0 rfl) ?_
      obtain ⟨hz41, h⟩ := zk_bo_spec h
      obtain rfl := Option.some.inj h
      exact W.zret (v := v_t_there x1.toNatClampNeg) hx hb hr (zk_bo_nar hz41) (fun t ht hW => ⟨⟨_, (), rfl, rfl, ⟨by rw [ht]; exact hP, hD⟩⟩, hS.F ht⟩) hS.2.2 dX3_put_41
    · replace h := (if_neg c6).symm.trans h
      refine lv_iconst (v := (0 : Int32)) hx hb dX3_put_9 (by decide) ?_
      obtain rfl := Option.some.inj h
      exact W.zret (v := (0 : Int32)) hx hb hr rfl (fun t ht hW => ⟨⟨_, (), rfl, rfl, ⟨by rw [ht]; exact hP, hD⟩⟩, hS.F ht⟩) hS.2.2 dX3_put_10
theorem iX3_count_X3 : ∀ w ∈ wsX30, w ∈ wsX3_count := by decide +kernel
def f_X3_count_4 (N : Nat) (v_t_there : Nat → Int32) : Nat → Int32 → Int32 → Option (Int32 × Int32)
  | 0, _, _ => none
  | n + 1, x1, x2 => if (4 : Int32) ≤ x2 then (some (x1, x2)) else (zk_g x2 4 (if (v_t_there x2.toNatClampNeg) = 0 then (f_X3_count_4 N v_t_there n x1 (x2 + (1 : Int32))) else (f_X3_count_4 N v_t_there n (x1 + (1 : Int32)) (x2 + (1 : Int32)))))
set_option maxHeartbeats 8000000 in
set_option maxRecDepth 100000 in
theorem l_X3_count_4 {p : Program} {l : Launch} {e : Env} {s : State} {m : MethodId} {args : Array Value} {below : List Frame} {meth : Method} {c : Code} {Q : State → Prop} {A : Nat → Prop} {D : va_G} {T : Nat → ClassId} (N : Nat) (hx : p.tables.exec = Jvm.exec) (hb : c.code = cX3_count) (hml : c.maxLocals = 3) (hown : s.vm.findClass RX3 = some m.cls) (hts : ∀ w ∈ wsX3_count, w.before args s = true) (hA : ∀ q : Nat, s.heap.size ≤ q → A q) (hK : va_K D vwCl (zk_ty T) s) (hN : zk_N s) (q_t q_t_there q_t_angles q_t_speeds : Nat) (v_t_stiffness : Int32) (v_t_pull : Int32) (v_t_there : Nat → Int32) :
    ∀ (n : Nat) (x1 : Int32) (x2 : Int32) (o : Int32 × Int32), f_X3_count_4 N v_t_there n x1 x2 = some o → ∀ (H : Heap) (locs : List Loc) (ls : Array Slot), va_P D vwCl [(q_t, .inr (5, [.ref q_t_there, .ref q_t_angles, .ref q_t_speeds, .int v_t_stiffness, .int v_t_pull])), (q_t_there, .inl (T 1, 4, .inl v_t_there))] H → va_D A [(q_t, .inr (5, [.ref q_t_there, .ref q_t_angles, .ref q_t_speeds, .int v_t_stiffness, .int v_t_pull])), (q_t_there, .inl (T 1, 4, .inl v_t_there))] → va_S A s.heap H locs → lv_has ls 3 [(0, .ref q_t), (1, .int x1), (2, .int x2)] → (∀ (H : Heap) (locs : List Loc) (ls : Array Slot), va_P D vwCl [(q_t, .inr (5, [.ref q_t_there, .ref q_t_angles, .ref q_t_speeds, .int v_t_stiffness, .int v_t_pull])), (q_t_there, .inl (T 1, 4, .inl v_t_there))] H → va_D A [(q_t, .inr (5, [.ref q_t_there, .ref q_t_angles, .ref q_t_speeds, .int v_t_stiffness, .int v_t_pull])), (q_t_there, .inl (T 1, 4, .inl v_t_there))] → va_S A s.heap H locs → lv_has ls 3 [(1, .int o.1)] → W p l e ({ frames := 0, cells := 0, slots := 0, locals := 0 } : Room) s m args below meth c H locs 0 0 Q (F0 m 27 ls [])) → W p l e ({ frames := 0, cells := 0, slots := 0, locals := 0 } : Room) s m args below meth c H locs 0 0 Q (F0 m 4 ls []) := by
  intro n
  induction n with
  | zero => intro x1 x2 o h; exact absurd h (by simp [f_X3_count_4])
  | succ n ih =>
    intro x1 x2 o h H locs ls hP hD hS hl kx0
    rw [f_X3_count_4] at h
    refine lv_iload_n hx hb dX3_count_4 rfl (lv_at hl 2 rfl) ?_
    refine lv_iconst (v := (4 : Int32)) hx hb dX3_count_5 (by decide) ?_
    refine lv_icmp_ge (tgt := 27) hx hb dX3_count_6 (by decide) (fun c6 => ?_) (fun c6 => ?_)
    · replace h := (if_pos c6).symm.trans h
      obtain rfl := Option.some.inj h
      exact kx0 _ _ _ hP hD hS (lv_sub hl [1] rfl)
    · replace h := (if_neg c6).symm.trans h
      refine lv_aload_n hx hb dX3_count_9 rfl (lv_at hl 0 rfl) ?_
      refine va_get (D := D) (ci := 5) (v := .ref q_t_there) (C := RX3) (T := TX3) (N := 5) hx hb hts iX3_count_X3 hown hK hP 0 rfl rfl 0 (by decide) (hts (.fieldLink RX3 9 "PulseMeadow$Swings" "there" "[Z") (by decide +kernel)) (fun _ h9 => h9) rfl dX3_count_10 ?_
      refine lv_iload_n hx hb dX3_count_13 rfl (lv_at hl 2 rfl) ?_
      obtain ⟨hb14, h⟩ := zk_g_spec h
      refine va_zald hx hb hK hP 1 1 rfl rfl hb14 dX3_count_14 ?_
      refine lv_if_eq (tgt := 21) hx hb dX3_count_15 (by decide) (fun c15 => ?_) (fun c15 => ?_)
      · replace h := (if_pos c15).symm.trans h
        refine lv_iinc (v := x2 + (1 : Int32)) (lv' := [(2, .int (x2 + (1 : Int32))), (0, .ref q_t), (1, .int x1)]) hx hb dX3_count_21 hl (k := 2) rfl rfl (by decide) rfl (fun ls hl => ?_)
        refine lv_goto (tgt := 4) hx hb dX3_count_24 (by decide) ?_
        exact ih x1 (x2 + (1 : Int32)) o h _ _ _ hP hD hS (lv_sub hl [1, 2, 0] rfl) kx0
      · replace h := (if_neg c15).symm.trans h
        refine lv_iinc (v := x1 + (1 : Int32)) (lv' := [(1, .int (x1 + (1 : Int32))), (0, .ref q_t), (2, .int x2)]) hx hb dX3_count_18 hl (k := 1) rfl rfl (by decide) rfl (fun ls hl => ?_)
        refine lv_iinc (v := x2 + (1 : Int32)) (lv' := [(2, .int (x2 + (1 : Int32))), (1, .int (x1 + (1 : Int32))), (0, .ref q_t)]) hx hb dX3_count_21 hl (k := 2) rfl rfl (by decide) rfl (fun ls hl => ?_)
        refine lv_goto (tgt := 4) hx hb dX3_count_24 (by decide) ?_
        exact ih (x1 + (1 : Int32)) (x2 + (1 : Int32)) o h _ _ _ hP hD hS (lv_sub hl [2, 1, 0] rfl) kx0
def f_X3_count (N : Nat) (v_t_there : Nat → Int32) : Option (Int32) := (f_X3_count_4 N v_t_there N (0 : Int32) (0 : Int32)).bind fun o4 => some o4.1
set_option maxHeartbeats 8000000 in
set_option maxRecDepth 100000 in
theorem k_X3_count (l : Launch) (D : va_G) (T : Nat → ClassId) (N : Nat) (q_t q_t_there q_t_angles q_t_speeds : Nat) (sz : Nat) (v_t_stiffness : Int32) (v_t_pull : Int32) (v_t_there : Nat → Int32) (o : Int32) (h : f_X3_count N v_t_there = some o) : Met l yX3_count wsX3_count ({ frames := 0, cells := 0, slots := 0, locals := 0 } : Room) (zk_Pc D T [.ref q_t] [(q_t, .inr (5, [.ref q_t_there, .ref q_t_angles, .ref q_t_speeds, .int v_t_stiffness, .int v_t_pull])), (q_t_there, .inl (T 1, 4, .inl v_t_there))] sz) (zk_Qi o D [(q_t, .inr (5, [.ref q_t_there, .ref q_t_angles, .ref q_t_speeds, .int v_t_stiffness, .int v_t_pull])), (q_t_there, .inl (T 1, 4, .inl v_t_there))] (va_A [(q_t, .inr (5, [.ref q_t_there, .ref q_t_angles, .ref q_t_speeds, .int v_t_stiffness, .int v_t_pull])), (q_t_there, .inl (T 1, 4, .inl v_t_there))] sz) (va_A [(q_t, .inr (5, [.ref q_t_there, .ref q_t_angles, .ref q_t_speeds, .int v_t_stiffness, .int v_t_pull])), (q_t_there, .inl (T 1, 4, .inl v_t_there))] sz)) 0 0 (va_A [(q_t, .inr (5, [.ref q_t_there, .ref q_t_angles, .ref q_t_speeds, .int v_t_stiffness, .int v_t_pull])), (q_t_there, .inl (T 1, 4, .inl v_t_there))] sz) := by
  refine Met.ofW (cc := cX3_count) (maxL := 3) (ret := (some .int)) (by decide) rfl ?_
  intro p e s m args below meth c s₁ B hml hv
  obtain ⟨rfl, hsz, hP, hK, hN, hD0⟩ := hv
  have hx := B.exec
  have hb := B.bytes
  have hr := B.returns
  have hts := atoms_spec (ws := wsX3_count) B.pre
  have hown : s.vm.findClass RX3 = some m.cls := findClass_of_methodNamed B.named
  have hlocks := B.notSynchronized
  subst hsz
  have hD := hD0.self (sz := s.heap.size)
  generalize hAe : va_A [(q_t, .inr (5, [.ref q_t_there, .ref q_t_angles, .ref q_t_speeds, .int v_t_stiffness, .int v_t_pull])), (q_t_there, .inl (T 1, 4, .inl v_t_there))] s.heap.size = A at hD ⊢
  have hA : ∀ q : Nat, s.heap.size ≤ q → A q := fun q h => by rw [← hAe]; exact Or.inr h
  have hS : va_S A s.heap s.heap [] := va_S.rf
  have hP : va_P D vwCl [(q_t, .inr (5, [.ref q_t_there, .ref q_t_angles, .ref q_t_speeds, .int v_t_stiffness, .int v_t_pull])), (q_t_there, .inl (T 1, 4, .inl v_t_there))] s.heap := hP
  have hl := lv_entry ([.ref q_t]) (n := 3) (Nat.le_of_ble_eq_true rfl)
  rw [lg_entry_eq]
  generalize (lg_sl ([.ref q_t]) ++ List.replicate (3 - (lg_sl ([.ref q_t])).length) Slot.unset).toArray = ls at hl ⊢
  have hl : lv_has ls 3 [(0, .ref q_t)] := hl
  unfold f_X3_count at h
  refine lv_iconst (v := (0 : Int32)) hx hb dX3_count_0 (by decide) ?_
  refine lv_istore_n (lv' := [(1, .int (0 : Int32)), (0, .ref q_t)]) hx hb dX3_count_1 rfl hl (by decide) rfl (fun ls hl => ?_)
  refine lv_iconst (v := (0 : Int32)) hx hb dX3_count_2 (by decide) ?_
  refine lv_istore_n (lv' := [(2, .int (0 : Int32)), (1, .int (0 : Int32)), (0, .ref q_t)]) hx hb dX3_count_3 rfl hl (by decide) rfl (fun ls hl => ?_)
  obtain ⟨o4, hc4, h⟩ := zk_bind h
  refine l_X3_count_4 N hx hb hml hown hts hA hK hN q_t q_t_there q_t_angles q_t_speeds v_t_stiffness v_t_pull v_t_there N (0 : Int32) (0 : Int32) o4 hc4 _ _ _ hP hD hS (lv_sub hl [2, 1, 0] rfl) (fun H locs ls hP hD hS hl => ?_)
  refine lv_iload_n hx hb dX3_count_27 rfl (lv_at hl 0 rfl) ?_
  obtain rfl := Option.some.inj h
  exact W.iret (v := o4.1) hx hb hr (fun t ht hW => ⟨⟨_, (), rfl, rfl, ⟨by rw [ht]; exact hP, hD⟩⟩, hS.F ht⟩) hS.2.2 dX3_count_28
theorem iX3_meanAngle_X3 : ∀ w ∈ wsX30, w ∈ wsX3_meanAngle := by decide +kernel
def f_X3_meanAngle_4 (N : Nat) (v_t_there : Nat → Int32) (v_t_angles : Nat → UInt64) : Nat → UInt64 → Int32 → Option (UInt64 × Int32)
  | 0, _, _ => none
  | n + 1, x1, x3 => if (4 : Int32) ≤ x3 then (some (x1, x3)) else (zk_g x3 4 (if (v_t_there x3.toNatClampNeg) = 0 then (f_X3_meanAngle_4 N v_t_there v_t_angles n x1 (x3 + (1 : Int32))) else (zk_g x3 4 ((f_X3_plus N x1 (v_t_angles x3.toNatClampNeg)).bind fun o25 => f_X3_meanAngle_4 N v_t_there v_t_angles n o25 (x3 + (1 : Int32))))))
set_option maxHeartbeats 8000000 in
set_option maxRecDepth 100000 in
theorem l_X3_meanAngle_4 {p : Program} {l : Launch} {e : Env} {s : State} {m : MethodId} {args : Array Value} {below : List Frame} {meth : Method} {c : Code} {Q : State → Prop} {A : Nat → Prop} {D : va_G} {T : Nat → ClassId} (N : Nat) (hx : p.tables.exec = Jvm.exec) (hb : c.code = cX3_meanAngle) (hml : c.maxLocals = 4) (hown : s.vm.findClass RX3 = some m.cls) (hts : ∀ w ∈ wsX3_meanAngle, w.before args s = true) (hA : ∀ q : Nat, s.heap.size ≤ q → A q) (hK : va_K D vwCl (zk_ty T) s) (hN : zk_N s) (q_t q_t_there q_t_angles q_t_speeds : Nat) (v_t_stiffness : Int32) (v_t_pull : Int32) (v_t_there : Nat → Int32) (v_t_angles : Nat → UInt64) :
    ∀ (n : Nat) (x1 : UInt64) (x3 : Int32) (o : UInt64 × Int32), f_X3_meanAngle_4 N v_t_there v_t_angles n x1 x3 = some o → ∀ (H : Heap) (locs : List Loc) (ls : Array Slot), va_P D vwCl [(q_t, .inr (5, [.ref q_t_there, .ref q_t_angles, .ref q_t_speeds, .int v_t_stiffness, .int v_t_pull])), (q_t_there, .inl (T 1, 4, .inl v_t_there)), (q_t_angles, .inl (T 4, 4, .inr (.inr (.inr (.inl v_t_angles)))))] H → va_D A [(q_t, .inr (5, [.ref q_t_there, .ref q_t_angles, .ref q_t_speeds, .int v_t_stiffness, .int v_t_pull])), (q_t_there, .inl (T 1, 4, .inl v_t_there)), (q_t_angles, .inl (T 4, 4, .inr (.inr (.inr (.inl v_t_angles)))))] → va_S A s.heap H locs → lv_has ls 4 [(0, .ref q_t), (1, .double x1), (3, .int x3)] → (∀ (H : Heap) (locs : List Loc) (ls : Array Slot), va_P D vwCl [(q_t, .inr (5, [.ref q_t_there, .ref q_t_angles, .ref q_t_speeds, .int v_t_stiffness, .int v_t_pull])), (q_t_there, .inl (T 1, 4, .inl v_t_there)), (q_t_angles, .inl (T 4, 4, .inr (.inr (.inr (.inl v_t_angles)))))] H → va_D A [(q_t, .inr (5, [.ref q_t_there, .ref q_t_angles, .ref q_t_speeds, .int v_t_stiffness, .int v_t_pull])), (q_t_there, .inl (T 1, 4, .inl v_t_there)), (q_t_angles, .inl (T 4, 4, .inr (.inr (.inr (.inl v_t_angles)))))] → va_S A s.heap H locs → lv_has ls 4 [(0, .ref q_t), (1, .double o.1)] → W p l e ({ frames := 3, cells := 0, slots := 0, locals := 63 } : Room) s m args below meth c H locs 0 0 Q (F0 m 35 ls [])) → W p l e ({ frames := 3, cells := 0, slots := 0, locals := 63 } : Room) s m args below meth c H locs 0 0 Q (F0 m 4 ls []) := by
  intro n
  induction n with
  | zero => intro x1 x3 o h; exact absurd h (by simp [f_X3_meanAngle_4])
  | succ n ih =>
    intro x1 x3 o h H locs ls hP hD hS hl kx0
    rw [f_X3_meanAngle_4] at h
    refine lv_iload_n hx hb dX3_meanAngle_4 rfl (lv_at hl 2 rfl) ?_
    refine lv_iconst (v := (4 : Int32)) hx hb dX3_meanAngle_5 (by decide) ?_
    refine lv_icmp_ge (tgt := 35) hx hb dX3_meanAngle_6 (by decide) (fun c6 => ?_) (fun c6 => ?_)
    · replace h := (if_pos c6).symm.trans h
      obtain rfl := Option.some.inj h
      exact kx0 _ _ _ hP hD hS (lv_sub hl [0, 1] rfl)
    · replace h := (if_neg c6).symm.trans h
      refine lv_aload_n hx hb dX3_meanAngle_9 rfl (lv_at hl 0 rfl) ?_
      refine va_get (D := D) (ci := 5) (v := .ref q_t_there) (C := RX3) (T := TX3) (N := 5) hx hb hts iX3_meanAngle_X3 hown hK hP 0 rfl rfl 0 (by decide) (hts (.fieldLink RX3 9 "PulseMeadow$Swings" "there" "[Z") (by decide +kernel)) (fun _ h9 => h9) rfl dX3_meanAngle_10 ?_
      refine lv_iload_n hx hb dX3_meanAngle_13 rfl (lv_at hl 2 rfl) ?_
      obtain ⟨hb14, h⟩ := zk_g_spec h
      refine va_zald hx hb hK hP 1 1 rfl rfl hb14 dX3_meanAngle_14 ?_
      refine lv_if_eq (tgt := 29) hx hb dX3_meanAngle_15 (by decide) (fun c15 => ?_) (fun c15 => ?_)
      · replace h := (if_pos c15).symm.trans h
        refine lv_iinc (v := x3 + (1 : Int32)) (lv' := [(3, .int (x3 + (1 : Int32))), (0, .ref q_t), (1, .double x1)]) hx hb dX3_meanAngle_29 hl (k := 2) rfl rfl (by decide) rfl (fun ls hl => ?_)
        refine lv_goto (tgt := 4) hx hb dX3_meanAngle_32 (by decide) ?_
        exact ih x1 (x3 + (1 : Int32)) o h _ _ _ hP hD hS (lv_sub hl [1, 2, 0] rfl) kx0
      · replace h := (if_neg c15).symm.trans h
        refine lv_dload_n hx hb dX3_meanAngle_18 rfl (lv_at hl 1 rfl) ?_
        refine lv_aload_n hx hb dX3_meanAngle_19 rfl (lv_at hl 0 rfl) ?_
        refine va_get (D := D) (ci := 5) (v := .ref q_t_angles) (C := RX3) (T := TX3) (N := 5) hx hb hts iX3_meanAngle_X3 hown hK hP 0 rfl rfl 1 (by decide) (hts (.fieldLink RX3 15 "PulseMeadow$Swings" "angles" "[D") (by decide +kernel)) (fun _ h9 => h9) rfl dX3_meanAngle_20 ?_
        refine lv_iload_n hx hb dX3_meanAngle_23 rfl (lv_at hl 2 rfl) ?_
        obtain ⟨hb24, h⟩ := zk_g_spec h
        refine va_dald hx hb hK hP 2 4 rfl rfl hb24 dX3_meanAngle_24 ?_
        obtain ⟨o25, hc25, h⟩ := zk_bind h
        refine zk_cd (wr := [(q_t, .inr (5, [.ref q_t_there, .ref q_t_angles, .ref q_t_speeds, .int v_t_stiffness, .int v_t_pull])), (q_t_there, .inl (T 1, 4, .inl v_t_there)), (q_t_angles, .inl (T 4, 4, .inr (.inr (.inr (.inl v_t_angles)))))]) (va_runS (As := [.double x1, .double (v_t_angles x3.toNatClampNeg)]) (rest := []) ⟨hx, hb, hml, hown, hts⟩ (k_X3_plus l D T N  _  x1 (v_t_angles x3.toNatClampNeg) o25 hc25) (va_cwS 2 hts gX3_meanAngle_X3_plus rfl rfl rfl (by decide +kernel) ⟨Nat.le_of_ble_eq_true rfl, Nat.le_of_ble_eq_true rfl⟩) (zk_preS hK hN (hP.sub [] rfl) (hD.sub [] (by decide) rfl)) rfl rfl hl.1 rfl (lv_room (Nat.le_of_ble_eq_true rfl)) dX3_meanAngle_25 ⟨Nat.zero_le _, Nat.zero_le _⟩) hP hD hS hA [] [0, 1, 2] rfl rfl (by decide) (by decide) [0, 1, 2] (wf := [(q_t, .inr (5, [.ref q_t_there, .ref q_t_angles, .ref q_t_speeds, .int v_t_stiffness, .int v_t_pull])), (q_t_there, .inl (T 1, 4, .inl v_t_there)), (q_t_angles, .inl (T 4, 4, .inr (.inr (.inr (.inl v_t_angles)))))]) rfl (by decide) (fun H locs hP hD hS => ?_)
        refine lv_dstore_n (lv' := [(1, .double o25), (0, .ref q_t), (3, .int x3)]) hx hb dX3_meanAngle_28 rfl hl (by decide) rfl (fun ls hl => ?_)
        refine lv_iinc (v := x3 + (1 : Int32)) (lv' := [(3, .int (x3 + (1 : Int32))), (1, .double o25), (0, .ref q_t)]) hx hb dX3_meanAngle_29 hl (k := 2) rfl rfl (by decide) rfl (fun ls hl => ?_)
        refine lv_goto (tgt := 4) hx hb dX3_meanAngle_32 (by decide) ?_
        exact ih o25 (x3 + (1 : Int32)) o h _ _ _ hP hD hS (lv_sub hl [2, 1, 0] rfl) kx0
def f_X3_meanAngle (N : Nat) (v_t_there : Nat → Int32) (v_t_angles : Nat → UInt64) : Option (UInt64) := (f_X3_meanAngle_4 N v_t_there v_t_angles N FP.dconst0 (0 : Int32)).bind fun o4 => (f_X3_count N v_t_there).bind fun o36 => if o36 = 0 then (some o4.1) else ((f_X3_isLost N o4.1).bind fun o45 => if o45 = 0 then (zk_n32 (FP.d2f o4.1) (zk_n32 (FP.fdiv (FP.d2f o4.1) (FP.i2f o36)) (zk_n64 (FP.f2d (FP.fdiv (FP.d2f o4.1) (FP.i2f o36))) (some (FP.f2d (FP.fdiv (FP.d2f o4.1) (FP.i2f o36))))))) else (some o4.1))
set_option maxHeartbeats 8000000 in
set_option maxRecDepth 100000 in
theorem k_X3_meanAngle (l : Launch) (D : va_G) (T : Nat → ClassId) (N : Nat) (q_t q_t_there q_t_angles q_t_speeds : Nat) (sz : Nat) (v_t_stiffness : Int32) (v_t_pull : Int32) (v_t_there : Nat → Int32) (v_t_angles : Nat → UInt64) (o : UInt64) (h : f_X3_meanAngle N v_t_there v_t_angles = some o) : Met l yX3_meanAngle wsX3_meanAngle ({ frames := 3, cells := 0, slots := 0, locals := 63 } : Room) (zk_Pc D T [.ref q_t] [(q_t, .inr (5, [.ref q_t_there, .ref q_t_angles, .ref q_t_speeds, .int v_t_stiffness, .int v_t_pull])), (q_t_there, .inl (T 1, 4, .inl v_t_there)), (q_t_angles, .inl (T 4, 4, .inr (.inr (.inr (.inl v_t_angles)))))] sz) (zk_Qd o D [(q_t, .inr (5, [.ref q_t_there, .ref q_t_angles, .ref q_t_speeds, .int v_t_stiffness, .int v_t_pull])), (q_t_there, .inl (T 1, 4, .inl v_t_there)), (q_t_angles, .inl (T 4, 4, .inr (.inr (.inr (.inl v_t_angles)))))] (va_A [(q_t, .inr (5, [.ref q_t_there, .ref q_t_angles, .ref q_t_speeds, .int v_t_stiffness, .int v_t_pull])), (q_t_there, .inl (T 1, 4, .inl v_t_there)), (q_t_angles, .inl (T 4, 4, .inr (.inr (.inr (.inl v_t_angles)))))] sz) (va_A [(q_t, .inr (5, [.ref q_t_there, .ref q_t_angles, .ref q_t_speeds, .int v_t_stiffness, .int v_t_pull])), (q_t_there, .inl (T 1, 4, .inl v_t_there)), (q_t_angles, .inl (T 4, 4, .inr (.inr (.inr (.inl v_t_angles)))))] sz)) 0 0 (va_A [(q_t, .inr (5, [.ref q_t_there, .ref q_t_angles, .ref q_t_speeds, .int v_t_stiffness, .int v_t_pull])), (q_t_there, .inl (T 1, 4, .inl v_t_there)), (q_t_angles, .inl (T 4, 4, .inr (.inr (.inr (.inl v_t_angles)))))] sz) := by
  refine Met.ofW (cc := cX3_meanAngle) (maxL := 4) (ret := (some .double)) (by decide) rfl ?_
  intro p e s m args below meth c s₁ B hml hv
  obtain ⟨rfl, hsz, hP, hK, hN, hD0⟩ := hv
  have hx := B.exec
  have hb := B.bytes
  have hr := B.returns
  have hts := atoms_spec (ws := wsX3_meanAngle) B.pre
  have hown : s.vm.findClass RX3 = some m.cls := findClass_of_methodNamed B.named
  have hlocks := B.notSynchronized
  subst hsz
  have hD := hD0.self (sz := s.heap.size)
  generalize hAe : va_A [(q_t, .inr (5, [.ref q_t_there, .ref q_t_angles, .ref q_t_speeds, .int v_t_stiffness, .int v_t_pull])), (q_t_there, .inl (T 1, 4, .inl v_t_there)), (q_t_angles, .inl (T 4, 4, .inr (.inr (.inr (.inl v_t_angles)))))] s.heap.size = A at hD ⊢
  have hA : ∀ q : Nat, s.heap.size ≤ q → A q := fun q h => by rw [← hAe]; exact Or.inr h
  have hS : va_S A s.heap s.heap [] := va_S.rf
  have hP : va_P D vwCl [(q_t, .inr (5, [.ref q_t_there, .ref q_t_angles, .ref q_t_speeds, .int v_t_stiffness, .int v_t_pull])), (q_t_there, .inl (T 1, 4, .inl v_t_there)), (q_t_angles, .inl (T 4, 4, .inr (.inr (.inr (.inl v_t_angles)))))] s.heap := hP
  have hl := lv_entry ([.ref q_t]) (n := 4) (Nat.le_of_ble_eq_true rfl)
  rw [lg_entry_eq]
  generalize (lg_sl ([.ref q_t]) ++ List.replicate (4 - (lg_sl ([.ref q_t])).length) Slot.unset).toArray = ls at hl ⊢
  have hl : lv_has ls 4 [(0, .ref q_t)] := hl
  unfold f_X3_meanAngle at h
  refine lv_dconst0 hx hb dX3_meanAngle_0 ?_
  refine lv_dstore_n (lv' := [(1, .double FP.dconst0), (0, .ref q_t)]) hx hb dX3_meanAngle_1 rfl hl (by decide) rfl (fun ls hl => ?_)
  refine lv_iconst (v := (0 : Int32)) hx hb dX3_meanAngle_2 (by decide) ?_
  refine lv_istore_n (lv' := [(3, .int (0 : Int32)), (1, .double FP.dconst0), (0, .ref q_t)]) hx hb dX3_meanAngle_3 rfl hl (by decide) rfl (fun ls hl => ?_)
  obtain ⟨o4, hc4, h⟩ := zk_bind h
  refine l_X3_meanAngle_4 N hx hb hml hown hts hA hK hN q_t q_t_there q_t_angles q_t_speeds v_t_stiffness v_t_pull v_t_there v_t_angles N FP.dconst0 (0 : Int32) o4 hc4 _ _ _ hP hD hS (lv_sub hl [2, 1, 0] rfl) (fun H locs ls hP hD hS hl => ?_)
  refine lv_aload_n hx hb dX3_meanAngle_35 rfl (lv_at hl 0 rfl) ?_
  obtain ⟨o36, hc36, h⟩ := zk_bind h
  refine zk_ci (wr := [(q_t_angles, .inl (T 4, 4, .inr (.inr (.inr (.inl v_t_angles)))))]) (va_runV (As := []) (rest := []) ⟨hx, hb, hml, hown, hts⟩ (k_X3_count l D T N q_t q_t_there q_t_angles q_t_speeds _ v_t_stiffness v_t_pull v_t_there  o36 hc36) (cwV 0 hts gX3_meanAngle_X3_count rfl rfl rfl (by decide +kernel) ⟨Nat.le_of_ble_eq_true rfl, Nat.le_of_ble_eq_true rfl⟩) (zk_preV (q := (RX3, TX3, 5)) hK hN (hP.sub [0, 1] rfl) (hD.sub [0, 1] (by decide) rfl) 0 rfl rfl) rfl rfl hl.1 rfl (lv_room (Nat.le_of_ble_eq_true rfl)) dX3_meanAngle_36 ⟨Nat.zero_le _, Nat.zero_le _⟩) hP hD hS hA [0, 1] [2] rfl rfl (by decide) (by decide) [1, 2, 0] (wf := [(q_t, .inr (5, [.ref q_t_there, .ref q_t_angles, .ref q_t_speeds, .int v_t_stiffness, .int v_t_pull])), (q_t_there, .inl (T 1, 4, .inl v_t_there)), (q_t_angles, .inl (T 4, 4, .inr (.inr (.inr (.inl v_t_angles)))))]) rfl (by decide) (fun H locs hP hD hS => ?_)
  refine lv_istore_n (lv' := [(3, .int o36), (0, .ref q_t), (1, .double o4.1)]) hx hb dX3_meanAngle_39 rfl hl (by decide) rfl (fun ls hl => ?_)
  refine lv_iload_n hx hb dX3_meanAngle_40 rfl (lv_at hl 0 rfl) ?_
  refine lv_if_eq (tgt := 51) hx hb dX3_meanAngle_41 (by decide) (fun c41 => ?_) (fun c41 => ?_)
  · replace h := (if_pos c41).symm.trans h
    refine lv_dload_n hx hb dX3_meanAngle_51 rfl (lv_at hl 2 rfl) ?_
    refine lv_goto (tgt := 61) hx hb dX3_meanAngle_52 (by decide) ?_
    obtain rfl := Option.some.inj h
    exact W.dret (v := o4.1) hx hb hr (fun t ht hW => ⟨⟨_, (), rfl, rfl, ⟨by rw [ht]; exact hP, hD⟩⟩, hS.F ht⟩) hS.2.2 dX3_meanAngle_61
  · replace h := (if_neg c41).symm.trans h
    refine lv_dload_n hx hb dX3_meanAngle_44 rfl (lv_at hl 2 rfl) ?_
    obtain ⟨o45, hc45, h⟩ := zk_bind h
    refine zk_ci (wr := [(q_t, .inr (5, [.ref q_t_there, .ref q_t_angles, .ref q_t_speeds, .int v_t_stiffness, .int v_t_pull])), (q_t_there, .inl (T 1, 4, .inl v_t_there)), (q_t_angles, .inl (T 4, 4, .inr (.inr (.inr (.inl v_t_angles)))))]) (va_runS (As := [.double o4.1]) (rest := []) ⟨hx, hb, hml, hown, hts⟩ (k_X3_isLost l D T N  _  o4.1 o45 hc45) (va_cwS 1 hts gX3_meanAngle_X3_isLost rfl rfl rfl (by decide +kernel) ⟨Nat.le_of_ble_eq_true rfl, Nat.le_of_ble_eq_true rfl⟩) (zk_preS hK hN (hP.sub [] rfl) (hD.sub [] (by decide) rfl)) rfl rfl hl.1 rfl (lv_room (Nat.le_of_ble_eq_true rfl)) dX3_meanAngle_45 ⟨Nat.zero_le _, Nat.zero_le _⟩) hP hD hS hA [] [0, 1, 2] rfl rfl (by decide) (by decide) [0, 1, 2] (wf := [(q_t, .inr (5, [.ref q_t_there, .ref q_t_angles, .ref q_t_speeds, .int v_t_stiffness, .int v_t_pull])), (q_t_there, .inl (T 1, 4, .inl v_t_there)), (q_t_angles, .inl (T 4, 4, .inr (.inr (.inr (.inl v_t_angles)))))]) rfl (by decide) (fun H locs hP hD hS => ?_)
    refine lv_if_eq (tgt := 55) hx hb dX3_meanAngle_48 (by decide) (fun c48 => ?_) (fun c48 => ?_)
    · replace h := (if_pos c48).symm.trans h
      refine lv_dload_n hx hb dX3_meanAngle_55 rfl (lv_at hl 2 rfl) ?_
      obtain ⟨hz56, h⟩ := zk_n32_spec h
      refine lv_d2f hx hb dX3_meanAngle_56 hz56 ?_
      refine lv_iload_n hx hb dX3_meanAngle_57 rfl (lv_at hl 0 rfl) ?_
      refine lv_i2f hx hb dX3_meanAngle_58 ?_
      obtain ⟨hz59, h⟩ := zk_n32_spec h
      refine lv_fdiv hx hb dX3_meanAngle_59 hz59 ?_
      obtain ⟨hz60, h⟩ := zk_n64_spec h
      refine lv_f2d hx hb dX3_meanAngle_60 hz60 ?_
      obtain rfl := Option.some.inj h
      exact W.dret (v := FP.f2d (FP.fdiv (FP.d2f o4.1) (FP.i2f o36))) hx hb hr (fun t ht hW => ⟨⟨_, (), rfl, rfl, ⟨by rw [ht]; exact hP, hD⟩⟩, hS.F ht⟩) hS.2.2 dX3_meanAngle_61
    · replace h := (if_neg c48).symm.trans h
      refine lv_dload_n hx hb dX3_meanAngle_51 rfl (lv_at hl 2 rfl) ?_
      refine lv_goto (tgt := 61) hx hb dX3_meanAngle_52 (by decide) ?_
      obtain rfl := Option.some.inj h
      exact W.dret (v := o4.1) hx hb hr (fun t ht hW => ⟨⟨_, (), rfl, rfl, ⟨by rw [ht]; exact hP, hD⟩⟩, hS.F ht⟩) hS.2.2 dX3_meanAngle_61
theorem iX3_step_X3 : ∀ w ∈ wsX30, w ∈ wsX3_step := by decide +kernel
def f_X3_step_7 (N : Nat) (v_t_stiffness : Int32) (v_t_pull : Int32) (v_t_there : Nat → Int32) (v_t_angles : Nat → UInt64) (x1 : UInt64) : Nat → Int32 → (Nat → UInt64) → Option (Int32 × (Nat → UInt64))
  | 0, _, _ => none
  | n + 1, x3, v_t_speeds => if (4 : Int32) ≤ x3 then (some (x3, v_t_speeds)) else (zk_g x3 4 (if (v_t_there x3.toNatClampNeg) = 0 then (f_X3_step_7 N v_t_stiffness v_t_pull v_t_there v_t_angles x1 n (x3 + (1 : Int32)) v_t_speeds) else (zk_g x3 4 ((f_X3_minus N x1 (v_t_angles x3.toNatClampNeg)).bind fun o33 => (f_X3_times N (FP.i2d v_t_pull) o33).bind fun o36 => zk_g x3 4 ((f_X3_times N (FP.i2d v_t_stiffness) (v_t_angles x3.toNatClampNeg)).bind fun o52 => zk_g x3 4 ((f_X3_minus N o36 o52).bind fun o75 => (f_X3_times N (4576918229175238656 : UInt64) o75).bind fun o78 => (f_X3_plus N (v_t_speeds x3.toNatClampNeg) o78).bind fun o81 => zk_g x3 4 (f_X3_step_7 N v_t_stiffness v_t_pull v_t_there v_t_angles x1 n (x3 + (1 : Int32)) (vf_upd v_t_speeds x3.toNatClampNeg o81))))))))
set_option maxHeartbeats 8000000 in
set_option maxRecDepth 100000 in
theorem l_X3_step_7 {p : Program} {l : Launch} {e : Env} {s : State} {m : MethodId} {args : Array Value} {below : List Frame} {meth : Method} {c : Code} {Q : State → Prop} {A : Nat → Prop} {D : va_G} {T : Nat → ClassId} (N : Nat) (hx : p.tables.exec = Jvm.exec) (hb : c.code = cX3_step) (hml : c.maxLocals = 8) (hown : s.vm.findClass RX3 = some m.cls) (hts : ∀ w ∈ wsX3_step, w.before args s = true) (hA : ∀ q : Nat, s.heap.size ≤ q → A q) (hK : va_K D vwCl (zk_ty T) s) (hN : zk_N s) (q_t q_t_there q_t_angles q_t_speeds : Nat) (v_t_stiffness : Int32) (v_t_pull : Int32) (v_t_there : Nat → Int32) (v_t_angles : Nat → UInt64) (x1 : UInt64) :
    ∀ (n : Nat) (x3 : Int32) (v_t_speeds : Nat → UInt64) (o : Int32 × (Nat → UInt64)), f_X3_step_7 N v_t_stiffness v_t_pull v_t_there v_t_angles x1 n x3 v_t_speeds = some o → ∀ (H : Heap) (locs : List Loc) (ls : Array Slot), va_P D vwCl [(q_t, .inr (5, [.ref q_t_there, .ref q_t_angles, .ref q_t_speeds, .int v_t_stiffness, .int v_t_pull])), (q_t_there, .inl (T 1, 4, .inl v_t_there)), (q_t_angles, .inl (T 4, 4, .inr (.inr (.inr (.inl v_t_angles))))), (q_t_speeds, .inl (T 4, 4, .inr (.inr (.inr (.inl v_t_speeds)))))] H → va_D A [(q_t, .inr (5, [.ref q_t_there, .ref q_t_angles, .ref q_t_speeds, .int v_t_stiffness, .int v_t_pull])), (q_t_there, .inl (T 1, 4, .inl v_t_there)), (q_t_angles, .inl (T 4, 4, .inr (.inr (.inr (.inl v_t_angles))))), (q_t_speeds, .inl (T 4, 4, .inr (.inr (.inr (.inl v_t_speeds)))))] → va_S A s.heap H locs → lv_has ls 8 [(0, .ref q_t), (1, .double x1), (3, .int x3)] → (∀ (H : Heap) (locs : List Loc) (ls : Array Slot), va_P D vwCl [(q_t, .inr (5, [.ref q_t_there, .ref q_t_angles, .ref q_t_speeds, .int v_t_stiffness, .int v_t_pull])), (q_t_there, .inl (T 1, 4, .inl v_t_there)), (q_t_angles, .inl (T 4, 4, .inr (.inr (.inr (.inl v_t_angles))))), (q_t_speeds, .inl (T 4, 4, .inr (.inr (.inr (.inl o.2)))))] H → va_D A [(q_t, .inr (5, [.ref q_t_there, .ref q_t_angles, .ref q_t_speeds, .int v_t_stiffness, .int v_t_pull])), (q_t_there, .inl (T 1, 4, .inl v_t_there)), (q_t_angles, .inl (T 4, 4, .inr (.inr (.inr (.inl v_t_angles))))), (q_t_speeds, .inl (T 4, 4, .inr (.inr (.inr (.inl o.2)))))] → va_S A s.heap H locs → lv_has ls 8 [(0, .ref q_t)] → W p l e ({ frames := 4, cells := 0, slots := 0, locals := 86 } : Room) s m args below meth c H locs 0 0 Q (F0 m 91 ls [])) → W p l e ({ frames := 4, cells := 0, slots := 0, locals := 86 } : Room) s m args below meth c H locs 0 0 Q (F0 m 7 ls []) := by
  intro n
  induction n with
  | zero => intro x3 v_t_speeds o h; exact absurd h (by simp [f_X3_step_7])
  | succ n ih =>
    intro x3 v_t_speeds o h H locs ls hP hD hS hl kx0
    rw [f_X3_step_7] at h
    refine lv_iload_n hx hb dX3_step_7 rfl (lv_at hl 2 rfl) ?_
    refine lv_iconst (v := (4 : Int32)) hx hb dX3_step_8 (by decide) ?_
    refine lv_icmp_ge (tgt := 91) hx hb dX3_step_9 (by decide) (fun c9 => ?_) (fun c9 => ?_)
    · replace h := (if_pos c9).symm.trans h
      obtain rfl := Option.some.inj h
      exact kx0 _ _ _ hP hD hS (lv_sub hl [0] rfl)
    · replace h := (if_neg c9).symm.trans h
      refine lv_aload_n hx hb dX3_step_12 rfl (lv_at hl 0 rfl) ?_
      refine va_get (D := D) (ci := 5) (v := .ref q_t_there) (C := RX3) (T := TX3) (N := 5) hx hb hts iX3_step_X3 hown hK hP 0 rfl rfl 0 (by decide) (hts (.fieldLink RX3 9 "PulseMeadow$Swings" "there" "[Z") (by decide +kernel)) (fun _ h9 => h9) rfl dX3_step_13 ?_
      refine lv_iload_n hx hb dX3_step_16 rfl (lv_at hl 2 rfl) ?_
      obtain ⟨hb17, h⟩ := zk_g_spec h
      refine va_zald hx hb hK hP 1 1 rfl rfl hb17 dX3_step_17 ?_
      refine lv_if_eq (tgt := 85) hx hb dX3_step_18 (by decide) (fun c18 => ?_) (fun c18 => ?_)
      · replace h := (if_pos c18).symm.trans h
        refine lv_iinc (v := x3 + (1 : Int32)) (lv' := [(3, .int (x3 + (1 : Int32))), (0, .ref q_t), (1, .double x1)]) hx hb dX3_step_85 hl (k := 2) rfl rfl (by decide) rfl (fun ls hl => ?_)
        refine lv_goto (tgt := 7) hx hb dX3_step_88 (by decide) ?_
        exact ih (x3 + (1 : Int32)) v_t_speeds o h _ _ _ hP hD hS (lv_sub hl [1, 2, 0] rfl) kx0
      · replace h := (if_neg c18).symm.trans h
        refine lv_aload_n hx hb dX3_step_21 rfl (lv_at hl 0 rfl) ?_
        refine va_get (D := D) (ci := 5) (v := .int v_t_pull) (C := RX3) (T := TX3) (N := 5) hx hb hts iX3_step_X3 hown hK hP 0 rfl rfl 4 (by decide) (hts (.fieldLink RX3 26 "PulseMeadow$Swings" "pull" "I") (by decide +kernel)) (fun _ h9 => h9) rfl dX3_step_22 ?_
        refine lv_i2d hx hb dX3_step_25 ?_
        refine lv_dload_n hx hb dX3_step_26 rfl (lv_at hl 1 rfl) ?_
        refine lv_aload_n hx hb dX3_step_27 rfl (lv_at hl 0 rfl) ?_
        refine va_get (D := D) (ci := 5) (v := .ref q_t_angles) (C := RX3) (T := TX3) (N := 5) hx hb hts iX3_step_X3 hown hK hP 0 rfl rfl 1 (by decide) (hts (.fieldLink RX3 15 "PulseMeadow$Swings" "angles" "[D") (by decide +kernel)) (fun _ h9 => h9) rfl dX3_step_28 ?_
        refine lv_iload_n hx hb dX3_step_31 rfl (lv_at hl 2 rfl) ?_
        obtain ⟨hb32, h⟩ := zk_g_spec h
        refine va_dald hx hb hK hP 2 4 rfl rfl hb32 dX3_step_32 ?_
        obtain ⟨o33, hc33, h⟩ := zk_bind h
        refine zk_cd (wr := [(q_t, .inr (5, [.ref q_t_there, .ref q_t_angles, .ref q_t_speeds, .int v_t_stiffness, .int v_t_pull])), (q_t_there, .inl (T 1, 4, .inl v_t_there)), (q_t_angles, .inl (T 4, 4, .inr (.inr (.inr (.inl v_t_angles))))), (q_t_speeds, .inl (T 4, 4, .inr (.inr (.inr (.inl v_t_speeds)))))]) (va_runS (As := [.double x1, .double (v_t_angles x3.toNatClampNeg)]) (rest := [.double (FP.i2d v_t_pull)]) ⟨hx, hb, hml, hown, hts⟩ (k_X3_minus l D T N  _  x1 (v_t_angles x3.toNatClampNeg) o33 hc33) (va_cwS 2 hts gX3_step_X3_minus rfl rfl rfl (by decide +kernel) ⟨Nat.le_of_ble_eq_true rfl, Nat.le_of_ble_eq_true rfl⟩) (zk_preS hK hN (hP.sub [] rfl) (hD.sub [] (by decide) rfl)) rfl rfl hl.1 rfl (lv_room (Nat.le_of_ble_eq_true rfl)) dX3_step_33 ⟨Nat.zero_le _, Nat.zero_le _⟩) hP hD hS hA [] [0, 1, 2, 3] rfl rfl (by decide) (by decide) [0, 1, 2, 3] (wf := [(q_t, .inr (5, [.ref q_t_there, .ref q_t_angles, .ref q_t_speeds, .int v_t_stiffness, .int v_t_pull])), (q_t_there, .inl (T 1, 4, .inl v_t_there)), (q_t_angles, .inl (T 4, 4, .inr (.inr (.inr (.inl v_t_angles))))), (q_t_speeds, .inl (T 4, 4, .inr (.inr (.inr (.inl v_t_speeds)))))]) rfl (by decide) (fun H locs hP hD hS => ?_)
        obtain ⟨o36, hc36, h⟩ := zk_bind h
        refine zk_cd (wr := [(q_t, .inr (5, [.ref q_t_there, .ref q_t_angles, .ref q_t_speeds, .int v_t_stiffness, .int v_t_pull])), (q_t_there, .inl (T 1, 4, .inl v_t_there)), (q_t_angles, .inl (T 4, 4, .inr (.inr (.inr (.inl v_t_angles))))), (q_t_speeds, .inl (T 4, 4, .inr (.inr (.inr (.inl v_t_speeds)))))]) (va_runS (As := [.double (FP.i2d v_t_pull), .double o33]) (rest := []) ⟨hx, hb, hml, hown, hts⟩ (k_X3_times l D T N  _  (FP.i2d v_t_pull) o33 o36 hc36) (va_cwS 2 hts gX3_step_X3_times rfl rfl rfl (by decide +kernel) ⟨Nat.le_of_ble_eq_true rfl, Nat.le_of_ble_eq_true rfl⟩) (zk_preS hK hN (hP.sub [] rfl) (hD.sub [] (by decide) rfl)) rfl rfl hl.1 rfl (lv_room (Nat.le_of_ble_eq_true rfl)) dX3_step_36 ⟨Nat.zero_le _, Nat.zero_le _⟩) hP hD hS hA [] [0, 1, 2, 3] rfl rfl (by decide) (by decide) [0, 1, 2, 3] (wf := [(q_t, .inr (5, [.ref q_t_there, .ref q_t_angles, .ref q_t_speeds, .int v_t_stiffness, .int v_t_pull])), (q_t_there, .inl (T 1, 4, .inl v_t_there)), (q_t_angles, .inl (T 4, 4, .inr (.inr (.inr (.inl v_t_angles))))), (q_t_speeds, .inl (T 4, 4, .inr (.inr (.inr (.inl v_t_speeds)))))]) rfl (by decide) (fun H locs hP hD hS => ?_)
        refine lv_dstore (lv' := [(4, .double o36), (0, .ref q_t), (1, .double x1), (3, .int x3)]) hx hb dX3_step_39 hl (by decide) rfl (fun ls hl => ?_)
        refine lv_aload_n hx hb dX3_step_41 rfl (lv_at hl 1 rfl) ?_
        refine va_get (D := D) (ci := 5) (v := .int v_t_stiffness) (C := RX3) (T := TX3) (N := 5) hx hb hts iX3_step_X3 hown hK hP 0 rfl rfl 3 (by decide) (hts (.fieldLink RX3 22 "PulseMeadow$Swings" "stiffness" "I") (by decide +kernel)) (fun _ h9 => h9) rfl dX3_step_42 ?_
        refine lv_i2d hx hb dX3_step_45 ?_
        refine lv_aload_n hx hb dX3_step_46 rfl (lv_at hl 1 rfl) ?_
        refine va_get (D := D) (ci := 5) (v := .ref q_t_angles) (C := RX3) (T := TX3) (N := 5) hx hb hts iX3_step_X3 hown hK hP 0 rfl rfl 1 (by decide) (hts (.fieldLink RX3 15 "PulseMeadow$Swings" "angles" "[D") (by decide +kernel)) (fun _ h9 => h9) rfl dX3_step_47 ?_
        refine lv_iload_n hx hb dX3_step_50 rfl (lv_at hl 3 rfl) ?_
        obtain ⟨hb51, h⟩ := zk_g_spec h
        refine va_dald hx hb hK hP 2 4 rfl rfl hb51 dX3_step_51 ?_
        obtain ⟨o52, hc52, h⟩ := zk_bind h
        refine zk_cd (wr := [(q_t, .inr (5, [.ref q_t_there, .ref q_t_angles, .ref q_t_speeds, .int v_t_stiffness, .int v_t_pull])), (q_t_there, .inl (T 1, 4, .inl v_t_there)), (q_t_angles, .inl (T 4, 4, .inr (.inr (.inr (.inl v_t_angles))))), (q_t_speeds, .inl (T 4, 4, .inr (.inr (.inr (.inl v_t_speeds)))))]) (va_runS (As := [.double (FP.i2d v_t_stiffness), .double (v_t_angles x3.toNatClampNeg)]) (rest := []) ⟨hx, hb, hml, hown, hts⟩ (k_X3_times l D T N  _  (FP.i2d v_t_stiffness) (v_t_angles x3.toNatClampNeg) o52 hc52) (va_cwS 2 hts gX3_step_X3_times rfl rfl rfl (by decide +kernel) ⟨Nat.le_of_ble_eq_true rfl, Nat.le_of_ble_eq_true rfl⟩) (zk_preS hK hN (hP.sub [] rfl) (hD.sub [] (by decide) rfl)) rfl rfl hl.1 rfl (lv_room (Nat.le_of_ble_eq_true rfl)) dX3_step_52 ⟨Nat.zero_le _, Nat.zero_le _⟩) hP hD hS hA [] [0, 1, 2, 3] rfl rfl (by decide) (by decide) [0, 1, 2, 3] (wf := [(q_t, .inr (5, [.ref q_t_there, .ref q_t_angles, .ref q_t_speeds, .int v_t_stiffness, .int v_t_pull])), (q_t_there, .inl (T 1, 4, .inl v_t_there)), (q_t_angles, .inl (T 4, 4, .inr (.inr (.inr (.inl v_t_angles))))), (q_t_speeds, .inl (T 4, 4, .inr (.inr (.inr (.inl v_t_speeds)))))]) rfl (by decide) (fun H locs hP hD hS => ?_)
        refine lv_dstore (lv' := [(6, .double o52), (4, .double o36), (0, .ref q_t), (1, .double x1), (3, .int x3)]) hx hb dX3_step_55 hl (by decide) rfl (fun ls hl => ?_)
        refine lv_aload_n hx hb dX3_step_57 rfl (lv_at hl 2 rfl) ?_
        refine va_get (D := D) (ci := 5) (v := .ref q_t_speeds) (C := RX3) (T := TX3) (N := 5) hx hb hts iX3_step_X3 hown hK hP 0 rfl rfl 2 (by decide) (hts (.fieldLink RX3 19 "PulseMeadow$Swings" "speeds" "[D") (by decide +kernel)) (fun _ h9 => h9) rfl dX3_step_58 ?_
        refine lv_iload_n hx hb dX3_step_61 rfl (lv_at hl 4 rfl) ?_
        refine lv_aload_n hx hb dX3_step_62 rfl (lv_at hl 2 rfl) ?_
        refine va_get (D := D) (ci := 5) (v := .ref q_t_speeds) (C := RX3) (T := TX3) (N := 5) hx hb hts iX3_step_X3 hown hK hP 0 rfl rfl 2 (by decide) (hts (.fieldLink RX3 19 "PulseMeadow$Swings" "speeds" "[D") (by decide +kernel)) (fun _ h9 => h9) rfl dX3_step_63 ?_
        refine lv_iload_n hx hb dX3_step_66 rfl (lv_at hl 4 rfl) ?_
        obtain ⟨hb67, h⟩ := zk_g_spec h
        refine va_dald hx hb hK hP 3 4 rfl rfl hb67 dX3_step_67 ?_
        refine lv_ldc2d (v := (4576918229175238656 : UInt64)) hx hb hown (hts (.constantDouble RX3 40 (4576918229175238656 : UInt64)) (by decide +kernel)) dX3_step_68 ?_
        refine lv_dload hx hb dX3_step_71 (lv_at hl 1 rfl) ?_
        refine lv_dload hx hb dX3_step_73 (lv_at hl 0 rfl) ?_
        obtain ⟨o75, hc75, h⟩ := zk_bind h
        refine zk_cd (wr := [(q_t, .inr (5, [.ref q_t_there, .ref q_t_angles, .ref q_t_speeds, .int v_t_stiffness, .int v_t_pull])), (q_t_there, .inl (T 1, 4, .inl v_t_there)), (q_t_angles, .inl (T 4, 4, .inr (.inr (.inr (.inl v_t_angles))))), (q_t_speeds, .inl (T 4, 4, .inr (.inr (.inr (.inl v_t_speeds)))))]) (va_runS (As := [.double o36, .double o52]) (rest := [.double (4576918229175238656 : UInt64), .double (v_t_speeds x3.toNatClampNeg), .int x3, .ref q_t_speeds]) ⟨hx, hb, hml, hown, hts⟩ (k_X3_minus l D T N  _  o36 o52 o75 hc75) (va_cwS 2 hts gX3_step_X3_minus rfl rfl rfl (by decide +kernel) ⟨Nat.le_of_ble_eq_true rfl, Nat.le_of_ble_eq_true rfl⟩) (zk_preS hK hN (hP.sub [] rfl) (hD.sub [] (by decide) rfl)) rfl rfl hl.1 rfl (lv_room (Nat.le_of_ble_eq_true rfl)) dX3_step_75 ⟨Nat.zero_le _, Nat.zero_le _⟩) hP hD hS hA [] [0, 1, 2, 3] rfl rfl (by decide) (by decide) [0, 1, 2, 3] (wf := [(q_t, .inr (5, [.ref q_t_there, .ref q_t_angles, .ref q_t_speeds, .int v_t_stiffness, .int v_t_pull])), (q_t_there, .inl (T 1, 4, .inl v_t_there)), (q_t_angles, .inl (T 4, 4, .inr (.inr (.inr (.inl v_t_angles))))), (q_t_speeds, .inl (T 4, 4, .inr (.inr (.inr (.inl v_t_speeds)))))]) rfl (by decide) (fun H locs hP hD hS => ?_)
        obtain ⟨o78, hc78, h⟩ := zk_bind h
        refine zk_cd (wr := [(q_t, .inr (5, [.ref q_t_there, .ref q_t_angles, .ref q_t_speeds, .int v_t_stiffness, .int v_t_pull])), (q_t_there, .inl (T 1, 4, .inl v_t_there)), (q_t_angles, .inl (T 4, 4, .inr (.inr (.inr (.inl v_t_angles))))), (q_t_speeds, .inl (T 4, 4, .inr (.inr (.inr (.inl v_t_speeds)))))]) (va_runS (As := [.double (4576918229175238656 : UInt64), .double o75]) (rest := [.double (v_t_speeds x3.toNatClampNeg), .int x3, .ref q_t_speeds]) ⟨hx, hb, hml, hown, hts⟩ (k_X3_times l D T N  _  (4576918229175238656 : UInt64) o75 o78 hc78) (va_cwS 2 hts gX3_step_X3_times rfl rfl rfl (by decide +kernel) ⟨Nat.le_of_ble_eq_true rfl, Nat.le_of_ble_eq_true rfl⟩) (zk_preS hK hN (hP.sub [] rfl) (hD.sub [] (by decide) rfl)) rfl rfl hl.1 rfl (lv_room (Nat.le_of_ble_eq_true rfl)) dX3_step_78 ⟨Nat.zero_le _, Nat.zero_le _⟩) hP hD hS hA [] [0, 1, 2, 3] rfl rfl (by decide) (by decide) [0, 1, 2, 3] (wf := [(q_t, .inr (5, [.ref q_t_there, .ref q_t_angles, .ref q_t_speeds, .int v_t_stiffness, .int v_t_pull])), (q_t_there, .inl (T 1, 4, .inl v_t_there)), (q_t_angles, .inl (T 4, 4, .inr (.inr (.inr (.inl v_t_angles))))), (q_t_speeds, .inl (T 4, 4, .inr (.inr (.inr (.inl v_t_speeds)))))]) rfl (by decide) (fun H locs hP hD hS => ?_)
        obtain ⟨o81, hc81, h⟩ := zk_bind h
        refine zk_cd (wr := [(q_t, .inr (5, [.ref q_t_there, .ref q_t_angles, .ref q_t_speeds, .int v_t_stiffness, .int v_t_pull])), (q_t_there, .inl (T 1, 4, .inl v_t_there)), (q_t_angles, .inl (T 4, 4, .inr (.inr (.inr (.inl v_t_angles))))), (q_t_speeds, .inl (T 4, 4, .inr (.inr (.inr (.inl v_t_speeds)))))]) (va_runS (As := [.double (v_t_speeds x3.toNatClampNeg), .double o78]) (rest := [.int x3, .ref q_t_speeds]) ⟨hx, hb, hml, hown, hts⟩ (k_X3_plus l D T N  _  (v_t_speeds x3.toNatClampNeg) o78 o81 hc81) (va_cwS 2 hts gX3_step_X3_plus rfl rfl rfl (by decide +kernel) ⟨Nat.le_of_ble_eq_true rfl, Nat.le_of_ble_eq_true rfl⟩) (zk_preS hK hN (hP.sub [] rfl) (hD.sub [] (by decide) rfl)) rfl rfl hl.1 rfl (lv_room (Nat.le_of_ble_eq_true rfl)) dX3_step_81 ⟨Nat.zero_le _, Nat.zero_le _⟩) hP hD hS hA [] [0, 1, 2, 3] rfl rfl (by decide) (by decide) [0, 1, 2, 3] (wf := [(q_t, .inr (5, [.ref q_t_there, .ref q_t_angles, .ref q_t_speeds, .int v_t_stiffness, .int v_t_pull])), (q_t_there, .inl (T 1, 4, .inl v_t_there)), (q_t_angles, .inl (T 4, 4, .inr (.inr (.inr (.inl v_t_angles))))), (q_t_speeds, .inl (T 4, 4, .inr (.inr (.inr (.inl v_t_speeds)))))]) rfl (by decide) (fun H locs hP hD hS => ?_)
        obtain ⟨hb84, h⟩ := zk_g_spec h
        refine va_dast hx hb hK hP hD hS 3 4 rfl rfl hb84 dX3_step_84 (fun H locs hP hD hS => ?_)
        have hP : va_P D vwCl [(q_t, .inr (5, [.ref q_t_there, .ref q_t_angles, .ref q_t_speeds, .int v_t_stiffness, .int v_t_pull])), (q_t_there, .inl (T 1, 4, .inl v_t_there)), (q_t_angles, .inl (T 4, 4, .inr (.inr (.inr (.inl v_t_angles))))), (q_t_speeds, .inl (T 4, 4, .inr (.inr (.inr (.inl (vf_upd v_t_speeds x3.toNatClampNeg o81))))))] H := hP
        have hD : va_D A [(q_t, .inr (5, [.ref q_t_there, .ref q_t_angles, .ref q_t_speeds, .int v_t_stiffness, .int v_t_pull])), (q_t_there, .inl (T 1, 4, .inl v_t_there)), (q_t_angles, .inl (T 4, 4, .inr (.inr (.inr (.inl v_t_angles))))), (q_t_speeds, .inl (T 4, 4, .inr (.inr (.inr (.inl (vf_upd v_t_speeds x3.toNatClampNeg o81))))))] := hD
        refine lv_iinc (v := x3 + (1 : Int32)) (lv' := [(3, .int (x3 + (1 : Int32))), (6, .double o52), (4, .double o36), (0, .ref q_t), (1, .double x1)]) hx hb dX3_step_85 hl (k := 4) rfl rfl (by decide) rfl (fun ls hl => ?_)
        refine lv_goto (tgt := 7) hx hb dX3_step_88 (by decide) ?_
        exact ih (x3 + (1 : Int32)) (vf_upd v_t_speeds x3.toNatClampNeg o81) o h _ _ _ hP hD hS (lv_sub hl [3, 4, 0] rfl) kx0
def f_X3_step_93 (N : Nat) (v_t_there : Nat → Int32) (v_t_speeds : Nat → UInt64) : Nat → Int32 → (Nat → UInt64) → Option (Int32 × (Nat → UInt64))
  | 0, _, _ => none
  | n + 1, x3, v_t_angles => if (4 : Int32) ≤ x3 then (some (x3, v_t_angles)) else (zk_g x3 4 (if (v_t_there x3.toNatClampNeg) = 0 then (f_X3_step_93 N v_t_there v_t_speeds n (x3 + (1 : Int32)) v_t_angles) else (zk_g x3 4 (zk_g x3 4 ((f_X3_times N (4576918229175238656 : UInt64) (v_t_speeds x3.toNatClampNeg)).bind fun o127 => (f_X3_plus N (v_t_angles x3.toNatClampNeg) o127).bind fun o130 => zk_g x3 4 (f_X3_step_93 N v_t_there v_t_speeds n (x3 + (1 : Int32)) (vf_upd v_t_angles x3.toNatClampNeg o130)))))))
set_option maxHeartbeats 8000000 in
set_option maxRecDepth 100000 in
theorem l_X3_step_93 {p : Program} {l : Launch} {e : Env} {s : State} {m : MethodId} {args : Array Value} {below : List Frame} {meth : Method} {c : Code} {Q : State → Prop} {A : Nat → Prop} {D : va_G} {T : Nat → ClassId} (N : Nat) (hx : p.tables.exec = Jvm.exec) (hb : c.code = cX3_step) (hml : c.maxLocals = 8) (hown : s.vm.findClass RX3 = some m.cls) (hts : ∀ w ∈ wsX3_step, w.before args s = true) (hA : ∀ q : Nat, s.heap.size ≤ q → A q) (hK : va_K D vwCl (zk_ty T) s) (hN : zk_N s) (q_t q_t_there q_t_angles q_t_speeds : Nat) (v_t_stiffness : Int32) (v_t_pull : Int32) (v_t_there : Nat → Int32) (v_t_speeds : Nat → UInt64) :
    ∀ (n : Nat) (x3 : Int32) (v_t_angles : Nat → UInt64) (o : Int32 × (Nat → UInt64)), f_X3_step_93 N v_t_there v_t_speeds n x3 v_t_angles = some o → ∀ (H : Heap) (locs : List Loc) (ls : Array Slot), va_P D vwCl [(q_t, .inr (5, [.ref q_t_there, .ref q_t_angles, .ref q_t_speeds, .int v_t_stiffness, .int v_t_pull])), (q_t_there, .inl (T 1, 4, .inl v_t_there)), (q_t_angles, .inl (T 4, 4, .inr (.inr (.inr (.inl v_t_angles))))), (q_t_speeds, .inl (T 4, 4, .inr (.inr (.inr (.inl v_t_speeds)))))] H → va_D A [(q_t, .inr (5, [.ref q_t_there, .ref q_t_angles, .ref q_t_speeds, .int v_t_stiffness, .int v_t_pull])), (q_t_there, .inl (T 1, 4, .inl v_t_there)), (q_t_angles, .inl (T 4, 4, .inr (.inr (.inr (.inl v_t_angles))))), (q_t_speeds, .inl (T 4, 4, .inr (.inr (.inr (.inl v_t_speeds)))))] → va_S A s.heap H locs → lv_has ls 8 [(0, .ref q_t), (3, .int x3)] → (∀ (H : Heap) (locs : List Loc) (ls : Array Slot), va_P D vwCl [(q_t, .inr (5, [.ref q_t_there, .ref q_t_angles, .ref q_t_speeds, .int v_t_stiffness, .int v_t_pull])), (q_t_there, .inl (T 1, 4, .inl v_t_there)), (q_t_angles, .inl (T 4, 4, .inr (.inr (.inr (.inl o.2))))), (q_t_speeds, .inl (T 4, 4, .inr (.inr (.inr (.inl v_t_speeds)))))] H → va_D A [(q_t, .inr (5, [.ref q_t_there, .ref q_t_angles, .ref q_t_speeds, .int v_t_stiffness, .int v_t_pull])), (q_t_there, .inl (T 1, 4, .inl v_t_there)), (q_t_angles, .inl (T 4, 4, .inr (.inr (.inr (.inl o.2))))), (q_t_speeds, .inl (T 4, 4, .inr (.inr (.inr (.inl v_t_speeds)))))] → va_S A s.heap H locs → lv_has ls 8 [] → W p l e ({ frames := 4, cells := 0, slots := 0, locals := 86 } : Room) s m args below meth c H locs 0 0 Q (F0 m 140 ls [])) → W p l e ({ frames := 4, cells := 0, slots := 0, locals := 86 } : Room) s m args below meth c H locs 0 0 Q (F0 m 93 ls []) := by
  intro n
  induction n with
  | zero => intro x3 v_t_angles o h; exact absurd h (by simp [f_X3_step_93])
  | succ n ih =>
    intro x3 v_t_angles o h H locs ls hP hD hS hl kx0
    rw [f_X3_step_93] at h
    refine lv_iload_n hx hb dX3_step_93 rfl (lv_at hl 1 rfl) ?_
    refine lv_iconst (v := (4 : Int32)) hx hb dX3_step_94 (by decide) ?_
    refine lv_icmp_ge (tgt := 140) hx hb dX3_step_95 (by decide) (fun c95 => ?_) (fun c95 => ?_)
    · replace h := (if_pos c95).symm.trans h
      obtain rfl := Option.some.inj h
      exact kx0 _ _ _ hP hD hS (lv_sub hl [] rfl)
    · replace h := (if_neg c95).symm.trans h
      refine lv_aload_n hx hb dX3_step_98 rfl (lv_at hl 0 rfl) ?_
      refine va_get (D := D) (ci := 5) (v := .ref q_t_there) (C := RX3) (T := TX3) (N := 5) hx hb hts iX3_step_X3 hown hK hP 0 rfl rfl 0 (by decide) (hts (.fieldLink RX3 9 "PulseMeadow$Swings" "there" "[Z") (by decide +kernel)) (fun _ h9 => h9) rfl dX3_step_99 ?_
      refine lv_iload_n hx hb dX3_step_102 rfl (lv_at hl 1 rfl) ?_
      obtain ⟨hb103, h⟩ := zk_g_spec h
      refine va_zald hx hb hK hP 1 1 rfl rfl hb103 dX3_step_103 ?_
      refine lv_if_eq (tgt := 134) hx hb dX3_step_104 (by decide) (fun c104 => ?_) (fun c104 => ?_)
      · replace h := (if_pos c104).symm.trans h
        refine lv_iinc (v := x3 + (1 : Int32)) (lv' := [(3, .int (x3 + (1 : Int32))), (0, .ref q_t)]) hx hb dX3_step_134 hl (k := 1) rfl rfl (by decide) rfl (fun ls hl => ?_)
        refine lv_goto (tgt := 93) hx hb dX3_step_137 (by decide) ?_
        exact ih (x3 + (1 : Int32)) v_t_angles o h _ _ _ hP hD hS (lv_sub hl [1, 0] rfl) kx0
      · replace h := (if_neg c104).symm.trans h
        refine lv_aload_n hx hb dX3_step_107 rfl (lv_at hl 0 rfl) ?_
        refine va_get (D := D) (ci := 5) (v := .ref q_t_angles) (C := RX3) (T := TX3) (N := 5) hx hb hts iX3_step_X3 hown hK hP 0 rfl rfl 1 (by decide) (hts (.fieldLink RX3 15 "PulseMeadow$Swings" "angles" "[D") (by decide +kernel)) (fun _ h9 => h9) rfl dX3_step_108 ?_
        refine lv_iload_n hx hb dX3_step_111 rfl (lv_at hl 1 rfl) ?_
        refine lv_aload_n hx hb dX3_step_112 rfl (lv_at hl 0 rfl) ?_
        refine va_get (D := D) (ci := 5) (v := .ref q_t_angles) (C := RX3) (T := TX3) (N := 5) hx hb hts iX3_step_X3 hown hK hP 0 rfl rfl 1 (by decide) (hts (.fieldLink RX3 15 "PulseMeadow$Swings" "angles" "[D") (by decide +kernel)) (fun _ h9 => h9) rfl dX3_step_113 ?_
        refine lv_iload_n hx hb dX3_step_116 rfl (lv_at hl 1 rfl) ?_
        obtain ⟨hb117, h⟩ := zk_g_spec h
        refine va_dald hx hb hK hP 2 4 rfl rfl hb117 dX3_step_117 ?_
        refine lv_ldc2d (v := (4576918229175238656 : UInt64)) hx hb hown (hts (.constantDouble RX3 40 (4576918229175238656 : UInt64)) (by decide +kernel)) dX3_step_118 ?_
        refine lv_aload_n hx hb dX3_step_121 rfl (lv_at hl 0 rfl) ?_
        refine va_get (D := D) (ci := 5) (v := .ref q_t_speeds) (C := RX3) (T := TX3) (N := 5) hx hb hts iX3_step_X3 hown hK hP 0 rfl rfl 2 (by decide) (hts (.fieldLink RX3 19 "PulseMeadow$Swings" "speeds" "[D") (by decide +kernel)) (fun _ h9 => h9) rfl dX3_step_122 ?_
        refine lv_iload_n hx hb dX3_step_125 rfl (lv_at hl 1 rfl) ?_
        obtain ⟨hb126, h⟩ := zk_g_spec h
        refine va_dald hx hb hK hP 3 4 rfl rfl hb126 dX3_step_126 ?_
        obtain ⟨o127, hc127, h⟩ := zk_bind h
        refine zk_cd (wr := [(q_t, .inr (5, [.ref q_t_there, .ref q_t_angles, .ref q_t_speeds, .int v_t_stiffness, .int v_t_pull])), (q_t_there, .inl (T 1, 4, .inl v_t_there)), (q_t_angles, .inl (T 4, 4, .inr (.inr (.inr (.inl v_t_angles))))), (q_t_speeds, .inl (T 4, 4, .inr (.inr (.inr (.inl v_t_speeds)))))]) (va_runS (As := [.double (4576918229175238656 : UInt64), .double (v_t_speeds x3.toNatClampNeg)]) (rest := [.double (v_t_angles x3.toNatClampNeg), .int x3, .ref q_t_angles]) ⟨hx, hb, hml, hown, hts⟩ (k_X3_times l D T N  _  (4576918229175238656 : UInt64) (v_t_speeds x3.toNatClampNeg) o127 hc127) (va_cwS 2 hts gX3_step_X3_times rfl rfl rfl (by decide +kernel) ⟨Nat.le_of_ble_eq_true rfl, Nat.le_of_ble_eq_true rfl⟩) (zk_preS hK hN (hP.sub [] rfl) (hD.sub [] (by decide) rfl)) rfl rfl hl.1 rfl (lv_room (Nat.le_of_ble_eq_true rfl)) dX3_step_127 ⟨Nat.zero_le _, Nat.zero_le _⟩) hP hD hS hA [] [0, 1, 2, 3] rfl rfl (by decide) (by decide) [0, 1, 2, 3] (wf := [(q_t, .inr (5, [.ref q_t_there, .ref q_t_angles, .ref q_t_speeds, .int v_t_stiffness, .int v_t_pull])), (q_t_there, .inl (T 1, 4, .inl v_t_there)), (q_t_angles, .inl (T 4, 4, .inr (.inr (.inr (.inl v_t_angles))))), (q_t_speeds, .inl (T 4, 4, .inr (.inr (.inr (.inl v_t_speeds)))))]) rfl (by decide) (fun H locs hP hD hS => ?_)
        obtain ⟨o130, hc130, h⟩ := zk_bind h
        refine zk_cd (wr := [(q_t, .inr (5, [.ref q_t_there, .ref q_t_angles, .ref q_t_speeds, .int v_t_stiffness, .int v_t_pull])), (q_t_there, .inl (T 1, 4, .inl v_t_there)), (q_t_angles, .inl (T 4, 4, .inr (.inr (.inr (.inl v_t_angles))))), (q_t_speeds, .inl (T 4, 4, .inr (.inr (.inr (.inl v_t_speeds)))))]) (va_runS (As := [.double (v_t_angles x3.toNatClampNeg), .double o127]) (rest := [.int x3, .ref q_t_angles]) ⟨hx, hb, hml, hown, hts⟩ (k_X3_plus l D T N  _  (v_t_angles x3.toNatClampNeg) o127 o130 hc130) (va_cwS 2 hts gX3_step_X3_plus rfl rfl rfl (by decide +kernel) ⟨Nat.le_of_ble_eq_true rfl, Nat.le_of_ble_eq_true rfl⟩) (zk_preS hK hN (hP.sub [] rfl) (hD.sub [] (by decide) rfl)) rfl rfl hl.1 rfl (lv_room (Nat.le_of_ble_eq_true rfl)) dX3_step_130 ⟨Nat.zero_le _, Nat.zero_le _⟩) hP hD hS hA [] [0, 1, 2, 3] rfl rfl (by decide) (by decide) [0, 1, 2, 3] (wf := [(q_t, .inr (5, [.ref q_t_there, .ref q_t_angles, .ref q_t_speeds, .int v_t_stiffness, .int v_t_pull])), (q_t_there, .inl (T 1, 4, .inl v_t_there)), (q_t_angles, .inl (T 4, 4, .inr (.inr (.inr (.inl v_t_angles))))), (q_t_speeds, .inl (T 4, 4, .inr (.inr (.inr (.inl v_t_speeds)))))]) rfl (by decide) (fun H locs hP hD hS => ?_)
        obtain ⟨hb133, h⟩ := zk_g_spec h
        refine va_dast hx hb hK hP hD hS 2 4 rfl rfl hb133 dX3_step_133 (fun H locs hP hD hS => ?_)
        have hP : va_P D vwCl [(q_t, .inr (5, [.ref q_t_there, .ref q_t_angles, .ref q_t_speeds, .int v_t_stiffness, .int v_t_pull])), (q_t_there, .inl (T 1, 4, .inl v_t_there)), (q_t_angles, .inl (T 4, 4, .inr (.inr (.inr (.inl (vf_upd v_t_angles x3.toNatClampNeg o130)))))), (q_t_speeds, .inl (T 4, 4, .inr (.inr (.inr (.inl v_t_speeds)))))] H := hP
        have hD : va_D A [(q_t, .inr (5, [.ref q_t_there, .ref q_t_angles, .ref q_t_speeds, .int v_t_stiffness, .int v_t_pull])), (q_t_there, .inl (T 1, 4, .inl v_t_there)), (q_t_angles, .inl (T 4, 4, .inr (.inr (.inr (.inl (vf_upd v_t_angles x3.toNatClampNeg o130)))))), (q_t_speeds, .inl (T 4, 4, .inr (.inr (.inr (.inl v_t_speeds)))))] := hD
        refine lv_iinc (v := x3 + (1 : Int32)) (lv' := [(3, .int (x3 + (1 : Int32))), (0, .ref q_t)]) hx hb dX3_step_134 hl (k := 1) rfl rfl (by decide) rfl (fun ls hl => ?_)
        refine lv_goto (tgt := 93) hx hb dX3_step_137 (by decide) ?_
        exact ih (x3 + (1 : Int32)) (vf_upd v_t_angles x3.toNatClampNeg o130) o h _ _ _ hP hD hS (lv_sub hl [1, 0] rfl) kx0
def f_X3_step (N : Nat) (v_t_stiffness : Int32) (v_t_pull : Int32) (v_t_there : Nat → Int32) (v_t_angles : Nat → UInt64) (v_t_speeds : Nat → UInt64) : Option ((Nat → UInt64) × (Nat → UInt64)) := (f_X3_meanAngle N v_t_there v_t_angles).bind fun o1 => (f_X3_step_7 N v_t_stiffness v_t_pull v_t_there v_t_angles o1 N (0 : Int32) v_t_speeds).bind fun o7 => (f_X3_step_93 N v_t_there o7.2 N (0 : Int32) v_t_angles).bind fun o93 => some (o93.2, o7.2)
set_option maxHeartbeats 8000000 in
set_option maxRecDepth 100000 in
theorem k_X3_step (l : Launch) (D : va_G) (T : Nat → ClassId) (N : Nat) (q_t q_t_there q_t_angles q_t_speeds : Nat) (sz : Nat) (v_t_stiffness : Int32) (v_t_pull : Int32) (v_t_there : Nat → Int32) (v_t_angles : Nat → UInt64) (v_t_speeds : Nat → UInt64) (o : (Nat → UInt64) × (Nat → UInt64)) (h : f_X3_step N v_t_stiffness v_t_pull v_t_there v_t_angles v_t_speeds = some o) : Met l yX3_step wsX3_step ({ frames := 4, cells := 0, slots := 0, locals := 86 } : Room) (zk_Pc D T [.ref q_t] [(q_t, .inr (5, [.ref q_t_there, .ref q_t_angles, .ref q_t_speeds, .int v_t_stiffness, .int v_t_pull])), (q_t_there, .inl (T 1, 4, .inl v_t_there)), (q_t_angles, .inl (T 4, 4, .inr (.inr (.inr (.inl v_t_angles))))), (q_t_speeds, .inl (T 4, 4, .inr (.inr (.inr (.inl v_t_speeds)))))] sz) (zk_Qv D [(q_t, .inr (5, [.ref q_t_there, .ref q_t_angles, .ref q_t_speeds, .int v_t_stiffness, .int v_t_pull])), (q_t_there, .inl (T 1, 4, .inl v_t_there)), (q_t_angles, .inl (T 4, 4, .inr (.inr (.inr (.inl o.1))))), (q_t_speeds, .inl (T 4, 4, .inr (.inr (.inr (.inl o.2)))))] (va_A [(q_t, .inr (5, [.ref q_t_there, .ref q_t_angles, .ref q_t_speeds, .int v_t_stiffness, .int v_t_pull])), (q_t_there, .inl (T 1, 4, .inl v_t_there)), (q_t_angles, .inl (T 4, 4, .inr (.inr (.inr (.inl v_t_angles))))), (q_t_speeds, .inl (T 4, 4, .inr (.inr (.inr (.inl v_t_speeds)))))] sz) (va_A [(q_t, .inr (5, [.ref q_t_there, .ref q_t_angles, .ref q_t_speeds, .int v_t_stiffness, .int v_t_pull])), (q_t_there, .inl (T 1, 4, .inl v_t_there)), (q_t_angles, .inl (T 4, 4, .inr (.inr (.inr (.inl v_t_angles))))), (q_t_speeds, .inl (T 4, 4, .inr (.inr (.inr (.inl v_t_speeds)))))] sz)) 0 0 (va_A [(q_t, .inr (5, [.ref q_t_there, .ref q_t_angles, .ref q_t_speeds, .int v_t_stiffness, .int v_t_pull])), (q_t_there, .inl (T 1, 4, .inl v_t_there)), (q_t_angles, .inl (T 4, 4, .inr (.inr (.inr (.inl v_t_angles))))), (q_t_speeds, .inl (T 4, 4, .inr (.inr (.inr (.inl v_t_speeds)))))] sz) := by
  refine Met.ofW (cc := cX3_step) (maxL := 8) (ret := none) (by decide) rfl ?_
  intro p e s m args below meth c s₁ B hml hv
  obtain ⟨rfl, hsz, hP, hK, hN, hD0⟩ := hv
  have hx := B.exec
  have hb := B.bytes
  have hr := B.returns
  have hts := atoms_spec (ws := wsX3_step) B.pre
  have hown : s.vm.findClass RX3 = some m.cls := findClass_of_methodNamed B.named
  have hlocks := B.notSynchronized
  subst hsz
  have hD := hD0.self (sz := s.heap.size)
  generalize hAe : va_A [(q_t, .inr (5, [.ref q_t_there, .ref q_t_angles, .ref q_t_speeds, .int v_t_stiffness, .int v_t_pull])), (q_t_there, .inl (T 1, 4, .inl v_t_there)), (q_t_angles, .inl (T 4, 4, .inr (.inr (.inr (.inl v_t_angles))))), (q_t_speeds, .inl (T 4, 4, .inr (.inr (.inr (.inl v_t_speeds)))))] s.heap.size = A at hD ⊢
  have hA : ∀ q : Nat, s.heap.size ≤ q → A q := fun q h => by rw [← hAe]; exact Or.inr h
  have hS : va_S A s.heap s.heap [] := va_S.rf
  have hP : va_P D vwCl [(q_t, .inr (5, [.ref q_t_there, .ref q_t_angles, .ref q_t_speeds, .int v_t_stiffness, .int v_t_pull])), (q_t_there, .inl (T 1, 4, .inl v_t_there)), (q_t_angles, .inl (T 4, 4, .inr (.inr (.inr (.inl v_t_angles))))), (q_t_speeds, .inl (T 4, 4, .inr (.inr (.inr (.inl v_t_speeds)))))] s.heap := hP
  have hl := lv_entry ([.ref q_t]) (n := 8) (Nat.le_of_ble_eq_true rfl)
  rw [lg_entry_eq]
  generalize (lg_sl ([.ref q_t]) ++ List.replicate (8 - (lg_sl ([.ref q_t])).length) Slot.unset).toArray = ls at hl ⊢
  have hl : lv_has ls 8 [(0, .ref q_t)] := hl
  unfold f_X3_step at h
  refine lv_aload_n hx hb dX3_step_0 rfl (lv_at hl 0 rfl) ?_
  obtain ⟨o1, hc1, h⟩ := zk_bind h
  refine zk_cd (wr := [(q_t_speeds, .inl (T 4, 4, .inr (.inr (.inr (.inl v_t_speeds)))))]) (va_runV (As := []) (rest := []) ⟨hx, hb, hml, hown, hts⟩ (k_X3_meanAngle l D T N q_t q_t_there q_t_angles q_t_speeds _ v_t_stiffness v_t_pull v_t_there v_t_angles  o1 hc1) (cwV 0 hts gX3_step_X3_meanAngle rfl rfl rfl (by decide +kernel) ⟨Nat.le_of_ble_eq_true rfl, Nat.le_of_ble_eq_true rfl⟩) (zk_preV (q := (RX3, TX3, 5)) hK hN (hP.sub [0, 1, 2] rfl) (hD.sub [0, 1, 2] (by decide) rfl) 0 rfl rfl) rfl rfl hl.1 rfl (lv_room (Nat.le_of_ble_eq_true rfl)) dX3_step_1 ⟨Nat.zero_le _, Nat.zero_le _⟩) hP hD hS hA [0, 1, 2] [3] rfl rfl (by decide) (by decide) [1, 2, 3, 0] (wf := [(q_t, .inr (5, [.ref q_t_there, .ref q_t_angles, .ref q_t_speeds, .int v_t_stiffness, .int v_t_pull])), (q_t_there, .inl (T 1, 4, .inl v_t_there)), (q_t_angles, .inl (T 4, 4, .inr (.inr (.inr (.inl v_t_angles))))), (q_t_speeds, .inl (T 4, 4, .inr (.inr (.inr (.inl v_t_speeds)))))]) rfl (by decide) (fun H locs hP hD hS => ?_)
  refine lv_dstore_n (lv' := [(1, .double o1), (0, .ref q_t)]) hx hb dX3_step_4 rfl hl (by decide) rfl (fun ls hl => ?_)
  refine lv_iconst (v := (0 : Int32)) hx hb dX3_step_5 (by decide) ?_
  refine lv_istore_n (lv' := [(3, .int (0 : Int32)), (1, .double o1), (0, .ref q_t)]) hx hb dX3_step_6 rfl hl (by decide) rfl (fun ls hl => ?_)
  obtain ⟨o7, hc7, h⟩ := zk_bind h
  refine l_X3_step_7 N hx hb hml hown hts hA hK hN q_t q_t_there q_t_angles q_t_speeds v_t_stiffness v_t_pull v_t_there v_t_angles o1 N (0 : Int32) v_t_speeds o7 hc7 _ _ _ hP hD hS (lv_sub hl [2, 1, 0] rfl) (fun H locs ls hP hD hS hl => ?_)
  refine lv_iconst (v := (0 : Int32)) hx hb dX3_step_91 (by decide) ?_
  refine lv_istore_n (lv' := [(3, .int (0 : Int32)), (0, .ref q_t)]) hx hb dX3_step_92 rfl hl (by decide) rfl (fun ls hl => ?_)
  obtain ⟨o93, hc93, h⟩ := zk_bind h
  refine l_X3_step_93 N hx hb hml hown hts hA hK hN q_t q_t_there q_t_angles q_t_speeds v_t_stiffness v_t_pull v_t_there o7.2 N (0 : Int32) v_t_angles o93 hc93 _ _ _ hP hD hS (lv_sub hl [1, 0] rfl) (fun H locs ls hP hD hS hl => ?_)
  obtain rfl := Option.some.inj h
  exact W.vret hx hb hr (fun t ht hW => ⟨⟨(), rfl, trivial, ⟨by rw [ht]; exact hP, hD⟩⟩, hS.F ht⟩) hS.2.2 dX3_step_140
def f_X3_bitsOf_84 (N : Nat) : Nat → UInt64 → Int32 → Int32 → Option (UInt64 × Int32 × Int32)
  | 0, _, _, _ => none
  | n + 1, x8, x10, x11 => if (1100 : Int32) ≤ x11 then (some (x8, x10, x11)) else (if (Op.cmpValue (FP.dcmp x8 (4611686018427387904 : UInt64)) .l) < 0 then (some (x8, x10, x11)) else (zk_n64 (FP.ddiv x8 (4611686018427387904 : UInt64)) (f_X3_bitsOf_84 N n (FP.ddiv x8 (4611686018427387904 : UInt64)) (x10 + (1 : Int32)) (x11 + (1 : Int32)))))
set_option maxHeartbeats 8000000 in
set_option maxRecDepth 100000 in
theorem l_X3_bitsOf_84 {p : Program} {l : Launch} {e : Env} {s : State} {m : MethodId} {args : Array Value} {below : List Frame} {meth : Method} {c : Code} {Q : State → Prop} {A : Nat → Prop} {D : va_G} {T : Nat → ClassId} (N : Nat) (hx : p.tables.exec = Jvm.exec) (hb : c.code = cX3_bitsOf) (hml : c.maxLocals = 15) (hown : s.vm.findClass RX3 = some m.cls) (hts : ∀ w ∈ wsX3_bitsOf, w.before args s = true) (hA : ∀ q : Nat, s.heap.size ≤ q → A q) (hK : va_K D vwCl (zk_ty T) s) (hN : zk_N s) (x2 : Int32) (x3 : Int32) (x6 : Int64) :
    ∀ (n : Nat) (x8 : UInt64) (x10 : Int32) (x11 : Int32) (o : UInt64 × Int32 × Int32), f_X3_bitsOf_84 N n x8 x10 x11 = some o → ∀ (H : Heap) (locs : List Loc) (ls : Array Slot), va_P D vwCl [] H → va_D A [] → va_S A s.heap H locs → lv_has ls 15 [(2, .int x2), (3, .int x3), (6, .long x6), (8, .double x8), (10, .int x10), (11, .int x11)] → (∀ (H : Heap) (locs : List Loc) (ls : Array Slot), va_P D vwCl [] H → va_D A [] → va_S A s.heap H locs → lv_has ls 15 [(2, .int x2), (3, .int x3), (6, .long x6), (8, .double o.1), (10, .int o.2.1)] → W p l e ({ frames := 2, cells := 0, slots := 0, locals := 40 } : Room) s m args below meth c H locs 0 0 Q (F0 m 118 ls [])) → W p l e ({ frames := 2, cells := 0, slots := 0, locals := 40 } : Room) s m args below meth c H locs 0 0 Q (F0 m 84 ls []) := by
  intro n
  induction n with
  | zero => intro x8 x10 x11 o h; exact absurd h (by simp [f_X3_bitsOf_84])
  | succ n ih =>
    intro x8 x10 x11 o h H locs ls hP hD hS hl kx0
    rw [f_X3_bitsOf_84] at h
    refine lv_iload hx hb dX3_bitsOf_84 (lv_at hl 5 rfl) ?_
    refine lv_sipush (v := (1100 : Int32)) hx hb dX3_bitsOf_86 (by decide) ?_
    refine lv_icmp_ge (tgt := 118) hx hb dX3_bitsOf_89 (by decide) (fun c89 => ?_) (fun c89 => ?_)
    · replace h := (if_pos c89).symm.trans h
      obtain rfl := Option.some.inj h
      exact kx0 _ _ _ hP hD hS (lv_sub hl [0, 1, 2, 3, 4] rfl)
    · replace h := (if_neg c89).symm.trans h
      refine lv_dload hx hb dX3_bitsOf_92 (lv_at hl 3 rfl) ?_
      refine lv_ldc2d (v := (4611686018427387904 : UInt64)) hx hb hown (hts (.constantDouble RX3 77 (4611686018427387904 : UInt64)) (by decide +kernel)) dX3_bitsOf_94 ?_
      refine lv_dcmp hx hb dX3_bitsOf_97 ?_
      refine lv_if_lt (tgt := 118) hx hb dX3_bitsOf_98 (by decide) (fun c98 => ?_) (fun c98 => ?_)
      · replace h := (if_pos c98).symm.trans h
        obtain rfl := Option.some.inj h
        exact kx0 _ _ _ hP hD hS (lv_sub hl [0, 1, 2, 3, 4] rfl)
      · replace h := (if_neg c98).symm.trans h
        refine lv_dload hx hb dX3_bitsOf_101 (lv_at hl 3 rfl) ?_
        refine lv_ldc2d (v := (4611686018427387904 : UInt64)) hx hb hown (hts (.constantDouble RX3 77 (4611686018427387904 : UInt64)) (by decide +kernel)) dX3_bitsOf_103 ?_
        obtain ⟨hz106, h⟩ := zk_n64_spec h
        refine lv_ddiv hx hb dX3_bitsOf_106 hz106 ?_
        refine lv_dstore (lv' := [(8, .double (FP.ddiv x8 (4611686018427387904 : UInt64))), (2, .int x2), (3, .int x3), (6, .long x6), (10, .int x10), (11, .int x11)]) hx hb dX3_bitsOf_107 hl (by decide) rfl (fun ls hl => ?_)
        refine lv_iinc (v := x10 + (1 : Int32)) (lv' := [(10, .int (x10 + (1 : Int32))), (8, .double (FP.ddiv x8 (4611686018427387904 : UInt64))), (2, .int x2), (3, .int x3), (6, .long x6), (11, .int x11)]) hx hb dX3_bitsOf_109 hl (k := 4) rfl rfl (by decide) rfl (fun ls hl => ?_)
        refine lv_iinc (v := x11 + (1 : Int32)) (lv' := [(11, .int (x11 + (1 : Int32))), (10, .int (x10 + (1 : Int32))), (8, .double (FP.ddiv x8 (4611686018427387904 : UInt64))), (2, .int x2), (3, .int x3), (6, .long x6)]) hx hb dX3_bitsOf_112 hl (k := 5) rfl rfl (by decide) rfl (fun ls hl => ?_)
        refine lv_goto (tgt := 84) hx hb dX3_bitsOf_115 (by decide) ?_
        exact ih (FP.ddiv x8 (4611686018427387904 : UInt64)) (x10 + (1 : Int32)) (x11 + (1 : Int32)) o h _ _ _ hP hD hS (lv_sub hl [3, 4, 5, 2, 1, 0] rfl) kx0
def f_X3_bitsOf_121 (N : Nat) (x3 : Int32) : Nat → UInt64 → Int32 → Int32 → Option (UInt64 × Int32 × Int32)
  | 0, _, _, _ => none
  | n + 1, x8, x10, x11 => if (1100 : Int32) ≤ x11 then (some (x8, x10, x11)) else (if 0 ≤ (Op.cmpValue (FP.dcmp x8 FP.dconst1) .g) then (some (x8, x10, x11)) else (if x10 ≤ ((1 : Int32) - x3) then (some (x8, x10, x11)) else (zk_n64 (FP.dmul x8 (4611686018427387904 : UInt64)) (f_X3_bitsOf_121 N x3 n (FP.dmul x8 (4611686018427387904 : UInt64)) (x10 + (-1 : Int32)) (x11 + (1 : Int32))))))
set_option maxHeartbeats 8000000 in
set_option maxRecDepth 100000 in
theorem l_X3_bitsOf_121 {p : Program} {l : Launch} {e : Env} {s : State} {m : MethodId} {args : Array Value} {below : List Frame} {meth : Method} {c : Code} {Q : State → Prop} {A : Nat → Prop} {D : va_G} {T : Nat → ClassId} (N : Nat) (hx : p.tables.exec = Jvm.exec) (hb : c.code = cX3_bitsOf) (hml : c.maxLocals = 15) (hown : s.vm.findClass RX3 = some m.cls) (hts : ∀ w ∈ wsX3_bitsOf, w.before args s = true) (hA : ∀ q : Nat, s.heap.size ≤ q → A q) (hK : va_K D vwCl (zk_ty T) s) (hN : zk_N s) (x2 : Int32) (x3 : Int32) (x6 : Int64) :
    ∀ (n : Nat) (x8 : UInt64) (x10 : Int32) (x11 : Int32) (o : UInt64 × Int32 × Int32), f_X3_bitsOf_121 N x3 n x8 x10 x11 = some o → ∀ (H : Heap) (locs : List Loc) (ls : Array Slot), va_P D vwCl [] H → va_D A [] → va_S A s.heap H locs → lv_has ls 15 [(2, .int x2), (3, .int x3), (6, .long x6), (8, .double x8), (10, .int x10), (11, .int x11)] → (∀ (H : Heap) (locs : List Loc) (ls : Array Slot), va_P D vwCl [] H → va_D A [] → va_S A s.heap H locs → lv_has ls 15 [(2, .int x2), (3, .int x3), (6, .long x6), (8, .double o.1), (10, .int o.2.1)] → W p l e ({ frames := 2, cells := 0, slots := 0, locals := 40 } : Room) s m args below meth c H locs 0 0 Q (F0 m 161 ls [])) → W p l e ({ frames := 2, cells := 0, slots := 0, locals := 40 } : Room) s m args below meth c H locs 0 0 Q (F0 m 121 ls []) := by
  intro n
  induction n with
  | zero => intro x8 x10 x11 o h; exact absurd h (by simp [f_X3_bitsOf_121])
  | succ n ih =>
    intro x8 x10 x11 o h H locs ls hP hD hS hl kx0
    rw [f_X3_bitsOf_121] at h
    refine lv_iload hx hb dX3_bitsOf_121 (lv_at hl 5 rfl) ?_
    refine lv_sipush (v := (1100 : Int32)) hx hb dX3_bitsOf_123 (by decide) ?_
    refine lv_icmp_ge (tgt := 161) hx hb dX3_bitsOf_126 (by decide) (fun c126 => ?_) (fun c126 => ?_)
    · replace h := (if_pos c126).symm.trans h
      obtain rfl := Option.some.inj h
      exact kx0 _ _ _ hP hD hS (lv_sub hl [0, 1, 2, 3, 4] rfl)
    · replace h := (if_neg c126).symm.trans h
      refine lv_dload hx hb dX3_bitsOf_129 (lv_at hl 3 rfl) ?_
      refine lv_dconst1 hx hb dX3_bitsOf_131 ?_
      refine lv_dcmp hx hb dX3_bitsOf_132 ?_
      refine lv_if_ge (tgt := 161) hx hb dX3_bitsOf_133 (by decide) (fun c133 => ?_) (fun c133 => ?_)
      · replace h := (if_pos c133).symm.trans h
        obtain rfl := Option.some.inj h
        exact kx0 _ _ _ hP hD hS (lv_sub hl [0, 1, 2, 3, 4] rfl)
      · replace h := (if_neg c133).symm.trans h
        refine lv_iload hx hb dX3_bitsOf_136 (lv_at hl 4 rfl) ?_
        refine lv_iconst (v := (1 : Int32)) hx hb dX3_bitsOf_138 (by decide) ?_
        refine lv_iload_n hx hb dX3_bitsOf_139 rfl (lv_at hl 1 rfl) ?_
        refine lv_isub hx hb dX3_bitsOf_140 ?_
        refine lv_icmp_le (tgt := 161) hx hb dX3_bitsOf_141 (by decide) (fun c141 => ?_) (fun c141 => ?_)
        · replace h := (if_pos c141).symm.trans h
          obtain rfl := Option.some.inj h
          exact kx0 _ _ _ hP hD hS (lv_sub hl [0, 1, 2, 3, 4] rfl)
        · replace h := (if_neg c141).symm.trans h
          refine lv_dload hx hb dX3_bitsOf_144 (lv_at hl 3 rfl) ?_
          refine lv_ldc2d (v := (4611686018427387904 : UInt64)) hx hb hown (hts (.constantDouble RX3 77 (4611686018427387904 : UInt64)) (by decide +kernel)) dX3_bitsOf_146 ?_
          obtain ⟨hz149, h⟩ := zk_n64_spec h
          refine lv_dmul hx hb dX3_bitsOf_149 hz149 ?_
          refine lv_dstore (lv' := [(8, .double (FP.dmul x8 (4611686018427387904 : UInt64))), (2, .int x2), (3, .int x3), (6, .long x6), (10, .int x10), (11, .int x11)]) hx hb dX3_bitsOf_150 hl (by decide) rfl (fun ls hl => ?_)
          refine lv_iinc (v := x10 + (-1 : Int32)) (lv' := [(10, .int (x10 + (-1 : Int32))), (8, .double (FP.dmul x8 (4611686018427387904 : UInt64))), (2, .int x2), (3, .int x3), (6, .long x6), (11, .int x11)]) hx hb dX3_bitsOf_152 hl (k := 4) rfl rfl (by decide) rfl (fun ls hl => ?_)
          refine lv_iinc (v := x11 + (1 : Int32)) (lv' := [(11, .int (x11 + (1 : Int32))), (10, .int (x10 + (-1 : Int32))), (8, .double (FP.dmul x8 (4611686018427387904 : UInt64))), (2, .int x2), (3, .int x3), (6, .long x6)]) hx hb dX3_bitsOf_155 hl (k := 5) rfl rfl (by decide) rfl (fun ls hl => ?_)
          refine lv_goto (tgt := 121) hx hb dX3_bitsOf_158 (by decide) ?_
          exact ih (FP.dmul x8 (4611686018427387904 : UInt64)) (x10 + (-1 : Int32)) (x11 + (1 : Int32)) o h _ _ _ hP hD hS (lv_sub hl [3, 4, 5, 2, 1, 0] rfl) kx0
def f_X3_bitsOf (N : Nat) (x0 : UInt64) (x2 : Int32) (x3 : Int32) : Option (Int64) := (f_X3_isLost N x0).bind fun o13 => if o13 = 0 then (if 0 ≤ (Op.cmpValue (FP.dcmp x0 FP.dconst0) .g) then (if 0 ≤ (Op.cmpValue (FP.dcmp x0 FP.dconst0) .g) then ((f_X3_isEndless N x0).bind fun o66 => if o66 = 0 then ((f_X3_bitsOf_84 N N x0 (0 : Int32) (0 : Int32)).bind fun o84 => (f_X3_bitsOf_121 N x3 N o84.1 o84.2.1 (0 : Int32)).bind fun o121 => if 0 ≤ (Op.cmpValue (FP.dcmp o121.1 FP.dconst1) .g) then (if 0 ≤ (Op.cmpValue (FP.dcmp o121.1 FP.dconst1) .g) then (zk_n64 (FP.dsub o121.1 FP.dconst1) (zk_n64 (FP.dmul (FP.dsub o121.1 FP.dconst1) (FP.l2d ((1 : Int64) <<< (x2.toInt64 &&& 63)))) (some (((0 : Int64) ||| (((o121.2.1 + x3).toInt64) <<< (x2.toInt64 &&& 63))) ||| (FP.d2l (FP.dmul (FP.dsub o121.1 FP.dconst1) (FP.l2d ((1 : Int64) <<< (x2.toInt64 &&& 63))))))))) else (zk_n64 (FP.dmul o121.1 (FP.l2d ((1 : Int64) <<< (x2.toInt64 &&& 63)))) (some (((0 : Int64) ||| (((o121.2.1 + x3).toInt64) <<< (x2.toInt64 &&& 63))) ||| (FP.d2l (FP.dmul o121.1 (FP.l2d ((1 : Int64) <<< (x2.toInt64 &&& 63))))))))) else (if 0 ≤ (Op.cmpValue (FP.dcmp o121.1 FP.dconst1) .g) then (zk_n64 (FP.dsub o121.1 FP.dconst1) (zk_n64 (FP.dmul (FP.dsub o121.1 FP.dconst1) (FP.l2d ((1 : Int64) <<< (x2.toInt64 &&& 63)))) (some (((0 : Int64) ||| (0 : Int64)) ||| (FP.d2l (FP.dmul (FP.dsub o121.1 FP.dconst1) (FP.l2d ((1 : Int64) <<< (x2.toInt64 &&& 63))))))))) else (zk_n64 (FP.dmul o121.1 (FP.l2d ((1 : Int64) <<< (x2.toInt64 &&& 63)))) (some (((0 : Int64) ||| (0 : Int64)) ||| (FP.d2l (FP.dmul o121.1 (FP.l2d ((1 : Int64) <<< (x2.toInt64 &&& 63)))))))))) else (some ((0 : Int64) ||| ((((2 : Int64) * x3.toInt64) + (1 : Int64)) <<< (x2.toInt64 &&& 63))))) else ((f_X3_isEndless N (FP.dneg x0)).bind fun o66 => if o66 = 0 then ((f_X3_bitsOf_84 N N (FP.dneg x0) (0 : Int32) (0 : Int32)).bind fun o84 => (f_X3_bitsOf_121 N x3 N o84.1 o84.2.1 (0 : Int32)).bind fun o121 => if 0 ≤ (Op.cmpValue (FP.dcmp o121.1 FP.dconst1) .g) then (if 0 ≤ (Op.cmpValue (FP.dcmp o121.1 FP.dconst1) .g) then (zk_n64 (FP.dsub o121.1 FP.dconst1) (zk_n64 (FP.dmul (FP.dsub o121.1 FP.dconst1) (FP.l2d ((1 : Int64) <<< (x2.toInt64 &&& 63)))) (some (((0 : Int64) ||| (((o121.2.1 + x3).toInt64) <<< (x2.toInt64 &&& 63))) ||| (FP.d2l (FP.dmul (FP.dsub o121.1 FP.dconst1) (FP.l2d ((1 : Int64) <<< (x2.toInt64 &&& 63))))))))) else (zk_n64 (FP.dmul o121.1 (FP.l2d ((1 : Int64) <<< (x2.toInt64 &&& 63)))) (some (((0 : Int64) ||| (((o121.2.1 + x3).toInt64) <<< (x2.toInt64 &&& 63))) ||| (FP.d2l (FP.dmul o121.1 (FP.l2d ((1 : Int64) <<< (x2.toInt64 &&& 63))))))))) else (if 0 ≤ (Op.cmpValue (FP.dcmp o121.1 FP.dconst1) .g) then (zk_n64 (FP.dsub o121.1 FP.dconst1) (zk_n64 (FP.dmul (FP.dsub o121.1 FP.dconst1) (FP.l2d ((1 : Int64) <<< (x2.toInt64 &&& 63)))) (some (((0 : Int64) ||| (0 : Int64)) ||| (FP.d2l (FP.dmul (FP.dsub o121.1 FP.dconst1) (FP.l2d ((1 : Int64) <<< (x2.toInt64 &&& 63))))))))) else (zk_n64 (FP.dmul o121.1 (FP.l2d ((1 : Int64) <<< (x2.toInt64 &&& 63)))) (some (((0 : Int64) ||| (0 : Int64)) ||| (FP.d2l (FP.dmul o121.1 (FP.l2d ((1 : Int64) <<< (x2.toInt64 &&& 63)))))))))) else (some ((0 : Int64) ||| ((((2 : Int64) * x3.toInt64) + (1 : Int64)) <<< (x2.toInt64 &&& 63)))))) else (if 0 ≤ (Op.cmpValue (FP.dcmp x0 FP.dconst0) .g) then ((f_X3_isEndless N x0).bind fun o66 => if o66 = 0 then ((f_X3_bitsOf_84 N N x0 (0 : Int32) (0 : Int32)).bind fun o84 => (f_X3_bitsOf_121 N x3 N o84.1 o84.2.1 (0 : Int32)).bind fun o121 => if 0 ≤ (Op.cmpValue (FP.dcmp o121.1 FP.dconst1) .g) then (if 0 ≤ (Op.cmpValue (FP.dcmp o121.1 FP.dconst1) .g) then (zk_n64 (FP.dsub o121.1 FP.dconst1) (zk_n64 (FP.dmul (FP.dsub o121.1 FP.dconst1) (FP.l2d ((1 : Int64) <<< (x2.toInt64 &&& 63)))) (some (((((x3.toInt64 + (1 : Int64)) * (2 : Int64)) <<< (x2.toInt64 &&& 63)) ||| (((o121.2.1 + x3).toInt64) <<< (x2.toInt64 &&& 63))) ||| (FP.d2l (FP.dmul (FP.dsub o121.1 FP.dconst1) (FP.l2d ((1 : Int64) <<< (x2.toInt64 &&& 63))))))))) else (zk_n64 (FP.dmul o121.1 (FP.l2d ((1 : Int64) <<< (x2.toInt64 &&& 63)))) (some (((((x3.toInt64 + (1 : Int64)) * (2 : Int64)) <<< (x2.toInt64 &&& 63)) ||| (((o121.2.1 + x3).toInt64) <<< (x2.toInt64 &&& 63))) ||| (FP.d2l (FP.dmul o121.1 (FP.l2d ((1 : Int64) <<< (x2.toInt64 &&& 63))))))))) else (if 0 ≤ (Op.cmpValue (FP.dcmp o121.1 FP.dconst1) .g) then (zk_n64 (FP.dsub o121.1 FP.dconst1) (zk_n64 (FP.dmul (FP.dsub o121.1 FP.dconst1) (FP.l2d ((1 : Int64) <<< (x2.toInt64 &&& 63)))) (some (((((x3.toInt64 + (1 : Int64)) * (2 : Int64)) <<< (x2.toInt64 &&& 63)) ||| (0 : Int64)) ||| (FP.d2l (FP.dmul (FP.dsub o121.1 FP.dconst1) (FP.l2d ((1 : Int64) <<< (x2.toInt64 &&& 63))))))))) else (zk_n64 (FP.dmul o121.1 (FP.l2d ((1 : Int64) <<< (x2.toInt64 &&& 63)))) (some (((((x3.toInt64 + (1 : Int64)) * (2 : Int64)) <<< (x2.toInt64 &&& 63)) ||| (0 : Int64)) ||| (FP.d2l (FP.dmul o121.1 (FP.l2d ((1 : Int64) <<< (x2.toInt64 &&& 63)))))))))) else (some ((((x3.toInt64 + (1 : Int64)) * (2 : Int64)) <<< (x2.toInt64 &&& 63)) ||| ((((2 : Int64) * x3.toInt64) + (1 : Int64)) <<< (x2.toInt64 &&& 63))))) else ((f_X3_isEndless N (FP.dneg x0)).bind fun o66 => if o66 = 0 then ((f_X3_bitsOf_84 N N (FP.dneg x0) (0 : Int32) (0 : Int32)).bind fun o84 => (f_X3_bitsOf_121 N x3 N o84.1 o84.2.1 (0 : Int32)).bind fun o121 => if 0 ≤ (Op.cmpValue (FP.dcmp o121.1 FP.dconst1) .g) then (if 0 ≤ (Op.cmpValue (FP.dcmp o121.1 FP.dconst1) .g) then (zk_n64 (FP.dsub o121.1 FP.dconst1) (zk_n64 (FP.dmul (FP.dsub o121.1 FP.dconst1) (FP.l2d ((1 : Int64) <<< (x2.toInt64 &&& 63)))) (some (((((x3.toInt64 + (1 : Int64)) * (2 : Int64)) <<< (x2.toInt64 &&& 63)) ||| (((o121.2.1 + x3).toInt64) <<< (x2.toInt64 &&& 63))) ||| (FP.d2l (FP.dmul (FP.dsub o121.1 FP.dconst1) (FP.l2d ((1 : Int64) <<< (x2.toInt64 &&& 63))))))))) else (zk_n64 (FP.dmul o121.1 (FP.l2d ((1 : Int64) <<< (x2.toInt64 &&& 63)))) (some (((((x3.toInt64 + (1 : Int64)) * (2 : Int64)) <<< (x2.toInt64 &&& 63)) ||| (((o121.2.1 + x3).toInt64) <<< (x2.toInt64 &&& 63))) ||| (FP.d2l (FP.dmul o121.1 (FP.l2d ((1 : Int64) <<< (x2.toInt64 &&& 63))))))))) else (if 0 ≤ (Op.cmpValue (FP.dcmp o121.1 FP.dconst1) .g) then (zk_n64 (FP.dsub o121.1 FP.dconst1) (zk_n64 (FP.dmul (FP.dsub o121.1 FP.dconst1) (FP.l2d ((1 : Int64) <<< (x2.toInt64 &&& 63)))) (some (((((x3.toInt64 + (1 : Int64)) * (2 : Int64)) <<< (x2.toInt64 &&& 63)) ||| (0 : Int64)) ||| (FP.d2l (FP.dmul (FP.dsub o121.1 FP.dconst1) (FP.l2d ((1 : Int64) <<< (x2.toInt64 &&& 63))))))))) else (zk_n64 (FP.dmul o121.1 (FP.l2d ((1 : Int64) <<< (x2.toInt64 &&& 63)))) (some (((((x3.toInt64 + (1 : Int64)) * (2 : Int64)) <<< (x2.toInt64 &&& 63)) ||| (0 : Int64)) ||| (FP.d2l (FP.dmul o121.1 (FP.l2d ((1 : Int64) <<< (x2.toInt64 &&& 63)))))))))) else (some ((((x3.toInt64 + (1 : Int64)) * (2 : Int64)) <<< (x2.toInt64 &&& 63)) ||| ((((2 : Int64) * x3.toInt64) + (1 : Int64)) <<< (x2.toInt64 &&& 63))))))) else (some (((((2 : Int64) * x3.toInt64) + (1 : Int64)) <<< (x2.toInt64 &&& 63)) ||| ((1 : Int64) <<< ((x2 - (1 : Int32)).toInt64 &&& 63))))
set_option maxHeartbeats 8000000 in
set_option maxRecDepth 100000 in
theorem k_X3_bitsOf (l : Launch) (D : va_G) (T : Nat → ClassId) (N : Nat) (sz : Nat) (x0 : UInt64) (x2 : Int32) (x3 : Int32) (o : Int64) (h : f_X3_bitsOf N x0 x2 x3 = some o) : Met l yX3_bitsOf wsX3_bitsOf ({ frames := 2, cells := 0, slots := 0, locals := 40 } : Room) (zk_Pc D T [.double x0, .int x2, .int x3] [] sz) (zk_Ql o D [] (va_A [] sz) (va_A [] sz)) 0 0 (va_A [] sz) := by
  refine Met.ofW (cc := cX3_bitsOf) (maxL := 15) (ret := (some .long)) (by decide) rfl ?_
  intro p e s m args below meth c s₁ B hml hv
  obtain ⟨rfl, hsz, hP, hK, hN, hD0⟩ := hv
  have hx := B.exec
  have hb := B.bytes
  have hr := B.returns
  have hts := atoms_spec (ws := wsX3_bitsOf) B.pre
  have hown : s.vm.findClass RX3 = some m.cls := findClass_of_methodNamed B.named
  have hlocks := B.notSynchronized
  subst hsz
  have hD := hD0.self (sz := s.heap.size)
  generalize hAe : va_A [] s.heap.size = A at hD ⊢
  have hA : ∀ q : Nat, s.heap.size ≤ q → A q := fun q h => by rw [← hAe]; exact Or.inr h
  have hS : va_S A s.heap s.heap [] := va_S.rf
  have hP : va_P D vwCl [] s.heap := hP
  have hl := lv_entry ([.double x0, .int x2, .int x3]) (n := 15) (Nat.le_of_ble_eq_true rfl)
  rw [lg_entry_eq]
  generalize (lg_sl ([.double x0, .int x2, .int x3]) ++ List.replicate (15 - (lg_sl ([.double x0, .int x2, .int x3])).length) Slot.unset).toArray = ls at hl ⊢
  have hl : lv_has ls 15 [(0, .double x0), (2, .int x2), (3, .int x3)] := hl
  unfold f_X3_bitsOf at h
  refine lv_ldc2 (v := (2 : Int64)) hx hb hown (hts (.constantLong RX3 75 (2 : Int64)) (by decide +kernel)) dX3_bitsOf_0 ?_
  refine lv_iload_n hx hb dX3_bitsOf_3 rfl (lv_at hl 2 rfl) ?_
  refine lv_i2l (v := x3.toInt64) hx hb dX3_bitsOf_4 rfl ?_
  refine lv_lmul hx hb dX3_bitsOf_5 ?_
  refine lv_lconst (v := (1 : Int64)) hx hb dX3_bitsOf_6 (by decide) ?_
  refine lv_ladd hx hb dX3_bitsOf_7 ?_
  refine lv_iload_n hx hb dX3_bitsOf_8 rfl (lv_at hl 1 rfl) ?_
  refine lv_lshl (v := (((2 : Int64) * x3.toInt64) + (1 : Int64)) <<< (x2.toInt64 &&& 63)) hx hb dX3_bitsOf_9 rfl ?_
  refine lv_lstore (lv' := [(4, .long ((((2 : Int64) * x3.toInt64) + (1 : Int64)) <<< (x2.toInt64 &&& 63))), (0, .double x0), (2, .int x2), (3, .int x3)]) hx hb dX3_bitsOf_10 hl (by decide) rfl (fun ls hl => ?_)
  refine lv_dload_n hx hb dX3_bitsOf_12 rfl (lv_at hl 1 rfl) ?_
  obtain ⟨o13, hc13, h⟩ := zk_bind h
  refine zk_ci (wr := []) (va_runS (As := [.double x0]) (rest := []) ⟨hx, hb, hml, hown, hts⟩ (k_X3_isLost l D T N  _  x0 o13 hc13) (va_cwS 1 hts gX3_bitsOf_X3_isLost rfl rfl rfl (by decide +kernel) ⟨Nat.le_of_ble_eq_true rfl, Nat.le_of_ble_eq_true rfl⟩) (zk_preS hK hN (hP.sub [] rfl) (hD.sub [] (by decide) rfl)) rfl rfl hl.1 rfl (lv_room (Nat.le_of_ble_eq_true rfl)) dX3_bitsOf_13 ⟨Nat.zero_le _, Nat.zero_le _⟩) hP hD hS hA [] [] rfl rfl (by decide) (by decide) [] (wf := []) rfl (by decide) (fun H locs hP hD hS => ?_)
  refine lv_if_eq (tgt := 28) hx hb dX3_bitsOf_16 (by decide) (fun c16 => ?_) (fun c16 => ?_)
  · replace h := (if_pos c16).symm.trans h
    refine lv_dload_n hx hb dX3_bitsOf_28 rfl (lv_at hl 1 rfl) ?_
    refine lv_dconst0 hx hb dX3_bitsOf_29 ?_
    refine lv_dcmp hx hb dX3_bitsOf_30 ?_
    refine lv_if_ge (tgt := 47) hx hb dX3_bitsOf_31 (by decide) (fun c31 => ?_) (fun c31 => ?_)
    · replace h := (if_pos c31).symm.trans h
      refine lv_lconst (v := (0 : Int64)) hx hb dX3_bitsOf_47 (by decide) ?_
      refine lv_lstore (lv' := [(6, .long (0 : Int64)), (4, .long ((((2 : Int64) * x3.toInt64) + (1 : Int64)) <<< (x2.toInt64 &&& 63))), (0, .double x0), (2, .int x2), (3, .int x3)]) hx hb dX3_bitsOf_48 hl (by decide) rfl (fun ls hl => ?_)
      refine lv_dload_n hx hb dX3_bitsOf_50 rfl (lv_at hl 2 rfl) ?_
      refine lv_dconst0 hx hb dX3_bitsOf_51 ?_
      refine lv_dcmp hx hb dX3_bitsOf_52 ?_
      refine lv_if_ge (tgt := 61) hx hb dX3_bitsOf_53 (by decide) (fun c53 => ?_) (fun c53 => ?_)
      · replace h := (if_pos c53).symm.trans h
        refine lv_dload_n hx hb dX3_bitsOf_61 rfl (lv_at hl 2 rfl) ?_
        refine lv_dstore (lv' := [(8, .double x0), (6, .long (0 : Int64)), (4, .long ((((2 : Int64) * x3.toInt64) + (1 : Int64)) <<< (x2.toInt64 &&& 63))), (0, .double x0), (2, .int x2), (3, .int x3)]) hx hb dX3_bitsOf_62 hl (by decide) rfl (fun ls hl => ?_)
        refine lv_dload hx hb dX3_bitsOf_64 (lv_at hl 0 rfl) ?_
        obtain ⟨o66, hc66, h⟩ := zk_bind h
        refine zk_ci (wr := []) (va_runS (As := [.double x0]) (rest := []) ⟨hx, hb, hml, hown, hts⟩ (k_X3_isEndless l D T N  _  x0 o66 hc66) (va_cwS 1 hts gX3_bitsOf_X3_isEndless rfl rfl rfl (by decide +kernel) ⟨Nat.le_of_ble_eq_true rfl, Nat.le_of_ble_eq_true rfl⟩) (zk_preS hK hN (hP.sub [] rfl) (hD.sub [] (by decide) rfl)) rfl rfl hl.1 rfl (lv_room (Nat.le_of_ble_eq_true rfl)) dX3_bitsOf_66 ⟨Nat.zero_le _, Nat.zero_le _⟩) hP hD hS hA [] [] rfl rfl (by decide) (by decide) [] (wf := []) rfl (by decide) (fun H locs hP hD hS => ?_)
        refine lv_if_eq (tgt := 78) hx hb dX3_bitsOf_69 (by decide) (fun c69 => ?_) (fun c69 => ?_)
        · replace h := (if_pos c69).symm.trans h
          refine lv_iconst (v := (0 : Int32)) hx hb dX3_bitsOf_78 (by decide) ?_
          refine lv_istore (lv' := [(10, .int (0 : Int32)), (8, .double x0), (6, .long (0 : Int64)), (4, .long ((((2 : Int64) * x3.toInt64) + (1 : Int64)) <<< (x2.toInt64 &&& 63))), (0, .double x0), (2, .int x2), (3, .int x3)]) hx hb dX3_bitsOf_79 hl (by decide) rfl (fun ls hl => ?_)
          refine lv_iconst (v := (0 : Int32)) hx hb dX3_bitsOf_81 (by decide) ?_
          refine lv_istore (lv' := [(11, .int (0 : Int32)), (10, .int (0 : Int32)), (8, .double x0), (6, .long (0 : Int64)), (4, .long ((((2 : Int64) * x3.toInt64) + (1 : Int64)) <<< (x2.toInt64 &&& 63))), (0, .double x0), (2, .int x2), (3, .int x3)]) hx hb dX3_bitsOf_82 hl (by decide) rfl (fun ls hl => ?_)
          obtain ⟨o84, hc84, h⟩ := zk_bind h
          refine l_X3_bitsOf_84 N hx hb hml hown hts hA hK hN x2 x3 (0 : Int64) N x0 (0 : Int32) (0 : Int32) o84 hc84 _ _ _ hP hD hS (lv_sub hl [6, 7, 3, 2, 1, 0] rfl) (fun H locs ls hP hD hS hl => ?_)
          refine lv_iconst (v := (0 : Int32)) hx hb dX3_bitsOf_118 (by decide) ?_
          refine lv_istore (lv' := [(11, .int (0 : Int32)), (2, .int x2), (3, .int x3), (6, .long (0 : Int64)), (8, .double o84.1), (10, .int o84.2.1)]) hx hb dX3_bitsOf_119 hl (by decide) rfl (fun ls hl => ?_)
          obtain ⟨o121, hc121, h⟩ := zk_bind h
          refine l_X3_bitsOf_121 N hx hb hml hown hts hA hK hN x2 x3 (0 : Int64) N o84.1 o84.2.1 (0 : Int32) o121 hc121 _ _ _ hP hD hS (lv_sub hl [1, 2, 3, 4, 5, 0] rfl) (fun H locs ls hP hD hS hl => ?_)
          refine lv_dload hx hb dX3_bitsOf_161 (lv_at hl 3 rfl) ?_
          refine lv_dconst1 hx hb dX3_bitsOf_163 ?_
          refine lv_dcmp hx hb dX3_bitsOf_164 ?_
          refine lv_if_ge (tgt := 172) hx hb dX3_bitsOf_165 (by decide) (fun c165 => ?_) (fun c165 => ?_)
          · replace h := (if_pos c165).symm.trans h
            refine lv_iload hx hb dX3_bitsOf_172 (lv_at hl 4 rfl) ?_
            refine lv_iload_n hx hb dX3_bitsOf_174 rfl (lv_at hl 1 rfl) ?_
            refine lv_iadd hx hb dX3_bitsOf_175 ?_
            refine lv_i2l (v := (o121.2.1 + x3).toInt64) hx hb dX3_bitsOf_176 rfl ?_
            refine lv_iload_n hx hb dX3_bitsOf_177 rfl (lv_at hl 0 rfl) ?_
            refine lv_lshl (v := ((o121.2.1 + x3).toInt64) <<< (x2.toInt64 &&& 63)) hx hb dX3_bitsOf_178 rfl ?_
            refine lv_lstore (lv' := [(11, .long (((o121.2.1 + x3).toInt64) <<< (x2.toInt64 &&& 63))), (2, .int x2), (3, .int x3), (6, .long (0 : Int64)), (8, .double o121.1), (10, .int o121.2.1)]) hx hb dX3_bitsOf_179 hl (by decide) rfl (fun ls hl => ?_)
            refine lv_dload hx hb dX3_bitsOf_181 (lv_at hl 4 rfl) ?_
            refine lv_dconst1 hx hb dX3_bitsOf_183 ?_
            refine lv_dcmp hx hb dX3_bitsOf_184 ?_
            refine lv_if_ge (tgt := 193) hx hb dX3_bitsOf_185 (by decide) (fun c185 => ?_) (fun c185 => ?_)
            · replace h := (if_pos c185).symm.trans h
              refine lv_dload hx hb dX3_bitsOf_193 (lv_at hl 4 rfl) ?_
              refine lv_dconst1 hx hb dX3_bitsOf_195 ?_
              obtain ⟨hz196, h⟩ := zk_n64_spec h
              refine lv_dsub hx hb dX3_bitsOf_196 hz196 ?_
              refine lv_dstore (lv' := [(13, .double (FP.dsub o121.1 FP.dconst1)), (11, .long (((o121.2.1 + x3).toInt64) <<< (x2.toInt64 &&& 63))), (2, .int x2), (3, .int x3), (6, .long (0 : Int64)), (8, .double o121.1), (10, .int o121.2.1)]) hx hb dX3_bitsOf_197 hl (by decide) rfl (fun ls hl => ?_)
              refine lv_lload hx hb dX3_bitsOf_199 (lv_at hl 4 rfl) ?_
              refine lv_lload hx hb dX3_bitsOf_201 (lv_at hl 1 rfl) ?_
              refine lv_lor hx hb dX3_bitsOf_203 ?_
              refine lv_dload hx hb dX3_bitsOf_204 (lv_at hl 0 rfl) ?_
              refine lv_lconst (v := (1 : Int64)) hx hb dX3_bitsOf_206 (by decide) ?_
              refine lv_iload_n hx hb dX3_bitsOf_207 rfl (lv_at hl 2 rfl) ?_
              refine lv_lshl (v := (1 : Int64) <<< (x2.toInt64 &&& 63)) hx hb dX3_bitsOf_208 rfl ?_
              refine lv_l2d hx hb dX3_bitsOf_209 ?_
              obtain ⟨hz210, h⟩ := zk_n64_spec h
              refine lv_dmul hx hb dX3_bitsOf_210 hz210 ?_
              refine lv_d2l hx hb dX3_bitsOf_211 ?_
              refine lv_lor hx hb dX3_bitsOf_212 ?_
              obtain rfl := Option.some.inj h
              exact W.lret (v := ((0 : Int64) ||| (((o121.2.1 + x3).toInt64) <<< (x2.toInt64 &&& 63))) ||| (FP.d2l (FP.dmul (FP.dsub o121.1 FP.dconst1) (FP.l2d ((1 : Int64) <<< (x2.toInt64 &&& 63)))))) hx hb hr (fun t ht hW => ⟨⟨_, (), rfl, rfl, ⟨by rw [ht]; exact hP, hD⟩⟩, hS.F ht⟩) hS.2.2 dX3_bitsOf_213
            · replace h := (if_neg c185).symm.trans h
              refine lv_dload hx hb dX3_bitsOf_188 (lv_at hl 4 rfl) ?_
              refine lv_goto (tgt := 197) hx hb dX3_bitsOf_190 (by decide) ?_
              refine lv_dstore (lv' := [(13, .double o121.1), (11, .long (((o121.2.1 + x3).toInt64) <<< (x2.toInt64 &&& 63))), (2, .int x2), (3, .int x3), (6, .long (0 : Int64)), (8, .double o121.1), (10, .int o121.2.1)]) hx hb dX3_bitsOf_197 hl (by decide) rfl (fun ls hl => ?_)
              refine lv_lload hx hb dX3_bitsOf_199 (lv_at hl 4 rfl) ?_
              refine lv_lload hx hb dX3_bitsOf_201 (lv_at hl 1 rfl) ?_
              refine lv_lor hx hb dX3_bitsOf_203 ?_
              refine lv_dload hx hb dX3_bitsOf_204 (lv_at hl 0 rfl) ?_
              refine lv_lconst (v := (1 : Int64)) hx hb dX3_bitsOf_206 (by decide) ?_
              refine lv_iload_n hx hb dX3_bitsOf_207 rfl (lv_at hl 2 rfl) ?_
              refine lv_lshl (v := (1 : Int64) <<< (x2.toInt64 &&& 63)) hx hb dX3_bitsOf_208 rfl ?_
              refine lv_l2d hx hb dX3_bitsOf_209 ?_
              obtain ⟨hz210, h⟩ := zk_n64_spec h
              refine lv_dmul hx hb dX3_bitsOf_210 hz210 ?_
              refine lv_d2l hx hb dX3_bitsOf_211 ?_
              refine lv_lor hx hb dX3_bitsOf_212 ?_
              obtain rfl := Option.some.inj h
              exact W.lret (v := ((0 : Int64) ||| (((o121.2.1 + x3).toInt64) <<< (x2.toInt64 &&& 63))) ||| (FP.d2l (FP.dmul o121.1 (FP.l2d ((1 : Int64) <<< (x2.toInt64 &&& 63)))))) hx hb hr (fun t ht hW => ⟨⟨_, (), rfl, rfl, ⟨by rw [ht]; exact hP, hD⟩⟩, hS.F ht⟩) hS.2.2 dX3_bitsOf_213
          · replace h := (if_neg c165).symm.trans h
            refine lv_lconst (v := (0 : Int64)) hx hb dX3_bitsOf_168 (by decide) ?_
            refine lv_goto (tgt := 179) hx hb dX3_bitsOf_169 (by decide) ?_
            refine lv_lstore (lv' := [(11, .long (0 : Int64)), (2, .int x2), (3, .int x3), (6, .long (0 : Int64)), (8, .double o121.1), (10, .int o121.2.1)]) hx hb dX3_bitsOf_179 hl (by decide) rfl (fun ls hl => ?_)
            refine lv_dload hx hb dX3_bitsOf_181 (lv_at hl 4 rfl) ?_
            refine lv_dconst1 hx hb dX3_bitsOf_183 ?_
            refine lv_dcmp hx hb dX3_bitsOf_184 ?_
            refine lv_if_ge (tgt := 193) hx hb dX3_bitsOf_185 (by decide) (fun c185 => ?_) (fun c185 => ?_)
            · replace h := (if_pos c185).symm.trans h
              refine lv_dload hx hb dX3_bitsOf_193 (lv_at hl 4 rfl) ?_
              refine lv_dconst1 hx hb dX3_bitsOf_195 ?_
              obtain ⟨hz196, h⟩ := zk_n64_spec h
              refine lv_dsub hx hb dX3_bitsOf_196 hz196 ?_
              refine lv_dstore (lv' := [(13, .double (FP.dsub o121.1 FP.dconst1)), (11, .long (0 : Int64)), (2, .int x2), (3, .int x3), (6, .long (0 : Int64)), (8, .double o121.1), (10, .int o121.2.1)]) hx hb dX3_bitsOf_197 hl (by decide) rfl (fun ls hl => ?_)
              refine lv_lload hx hb dX3_bitsOf_199 (lv_at hl 4 rfl) ?_
              refine lv_lload hx hb dX3_bitsOf_201 (lv_at hl 1 rfl) ?_
              refine lv_lor hx hb dX3_bitsOf_203 ?_
              refine lv_dload hx hb dX3_bitsOf_204 (lv_at hl 0 rfl) ?_
              refine lv_lconst (v := (1 : Int64)) hx hb dX3_bitsOf_206 (by decide) ?_
              refine lv_iload_n hx hb dX3_bitsOf_207 rfl (lv_at hl 2 rfl) ?_
              refine lv_lshl (v := (1 : Int64) <<< (x2.toInt64 &&& 63)) hx hb dX3_bitsOf_208 rfl ?_
              refine lv_l2d hx hb dX3_bitsOf_209 ?_
              obtain ⟨hz210, h⟩ := zk_n64_spec h
              refine lv_dmul hx hb dX3_bitsOf_210 hz210 ?_
              refine lv_d2l hx hb dX3_bitsOf_211 ?_
              refine lv_lor hx hb dX3_bitsOf_212 ?_
              obtain rfl := Option.some.inj h
              exact W.lret (v := ((0 : Int64) ||| (0 : Int64)) ||| (FP.d2l (FP.dmul (FP.dsub o121.1 FP.dconst1) (FP.l2d ((1 : Int64) <<< (x2.toInt64 &&& 63)))))) hx hb hr (fun t ht hW => ⟨⟨_, (), rfl, rfl, ⟨by rw [ht]; exact hP, hD⟩⟩, hS.F ht⟩) hS.2.2 dX3_bitsOf_213
            · replace h := (if_neg c185).symm.trans h
              refine lv_dload hx hb dX3_bitsOf_188 (lv_at hl 4 rfl) ?_
              refine lv_goto (tgt := 197) hx hb dX3_bitsOf_190 (by decide) ?_
              refine lv_dstore (lv' := [(13, .double o121.1), (11, .long (0 : Int64)), (2, .int x2), (3, .int x3), (6, .long (0 : Int64)), (8, .double o121.1), (10, .int o121.2.1)]) hx hb dX3_bitsOf_197 hl (by decide) rfl (fun ls hl => ?_)
              refine lv_lload hx hb dX3_bitsOf_199 (lv_at hl 4 rfl) ?_
              refine lv_lload hx hb dX3_bitsOf_201 (lv_at hl 1 rfl) ?_
              refine lv_lor hx hb dX3_bitsOf_203 ?_
              refine lv_dload hx hb dX3_bitsOf_204 (lv_at hl 0 rfl) ?_
              refine lv_lconst (v := (1 : Int64)) hx hb dX3_bitsOf_206 (by decide) ?_
              refine lv_iload_n hx hb dX3_bitsOf_207 rfl (lv_at hl 2 rfl) ?_
              refine lv_lshl (v := (1 : Int64) <<< (x2.toInt64 &&& 63)) hx hb dX3_bitsOf_208 rfl ?_
              refine lv_l2d hx hb dX3_bitsOf_209 ?_
              obtain ⟨hz210, h⟩ := zk_n64_spec h
              refine lv_dmul hx hb dX3_bitsOf_210 hz210 ?_
              refine lv_d2l hx hb dX3_bitsOf_211 ?_
              refine lv_lor hx hb dX3_bitsOf_212 ?_
              obtain rfl := Option.some.inj h
              exact W.lret (v := ((0 : Int64) ||| (0 : Int64)) ||| (FP.d2l (FP.dmul o121.1 (FP.l2d ((1 : Int64) <<< (x2.toInt64 &&& 63)))))) hx hb hr (fun t ht hW => ⟨⟨_, (), rfl, rfl, ⟨by rw [ht]; exact hP, hD⟩⟩, hS.F ht⟩) hS.2.2 dX3_bitsOf_213
        · replace h := (if_neg c69).symm.trans h
          refine lv_lload hx hb dX3_bitsOf_72 (lv_at hl 1 rfl) ?_
          refine lv_lload hx hb dX3_bitsOf_74 (lv_at hl 2 rfl) ?_
          refine lv_lor hx hb dX3_bitsOf_76 ?_
          obtain rfl := Option.some.inj h
          exact W.lret (v := (0 : Int64) ||| ((((2 : Int64) * x3.toInt64) + (1 : Int64)) <<< (x2.toInt64 &&& 63))) hx hb hr (fun t ht hW => ⟨⟨_, (), rfl, rfl, ⟨by rw [ht]; exact hP, hD⟩⟩, hS.F ht⟩) hS.2.2 dX3_bitsOf_77
      · replace h := (if_neg c53).symm.trans h
        refine lv_dload_n hx hb dX3_bitsOf_56 rfl (lv_at hl 2 rfl) ?_
        refine lv_dneg hx hb dX3_bitsOf_57 ?_
        refine lv_goto (tgt := 62) hx hb dX3_bitsOf_58 (by decide) ?_
        refine lv_dstore (lv' := [(8, .double (FP.dneg x0)), (6, .long (0 : Int64)), (4, .long ((((2 : Int64) * x3.toInt64) + (1 : Int64)) <<< (x2.toInt64 &&& 63))), (0, .double x0), (2, .int x2), (3, .int x3)]) hx hb dX3_bitsOf_62 hl (by decide) rfl (fun ls hl => ?_)
        refine lv_dload hx hb dX3_bitsOf_64 (lv_at hl 0 rfl) ?_
        obtain ⟨o66, hc66, h⟩ := zk_bind h
        refine zk_ci (wr := []) (va_runS (As := [.double (FP.dneg x0)]) (rest := []) ⟨hx, hb, hml, hown, hts⟩ (k_X3_isEndless l D T N  _  (FP.dneg x0) o66 hc66) (va_cwS 1 hts gX3_bitsOf_X3_isEndless rfl rfl rfl (by decide +kernel) ⟨Nat.le_of_ble_eq_true rfl, Nat.le_of_ble_eq_true rfl⟩) (zk_preS hK hN (hP.sub [] rfl) (hD.sub [] (by decide) rfl)) rfl rfl hl.1 rfl (lv_room (Nat.le_of_ble_eq_true rfl)) dX3_bitsOf_66 ⟨Nat.zero_le _, Nat.zero_le _⟩) hP hD hS hA [] [] rfl rfl (by decide) (by decide) [] (wf := []) rfl (by decide) (fun H locs hP hD hS => ?_)
        refine lv_if_eq (tgt := 78) hx hb dX3_bitsOf_69 (by decide) (fun c69 => ?_) (fun c69 => ?_)
        · replace h := (if_pos c69).symm.trans h
          refine lv_iconst (v := (0 : Int32)) hx hb dX3_bitsOf_78 (by decide) ?_
          refine lv_istore (lv' := [(10, .int (0 : Int32)), (8, .double (FP.dneg x0)), (6, .long (0 : Int64)), (4, .long ((((2 : Int64) * x3.toInt64) + (1 : Int64)) <<< (x2.toInt64 &&& 63))), (0, .double x0), (2, .int x2), (3, .int x3)]) hx hb dX3_bitsOf_79 hl (by decide) rfl (fun ls hl => ?_)
          refine lv_iconst (v := (0 : Int32)) hx hb dX3_bitsOf_81 (by decide) ?_
          refine lv_istore (lv' := [(11, .int (0 : Int32)), (10, .int (0 : Int32)), (8, .double (FP.dneg x0)), (6, .long (0 : Int64)), (4, .long ((((2 : Int64) * x3.toInt64) + (1 : Int64)) <<< (x2.toInt64 &&& 63))), (0, .double x0), (2, .int x2), (3, .int x3)]) hx hb dX3_bitsOf_82 hl (by decide) rfl (fun ls hl => ?_)
          obtain ⟨o84, hc84, h⟩ := zk_bind h
          refine l_X3_bitsOf_84 N hx hb hml hown hts hA hK hN x2 x3 (0 : Int64) N (FP.dneg x0) (0 : Int32) (0 : Int32) o84 hc84 _ _ _ hP hD hS (lv_sub hl [6, 7, 3, 2, 1, 0] rfl) (fun H locs ls hP hD hS hl => ?_)
          refine lv_iconst (v := (0 : Int32)) hx hb dX3_bitsOf_118 (by decide) ?_
          refine lv_istore (lv' := [(11, .int (0 : Int32)), (2, .int x2), (3, .int x3), (6, .long (0 : Int64)), (8, .double o84.1), (10, .int o84.2.1)]) hx hb dX3_bitsOf_119 hl (by decide) rfl (fun ls hl => ?_)
          obtain ⟨o121, hc121, h⟩ := zk_bind h
          refine l_X3_bitsOf_121 N hx hb hml hown hts hA hK hN x2 x3 (0 : Int64) N o84.1 o84.2.1 (0 : Int32) o121 hc121 _ _ _ hP hD hS (lv_sub hl [1, 2, 3, 4, 5, 0] rfl) (fun H locs ls hP hD hS hl => ?_)
          refine lv_dload hx hb dX3_bitsOf_161 (lv_at hl 3 rfl) ?_
          refine lv_dconst1 hx hb dX3_bitsOf_163 ?_
          refine lv_dcmp hx hb dX3_bitsOf_164 ?_
          refine lv_if_ge (tgt := 172) hx hb dX3_bitsOf_165 (by decide) (fun c165 => ?_) (fun c165 => ?_)
          · replace h := (if_pos c165).symm.trans h
            refine lv_iload hx hb dX3_bitsOf_172 (lv_at hl 4 rfl) ?_
            refine lv_iload_n hx hb dX3_bitsOf_174 rfl (lv_at hl 1 rfl) ?_
            refine lv_iadd hx hb dX3_bitsOf_175 ?_
            refine lv_i2l (v := (o121.2.1 + x3).toInt64) hx hb dX3_bitsOf_176 rfl ?_
            refine lv_iload_n hx hb dX3_bitsOf_177 rfl (lv_at hl 0 rfl) ?_
            refine lv_lshl (v := ((o121.2.1 + x3).toInt64) <<< (x2.toInt64 &&& 63)) hx hb dX3_bitsOf_178 rfl ?_
            refine lv_lstore (lv' := [(11, .long (((o121.2.1 + x3).toInt64) <<< (x2.toInt64 &&& 63))), (2, .int x2), (3, .int x3), (6, .long (0 : Int64)), (8, .double o121.1), (10, .int o121.2.1)]) hx hb dX3_bitsOf_179 hl (by decide) rfl (fun ls hl => ?_)
            refine lv_dload hx hb dX3_bitsOf_181 (lv_at hl 4 rfl) ?_
            refine lv_dconst1 hx hb dX3_bitsOf_183 ?_
            refine lv_dcmp hx hb dX3_bitsOf_184 ?_
            refine lv_if_ge (tgt := 193) hx hb dX3_bitsOf_185 (by decide) (fun c185 => ?_) (fun c185 => ?_)
            · replace h := (if_pos c185).symm.trans h
              refine lv_dload hx hb dX3_bitsOf_193 (lv_at hl 4 rfl) ?_
              refine lv_dconst1 hx hb dX3_bitsOf_195 ?_
              obtain ⟨hz196, h⟩ := zk_n64_spec h
              refine lv_dsub hx hb dX3_bitsOf_196 hz196 ?_
              refine lv_dstore (lv' := [(13, .double (FP.dsub o121.1 FP.dconst1)), (11, .long (((o121.2.1 + x3).toInt64) <<< (x2.toInt64 &&& 63))), (2, .int x2), (3, .int x3), (6, .long (0 : Int64)), (8, .double o121.1), (10, .int o121.2.1)]) hx hb dX3_bitsOf_197 hl (by decide) rfl (fun ls hl => ?_)
              refine lv_lload hx hb dX3_bitsOf_199 (lv_at hl 4 rfl) ?_
              refine lv_lload hx hb dX3_bitsOf_201 (lv_at hl 1 rfl) ?_
              refine lv_lor hx hb dX3_bitsOf_203 ?_
              refine lv_dload hx hb dX3_bitsOf_204 (lv_at hl 0 rfl) ?_
              refine lv_lconst (v := (1 : Int64)) hx hb dX3_bitsOf_206 (by decide) ?_
              refine lv_iload_n hx hb dX3_bitsOf_207 rfl (lv_at hl 2 rfl) ?_
              refine lv_lshl (v := (1 : Int64) <<< (x2.toInt64 &&& 63)) hx hb dX3_bitsOf_208 rfl ?_
              refine lv_l2d hx hb dX3_bitsOf_209 ?_
              obtain ⟨hz210, h⟩ := zk_n64_spec h
              refine lv_dmul hx hb dX3_bitsOf_210 hz210 ?_
              refine lv_d2l hx hb dX3_bitsOf_211 ?_
              refine lv_lor hx hb dX3_bitsOf_212 ?_
              obtain rfl := Option.some.inj h
              exact W.lret (v := ((0 : Int64) ||| (((o121.2.1 + x3).toInt64) <<< (x2.toInt64 &&& 63))) ||| (FP.d2l (FP.dmul (FP.dsub o121.1 FP.dconst1) (FP.l2d ((1 : Int64) <<< (x2.toInt64 &&& 63)))))) hx hb hr (fun t ht hW => ⟨⟨_, (), rfl, rfl, ⟨by rw [ht]; exact hP, hD⟩⟩, hS.F ht⟩) hS.2.2 dX3_bitsOf_213
            · replace h := (if_neg c185).symm.trans h
              refine lv_dload hx hb dX3_bitsOf_188 (lv_at hl 4 rfl) ?_
              refine lv_goto (tgt := 197) hx hb dX3_bitsOf_190 (by decide) ?_
              refine lv_dstore (lv' := [(13, .double o121.1), (11, .long (((o121.2.1 + x3).toInt64) <<< (x2.toInt64 &&& 63))), (2, .int x2), (3, .int x3), (6, .long (0 : Int64)), (8, .double o121.1), (10, .int o121.2.1)]) hx hb dX3_bitsOf_197 hl (by decide) rfl (fun ls hl => ?_)
              refine lv_lload hx hb dX3_bitsOf_199 (lv_at hl 4 rfl) ?_
              refine lv_lload hx hb dX3_bitsOf_201 (lv_at hl 1 rfl) ?_
              refine lv_lor hx hb dX3_bitsOf_203 ?_
              refine lv_dload hx hb dX3_bitsOf_204 (lv_at hl 0 rfl) ?_
              refine lv_lconst (v := (1 : Int64)) hx hb dX3_bitsOf_206 (by decide) ?_
              refine lv_iload_n hx hb dX3_bitsOf_207 rfl (lv_at hl 2 rfl) ?_
              refine lv_lshl (v := (1 : Int64) <<< (x2.toInt64 &&& 63)) hx hb dX3_bitsOf_208 rfl ?_
              refine lv_l2d hx hb dX3_bitsOf_209 ?_
              obtain ⟨hz210, h⟩ := zk_n64_spec h
              refine lv_dmul hx hb dX3_bitsOf_210 hz210 ?_
              refine lv_d2l hx hb dX3_bitsOf_211 ?_
              refine lv_lor hx hb dX3_bitsOf_212 ?_
              obtain rfl := Option.some.inj h
              exact W.lret (v := ((0 : Int64) ||| (((o121.2.1 + x3).toInt64) <<< (x2.toInt64 &&& 63))) ||| (FP.d2l (FP.dmul o121.1 (FP.l2d ((1 : Int64) <<< (x2.toInt64 &&& 63)))))) hx hb hr (fun t ht hW => ⟨⟨_, (), rfl, rfl, ⟨by rw [ht]; exact hP, hD⟩⟩, hS.F ht⟩) hS.2.2 dX3_bitsOf_213
          · replace h := (if_neg c165).symm.trans h
            refine lv_lconst (v := (0 : Int64)) hx hb dX3_bitsOf_168 (by decide) ?_
            refine lv_goto (tgt := 179) hx hb dX3_bitsOf_169 (by decide) ?_
            refine lv_lstore (lv' := [(11, .long (0 : Int64)), (2, .int x2), (3, .int x3), (6, .long (0 : Int64)), (8, .double o121.1), (10, .int o121.2.1)]) hx hb dX3_bitsOf_179 hl (by decide) rfl (fun ls hl => ?_)
            refine lv_dload hx hb dX3_bitsOf_181 (lv_at hl 4 rfl) ?_
            refine lv_dconst1 hx hb dX3_bitsOf_183 ?_
            refine lv_dcmp hx hb dX3_bitsOf_184 ?_
            refine lv_if_ge (tgt := 193) hx hb dX3_bitsOf_185 (by decide) (fun c185 => ?_) (fun c185 => ?_)
            · replace h := (if_pos c185).symm.trans h
              refine lv_dload hx hb dX3_bitsOf_193 (lv_at hl 4 rfl) ?_
              refine lv_dconst1 hx hb dX3_bitsOf_195 ?_
              obtain ⟨hz196, h⟩ := zk_n64_spec h
              refine lv_dsub hx hb dX3_bitsOf_196 hz196 ?_
              refine lv_dstore (lv' := [(13, .double (FP.dsub o121.1 FP.dconst1)), (11, .long (0 : Int64)), (2, .int x2), (3, .int x3), (6, .long (0 : Int64)), (8, .double o121.1), (10, .int o121.2.1)]) hx hb dX3_bitsOf_197 hl (by decide) rfl (fun ls hl => ?_)
              refine lv_lload hx hb dX3_bitsOf_199 (lv_at hl 4 rfl) ?_
              refine lv_lload hx hb dX3_bitsOf_201 (lv_at hl 1 rfl) ?_
              refine lv_lor hx hb dX3_bitsOf_203 ?_
              refine lv_dload hx hb dX3_bitsOf_204 (lv_at hl 0 rfl) ?_
              refine lv_lconst (v := (1 : Int64)) hx hb dX3_bitsOf_206 (by decide) ?_
              refine lv_iload_n hx hb dX3_bitsOf_207 rfl (lv_at hl 2 rfl) ?_
              refine lv_lshl (v := (1 : Int64) <<< (x2.toInt64 &&& 63)) hx hb dX3_bitsOf_208 rfl ?_
              refine lv_l2d hx hb dX3_bitsOf_209 ?_
              obtain ⟨hz210, h⟩ := zk_n64_spec h
              refine lv_dmul hx hb dX3_bitsOf_210 hz210 ?_
              refine lv_d2l hx hb dX3_bitsOf_211 ?_
              refine lv_lor hx hb dX3_bitsOf_212 ?_
              obtain rfl := Option.some.inj h
              exact W.lret (v := ((0 : Int64) ||| (0 : Int64)) ||| (FP.d2l (FP.dmul (FP.dsub o121.1 FP.dconst1) (FP.l2d ((1 : Int64) <<< (x2.toInt64 &&& 63)))))) hx hb hr (fun t ht hW => ⟨⟨_, (), rfl, rfl, ⟨by rw [ht]; exact hP, hD⟩⟩, hS.F ht⟩) hS.2.2 dX3_bitsOf_213
            · replace h := (if_neg c185).symm.trans h
              refine lv_dload hx hb dX3_bitsOf_188 (lv_at hl 4 rfl) ?_
              refine lv_goto (tgt := 197) hx hb dX3_bitsOf_190 (by decide) ?_
              refine lv_dstore (lv' := [(13, .double o121.1), (11, .long (0 : Int64)), (2, .int x2), (3, .int x3), (6, .long (0 : Int64)), (8, .double o121.1), (10, .int o121.2.1)]) hx hb dX3_bitsOf_197 hl (by decide) rfl (fun ls hl => ?_)
              refine lv_lload hx hb dX3_bitsOf_199 (lv_at hl 4 rfl) ?_
              refine lv_lload hx hb dX3_bitsOf_201 (lv_at hl 1 rfl) ?_
              refine lv_lor hx hb dX3_bitsOf_203 ?_
              refine lv_dload hx hb dX3_bitsOf_204 (lv_at hl 0 rfl) ?_
              refine lv_lconst (v := (1 : Int64)) hx hb dX3_bitsOf_206 (by decide) ?_
              refine lv_iload_n hx hb dX3_bitsOf_207 rfl (lv_at hl 2 rfl) ?_
              refine lv_lshl (v := (1 : Int64) <<< (x2.toInt64 &&& 63)) hx hb dX3_bitsOf_208 rfl ?_
              refine lv_l2d hx hb dX3_bitsOf_209 ?_
              obtain ⟨hz210, h⟩ := zk_n64_spec h
              refine lv_dmul hx hb dX3_bitsOf_210 hz210 ?_
              refine lv_d2l hx hb dX3_bitsOf_211 ?_
              refine lv_lor hx hb dX3_bitsOf_212 ?_
              obtain rfl := Option.some.inj h
              exact W.lret (v := ((0 : Int64) ||| (0 : Int64)) ||| (FP.d2l (FP.dmul o121.1 (FP.l2d ((1 : Int64) <<< (x2.toInt64 &&& 63)))))) hx hb hr (fun t ht hW => ⟨⟨_, (), rfl, rfl, ⟨by rw [ht]; exact hP, hD⟩⟩, hS.F ht⟩) hS.2.2 dX3_bitsOf_213
        · replace h := (if_neg c69).symm.trans h
          refine lv_lload hx hb dX3_bitsOf_72 (lv_at hl 1 rfl) ?_
          refine lv_lload hx hb dX3_bitsOf_74 (lv_at hl 2 rfl) ?_
          refine lv_lor hx hb dX3_bitsOf_76 ?_
          obtain rfl := Option.some.inj h
          exact W.lret (v := (0 : Int64) ||| ((((2 : Int64) * x3.toInt64) + (1 : Int64)) <<< (x2.toInt64 &&& 63))) hx hb hr (fun t ht hW => ⟨⟨_, (), rfl, rfl, ⟨by rw [ht]; exact hP, hD⟩⟩, hS.F ht⟩) hS.2.2 dX3_bitsOf_77
    · replace h := (if_neg c31).symm.trans h
      refine lv_iload_n hx hb dX3_bitsOf_34 rfl (lv_at hl 3 rfl) ?_
      refine lv_i2l (v := x3.toInt64) hx hb dX3_bitsOf_35 rfl ?_
      refine lv_lconst (v := (1 : Int64)) hx hb dX3_bitsOf_36 (by decide) ?_
      refine lv_ladd hx hb dX3_bitsOf_37 ?_
      refine lv_ldc2 (v := (2 : Int64)) hx hb hown (hts (.constantLong RX3 75 (2 : Int64)) (by decide +kernel)) dX3_bitsOf_38 ?_
      refine lv_lmul hx hb dX3_bitsOf_41 ?_
      refine lv_iload_n hx hb dX3_bitsOf_42 rfl (lv_at hl 2 rfl) ?_
      refine lv_lshl (v := ((x3.toInt64 + (1 : Int64)) * (2 : Int64)) <<< (x2.toInt64 &&& 63)) hx hb dX3_bitsOf_43 rfl ?_
      refine lv_goto (tgt := 48) hx hb dX3_bitsOf_44 (by decide) ?_
      refine lv_lstore (lv' := [(6, .long (((x3.toInt64 + (1 : Int64)) * (2 : Int64)) <<< (x2.toInt64 &&& 63))), (4, .long ((((2 : Int64) * x3.toInt64) + (1 : Int64)) <<< (x2.toInt64 &&& 63))), (0, .double x0), (2, .int x2), (3, .int x3)]) hx hb dX3_bitsOf_48 hl (by decide) rfl (fun ls hl => ?_)
      refine lv_dload_n hx hb dX3_bitsOf_50 rfl (lv_at hl 2 rfl) ?_
      refine lv_dconst0 hx hb dX3_bitsOf_51 ?_
      refine lv_dcmp hx hb dX3_bitsOf_52 ?_
      refine lv_if_ge (tgt := 61) hx hb dX3_bitsOf_53 (by decide) (fun c53 => ?_) (fun c53 => ?_)
      · replace h := (if_pos c53).symm.trans h
        refine lv_dload_n hx hb dX3_bitsOf_61 rfl (lv_at hl 2 rfl) ?_
        refine lv_dstore (lv' := [(8, .double x0), (6, .long (((x3.toInt64 + (1 : Int64)) * (2 : Int64)) <<< (x2.toInt64 &&& 63))), (4, .long ((((2 : Int64) * x3.toInt64) + (1 : Int64)) <<< (x2.toInt64 &&& 63))), (0, .double x0), (2, .int x2), (3, .int x3)]) hx hb dX3_bitsOf_62 hl (by decide) rfl (fun ls hl => ?_)
        refine lv_dload hx hb dX3_bitsOf_64 (lv_at hl 0 rfl) ?_
        obtain ⟨o66, hc66, h⟩ := zk_bind h
        refine zk_ci (wr := []) (va_runS (As := [.double x0]) (rest := []) ⟨hx, hb, hml, hown, hts⟩ (k_X3_isEndless l D T N  _  x0 o66 hc66) (va_cwS 1 hts gX3_bitsOf_X3_isEndless rfl rfl rfl (by decide +kernel) ⟨Nat.le_of_ble_eq_true rfl, Nat.le_of_ble_eq_true rfl⟩) (zk_preS hK hN (hP.sub [] rfl) (hD.sub [] (by decide) rfl)) rfl rfl hl.1 rfl (lv_room (Nat.le_of_ble_eq_true rfl)) dX3_bitsOf_66 ⟨Nat.zero_le _, Nat.zero_le _⟩) hP hD hS hA [] [] rfl rfl (by decide) (by decide) [] (wf := []) rfl (by decide) (fun H locs hP hD hS => ?_)
        refine lv_if_eq (tgt := 78) hx hb dX3_bitsOf_69 (by decide) (fun c69 => ?_) (fun c69 => ?_)
        · replace h := (if_pos c69).symm.trans h
          refine lv_iconst (v := (0 : Int32)) hx hb dX3_bitsOf_78 (by decide) ?_
          refine lv_istore (lv' := [(10, .int (0 : Int32)), (8, .double x0), (6, .long (((x3.toInt64 + (1 : Int64)) * (2 : Int64)) <<< (x2.toInt64 &&& 63))), (4, .long ((((2 : Int64) * x3.toInt64) + (1 : Int64)) <<< (x2.toInt64 &&& 63))), (0, .double x0), (2, .int x2), (3, .int x3)]) hx hb dX3_bitsOf_79 hl (by decide) rfl (fun ls hl => ?_)
          refine lv_iconst (v := (0 : Int32)) hx hb dX3_bitsOf_81 (by decide) ?_
          refine lv_istore (lv' := [(11, .int (0 : Int32)), (10, .int (0 : Int32)), (8, .double x0), (6, .long (((x3.toInt64 + (1 : Int64)) * (2 : Int64)) <<< (x2.toInt64 &&& 63))), (4, .long ((((2 : Int64) * x3.toInt64) + (1 : Int64)) <<< (x2.toInt64 &&& 63))), (0, .double x0), (2, .int x2), (3, .int x3)]) hx hb dX3_bitsOf_82 hl (by decide) rfl (fun ls hl => ?_)
          obtain ⟨o84, hc84, h⟩ := zk_bind h
          refine l_X3_bitsOf_84 N hx hb hml hown hts hA hK hN x2 x3 (((x3.toInt64 + (1 : Int64)) * (2 : Int64)) <<< (x2.toInt64 &&& 63)) N x0 (0 : Int32) (0 : Int32) o84 hc84 _ _ _ hP hD hS (lv_sub hl [6, 7, 3, 2, 1, 0] rfl) (fun H locs ls hP hD hS hl => ?_)
          refine lv_iconst (v := (0 : Int32)) hx hb dX3_bitsOf_118 (by decide) ?_
          refine lv_istore (lv' := [(11, .int (0 : Int32)), (2, .int x2), (3, .int x3), (6, .long (((x3.toInt64 + (1 : Int64)) * (2 : Int64)) <<< (x2.toInt64 &&& 63))), (8, .double o84.1), (10, .int o84.2.1)]) hx hb dX3_bitsOf_119 hl (by decide) rfl (fun ls hl => ?_)
          obtain ⟨o121, hc121, h⟩ := zk_bind h
          refine l_X3_bitsOf_121 N hx hb hml hown hts hA hK hN x2 x3 (((x3.toInt64 + (1 : Int64)) * (2 : Int64)) <<< (x2.toInt64 &&& 63)) N o84.1 o84.2.1 (0 : Int32) o121 hc121 _ _ _ hP hD hS (lv_sub hl [1, 2, 3, 4, 5, 0] rfl) (fun H locs ls hP hD hS hl => ?_)
          refine lv_dload hx hb dX3_bitsOf_161 (lv_at hl 3 rfl) ?_
          refine lv_dconst1 hx hb dX3_bitsOf_163 ?_
          refine lv_dcmp hx hb dX3_bitsOf_164 ?_
          refine lv_if_ge (tgt := 172) hx hb dX3_bitsOf_165 (by decide) (fun c165 => ?_) (fun c165 => ?_)
          · replace h := (if_pos c165).symm.trans h
            refine lv_iload hx hb dX3_bitsOf_172 (lv_at hl 4 rfl) ?_
            refine lv_iload_n hx hb dX3_bitsOf_174 rfl (lv_at hl 1 rfl) ?_
            refine lv_iadd hx hb dX3_bitsOf_175 ?_
            refine lv_i2l (v := (o121.2.1 + x3).toInt64) hx hb dX3_bitsOf_176 rfl ?_
            refine lv_iload_n hx hb dX3_bitsOf_177 rfl (lv_at hl 0 rfl) ?_
            refine lv_lshl (v := ((o121.2.1 + x3).toInt64) <<< (x2.toInt64 &&& 63)) hx hb dX3_bitsOf_178 rfl ?_
            refine lv_lstore (lv' := [(11, .long (((o121.2.1 + x3).toInt64) <<< (x2.toInt64 &&& 63))), (2, .int x2), (3, .int x3), (6, .long (((x3.toInt64 + (1 : Int64)) * (2 : Int64)) <<< (x2.toInt64 &&& 63))), (8, .double o121.1), (10, .int o121.2.1)]) hx hb dX3_bitsOf_179 hl (by decide) rfl (fun ls hl => ?_)
            refine lv_dload hx hb dX3_bitsOf_181 (lv_at hl 4 rfl) ?_
            refine lv_dconst1 hx hb dX3_bitsOf_183 ?_
            refine lv_dcmp hx hb dX3_bitsOf_184 ?_
            refine lv_if_ge (tgt := 193) hx hb dX3_bitsOf_185 (by decide) (fun c185 => ?_) (fun c185 => ?_)
            · replace h := (if_pos c185).symm.trans h
              refine lv_dload hx hb dX3_bitsOf_193 (lv_at hl 4 rfl) ?_
              refine lv_dconst1 hx hb dX3_bitsOf_195 ?_
              obtain ⟨hz196, h⟩ := zk_n64_spec h
              refine lv_dsub hx hb dX3_bitsOf_196 hz196 ?_
              refine lv_dstore (lv' := [(13, .double (FP.dsub o121.1 FP.dconst1)), (11, .long (((o121.2.1 + x3).toInt64) <<< (x2.toInt64 &&& 63))), (2, .int x2), (3, .int x3), (6, .long (((x3.toInt64 + (1 : Int64)) * (2 : Int64)) <<< (x2.toInt64 &&& 63))), (8, .double o121.1), (10, .int o121.2.1)]) hx hb dX3_bitsOf_197 hl (by decide) rfl (fun ls hl => ?_)
              refine lv_lload hx hb dX3_bitsOf_199 (lv_at hl 4 rfl) ?_
              refine lv_lload hx hb dX3_bitsOf_201 (lv_at hl 1 rfl) ?_
              refine lv_lor hx hb dX3_bitsOf_203 ?_
              refine lv_dload hx hb dX3_bitsOf_204 (lv_at hl 0 rfl) ?_
              refine lv_lconst (v := (1 : Int64)) hx hb dX3_bitsOf_206 (by decide) ?_
              refine lv_iload_n hx hb dX3_bitsOf_207 rfl (lv_at hl 2 rfl) ?_
              refine lv_lshl (v := (1 : Int64) <<< (x2.toInt64 &&& 63)) hx hb dX3_bitsOf_208 rfl ?_
              refine lv_l2d hx hb dX3_bitsOf_209 ?_
              obtain ⟨hz210, h⟩ := zk_n64_spec h
              refine lv_dmul hx hb dX3_bitsOf_210 hz210 ?_
              refine lv_d2l hx hb dX3_bitsOf_211 ?_
              refine lv_lor hx hb dX3_bitsOf_212 ?_
              obtain rfl := Option.some.inj h
              exact W.lret (v := ((((x3.toInt64 + (1 : Int64)) * (2 : Int64)) <<< (x2.toInt64 &&& 63)) ||| (((o121.2.1 + x3).toInt64) <<< (x2.toInt64 &&& 63))) ||| (FP.d2l (FP.dmul (FP.dsub o121.1 FP.dconst1) (FP.l2d ((1 : Int64) <<< (x2.toInt64 &&& 63)))))) hx hb hr (fun t ht hW => ⟨⟨_, (), rfl, rfl, ⟨by rw [ht]; exact hP, hD⟩⟩, hS.F ht⟩) hS.2.2 dX3_bitsOf_213
            · replace h := (if_neg c185).symm.trans h
              refine lv_dload hx hb dX3_bitsOf_188 (lv_at hl 4 rfl) ?_
              refine lv_goto (tgt := 197) hx hb dX3_bitsOf_190 (by decide) ?_
              refine lv_dstore (lv' := [(13, .double o121.1), (11, .long (((o121.2.1 + x3).toInt64) <<< (x2.toInt64 &&& 63))), (2, .int x2), (3, .int x3), (6, .long (((x3.toInt64 + (1 : Int64)) * (2 : Int64)) <<< (x2.toInt64 &&& 63))), (8, .double o121.1), (10, .int o121.2.1)]) hx hb dX3_bitsOf_197 hl (by decide) rfl (fun ls hl => ?_)
              refine lv_lload hx hb dX3_bitsOf_199 (lv_at hl 4 rfl) ?_
              refine lv_lload hx hb dX3_bitsOf_201 (lv_at hl 1 rfl) ?_
              refine lv_lor hx hb dX3_bitsOf_203 ?_
              refine lv_dload hx hb dX3_bitsOf_204 (lv_at hl 0 rfl) ?_
              refine lv_lconst (v := (1 : Int64)) hx hb dX3_bitsOf_206 (by decide) ?_
              refine lv_iload_n hx hb dX3_bitsOf_207 rfl (lv_at hl 2 rfl) ?_
              refine lv_lshl (v := (1 : Int64) <<< (x2.toInt64 &&& 63)) hx hb dX3_bitsOf_208 rfl ?_
              refine lv_l2d hx hb dX3_bitsOf_209 ?_
              obtain ⟨hz210, h⟩ := zk_n64_spec h
              refine lv_dmul hx hb dX3_bitsOf_210 hz210 ?_
              refine lv_d2l hx hb dX3_bitsOf_211 ?_
              refine lv_lor hx hb dX3_bitsOf_212 ?_
              obtain rfl := Option.some.inj h
              exact W.lret (v := ((((x3.toInt64 + (1 : Int64)) * (2 : Int64)) <<< (x2.toInt64 &&& 63)) ||| (((o121.2.1 + x3).toInt64) <<< (x2.toInt64 &&& 63))) ||| (FP.d2l (FP.dmul o121.1 (FP.l2d ((1 : Int64) <<< (x2.toInt64 &&& 63)))))) hx hb hr (fun t ht hW => ⟨⟨_, (), rfl, rfl, ⟨by rw [ht]; exact hP, hD⟩⟩, hS.F ht⟩) hS.2.2 dX3_bitsOf_213
          · replace h := (if_neg c165).symm.trans h
            refine lv_lconst (v := (0 : Int64)) hx hb dX3_bitsOf_168 (by decide) ?_
            refine lv_goto (tgt := 179) hx hb dX3_bitsOf_169 (by decide) ?_
            refine lv_lstore (lv' := [(11, .long (0 : Int64)), (2, .int x2), (3, .int x3), (6, .long (((x3.toInt64 + (1 : Int64)) * (2 : Int64)) <<< (x2.toInt64 &&& 63))), (8, .double o121.1), (10, .int o121.2.1)]) hx hb dX3_bitsOf_179 hl (by decide) rfl (fun ls hl => ?_)
            refine lv_dload hx hb dX3_bitsOf_181 (lv_at hl 4 rfl) ?_
            refine lv_dconst1 hx hb dX3_bitsOf_183 ?_
            refine lv_dcmp hx hb dX3_bitsOf_184 ?_
            refine lv_if_ge (tgt := 193) hx hb dX3_bitsOf_185 (by decide) (fun c185 => ?_) (fun c185 => ?_)
            · replace h := (if_pos c185).symm.trans h
              refine lv_dload hx hb dX3_bitsOf_193 (lv_at hl 4 rfl) ?_
              refine lv_dconst1 hx hb dX3_bitsOf_195 ?_
              obtain ⟨hz196, h⟩ := zk_n64_spec h
              refine lv_dsub hx hb dX3_bitsOf_196 hz196 ?_
              refine lv_dstore (lv' := [(13, .double (FP.dsub o121.1 FP.dconst1)), (11, .long (0 : Int64)), (2, .int x2), (3, .int x3), (6, .long (((x3.toInt64 + (1 : Int64)) * (2 : Int64)) <<< (x2.toInt64 &&& 63))), (8, .double o121.1), (10, .int o121.2.1)]) hx hb dX3_bitsOf_197 hl (by decide) rfl (fun ls hl => ?_)
              refine lv_lload hx hb dX3_bitsOf_199 (lv_at hl 4 rfl) ?_
              refine lv_lload hx hb dX3_bitsOf_201 (lv_at hl 1 rfl) ?_
              refine lv_lor hx hb dX3_bitsOf_203 ?_
              refine lv_dload hx hb dX3_bitsOf_204 (lv_at hl 0 rfl) ?_
              refine lv_lconst (v := (1 : Int64)) hx hb dX3_bitsOf_206 (by decide) ?_
              refine lv_iload_n hx hb dX3_bitsOf_207 rfl (lv_at hl 2 rfl) ?_
              refine lv_lshl (v := (1 : Int64) <<< (x2.toInt64 &&& 63)) hx hb dX3_bitsOf_208 rfl ?_
              refine lv_l2d hx hb dX3_bitsOf_209 ?_
              obtain ⟨hz210, h⟩ := zk_n64_spec h
              refine lv_dmul hx hb dX3_bitsOf_210 hz210 ?_
              refine lv_d2l hx hb dX3_bitsOf_211 ?_
              refine lv_lor hx hb dX3_bitsOf_212 ?_
              obtain rfl := Option.some.inj h
              exact W.lret (v := ((((x3.toInt64 + (1 : Int64)) * (2 : Int64)) <<< (x2.toInt64 &&& 63)) ||| (0 : Int64)) ||| (FP.d2l (FP.dmul (FP.dsub o121.1 FP.dconst1) (FP.l2d ((1 : Int64) <<< (x2.toInt64 &&& 63)))))) hx hb hr (fun t ht hW => ⟨⟨_, (), rfl, rfl, ⟨by rw [ht]; exact hP, hD⟩⟩, hS.F ht⟩) hS.2.2 dX3_bitsOf_213
            · replace h := (if_neg c185).symm.trans h
              refine lv_dload hx hb dX3_bitsOf_188 (lv_at hl 4 rfl) ?_
              refine lv_goto (tgt := 197) hx hb dX3_bitsOf_190 (by decide) ?_
              refine lv_dstore (lv' := [(13, .double o121.1), (11, .long (0 : Int64)), (2, .int x2), (3, .int x3), (6, .long (((x3.toInt64 + (1 : Int64)) * (2 : Int64)) <<< (x2.toInt64 &&& 63))), (8, .double o121.1), (10, .int o121.2.1)]) hx hb dX3_bitsOf_197 hl (by decide) rfl (fun ls hl => ?_)
              refine lv_lload hx hb dX3_bitsOf_199 (lv_at hl 4 rfl) ?_
              refine lv_lload hx hb dX3_bitsOf_201 (lv_at hl 1 rfl) ?_
              refine lv_lor hx hb dX3_bitsOf_203 ?_
              refine lv_dload hx hb dX3_bitsOf_204 (lv_at hl 0 rfl) ?_
              refine lv_lconst (v := (1 : Int64)) hx hb dX3_bitsOf_206 (by decide) ?_
              refine lv_iload_n hx hb dX3_bitsOf_207 rfl (lv_at hl 2 rfl) ?_
              refine lv_lshl (v := (1 : Int64) <<< (x2.toInt64 &&& 63)) hx hb dX3_bitsOf_208 rfl ?_
              refine lv_l2d hx hb dX3_bitsOf_209 ?_
              obtain ⟨hz210, h⟩ := zk_n64_spec h
              refine lv_dmul hx hb dX3_bitsOf_210 hz210 ?_
              refine lv_d2l hx hb dX3_bitsOf_211 ?_
              refine lv_lor hx hb dX3_bitsOf_212 ?_
              obtain rfl := Option.some.inj h
              exact W.lret (v := ((((x3.toInt64 + (1 : Int64)) * (2 : Int64)) <<< (x2.toInt64 &&& 63)) ||| (0 : Int64)) ||| (FP.d2l (FP.dmul o121.1 (FP.l2d ((1 : Int64) <<< (x2.toInt64 &&& 63)))))) hx hb hr (fun t ht hW => ⟨⟨_, (), rfl, rfl, ⟨by rw [ht]; exact hP, hD⟩⟩, hS.F ht⟩) hS.2.2 dX3_bitsOf_213
        · replace h := (if_neg c69).symm.trans h
          refine lv_lload hx hb dX3_bitsOf_72 (lv_at hl 1 rfl) ?_
          refine lv_lload hx hb dX3_bitsOf_74 (lv_at hl 2 rfl) ?_
          refine lv_lor hx hb dX3_bitsOf_76 ?_
          obtain rfl := Option.some.inj h
          exact W.lret (v := (((x3.toInt64 + (1 : Int64)) * (2 : Int64)) <<< (x2.toInt64 &&& 63)) ||| ((((2 : Int64) * x3.toInt64) + (1 : Int64)) <<< (x2.toInt64 &&& 63))) hx hb hr (fun t ht hW => ⟨⟨_, (), rfl, rfl, ⟨by rw [ht]; exact hP, hD⟩⟩, hS.F ht⟩) hS.2.2 dX3_bitsOf_77
      · replace h := (if_neg c53).symm.trans h
        refine lv_dload_n hx hb dX3_bitsOf_56 rfl (lv_at hl 2 rfl) ?_
        refine lv_dneg hx hb dX3_bitsOf_57 ?_
        refine lv_goto (tgt := 62) hx hb dX3_bitsOf_58 (by decide) ?_
        refine lv_dstore (lv' := [(8, .double (FP.dneg x0)), (6, .long (((x3.toInt64 + (1 : Int64)) * (2 : Int64)) <<< (x2.toInt64 &&& 63))), (4, .long ((((2 : Int64) * x3.toInt64) + (1 : Int64)) <<< (x2.toInt64 &&& 63))), (0, .double x0), (2, .int x2), (3, .int x3)]) hx hb dX3_bitsOf_62 hl (by decide) rfl (fun ls hl => ?_)
        refine lv_dload hx hb dX3_bitsOf_64 (lv_at hl 0 rfl) ?_
        obtain ⟨o66, hc66, h⟩ := zk_bind h
        refine zk_ci (wr := []) (va_runS (As := [.double (FP.dneg x0)]) (rest := []) ⟨hx, hb, hml, hown, hts⟩ (k_X3_isEndless l D T N  _  (FP.dneg x0) o66 hc66) (va_cwS 1 hts gX3_bitsOf_X3_isEndless rfl rfl rfl (by decide +kernel) ⟨Nat.le_of_ble_eq_true rfl, Nat.le_of_ble_eq_true rfl⟩) (zk_preS hK hN (hP.sub [] rfl) (hD.sub [] (by decide) rfl)) rfl rfl hl.1 rfl (lv_room (Nat.le_of_ble_eq_true rfl)) dX3_bitsOf_66 ⟨Nat.zero_le _, Nat.zero_le _⟩) hP hD hS hA [] [] rfl rfl (by decide) (by decide) [] (wf := []) rfl (by decide) (fun H locs hP hD hS => ?_)
        refine lv_if_eq (tgt := 78) hx hb dX3_bitsOf_69 (by decide) (fun c69 => ?_) (fun c69 => ?_)
        · replace h := (if_pos c69).symm.trans h
          refine lv_iconst (v := (0 : Int32)) hx hb dX3_bitsOf_78 (by decide) ?_
          refine lv_istore (lv' := [(10, .int (0 : Int32)), (8, .double (FP.dneg x0)), (6, .long (((x3.toInt64 + (1 : Int64)) * (2 : Int64)) <<< (x2.toInt64 &&& 63))), (4, .long ((((2 : Int64) * x3.toInt64) + (1 : Int64)) <<< (x2.toInt64 &&& 63))), (0, .double x0), (2, .int x2), (3, .int x3)]) hx hb dX3_bitsOf_79 hl (by decide) rfl (fun ls hl => ?_)
          refine lv_iconst (v := (0 : Int32)) hx hb dX3_bitsOf_81 (by decide) ?_
          refine lv_istore (lv' := [(11, .int (0 : Int32)), (10, .int (0 : Int32)), (8, .double (FP.dneg x0)), (6, .long (((x3.toInt64 + (1 : Int64)) * (2 : Int64)) <<< (x2.toInt64 &&& 63))), (4, .long ((((2 : Int64) * x3.toInt64) + (1 : Int64)) <<< (x2.toInt64 &&& 63))), (0, .double x0), (2, .int x2), (3, .int x3)]) hx hb dX3_bitsOf_82 hl (by decide) rfl (fun ls hl => ?_)
          obtain ⟨o84, hc84, h⟩ := zk_bind h
          refine l_X3_bitsOf_84 N hx hb hml hown hts hA hK hN x2 x3 (((x3.toInt64 + (1 : Int64)) * (2 : Int64)) <<< (x2.toInt64 &&& 63)) N (FP.dneg x0) (0 : Int32) (0 : Int32) o84 hc84 _ _ _ hP hD hS (lv_sub hl [6, 7, 3, 2, 1, 0] rfl) (fun H locs ls hP hD hS hl => ?_)
          refine lv_iconst (v := (0 : Int32)) hx hb dX3_bitsOf_118 (by decide) ?_
          refine lv_istore (lv' := [(11, .int (0 : Int32)), (2, .int x2), (3, .int x3), (6, .long (((x3.toInt64 + (1 : Int64)) * (2 : Int64)) <<< (x2.toInt64 &&& 63))), (8, .double o84.1), (10, .int o84.2.1)]) hx hb dX3_bitsOf_119 hl (by decide) rfl (fun ls hl => ?_)
          obtain ⟨o121, hc121, h⟩ := zk_bind h
          refine l_X3_bitsOf_121 N hx hb hml hown hts hA hK hN x2 x3 (((x3.toInt64 + (1 : Int64)) * (2 : Int64)) <<< (x2.toInt64 &&& 63)) N o84.1 o84.2.1 (0 : Int32) o121 hc121 _ _ _ hP hD hS (lv_sub hl [1, 2, 3, 4, 5, 0] rfl) (fun H locs ls hP hD hS hl => ?_)
          refine lv_dload hx hb dX3_bitsOf_161 (lv_at hl 3 rfl) ?_
          refine lv_dconst1 hx hb dX3_bitsOf_163 ?_
          refine lv_dcmp hx hb dX3_bitsOf_164 ?_
          refine lv_if_ge (tgt := 172) hx hb dX3_bitsOf_165 (by decide) (fun c165 => ?_) (fun c165 => ?_)
          · replace h := (if_pos c165).symm.trans h
            refine lv_iload hx hb dX3_bitsOf_172 (lv_at hl 4 rfl) ?_
            refine lv_iload_n hx hb dX3_bitsOf_174 rfl (lv_at hl 1 rfl) ?_
            refine lv_iadd hx hb dX3_bitsOf_175 ?_
            refine lv_i2l (v := (o121.2.1 + x3).toInt64) hx hb dX3_bitsOf_176 rfl ?_
            refine lv_iload_n hx hb dX3_bitsOf_177 rfl (lv_at hl 0 rfl) ?_
            refine lv_lshl (v := ((o121.2.1 + x3).toInt64) <<< (x2.toInt64 &&& 63)) hx hb dX3_bitsOf_178 rfl ?_
            refine lv_lstore (lv' := [(11, .long (((o121.2.1 + x3).toInt64) <<< (x2.toInt64 &&& 63))), (2, .int x2), (3, .int x3), (6, .long (((x3.toInt64 + (1 : Int64)) * (2 : Int64)) <<< (x2.toInt64 &&& 63))), (8, .double o121.1), (10, .int o121.2.1)]) hx hb dX3_bitsOf_179 hl (by decide) rfl (fun ls hl => ?_)
            refine lv_dload hx hb dX3_bitsOf_181 (lv_at hl 4 rfl) ?_
            refine lv_dconst1 hx hb dX3_bitsOf_183 ?_
            refine lv_dcmp hx hb dX3_bitsOf_184 ?_
            refine lv_if_ge (tgt := 193) hx hb dX3_bitsOf_185 (by decide) (fun c185 => ?_) (fun c185 => ?_)
            · replace h := (if_pos c185).symm.trans h
              refine lv_dload hx hb dX3_bitsOf_193 (lv_at hl 4 rfl) ?_
              refine lv_dconst1 hx hb dX3_bitsOf_195 ?_
              obtain ⟨hz196, h⟩ := zk_n64_spec h
              refine lv_dsub hx hb dX3_bitsOf_196 hz196 ?_
              refine lv_dstore (lv' := [(13, .double (FP.dsub o121.1 FP.dconst1)), (11, .long (((o121.2.1 + x3).toInt64) <<< (x2.toInt64 &&& 63))), (2, .int x2), (3, .int x3), (6, .long (((x3.toInt64 + (1 : Int64)) * (2 : Int64)) <<< (x2.toInt64 &&& 63))), (8, .double o121.1), (10, .int o121.2.1)]) hx hb dX3_bitsOf_197 hl (by decide) rfl (fun ls hl => ?_)
              refine lv_lload hx hb dX3_bitsOf_199 (lv_at hl 4 rfl) ?_
              refine lv_lload hx hb dX3_bitsOf_201 (lv_at hl 1 rfl) ?_
              refine lv_lor hx hb dX3_bitsOf_203 ?_
              refine lv_dload hx hb dX3_bitsOf_204 (lv_at hl 0 rfl) ?_
              refine lv_lconst (v := (1 : Int64)) hx hb dX3_bitsOf_206 (by decide) ?_
              refine lv_iload_n hx hb dX3_bitsOf_207 rfl (lv_at hl 2 rfl) ?_
              refine lv_lshl (v := (1 : Int64) <<< (x2.toInt64 &&& 63)) hx hb dX3_bitsOf_208 rfl ?_
              refine lv_l2d hx hb dX3_bitsOf_209 ?_
              obtain ⟨hz210, h⟩ := zk_n64_spec h
              refine lv_dmul hx hb dX3_bitsOf_210 hz210 ?_
              refine lv_d2l hx hb dX3_bitsOf_211 ?_
              refine lv_lor hx hb dX3_bitsOf_212 ?_
              obtain rfl := Option.some.inj h
              exact W.lret (v := ((((x3.toInt64 + (1 : Int64)) * (2 : Int64)) <<< (x2.toInt64 &&& 63)) ||| (((o121.2.1 + x3).toInt64) <<< (x2.toInt64 &&& 63))) ||| (FP.d2l (FP.dmul (FP.dsub o121.1 FP.dconst1) (FP.l2d ((1 : Int64) <<< (x2.toInt64 &&& 63)))))) hx hb hr (fun t ht hW => ⟨⟨_, (), rfl, rfl, ⟨by rw [ht]; exact hP, hD⟩⟩, hS.F ht⟩) hS.2.2 dX3_bitsOf_213
            · replace h := (if_neg c185).symm.trans h
              refine lv_dload hx hb dX3_bitsOf_188 (lv_at hl 4 rfl) ?_
              refine lv_goto (tgt := 197) hx hb dX3_bitsOf_190 (by decide) ?_
              refine lv_dstore (lv' := [(13, .double o121.1), (11, .long (((o121.2.1 + x3).toInt64) <<< (x2.toInt64 &&& 63))), (2, .int x2), (3, .int x3), (6, .long (((x3.toInt64 + (1 : Int64)) * (2 : Int64)) <<< (x2.toInt64 &&& 63))), (8, .double o121.1), (10, .int o121.2.1)]) hx hb dX3_bitsOf_197 hl (by decide) rfl (fun ls hl => ?_)
              refine lv_lload hx hb dX3_bitsOf_199 (lv_at hl 4 rfl) ?_
              refine lv_lload hx hb dX3_bitsOf_201 (lv_at hl 1 rfl) ?_
              refine lv_lor hx hb dX3_bitsOf_203 ?_
              refine lv_dload hx hb dX3_bitsOf_204 (lv_at hl 0 rfl) ?_
              refine lv_lconst (v := (1 : Int64)) hx hb dX3_bitsOf_206 (by decide) ?_
              refine lv_iload_n hx hb dX3_bitsOf_207 rfl (lv_at hl 2 rfl) ?_
              refine lv_lshl (v := (1 : Int64) <<< (x2.toInt64 &&& 63)) hx hb dX3_bitsOf_208 rfl ?_
              refine lv_l2d hx hb dX3_bitsOf_209 ?_
              obtain ⟨hz210, h⟩ := zk_n64_spec h
              refine lv_dmul hx hb dX3_bitsOf_210 hz210 ?_
              refine lv_d2l hx hb dX3_bitsOf_211 ?_
              refine lv_lor hx hb dX3_bitsOf_212 ?_
              obtain rfl := Option.some.inj h
              exact W.lret (v := ((((x3.toInt64 + (1 : Int64)) * (2 : Int64)) <<< (x2.toInt64 &&& 63)) ||| (((o121.2.1 + x3).toInt64) <<< (x2.toInt64 &&& 63))) ||| (FP.d2l (FP.dmul o121.1 (FP.l2d ((1 : Int64) <<< (x2.toInt64 &&& 63)))))) hx hb hr (fun t ht hW => ⟨⟨_, (), rfl, rfl, ⟨by rw [ht]; exact hP, hD⟩⟩, hS.F ht⟩) hS.2.2 dX3_bitsOf_213
          · replace h := (if_neg c165).symm.trans h
            refine lv_lconst (v := (0 : Int64)) hx hb dX3_bitsOf_168 (by decide) ?_
            refine lv_goto (tgt := 179) hx hb dX3_bitsOf_169 (by decide) ?_
            refine lv_lstore (lv' := [(11, .long (0 : Int64)), (2, .int x2), (3, .int x3), (6, .long (((x3.toInt64 + (1 : Int64)) * (2 : Int64)) <<< (x2.toInt64 &&& 63))), (8, .double o121.1), (10, .int o121.2.1)]) hx hb dX3_bitsOf_179 hl (by decide) rfl (fun ls hl => ?_)
            refine lv_dload hx hb dX3_bitsOf_181 (lv_at hl 4 rfl) ?_
            refine lv_dconst1 hx hb dX3_bitsOf_183 ?_
            refine lv_dcmp hx hb dX3_bitsOf_184 ?_
            refine lv_if_ge (tgt := 193) hx hb dX3_bitsOf_185 (by decide) (fun c185 => ?_) (fun c185 => ?_)
            · replace h := (if_pos c185).symm.trans h
              refine lv_dload hx hb dX3_bitsOf_193 (lv_at hl 4 rfl) ?_
              refine lv_dconst1 hx hb dX3_bitsOf_195 ?_
              obtain ⟨hz196, h⟩ := zk_n64_spec h
              refine lv_dsub hx hb dX3_bitsOf_196 hz196 ?_
              refine lv_dstore (lv' := [(13, .double (FP.dsub o121.1 FP.dconst1)), (11, .long (0 : Int64)), (2, .int x2), (3, .int x3), (6, .long (((x3.toInt64 + (1 : Int64)) * (2 : Int64)) <<< (x2.toInt64 &&& 63))), (8, .double o121.1), (10, .int o121.2.1)]) hx hb dX3_bitsOf_197 hl (by decide) rfl (fun ls hl => ?_)
              refine lv_lload hx hb dX3_bitsOf_199 (lv_at hl 4 rfl) ?_
              refine lv_lload hx hb dX3_bitsOf_201 (lv_at hl 1 rfl) ?_
              refine lv_lor hx hb dX3_bitsOf_203 ?_
              refine lv_dload hx hb dX3_bitsOf_204 (lv_at hl 0 rfl) ?_
              refine lv_lconst (v := (1 : Int64)) hx hb dX3_bitsOf_206 (by decide) ?_
              refine lv_iload_n hx hb dX3_bitsOf_207 rfl (lv_at hl 2 rfl) ?_
              refine lv_lshl (v := (1 : Int64) <<< (x2.toInt64 &&& 63)) hx hb dX3_bitsOf_208 rfl ?_
              refine lv_l2d hx hb dX3_bitsOf_209 ?_
              obtain ⟨hz210, h⟩ := zk_n64_spec h
              refine lv_dmul hx hb dX3_bitsOf_210 hz210 ?_
              refine lv_d2l hx hb dX3_bitsOf_211 ?_
              refine lv_lor hx hb dX3_bitsOf_212 ?_
              obtain rfl := Option.some.inj h
              exact W.lret (v := ((((x3.toInt64 + (1 : Int64)) * (2 : Int64)) <<< (x2.toInt64 &&& 63)) ||| (0 : Int64)) ||| (FP.d2l (FP.dmul (FP.dsub o121.1 FP.dconst1) (FP.l2d ((1 : Int64) <<< (x2.toInt64 &&& 63)))))) hx hb hr (fun t ht hW => ⟨⟨_, (), rfl, rfl, ⟨by rw [ht]; exact hP, hD⟩⟩, hS.F ht⟩) hS.2.2 dX3_bitsOf_213
            · replace h := (if_neg c185).symm.trans h
              refine lv_dload hx hb dX3_bitsOf_188 (lv_at hl 4 rfl) ?_
              refine lv_goto (tgt := 197) hx hb dX3_bitsOf_190 (by decide) ?_
              refine lv_dstore (lv' := [(13, .double o121.1), (11, .long (0 : Int64)), (2, .int x2), (3, .int x3), (6, .long (((x3.toInt64 + (1 : Int64)) * (2 : Int64)) <<< (x2.toInt64 &&& 63))), (8, .double o121.1), (10, .int o121.2.1)]) hx hb dX3_bitsOf_197 hl (by decide) rfl (fun ls hl => ?_)
              refine lv_lload hx hb dX3_bitsOf_199 (lv_at hl 4 rfl) ?_
              refine lv_lload hx hb dX3_bitsOf_201 (lv_at hl 1 rfl) ?_
              refine lv_lor hx hb dX3_bitsOf_203 ?_
              refine lv_dload hx hb dX3_bitsOf_204 (lv_at hl 0 rfl) ?_
              refine lv_lconst (v := (1 : Int64)) hx hb dX3_bitsOf_206 (by decide) ?_
              refine lv_iload_n hx hb dX3_bitsOf_207 rfl (lv_at hl 2 rfl) ?_
              refine lv_lshl (v := (1 : Int64) <<< (x2.toInt64 &&& 63)) hx hb dX3_bitsOf_208 rfl ?_
              refine lv_l2d hx hb dX3_bitsOf_209 ?_
              obtain ⟨hz210, h⟩ := zk_n64_spec h
              refine lv_dmul hx hb dX3_bitsOf_210 hz210 ?_
              refine lv_d2l hx hb dX3_bitsOf_211 ?_
              refine lv_lor hx hb dX3_bitsOf_212 ?_
              obtain rfl := Option.some.inj h
              exact W.lret (v := ((((x3.toInt64 + (1 : Int64)) * (2 : Int64)) <<< (x2.toInt64 &&& 63)) ||| (0 : Int64)) ||| (FP.d2l (FP.dmul o121.1 (FP.l2d ((1 : Int64) <<< (x2.toInt64 &&& 63)))))) hx hb hr (fun t ht hW => ⟨⟨_, (), rfl, rfl, ⟨by rw [ht]; exact hP, hD⟩⟩, hS.F ht⟩) hS.2.2 dX3_bitsOf_213
        · replace h := (if_neg c69).symm.trans h
          refine lv_lload hx hb dX3_bitsOf_72 (lv_at hl 1 rfl) ?_
          refine lv_lload hx hb dX3_bitsOf_74 (lv_at hl 2 rfl) ?_
          refine lv_lor hx hb dX3_bitsOf_76 ?_
          obtain rfl := Option.some.inj h
          exact W.lret (v := (((x3.toInt64 + (1 : Int64)) * (2 : Int64)) <<< (x2.toInt64 &&& 63)) ||| ((((2 : Int64) * x3.toInt64) + (1 : Int64)) <<< (x2.toInt64 &&& 63))) hx hb hr (fun t ht hW => ⟨⟨_, (), rfl, rfl, ⟨by rw [ht]; exact hP, hD⟩⟩, hS.F ht⟩) hS.2.2 dX3_bitsOf_77
  · replace h := (if_neg c16).symm.trans h
    refine lv_lload hx hb dX3_bitsOf_19 (lv_at hl 0 rfl) ?_
    refine lv_lconst (v := (1 : Int64)) hx hb dX3_bitsOf_21 (by decide) ?_
    refine lv_iload_n hx hb dX3_bitsOf_22 rfl (lv_at hl 2 rfl) ?_
    refine lv_iconst (v := (1 : Int32)) hx hb dX3_bitsOf_23 (by decide) ?_
    refine lv_isub hx hb dX3_bitsOf_24 ?_
    refine lv_lshl (v := (1 : Int64) <<< ((x2 - (1 : Int32)).toInt64 &&& 63)) hx hb dX3_bitsOf_25 rfl ?_
    refine lv_lor hx hb dX3_bitsOf_26 ?_
    obtain rfl := Option.some.inj h
    exact W.lret (v := ((((2 : Int64) * x3.toInt64) + (1 : Int64)) <<< (x2.toInt64 &&& 63)) ||| ((1 : Int64) <<< ((x2 - (1 : Int32)).toInt64 &&& 63))) hx hb hr (fun t ht hW => ⟨⟨_, (), rfl, rfl, ⟨by rw [ht]; exact hP, hD⟩⟩, hS.F ht⟩) hS.2.2 dX3_bitsOf_27
theorem iX3_bitsOfAngle_X3 : ∀ w ∈ wsX30, w ∈ wsX3_bitsOfAngle := by decide +kernel
def f_X3_bitsOfAngle (N : Nat) (v_t_there : Nat → Int32) (v_t_angles : Nat → UInt64) (x1 : Int32) : Option (Int32) := (f_X3_has N v_t_there x1).bind fun o2 => if o2 = 0 then (some (0 : Int32)) else (zk_g x1 4 ((f_X3_bitsOf N (v_t_angles x1.toNatClampNeg) (23 : Int32) (127 : Int32)).bind fun o18 => some o18.toInt32))
set_option maxHeartbeats 8000000 in
set_option maxRecDepth 100000 in
theorem k_X3_bitsOfAngle (l : Launch) (D : va_G) (T : Nat → ClassId) (N : Nat) (q_t q_t_there q_t_angles q_t_speeds : Nat) (sz : Nat) (v_t_stiffness : Int32) (v_t_pull : Int32) (v_t_there : Nat → Int32) (v_t_angles : Nat → UInt64) (x1 : Int32) (o : Int32) (h : f_X3_bitsOfAngle N v_t_there v_t_angles x1 = some o) : Met l yX3_bitsOfAngle wsX3_bitsOfAngle ({ frames := 3, cells := 0, slots := 0, locals := 74 } : Room) (zk_Pc D T [.ref q_t, .int x1] [(q_t, .inr (5, [.ref q_t_there, .ref q_t_angles, .ref q_t_speeds, .int v_t_stiffness, .int v_t_pull])), (q_t_there, .inl (T 1, 4, .inl v_t_there)), (q_t_angles, .inl (T 4, 4, .inr (.inr (.inr (.inl v_t_angles)))))] sz) (zk_Qi o D [(q_t, .inr (5, [.ref q_t_there, .ref q_t_angles, .ref q_t_speeds, .int v_t_stiffness, .int v_t_pull])), (q_t_there, .inl (T 1, 4, .inl v_t_there)), (q_t_angles, .inl (T 4, 4, .inr (.inr (.inr (.inl v_t_angles)))))] (va_A [(q_t, .inr (5, [.ref q_t_there, .ref q_t_angles, .ref q_t_speeds, .int v_t_stiffness, .int v_t_pull])), (q_t_there, .inl (T 1, 4, .inl v_t_there)), (q_t_angles, .inl (T 4, 4, .inr (.inr (.inr (.inl v_t_angles)))))] sz) (va_A [(q_t, .inr (5, [.ref q_t_there, .ref q_t_angles, .ref q_t_speeds, .int v_t_stiffness, .int v_t_pull])), (q_t_there, .inl (T 1, 4, .inl v_t_there)), (q_t_angles, .inl (T 4, 4, .inr (.inr (.inr (.inl v_t_angles)))))] sz)) 0 0 (va_A [(q_t, .inr (5, [.ref q_t_there, .ref q_t_angles, .ref q_t_speeds, .int v_t_stiffness, .int v_t_pull])), (q_t_there, .inl (T 1, 4, .inl v_t_there)), (q_t_angles, .inl (T 4, 4, .inr (.inr (.inr (.inl v_t_angles)))))] sz) := by
  refine Met.ofW (cc := cX3_bitsOfAngle) (maxL := 2) (ret := (some .int)) (by decide) rfl ?_
  intro p e s m args below meth c s₁ B hml hv
  obtain ⟨rfl, hsz, hP, hK, hN, hD0⟩ := hv
  have hx := B.exec
  have hb := B.bytes
  have hr := B.returns
  have hts := atoms_spec (ws := wsX3_bitsOfAngle) B.pre
  have hown : s.vm.findClass RX3 = some m.cls := findClass_of_methodNamed B.named
  have hlocks := B.notSynchronized
  subst hsz
  have hD := hD0.self (sz := s.heap.size)
  generalize hAe : va_A [(q_t, .inr (5, [.ref q_t_there, .ref q_t_angles, .ref q_t_speeds, .int v_t_stiffness, .int v_t_pull])), (q_t_there, .inl (T 1, 4, .inl v_t_there)), (q_t_angles, .inl (T 4, 4, .inr (.inr (.inr (.inl v_t_angles)))))] s.heap.size = A at hD ⊢
  have hA : ∀ q : Nat, s.heap.size ≤ q → A q := fun q h => by rw [← hAe]; exact Or.inr h
  have hS : va_S A s.heap s.heap [] := va_S.rf
  have hP : va_P D vwCl [(q_t, .inr (5, [.ref q_t_there, .ref q_t_angles, .ref q_t_speeds, .int v_t_stiffness, .int v_t_pull])), (q_t_there, .inl (T 1, 4, .inl v_t_there)), (q_t_angles, .inl (T 4, 4, .inr (.inr (.inr (.inl v_t_angles)))))] s.heap := hP
  have hl := lv_entry ([.ref q_t, .int x1]) (n := 2) (Nat.le_of_ble_eq_true rfl)
  rw [lg_entry_eq]
  generalize (lg_sl ([.ref q_t, .int x1]) ++ List.replicate (2 - (lg_sl ([.ref q_t, .int x1])).length) Slot.unset).toArray = ls at hl ⊢
  have hl : lv_has ls 2 [(0, .ref q_t), (1, .int x1)] := hl
  unfold f_X3_bitsOfAngle at h
  refine lv_aload_n hx hb dX3_bitsOfAngle_0 rfl (lv_at hl 0 rfl) ?_
  refine lv_iload_n hx hb dX3_bitsOfAngle_1 rfl (lv_at hl 1 rfl) ?_
  obtain ⟨o2, hc2, h⟩ := zk_bind h
  refine zk_ci (wr := [(q_t_angles, .inl (T 4, 4, .inr (.inr (.inr (.inl v_t_angles)))))]) (va_runV (As := [.int x1]) (rest := []) ⟨hx, hb, hml, hown, hts⟩ (k_X3_has l D T N q_t q_t_there q_t_angles q_t_speeds _ v_t_stiffness v_t_pull v_t_there x1 o2 hc2) (cwV 1 hts gX3_bitsOfAngle_X3_has rfl rfl rfl (by decide +kernel) ⟨Nat.le_of_ble_eq_true rfl, Nat.le_of_ble_eq_true rfl⟩) (zk_preV (q := (RX3, TX3, 5)) hK hN (hP.sub [0, 1] rfl) (hD.sub [0, 1] (by decide) rfl) 0 rfl rfl) rfl rfl hl.1 rfl (lv_room (Nat.le_of_ble_eq_true rfl)) dX3_bitsOfAngle_2 ⟨Nat.zero_le _, Nat.zero_le _⟩) hP hD hS hA [0, 1] [2] rfl rfl (by decide) (by decide) [1, 2, 0] (wf := [(q_t, .inr (5, [.ref q_t_there, .ref q_t_angles, .ref q_t_speeds, .int v_t_stiffness, .int v_t_pull])), (q_t_there, .inl (T 1, 4, .inl v_t_there)), (q_t_angles, .inl (T 4, 4, .inr (.inr (.inr (.inl v_t_angles)))))]) rfl (by decide) (fun H locs hP hD hS => ?_)
  refine lv_if_eq (tgt := 25) hx hb dX3_bitsOfAngle_5 (by decide) (fun c5 => ?_) (fun c5 => ?_)
  · replace h := (if_pos c5).symm.trans h
    refine lv_iconst (v := (0 : Int32)) hx hb dX3_bitsOfAngle_25 (by decide) ?_
    obtain rfl := Option.some.inj h
    exact W.iret (v := (0 : Int32)) hx hb hr (fun t ht hW => ⟨⟨_, (), rfl, rfl, ⟨by rw [ht]; exact hP, hD⟩⟩, hS.F ht⟩) hS.2.2 dX3_bitsOfAngle_26
  · replace h := (if_neg c5).symm.trans h
    refine lv_aload_n hx hb dX3_bitsOfAngle_8 rfl (lv_at hl 0 rfl) ?_
    refine va_get (D := D) (ci := 5) (v := .ref q_t_angles) (C := RX3) (T := TX3) (N := 5) hx hb hts iX3_bitsOfAngle_X3 hown hK hP 0 rfl rfl 1 (by decide) (hts (.fieldLink RX3 15 "PulseMeadow$Swings" "angles" "[D") (by decide +kernel)) (fun _ h9 => h9) rfl dX3_bitsOfAngle_9 ?_
    refine lv_iload_n hx hb dX3_bitsOfAngle_12 rfl (lv_at hl 1 rfl) ?_
    obtain ⟨hb13, h⟩ := zk_g_spec h
    refine va_dald hx hb hK hP 2 4 rfl rfl hb13 dX3_bitsOfAngle_13 ?_
    refine lv_bipush (v := (23 : Int32)) hx hb dX3_bitsOfAngle_14 (by decide) ?_
    refine lv_bipush (v := (127 : Int32)) hx hb dX3_bitsOfAngle_16 (by decide) ?_
    obtain ⟨o18, hc18, h⟩ := zk_bind h
    refine zk_cl (wr := [(q_t, .inr (5, [.ref q_t_there, .ref q_t_angles, .ref q_t_speeds, .int v_t_stiffness, .int v_t_pull])), (q_t_there, .inl (T 1, 4, .inl v_t_there)), (q_t_angles, .inl (T 4, 4, .inr (.inr (.inr (.inl v_t_angles)))))]) (va_runS (As := [.double (v_t_angles x1.toNatClampNeg), .int (23 : Int32), .int (127 : Int32)]) (rest := []) ⟨hx, hb, hml, hown, hts⟩ (k_X3_bitsOf l D T N  _  (v_t_angles x1.toNatClampNeg) (23 : Int32) (127 : Int32) o18 hc18) (va_cwS 3 hts gX3_bitsOfAngle_X3_bitsOf rfl rfl rfl (by decide +kernel) ⟨Nat.le_of_ble_eq_true rfl, Nat.le_of_ble_eq_true rfl⟩) (zk_preS hK hN (hP.sub [] rfl) (hD.sub [] (by decide) rfl)) rfl rfl hl.1 rfl (lv_room (Nat.le_of_ble_eq_true rfl)) dX3_bitsOfAngle_18 ⟨Nat.zero_le _, Nat.zero_le _⟩) hP hD hS hA [] [0, 1, 2] rfl rfl (by decide) (by decide) [0, 1, 2] (wf := [(q_t, .inr (5, [.ref q_t_there, .ref q_t_angles, .ref q_t_speeds, .int v_t_stiffness, .int v_t_pull])), (q_t_there, .inl (T 1, 4, .inl v_t_there)), (q_t_angles, .inl (T 4, 4, .inr (.inr (.inr (.inl v_t_angles)))))]) rfl (by decide) (fun H locs hP hD hS => ?_)
    refine lv_l2i (v := o18.toInt32) hx hb dX3_bitsOfAngle_21 rfl ?_
    refine lv_goto (tgt := 26) hx hb dX3_bitsOfAngle_22 (by decide) ?_
    obtain rfl := Option.some.inj h
    exact W.iret (v := o18.toInt32) hx hb hr (fun t ht hW => ⟨⟨_, (), rfl, rfl, ⟨by rw [ht]; exact hP, hD⟩⟩, hS.F ht⟩) hS.2.2 dX3_bitsOfAngle_26
theorem iX3_bitsOfEnergy_X3 : ∀ w ∈ wsX30, w ∈ wsX3_bitsOfEnergy := by decide +kernel
def f_X3_bitsOfEnergy_4 (N : Nat) (v_t_stiffness : Int32) (v_t_there : Nat → Int32) (v_t_angles : Nat → UInt64) (v_t_speeds : Nat → UInt64) : Nat → UInt64 → Int32 → Option ((UInt64 × Int32) ⊕ (UInt64 × Int32))
  | 0, _, _ => none
  | n + 1, x1, x3 => if (4 : Int32) ≤ x3 then (some (.inr (x1, x3))) else (zk_g x3 4 (if (v_t_there x3.toNatClampNeg) = 0 then (f_X3_bitsOfEnergy_4 N v_t_stiffness v_t_there v_t_angles v_t_speeds n x1 (x3 + (1 : Int32))) else (zk_g x3 4 ((f_X3_isLost N (v_t_angles x3.toNatClampNeg)).bind fun o24 => if o24 = 0 then (zk_g x3 4 ((f_X3_isLost N (v_t_speeds x3.toNatClampNeg)).bind fun o36 => if o36 = 0 then (zk_g x3 4 (zk_g x3 4 (zk_n64 (FP.dmul (v_t_speeds x3.toNatClampNeg) (v_t_speeds x3.toNatClampNeg)) (zk_n64 (FP.dmul (4602678819172646912 : UInt64) (FP.dmul (v_t_speeds x3.toNatClampNeg) (v_t_speeds x3.toNatClampNeg))) (zk_n64 (FP.dmul (4602678819172646912 : UInt64) (FP.i2d v_t_stiffness)) (zk_g x3 4 (zk_g x3 4 (zk_n64 (FP.dmul (v_t_angles x3.toNatClampNeg) (v_t_angles x3.toNatClampNeg)) (zk_n64 (FP.dmul (FP.dmul (4602678819172646912 : UInt64) (FP.i2d v_t_stiffness)) (FP.dmul (v_t_angles x3.toNatClampNeg) (v_t_angles x3.toNatClampNeg))) (zk_n64 (FP.dadd (FP.dmul (4602678819172646912 : UInt64) (FP.dmul (v_t_speeds x3.toNatClampNeg) (v_t_speeds x3.toNatClampNeg))) (FP.dmul (FP.dmul (4602678819172646912 : UInt64) (FP.i2d v_t_stiffness)) (FP.dmul (v_t_angles x3.toNatClampNeg) (v_t_angles x3.toNatClampNeg)))) (zk_n64 (FP.dadd x1 (FP.dadd (FP.dmul (4602678819172646912 : UInt64) (FP.dmul (v_t_speeds x3.toNatClampNeg) (v_t_speeds x3.toNatClampNeg))) (FP.dmul (FP.dmul (4602678819172646912 : UInt64) (FP.i2d v_t_stiffness)) (FP.dmul (v_t_angles x3.toNatClampNeg) (v_t_angles x3.toNatClampNeg))))) (f_X3_bitsOfEnergy_4 N v_t_stiffness v_t_there v_t_angles v_t_speeds n (FP.dadd x1 (FP.dadd (FP.dmul (4602678819172646912 : UInt64) (FP.dmul (v_t_speeds x3.toNatClampNeg) (v_t_speeds x3.toNatClampNeg))) (FP.dmul (FP.dmul (4602678819172646912 : UInt64) (FP.i2d v_t_stiffness)) (FP.dmul (v_t_angles x3.toNatClampNeg) (v_t_angles x3.toNatClampNeg))))) (x3 + (1 : Int32)))))))))))))) else (some (.inl (x1, x3))))) else (some (.inl (x1, x3)))))))
set_option maxHeartbeats 8000000 in
set_option maxRecDepth 100000 in
theorem l_X3_bitsOfEnergy_4 {p : Program} {l : Launch} {e : Env} {s : State} {m : MethodId} {args : Array Value} {below : List Frame} {meth : Method} {c : Code} {Q : State → Prop} {A : Nat → Prop} {D : va_G} {T : Nat → ClassId} (N : Nat) (hx : p.tables.exec = Jvm.exec) (hb : c.code = cX3_bitsOfEnergy) (hml : c.maxLocals = 4) (hown : s.vm.findClass RX3 = some m.cls) (hts : ∀ w ∈ wsX3_bitsOfEnergy, w.before args s = true) (hA : ∀ q : Nat, s.heap.size ≤ q → A q) (hK : va_K D vwCl (zk_ty T) s) (hN : zk_N s) (q_t q_t_there q_t_angles q_t_speeds : Nat) (v_t_stiffness : Int32) (v_t_pull : Int32) (v_t_there : Nat → Int32) (v_t_angles : Nat → UInt64) (v_t_speeds : Nat → UInt64) :
    ∀ (n : Nat) (x1 : UInt64) (x3 : Int32) (o : (UInt64 × Int32) ⊕ (UInt64 × Int32)), f_X3_bitsOfEnergy_4 N v_t_stiffness v_t_there v_t_angles v_t_speeds n x1 x3 = some o → ∀ (H : Heap) (locs : List Loc) (ls : Array Slot), va_P D vwCl [(q_t, .inr (5, [.ref q_t_there, .ref q_t_angles, .ref q_t_speeds, .int v_t_stiffness, .int v_t_pull])), (q_t_there, .inl (T 1, 4, .inl v_t_there)), (q_t_angles, .inl (T 4, 4, .inr (.inr (.inr (.inl v_t_angles))))), (q_t_speeds, .inl (T 4, 4, .inr (.inr (.inr (.inl v_t_speeds)))))] H → va_D A [(q_t, .inr (5, [.ref q_t_there, .ref q_t_angles, .ref q_t_speeds, .int v_t_stiffness, .int v_t_pull])), (q_t_there, .inl (T 1, 4, .inl v_t_there)), (q_t_angles, .inl (T 4, 4, .inr (.inr (.inr (.inl v_t_angles))))), (q_t_speeds, .inl (T 4, 4, .inr (.inr (.inr (.inl v_t_speeds)))))] → va_S A s.heap H locs → lv_has ls 4 [(0, .ref q_t), (1, .double x1), (3, .int x3)] → (∀ t, o = .inl t → ∀ (H : Heap) (locs : List Loc) (ls : Array Slot), va_P D vwCl [(q_t, .inr (5, [.ref q_t_there, .ref q_t_angles, .ref q_t_speeds, .int v_t_stiffness, .int v_t_pull])), (q_t_there, .inl (T 1, 4, .inl v_t_there)), (q_t_angles, .inl (T 4, 4, .inr (.inr (.inr (.inl v_t_angles))))), (q_t_speeds, .inl (T 4, 4, .inr (.inr (.inr (.inl v_t_speeds)))))] H → va_D A [(q_t, .inr (5, [.ref q_t_there, .ref q_t_angles, .ref q_t_speeds, .int v_t_stiffness, .int v_t_pull])), (q_t_there, .inl (T 1, 4, .inl v_t_there)), (q_t_angles, .inl (T 4, 4, .inr (.inr (.inr (.inl v_t_angles))))), (q_t_speeds, .inl (T 4, 4, .inr (.inr (.inr (.inl v_t_speeds)))))] → va_S A s.heap H locs → lv_has ls 4 [] → W p l e ({ frames := 3, cells := 0, slots := 0, locals := 74 } : Room) s m args below meth c H locs 0 0 Q (F0 m 42 ls [])) → (∀ t, o = .inr t → ∀ (H : Heap) (locs : List Loc) (ls : Array Slot), va_P D vwCl [(q_t, .inr (5, [.ref q_t_there, .ref q_t_angles, .ref q_t_speeds, .int v_t_stiffness, .int v_t_pull])), (q_t_there, .inl (T 1, 4, .inl v_t_there)), (q_t_angles, .inl (T 4, 4, .inr (.inr (.inr (.inl v_t_angles))))), (q_t_speeds, .inl (T 4, 4, .inr (.inr (.inr (.inl v_t_speeds)))))] H → va_D A [(q_t, .inr (5, [.ref q_t_there, .ref q_t_angles, .ref q_t_speeds, .int v_t_stiffness, .int v_t_pull])), (q_t_there, .inl (T 1, 4, .inl v_t_there)), (q_t_angles, .inl (T 4, 4, .inr (.inr (.inr (.inl v_t_angles))))), (q_t_speeds, .inl (T 4, 4, .inr (.inr (.inr (.inl v_t_speeds)))))] → va_S A s.heap H locs → lv_has ls 4 [(1, .double t.1)] → W p l e ({ frames := 3, cells := 0, slots := 0, locals := 74 } : Room) s m args below meth c H locs 0 0 Q (F0 m 104 ls [])) → W p l e ({ frames := 3, cells := 0, slots := 0, locals := 74 } : Room) s m args below meth c H locs 0 0 Q (F0 m 4 ls []) := by
  intro n
  induction n with
  | zero => intro x1 x3 o h; exact absurd h (by simp [f_X3_bitsOfEnergy_4])
  | succ n ih =>
    intro x1 x3 o h H locs ls hP hD hS hl kx0 kx1
    rw [f_X3_bitsOfEnergy_4] at h
    refine lv_iload_n hx hb dX3_bitsOfEnergy_4 rfl (lv_at hl 2 rfl) ?_
    refine lv_iconst (v := (4 : Int32)) hx hb dX3_bitsOfEnergy_5 (by decide) ?_
    refine lv_icmp_ge (tgt := 104) hx hb dX3_bitsOfEnergy_6 (by decide) (fun c6 => ?_) (fun c6 => ?_)
    · replace h := (if_pos c6).symm.trans h
      obtain rfl := Option.some.inj h
      exact kx1 _ rfl _ _ _ hP hD hS (lv_sub hl [1] rfl)
    · replace h := (if_neg c6).symm.trans h
      refine lv_aload_n hx hb dX3_bitsOfEnergy_9 rfl (lv_at hl 0 rfl) ?_
      refine va_get (D := D) (ci := 5) (v := .ref q_t_there) (C := RX3) (T := TX3) (N := 5) hx hb hts iX3_bitsOfEnergy_X3 hown hK hP 0 rfl rfl 0 (by decide) (hts (.fieldLink RX3 9 "PulseMeadow$Swings" "there" "[Z") (by decide +kernel)) (fun _ h9 => h9) rfl dX3_bitsOfEnergy_10 ?_
      refine lv_iload_n hx hb dX3_bitsOfEnergy_13 rfl (lv_at hl 2 rfl) ?_
      obtain ⟨hb14, h⟩ := zk_g_spec h
      refine va_zald hx hb hK hP 1 1 rfl rfl hb14 dX3_bitsOfEnergy_14 ?_
      refine lv_if_eq (tgt := 98) hx hb dX3_bitsOfEnergy_15 (by decide) (fun c15 => ?_) (fun c15 => ?_)
      · replace h := (if_pos c15).symm.trans h
        refine lv_iinc (v := x3 + (1 : Int32)) (lv' := [(3, .int (x3 + (1 : Int32))), (0, .ref q_t), (1, .double x1)]) hx hb dX3_bitsOfEnergy_98 hl (k := 2) rfl rfl (by decide) rfl (fun ls hl => ?_)
        refine lv_goto (tgt := 4) hx hb dX3_bitsOfEnergy_101 (by decide) ?_
        exact ih x1 (x3 + (1 : Int32)) o h _ _ _ hP hD hS (lv_sub hl [1, 2, 0] rfl) kx0 kx1
      · replace h := (if_neg c15).symm.trans h
        refine lv_aload_n hx hb dX3_bitsOfEnergy_18 rfl (lv_at hl 0 rfl) ?_
        refine va_get (D := D) (ci := 5) (v := .ref q_t_angles) (C := RX3) (T := TX3) (N := 5) hx hb hts iX3_bitsOfEnergy_X3 hown hK hP 0 rfl rfl 1 (by decide) (hts (.fieldLink RX3 15 "PulseMeadow$Swings" "angles" "[D") (by decide +kernel)) (fun _ h9 => h9) rfl dX3_bitsOfEnergy_19 ?_
        refine lv_iload_n hx hb dX3_bitsOfEnergy_22 rfl (lv_at hl 2 rfl) ?_
        obtain ⟨hb23, h⟩ := zk_g_spec h
        refine va_dald hx hb hK hP 2 4 rfl rfl hb23 dX3_bitsOfEnergy_23 ?_
        obtain ⟨o24, hc24, h⟩ := zk_bind h
        refine zk_ci (wr := [(q_t, .inr (5, [.ref q_t_there, .ref q_t_angles, .ref q_t_speeds, .int v_t_stiffness, .int v_t_pull])), (q_t_there, .inl (T 1, 4, .inl v_t_there)), (q_t_angles, .inl (T 4, 4, .inr (.inr (.inr (.inl v_t_angles))))), (q_t_speeds, .inl (T 4, 4, .inr (.inr (.inr (.inl v_t_speeds)))))]) (va_runS (As := [.double (v_t_angles x3.toNatClampNeg)]) (rest := []) ⟨hx, hb, hml, hown, hts⟩ (k_X3_isLost l D T N  _  (v_t_angles x3.toNatClampNeg) o24 hc24) (va_cwS 1 hts gX3_bitsOfEnergy_X3_isLost rfl rfl rfl (by decide +kernel) ⟨Nat.le_of_ble_eq_true rfl, Nat.le_of_ble_eq_true rfl⟩) (zk_preS hK hN (hP.sub [] rfl) (hD.sub [] (by decide) rfl)) rfl rfl hl.1 rfl (lv_room (Nat.le_of_ble_eq_true rfl)) dX3_bitsOfEnergy_24 ⟨Nat.zero_le _, Nat.zero_le _⟩) hP hD hS hA [] [0, 1, 2, 3] rfl rfl (by decide) (by decide) [0, 1, 2, 3] (wf := [(q_t, .inr (5, [.ref q_t_there, .ref q_t_angles, .ref q_t_speeds, .int v_t_stiffness, .int v_t_pull])), (q_t_there, .inl (T 1, 4, .inl v_t_there)), (q_t_angles, .inl (T 4, 4, .inr (.inr (.inr (.inl v_t_angles))))), (q_t_speeds, .inl (T 4, 4, .inr (.inr (.inr (.inl v_t_speeds)))))]) rfl (by decide) (fun H locs hP hD hS => ?_)
        refine lv_if_ne (tgt := 42) hx hb dX3_bitsOfEnergy_27 (by decide) (fun c27 => ?_) (fun c27 => ?_)
        · replace h := (if_neg c27).symm.trans h
          obtain rfl := Option.some.inj h
          exact kx0 _ rfl _ _ _ hP hD hS (lv_sub hl [] rfl)
        · replace h := (if_pos c27).symm.trans h
          refine lv_aload_n hx hb dX3_bitsOfEnergy_30 rfl (lv_at hl 0 rfl) ?_
          refine va_get (D := D) (ci := 5) (v := .ref q_t_speeds) (C := RX3) (T := TX3) (N := 5) hx hb hts iX3_bitsOfEnergy_X3 hown hK hP 0 rfl rfl 2 (by decide) (hts (.fieldLink RX3 19 "PulseMeadow$Swings" "speeds" "[D") (by decide +kernel)) (fun _ h9 => h9) rfl dX3_bitsOfEnergy_31 ?_
          refine lv_iload_n hx hb dX3_bitsOfEnergy_34 rfl (lv_at hl 2 rfl) ?_
          obtain ⟨hb35, h⟩ := zk_g_spec h
          refine va_dald hx hb hK hP 3 4 rfl rfl hb35 dX3_bitsOfEnergy_35 ?_
          obtain ⟨o36, hc36, h⟩ := zk_bind h
          refine zk_ci (wr := [(q_t, .inr (5, [.ref q_t_there, .ref q_t_angles, .ref q_t_speeds, .int v_t_stiffness, .int v_t_pull])), (q_t_there, .inl (T 1, 4, .inl v_t_there)), (q_t_angles, .inl (T 4, 4, .inr (.inr (.inr (.inl v_t_angles))))), (q_t_speeds, .inl (T 4, 4, .inr (.inr (.inr (.inl v_t_speeds)))))]) (va_runS (As := [.double (v_t_speeds x3.toNatClampNeg)]) (rest := []) ⟨hx, hb, hml, hown, hts⟩ (k_X3_isLost l D T N  _  (v_t_speeds x3.toNatClampNeg) o36 hc36) (va_cwS 1 hts gX3_bitsOfEnergy_X3_isLost rfl rfl rfl (by decide +kernel) ⟨Nat.le_of_ble_eq_true rfl, Nat.le_of_ble_eq_true rfl⟩) (zk_preS hK hN (hP.sub [] rfl) (hD.sub [] (by decide) rfl)) rfl rfl hl.1 rfl (lv_room (Nat.le_of_ble_eq_true rfl)) dX3_bitsOfEnergy_36 ⟨Nat.zero_le _, Nat.zero_le _⟩) hP hD hS hA [] [0, 1, 2, 3] rfl rfl (by decide) (by decide) [0, 1, 2, 3] (wf := [(q_t, .inr (5, [.ref q_t_there, .ref q_t_angles, .ref q_t_speeds, .int v_t_stiffness, .int v_t_pull])), (q_t_there, .inl (T 1, 4, .inl v_t_there)), (q_t_angles, .inl (T 4, 4, .inr (.inr (.inr (.inl v_t_angles))))), (q_t_speeds, .inl (T 4, 4, .inr (.inr (.inr (.inl v_t_speeds)))))]) rfl (by decide) (fun H locs hP hD hS => ?_)
          refine lv_if_eq (tgt := 54) hx hb dX3_bitsOfEnergy_39 (by decide) (fun c39 => ?_) (fun c39 => ?_)
          · replace h := (if_pos c39).symm.trans h
            refine lv_dload_n hx hb dX3_bitsOfEnergy_54 rfl (lv_at hl 1 rfl) ?_
            refine lv_ldc2d (v := (4602678819172646912 : UInt64)) hx hb hown (hts (.constantDouble RX3 73 (4602678819172646912 : UInt64)) (by decide +kernel)) dX3_bitsOfEnergy_55 ?_
            refine lv_aload_n hx hb dX3_bitsOfEnergy_58 rfl (lv_at hl 0 rfl) ?_
            refine va_get (D := D) (ci := 5) (v := .ref q_t_speeds) (C := RX3) (T := TX3) (N := 5) hx hb hts iX3_bitsOfEnergy_X3 hown hK hP 0 rfl rfl 2 (by decide) (hts (.fieldLink RX3 19 "PulseMeadow$Swings" "speeds" "[D") (by decide +kernel)) (fun _ h9 => h9) rfl dX3_bitsOfEnergy_59 ?_
            refine lv_iload_n hx hb dX3_bitsOfEnergy_62 rfl (lv_at hl 2 rfl) ?_
            obtain ⟨hb63, h⟩ := zk_g_spec h
            refine va_dald hx hb hK hP 3 4 rfl rfl hb63 dX3_bitsOfEnergy_63 ?_
            refine lv_aload_n hx hb dX3_bitsOfEnergy_64 rfl (lv_at hl 0 rfl) ?_
            refine va_get (D := D) (ci := 5) (v := .ref q_t_speeds) (C := RX3) (T := TX3) (N := 5) hx hb hts iX3_bitsOfEnergy_X3 hown hK hP 0 rfl rfl 2 (by decide) (hts (.fieldLink RX3 19 "PulseMeadow$Swings" "speeds" "[D") (by decide +kernel)) (fun _ h9 => h9) rfl dX3_bitsOfEnergy_65 ?_
            refine lv_iload_n hx hb dX3_bitsOfEnergy_68 rfl (lv_at hl 2 rfl) ?_
            obtain ⟨hb69, h⟩ := zk_g_spec h
            refine va_dald hx hb hK hP 3 4 rfl rfl hb69 dX3_bitsOfEnergy_69 ?_
            obtain ⟨hz70, h⟩ := zk_n64_spec h
            refine lv_dmul hx hb dX3_bitsOfEnergy_70 hz70 ?_
            obtain ⟨hz71, h⟩ := zk_n64_spec h
            refine lv_dmul hx hb dX3_bitsOfEnergy_71 hz71 ?_
            refine lv_ldc2d (v := (4602678819172646912 : UInt64)) hx hb hown (hts (.constantDouble RX3 73 (4602678819172646912 : UInt64)) (by decide +kernel)) dX3_bitsOfEnergy_72 ?_
            refine lv_aload_n hx hb dX3_bitsOfEnergy_75 rfl (lv_at hl 0 rfl) ?_
            refine va_get (D := D) (ci := 5) (v := .int v_t_stiffness) (C := RX3) (T := TX3) (N := 5) hx hb hts iX3_bitsOfEnergy_X3 hown hK hP 0 rfl rfl 3 (by decide) (hts (.fieldLink RX3 22 "PulseMeadow$Swings" "stiffness" "I") (by decide +kernel)) (fun _ h9 => h9) rfl dX3_bitsOfEnergy_76 ?_
            refine lv_i2d hx hb dX3_bitsOfEnergy_79 ?_
            obtain ⟨hz80, h⟩ := zk_n64_spec h
            refine lv_dmul hx hb dX3_bitsOfEnergy_80 hz80 ?_
            refine lv_aload_n hx hb dX3_bitsOfEnergy_81 rfl (lv_at hl 0 rfl) ?_
            refine va_get (D := D) (ci := 5) (v := .ref q_t_angles) (C := RX3) (T := TX3) (N := 5) hx hb hts iX3_bitsOfEnergy_X3 hown hK hP 0 rfl rfl 1 (by decide) (hts (.fieldLink RX3 15 "PulseMeadow$Swings" "angles" "[D") (by decide +kernel)) (fun _ h9 => h9) rfl dX3_bitsOfEnergy_82 ?_
            refine lv_iload_n hx hb dX3_bitsOfEnergy_85 rfl (lv_at hl 2 rfl) ?_
            obtain ⟨hb86, h⟩ := zk_g_spec h
            refine va_dald hx hb hK hP 2 4 rfl rfl hb86 dX3_bitsOfEnergy_86 ?_
            refine lv_aload_n hx hb dX3_bitsOfEnergy_87 rfl (lv_at hl 0 rfl) ?_
            refine va_get (D := D) (ci := 5) (v := .ref q_t_angles) (C := RX3) (T := TX3) (N := 5) hx hb hts iX3_bitsOfEnergy_X3 hown hK hP 0 rfl rfl 1 (by decide) (hts (.fieldLink RX3 15 "PulseMeadow$Swings" "angles" "[D") (by decide +kernel)) (fun _ h9 => h9) rfl dX3_bitsOfEnergy_88 ?_
            refine lv_iload_n hx hb dX3_bitsOfEnergy_91 rfl (lv_at hl 2 rfl) ?_
            obtain ⟨hb92, h⟩ := zk_g_spec h
            refine va_dald hx hb hK hP 2 4 rfl rfl hb92 dX3_bitsOfEnergy_92 ?_
            obtain ⟨hz93, h⟩ := zk_n64_spec h
            refine lv_dmul hx hb dX3_bitsOfEnergy_93 hz93 ?_
            obtain ⟨hz94, h⟩ := zk_n64_spec h
            refine lv_dmul hx hb dX3_bitsOfEnergy_94 hz94 ?_
            obtain ⟨hz95, h⟩ := zk_n64_spec h
            refine lv_dadd hx hb dX3_bitsOfEnergy_95 hz95 ?_
            obtain ⟨hz96, h⟩ := zk_n64_spec h
            refine lv_dadd hx hb dX3_bitsOfEnergy_96 hz96 ?_
            refine lv_dstore_n (lv' := [(1, .double (FP.dadd x1 (FP.dadd (FP.dmul (4602678819172646912 : UInt64) (FP.dmul (v_t_speeds x3.toNatClampNeg) (v_t_speeds x3.toNatClampNeg))) (FP.dmul (FP.dmul (4602678819172646912 : UInt64) (FP.i2d v_t_stiffness)) (FP.dmul (v_t_angles x3.toNatClampNeg) (v_t_angles x3.toNatClampNeg)))))), (0, .ref q_t), (3, .int x3)]) hx hb dX3_bitsOfEnergy_97 rfl hl (by decide) rfl (fun ls hl => ?_)
            refine lv_iinc (v := x3 + (1 : Int32)) (lv' := [(3, .int (x3 + (1 : Int32))), (1, .double (FP.dadd x1 (FP.dadd (FP.dmul (4602678819172646912 : UInt64) (FP.dmul (v_t_speeds x3.toNatClampNeg) (v_t_speeds x3.toNatClampNeg))) (FP.dmul (FP.dmul (4602678819172646912 : UInt64) (FP.i2d v_t_stiffness)) (FP.dmul (v_t_angles x3.toNatClampNeg) (v_t_angles x3.toNatClampNeg)))))), (0, .ref q_t)]) hx hb dX3_bitsOfEnergy_98 hl (k := 2) rfl rfl (by decide) rfl (fun ls hl => ?_)
            refine lv_goto (tgt := 4) hx hb dX3_bitsOfEnergy_101 (by decide) ?_
            exact ih (FP.dadd x1 (FP.dadd (FP.dmul (4602678819172646912 : UInt64) (FP.dmul (v_t_speeds x3.toNatClampNeg) (v_t_speeds x3.toNatClampNeg))) (FP.dmul (FP.dmul (4602678819172646912 : UInt64) (FP.i2d v_t_stiffness)) (FP.dmul (v_t_angles x3.toNatClampNeg) (v_t_angles x3.toNatClampNeg))))) (x3 + (1 : Int32)) o h _ _ _ hP hD hS (lv_sub hl [2, 1, 0] rfl) kx0 kx1
          · replace h := (if_neg c39).symm.trans h
            obtain rfl := Option.some.inj h
            exact kx0 _ rfl _ _ _ hP hD hS (lv_sub hl [] rfl)
def f_X3_bitsOfEnergy (N : Nat) (v_t_stiffness : Int32) (v_t_there : Nat → Int32) (v_t_angles : Nat → UInt64) (v_t_speeds : Nat → UInt64) : Option (Int64) := (f_X3_bitsOfEnergy_4 N v_t_stiffness v_t_there v_t_angles v_t_speeds N FP.dconst0 (0 : Int32)).bind (Sum.elim (fun t4_0 => (f_X3_lost N).bind fun o42 => (f_X3_bitsOf N o42 (52 : Int32) (1023 : Int32)).bind fun o50 => some o50) (fun t4_1 => (f_X3_bitsOf N t4_1.1 (52 : Int32) (1023 : Int32)).bind fun o110 => some o110))
set_option maxHeartbeats 8000000 in
set_option maxRecDepth 100000 in
theorem k_X3_bitsOfEnergy (l : Launch) (D : va_G) (T : Nat → ClassId) (N : Nat) (q_t q_t_there q_t_angles q_t_speeds : Nat) (sz : Nat) (v_t_stiffness : Int32) (v_t_pull : Int32) (v_t_there : Nat → Int32) (v_t_angles : Nat → UInt64) (v_t_speeds : Nat → UInt64) (o : Int64) (h : f_X3_bitsOfEnergy N v_t_stiffness v_t_there v_t_angles v_t_speeds = some o) : Met l yX3_bitsOfEnergy wsX3_bitsOfEnergy ({ frames := 3, cells := 0, slots := 0, locals := 74 } : Room) (zk_Pc D T [.ref q_t] [(q_t, .inr (5, [.ref q_t_there, .ref q_t_angles, .ref q_t_speeds, .int v_t_stiffness, .int v_t_pull])), (q_t_there, .inl (T 1, 4, .inl v_t_there)), (q_t_angles, .inl (T 4, 4, .inr (.inr (.inr (.inl v_t_angles))))), (q_t_speeds, .inl (T 4, 4, .inr (.inr (.inr (.inl v_t_speeds)))))] sz) (zk_Ql o D [(q_t, .inr (5, [.ref q_t_there, .ref q_t_angles, .ref q_t_speeds, .int v_t_stiffness, .int v_t_pull])), (q_t_there, .inl (T 1, 4, .inl v_t_there)), (q_t_angles, .inl (T 4, 4, .inr (.inr (.inr (.inl v_t_angles))))), (q_t_speeds, .inl (T 4, 4, .inr (.inr (.inr (.inl v_t_speeds)))))] (va_A [(q_t, .inr (5, [.ref q_t_there, .ref q_t_angles, .ref q_t_speeds, .int v_t_stiffness, .int v_t_pull])), (q_t_there, .inl (T 1, 4, .inl v_t_there)), (q_t_angles, .inl (T 4, 4, .inr (.inr (.inr (.inl v_t_angles))))), (q_t_speeds, .inl (T 4, 4, .inr (.inr (.inr (.inl v_t_speeds)))))] sz) (va_A [(q_t, .inr (5, [.ref q_t_there, .ref q_t_angles, .ref q_t_speeds, .int v_t_stiffness, .int v_t_pull])), (q_t_there, .inl (T 1, 4, .inl v_t_there)), (q_t_angles, .inl (T 4, 4, .inr (.inr (.inr (.inl v_t_angles))))), (q_t_speeds, .inl (T 4, 4, .inr (.inr (.inr (.inl v_t_speeds)))))] sz)) 0 0 (va_A [(q_t, .inr (5, [.ref q_t_there, .ref q_t_angles, .ref q_t_speeds, .int v_t_stiffness, .int v_t_pull])), (q_t_there, .inl (T 1, 4, .inl v_t_there)), (q_t_angles, .inl (T 4, 4, .inr (.inr (.inr (.inl v_t_angles))))), (q_t_speeds, .inl (T 4, 4, .inr (.inr (.inr (.inl v_t_speeds)))))] sz) := by
  refine Met.ofW (cc := cX3_bitsOfEnergy) (maxL := 4) (ret := (some .long)) (by decide) rfl ?_
  intro p e s m args below meth c s₁ B hml hv
  obtain ⟨rfl, hsz, hP, hK, hN, hD0⟩ := hv
  have hx := B.exec
  have hb := B.bytes
  have hr := B.returns
  have hts := atoms_spec (ws := wsX3_bitsOfEnergy) B.pre
  have hown : s.vm.findClass RX3 = some m.cls := findClass_of_methodNamed B.named
  have hlocks := B.notSynchronized
  subst hsz
  have hD := hD0.self (sz := s.heap.size)
  generalize hAe : va_A [(q_t, .inr (5, [.ref q_t_there, .ref q_t_angles, .ref q_t_speeds, .int v_t_stiffness, .int v_t_pull])), (q_t_there, .inl (T 1, 4, .inl v_t_there)), (q_t_angles, .inl (T 4, 4, .inr (.inr (.inr (.inl v_t_angles))))), (q_t_speeds, .inl (T 4, 4, .inr (.inr (.inr (.inl v_t_speeds)))))] s.heap.size = A at hD ⊢
  have hA : ∀ q : Nat, s.heap.size ≤ q → A q := fun q h => by rw [← hAe]; exact Or.inr h
  have hS : va_S A s.heap s.heap [] := va_S.rf
  have hP : va_P D vwCl [(q_t, .inr (5, [.ref q_t_there, .ref q_t_angles, .ref q_t_speeds, .int v_t_stiffness, .int v_t_pull])), (q_t_there, .inl (T 1, 4, .inl v_t_there)), (q_t_angles, .inl (T 4, 4, .inr (.inr (.inr (.inl v_t_angles))))), (q_t_speeds, .inl (T 4, 4, .inr (.inr (.inr (.inl v_t_speeds)))))] s.heap := hP
  have hl := lv_entry ([.ref q_t]) (n := 4) (Nat.le_of_ble_eq_true rfl)
  rw [lg_entry_eq]
  generalize (lg_sl ([.ref q_t]) ++ List.replicate (4 - (lg_sl ([.ref q_t])).length) Slot.unset).toArray = ls at hl ⊢
  have hl : lv_has ls 4 [(0, .ref q_t)] := hl
  unfold f_X3_bitsOfEnergy at h
  refine lv_dconst0 hx hb dX3_bitsOfEnergy_0 ?_
  refine lv_dstore_n (lv' := [(1, .double FP.dconst0), (0, .ref q_t)]) hx hb dX3_bitsOfEnergy_1 rfl hl (by decide) rfl (fun ls hl => ?_)
  refine lv_iconst (v := (0 : Int32)) hx hb dX3_bitsOfEnergy_2 (by decide) ?_
  refine lv_istore_n (lv' := [(3, .int (0 : Int32)), (1, .double FP.dconst0), (0, .ref q_t)]) hx hb dX3_bitsOfEnergy_3 rfl hl (by decide) rfl (fun ls hl => ?_)
  obtain ⟨o4, hc4, h⟩ := zk_bind h
  refine l_X3_bitsOfEnergy_4 N hx hb hml hown hts hA hK hN q_t q_t_there q_t_angles q_t_speeds v_t_stiffness v_t_pull v_t_there v_t_angles v_t_speeds N FP.dconst0 (0 : Int32) o4 hc4 _ _ _ hP hD hS (lv_sub hl [2, 1, 0] rfl) (fun t4_0 ht4 H locs ls hP hD hS hl => ?_) (fun t4_1 ht4 H locs ls hP hD hS hl => ?_)
  · subst ht4
    replace h : _ = _ := h
    replace h := zk_inl.symm.trans h
    obtain ⟨o42, hc42, h⟩ := zk_bind h
    refine zk_cd (wr := [(q_t, .inr (5, [.ref q_t_there, .ref q_t_angles, .ref q_t_speeds, .int v_t_stiffness, .int v_t_pull])), (q_t_there, .inl (T 1, 4, .inl v_t_there)), (q_t_angles, .inl (T 4, 4, .inr (.inr (.inr (.inl v_t_angles))))), (q_t_speeds, .inl (T 4, 4, .inr (.inr (.inr (.inl v_t_speeds)))))]) (va_runS (As := []) (rest := []) ⟨hx, hb, hml, hown, hts⟩ (k_X3_lost l D T N  _   o42 hc42) (va_cwS 0 hts gX3_bitsOfEnergy_X3_lost rfl rfl rfl (by decide +kernel) ⟨Nat.le_of_ble_eq_true rfl, Nat.le_of_ble_eq_true rfl⟩) (zk_preS hK hN (hP.sub [] rfl) (hD.sub [] (by decide) rfl)) rfl rfl hl.1 rfl (lv_room (Nat.le_of_ble_eq_true rfl)) dX3_bitsOfEnergy_42 ⟨Nat.zero_le _, Nat.zero_le _⟩) hP hD hS hA [] [0, 1, 2, 3] rfl rfl (by decide) (by decide) [0, 1, 2, 3] (wf := [(q_t, .inr (5, [.ref q_t_there, .ref q_t_angles, .ref q_t_speeds, .int v_t_stiffness, .int v_t_pull])), (q_t_there, .inl (T 1, 4, .inl v_t_there)), (q_t_angles, .inl (T 4, 4, .inr (.inr (.inr (.inl v_t_angles))))), (q_t_speeds, .inl (T 4, 4, .inr (.inr (.inr (.inl v_t_speeds)))))]) rfl (by decide) (fun H locs hP hD hS => ?_)
    refine lv_bipush (v := (52 : Int32)) hx hb dX3_bitsOfEnergy_45 (by decide) ?_
    refine lv_sipush (v := (1023 : Int32)) hx hb dX3_bitsOfEnergy_47 (by decide) ?_
    obtain ⟨o50, hc50, h⟩ := zk_bind h
    refine zk_cl (wr := [(q_t, .inr (5, [.ref q_t_there, .ref q_t_angles, .ref q_t_speeds, .int v_t_stiffness, .int v_t_pull])), (q_t_there, .inl (T 1, 4, .inl v_t_there)), (q_t_angles, .inl (T 4, 4, .inr (.inr (.inr (.inl v_t_angles))))), (q_t_speeds, .inl (T 4, 4, .inr (.inr (.inr (.inl v_t_speeds)))))]) (va_runS (As := [.double o42, .int (52 : Int32), .int (1023 : Int32)]) (rest := []) ⟨hx, hb, hml, hown, hts⟩ (k_X3_bitsOf l D T N  _  o42 (52 : Int32) (1023 : Int32) o50 hc50) (va_cwS 3 hts gX3_bitsOfEnergy_X3_bitsOf rfl rfl rfl (by decide +kernel) ⟨Nat.le_of_ble_eq_true rfl, Nat.le_of_ble_eq_true rfl⟩) (zk_preS hK hN (hP.sub [] rfl) (hD.sub [] (by decide) rfl)) rfl rfl hl.1 rfl (lv_room (Nat.le_of_ble_eq_true rfl)) dX3_bitsOfEnergy_50 ⟨Nat.zero_le _, Nat.zero_le _⟩) hP hD hS hA [] [0, 1, 2, 3] rfl rfl (by decide) (by decide) [0, 1, 2, 3] (wf := [(q_t, .inr (5, [.ref q_t_there, .ref q_t_angles, .ref q_t_speeds, .int v_t_stiffness, .int v_t_pull])), (q_t_there, .inl (T 1, 4, .inl v_t_there)), (q_t_angles, .inl (T 4, 4, .inr (.inr (.inr (.inl v_t_angles))))), (q_t_speeds, .inl (T 4, 4, .inr (.inr (.inr (.inl v_t_speeds)))))]) rfl (by decide) (fun H locs hP hD hS => ?_)
    obtain rfl := Option.some.inj h
    exact W.lret (v := o50) hx hb hr (fun t ht hW => ⟨⟨_, (), rfl, rfl, ⟨by rw [ht]; exact hP, hD⟩⟩, hS.F ht⟩) hS.2.2 dX3_bitsOfEnergy_53
  · subst ht4
    replace h : _ = _ := h
    replace h := zk_inr.symm.trans h
    refine lv_dload_n hx hb dX3_bitsOfEnergy_104 rfl (lv_at hl 0 rfl) ?_
    refine lv_bipush (v := (52 : Int32)) hx hb dX3_bitsOfEnergy_105 (by decide) ?_
    refine lv_sipush (v := (1023 : Int32)) hx hb dX3_bitsOfEnergy_107 (by decide) ?_
    obtain ⟨o110, hc110, h⟩ := zk_bind h
    refine zk_cl (wr := [(q_t, .inr (5, [.ref q_t_there, .ref q_t_angles, .ref q_t_speeds, .int v_t_stiffness, .int v_t_pull])), (q_t_there, .inl (T 1, 4, .inl v_t_there)), (q_t_angles, .inl (T 4, 4, .inr (.inr (.inr (.inl v_t_angles))))), (q_t_speeds, .inl (T 4, 4, .inr (.inr (.inr (.inl v_t_speeds)))))]) (va_runS (As := [.double t4_1.1, .int (52 : Int32), .int (1023 : Int32)]) (rest := []) ⟨hx, hb, hml, hown, hts⟩ (k_X3_bitsOf l D T N  _  t4_1.1 (52 : Int32) (1023 : Int32) o110 hc110) (va_cwS 3 hts gX3_bitsOfEnergy_X3_bitsOf rfl rfl rfl (by decide +kernel) ⟨Nat.le_of_ble_eq_true rfl, Nat.le_of_ble_eq_true rfl⟩) (zk_preS hK hN (hP.sub [] rfl) (hD.sub [] (by decide) rfl)) rfl rfl hl.1 rfl (lv_room (Nat.le_of_ble_eq_true rfl)) dX3_bitsOfEnergy_110 ⟨Nat.zero_le _, Nat.zero_le _⟩) hP hD hS hA [] [0, 1, 2, 3] rfl rfl (by decide) (by decide) [0, 1, 2, 3] (wf := [(q_t, .inr (5, [.ref q_t_there, .ref q_t_angles, .ref q_t_speeds, .int v_t_stiffness, .int v_t_pull])), (q_t_there, .inl (T 1, 4, .inl v_t_there)), (q_t_angles, .inl (T 4, 4, .inr (.inr (.inr (.inl v_t_angles))))), (q_t_speeds, .inl (T 4, 4, .inr (.inr (.inr (.inl v_t_speeds)))))]) rfl (by decide) (fun H locs hP hD hS => ?_)
    obtain rfl := Option.some.inj h
    exact W.lret (v := o110) hx hb hr (fun t ht hW => ⟨⟨_, (), rfl, rfl, ⟨by rw [ht]; exact hP, hD⟩⟩, hS.F ht⟩) hS.2.2 dX3_bitsOfEnergy_113

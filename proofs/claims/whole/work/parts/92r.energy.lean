theorem iX8_energyBits_X8 : ∀ w ∈ wsX80, w ∈ wsX8_energyBits := by decide +kernel
/-- the energy's sum in the reference: any NaN stands where one comes out -/
def rs_al64 (r x : UInt64) : Prop := alike64 r x = true
def rs_en (sw : Nat → Int32) (a sp : Nat → UInt32) (st : Int32) : Nat → Nat → UInt64 → UInt64 → Prop
  | 0, _, s, s2 => s2 = s
  | j + 1, i, s, s2 => ∃ s1 : UInt64, (sw i = 0 → s1 = s) ∧ (¬ sw i = 0 → ∃ v b p1 p2 k1 q1 q2 t : UInt64, rs_al64 v (FP.f2d (sp i)) ∧ rs_al64 b (FP.f2d (a i)) ∧ rs_al64 p1 (FP.dmul v v) ∧ rs_al64 p2 (FP.dmul (4602678819172646912 : UInt64) p1) ∧ rs_al64 k1 (FP.dmul (4602678819172646912 : UInt64) (FP.i2d st)) ∧ rs_al64 q1 (FP.dmul b b) ∧ rs_al64 q2 (FP.dmul k1 q1) ∧ rs_al64 t (FP.dadd p2 q2) ∧ rs_al64 s1 (FP.dadd s t)) ∧ rs_en sw a sp st j (i + 1) s1 s2
set_option maxHeartbeats 8000000 in
set_option maxRecDepth 100000 in
theorem k_X8_energyBits (l : Launch) (D : va_G) (T : Nat → ClassId) (N : Nat) (Z : zs_T) (q_t q_t_swings q_t_angles q_t_speeds q_t_answers q_t_links q_t_now q_t_flashed q_t_last q_t_start q_t_slow q_t_fast q_t_beats q_t_areApart q_t_marks : Nat) (sz : Nat) (v_t_thrown : Int32) (v_t_noise : Int32) (v_t_z : Int64) (v_t_lead : Int32) (v_t_cycle : Int32) (v_t_stiffness : Int32) (v_t_pull : Int32) (v_t_swings : Nat → Int32) (v_t_angles : Nat → UInt32) (v_t_speeds : Nat → UInt32) : MetD lw_cs l yX8_energyBits wsX8_energyBits ({ frames := 4, cells := 0, slots := 0, locals := 120 } : Room) (zs_Pc Z RX7 [] D T [.ref q_t] [(q_t, .inr (13, [.int v_t_thrown, .ref q_t_answers, .ref q_t_links, .ref q_t_now, .ref q_t_flashed, .ref q_t_last, .int v_t_noise, .long v_t_z, .ref q_t_start, .ref q_t_slow, .ref q_t_fast, .int v_t_lead, .int v_t_cycle, .ref q_t_beats, .ref q_t_areApart, .ref q_t_marks, .ref q_t_swings, .ref q_t_angles, .ref q_t_speeds, .int v_t_stiffness, .int v_t_pull])), (q_t_swings, .inl (T 1, 4, .inl v_t_swings)), (q_t_angles, .inl (T 3, 4, .inr (.inr (.inl v_t_angles)))), (q_t_speeds, .inl (T 3, 4, .inr (.inr (.inl v_t_speeds))))] sz) (va_Ql (fun (r : Int64) (u : UInt64) => rs_en v_t_swings v_t_angles v_t_speeds v_t_stiffness 4 0 FP.dconst0 u ∧ f_Jxe99ae_doubleToLongBits_ccdee N u = some r) (fun _ t => va_P D vwCl [(q_t, .inr (13, [.int 0, .ref q_t_answers, .ref q_t_links, .ref q_t_now, .ref q_t_flashed, .ref q_t_last, .int v_t_noise, .long v_t_z, .ref q_t_start, .ref q_t_slow, .ref q_t_fast, .int v_t_lead, .int v_t_cycle, .ref q_t_beats, .ref q_t_areApart, .ref q_t_marks, .ref q_t_swings, .ref q_t_angles, .ref q_t_speeds, .int v_t_stiffness, .int v_t_pull])), (q_t_swings, .inl (T 1, 4, .inl v_t_swings)), (q_t_angles, .inl (T 3, 4, .inr (.inr (.inl v_t_angles)))), (q_t_speeds, .inl (T 3, 4, .inr (.inr (.inl v_t_speeds))))] t.heap ∧ va_D (va_A [(q_t, .inr (13, [.int v_t_thrown, .ref q_t_answers, .ref q_t_links, .ref q_t_now, .ref q_t_flashed, .ref q_t_last, .int v_t_noise, .long v_t_z, .ref q_t_start, .ref q_t_slow, .ref q_t_fast, .int v_t_lead, .int v_t_cycle, .ref q_t_beats, .ref q_t_areApart, .ref q_t_marks, .ref q_t_swings, .ref q_t_angles, .ref q_t_speeds, .int v_t_stiffness, .int v_t_pull])), (q_t_swings, .inl (T 1, 4, .inl v_t_swings)), (q_t_angles, .inl (T 3, 4, .inr (.inr (.inl v_t_angles)))), (q_t_speeds, .inl (T 3, 4, .inr (.inr (.inl v_t_speeds))))] sz) [(q_t, .inr (13, [.int 0, .ref q_t_answers, .ref q_t_links, .ref q_t_now, .ref q_t_flashed, .ref q_t_last, .int v_t_noise, .long v_t_z, .ref q_t_start, .ref q_t_slow, .ref q_t_fast, .int v_t_lead, .int v_t_cycle, .ref q_t_beats, .ref q_t_areApart, .ref q_t_marks, .ref q_t_swings, .ref q_t_angles, .ref q_t_speeds, .int v_t_stiffness, .int v_t_pull])), (q_t_swings, .inl (T 1, 4, .inl v_t_swings)), (q_t_angles, .inl (T 3, 4, .inr (.inr (.inl v_t_angles)))), (q_t_speeds, .inl (T 3, 4, .inr (.inr (.inl v_t_speeds))))]) (va_A [(q_t, .inr (13, [.int v_t_thrown, .ref q_t_answers, .ref q_t_links, .ref q_t_now, .ref q_t_flashed, .ref q_t_last, .int v_t_noise, .long v_t_z, .ref q_t_start, .ref q_t_slow, .ref q_t_fast, .int v_t_lead, .int v_t_cycle, .ref q_t_beats, .ref q_t_areApart, .ref q_t_marks, .ref q_t_swings, .ref q_t_angles, .ref q_t_speeds, .int v_t_stiffness, .int v_t_pull])), (q_t_swings, .inl (T 1, 4, .inl v_t_swings)), (q_t_angles, .inl (T 3, 4, .inr (.inr (.inl v_t_angles)))), (q_t_speeds, .inl (T 3, 4, .inr (.inr (.inl v_t_speeds))))] sz)) 0 0 (va_A [(q_t, .inr (13, [.int v_t_thrown, .ref q_t_answers, .ref q_t_links, .ref q_t_now, .ref q_t_flashed, .ref q_t_last, .int v_t_noise, .long v_t_z, .ref q_t_start, .ref q_t_slow, .ref q_t_fast, .int v_t_lead, .int v_t_cycle, .ref q_t_beats, .ref q_t_areApart, .ref q_t_marks, .ref q_t_swings, .ref q_t_angles, .ref q_t_speeds, .int v_t_stiffness, .int v_t_pull])), (q_t_swings, .inl (T 1, 4, .inl v_t_swings)), (q_t_angles, .inl (T 3, 4, .inr (.inr (.inl v_t_angles)))), (q_t_speeds, .inl (T 3, 4, .inr (.inr (.inl v_t_speeds))))] sz) := by
  refine MetD.ofW (cc := cX8_energyBits) (maxL := 10) (ret := (some .long)) (by decide) rfl ?_
  intro p e s m args below meth c s₁ B hml hv hd0
  obtain ⟨rfl, hsz, hP, hK, hN, hD0, hZ, hL0⟩ := hv
  have hx := B.exec
  have hb := B.bytes
  have hr := B.returns
  have hts := atoms_spec (ws := wsX8_energyBits) B.pre
  have hown : s.vm.findClass RX8 = some m.cls := findClass_of_methodNamed B.named
  have hlocks := B.notSynchronized
  subst hsz
  have hD := hD0.self (sz := s.heap.size)
  generalize hAe : va_A [(q_t, .inr (13, [.int v_t_thrown, .ref q_t_answers, .ref q_t_links, .ref q_t_now, .ref q_t_flashed, .ref q_t_last, .int v_t_noise, .long v_t_z, .ref q_t_start, .ref q_t_slow, .ref q_t_fast, .int v_t_lead, .int v_t_cycle, .ref q_t_beats, .ref q_t_areApart, .ref q_t_marks, .ref q_t_swings, .ref q_t_angles, .ref q_t_speeds, .int v_t_stiffness, .int v_t_pull])), (q_t_swings, .inl (T 1, 4, .inl v_t_swings)), (q_t_angles, .inl (T 3, 4, .inr (.inr (.inl v_t_angles)))), (q_t_speeds, .inl (T 3, 4, .inr (.inr (.inl v_t_speeds))))] s.heap.size = A at hD hZ hL0 ⊢
  have hA : ∀ q : Nat, s.heap.size ≤ q → A q := fun q h => by rw [← hAe]; exact Or.inr h
  have hS : va_S A s.heap s.heap [] := va_S.rf
  have hP : va_P D vwCl [(q_t, .inr (13, [.int v_t_thrown, .ref q_t_answers, .ref q_t_links, .ref q_t_now, .ref q_t_flashed, .ref q_t_last, .int v_t_noise, .long v_t_z, .ref q_t_start, .ref q_t_slow, .ref q_t_fast, .int v_t_lead, .int v_t_cycle, .ref q_t_beats, .ref q_t_areApart, .ref q_t_marks, .ref q_t_swings, .ref q_t_angles, .ref q_t_speeds, .int v_t_stiffness, .int v_t_pull])), (q_t_swings, .inl (T 1, 4, .inl v_t_swings)), (q_t_angles, .inl (T 3, 4, .inr (.inr (.inl v_t_angles)))), (q_t_speeds, .inl (T 3, 4, .inr (.inr (.inl v_t_speeds))))] s.heap := hP
  have hl := lv_entry ([.ref q_t]) (n := 10) (Nat.le_of_ble_eq_true rfl)
  rw [lg_entry_eq]
  generalize (lg_sl ([.ref q_t]) ++ List.replicate (10 - (lg_sl ([.ref q_t])).length) Slot.unset).toArray = ls at hl ⊢
  have hl : lv_has ls 10 [(0, .ref q_t)] := hl
  have hts0 := hts
  have hK0 := hK
  have hts := dr_words hts0 s.drawn
  have hK : va_K D vwCl (zr_ty T) (s.setDrawn s.drawn) := hK0
  refine lv_aload_n hx hb dX8_energyBits_0 rfl (lv_at hl 0 rfl) ?_
  refine lv_iconst (v := (0 : Int32)) hx hb dX8_energyBits_1 (by decide) ?_
  refine va_put (D := D) (ci := 13) (v := .int 0) (ty := .int) (C := RX8) (T := TX8) (N := 21) hx hb hts iX8_energyBits_X8 tyX8 tyX8_ok nmX8 hown hK hP hD hS 0 rfl rfl 0 (by decide) (hts (.fieldLink RX8 76 "PulseMeadowModel" "thrown" "I") (by decide +kernel)) (fun _ h9 => h9) rfl (by decide +kernel) rfl rfl (Nat.le_of_ble_eq_true rfl) dX8_energyBits_2 (fun H locs hP hD hS => ?_)
  have hP : va_P D vwCl [(q_t, .inr (13, [.int 0, .ref q_t_answers, .ref q_t_links, .ref q_t_now, .ref q_t_flashed, .ref q_t_last, .int v_t_noise, .long v_t_z, .ref q_t_start, .ref q_t_slow, .ref q_t_fast, .int v_t_lead, .int v_t_cycle, .ref q_t_beats, .ref q_t_areApart, .ref q_t_marks, .ref q_t_swings, .ref q_t_angles, .ref q_t_speeds, .int v_t_stiffness, .int v_t_pull])), (q_t_swings, .inl (T 1, 4, .inl v_t_swings)), (q_t_angles, .inl (T 3, 4, .inr (.inr (.inl v_t_angles)))), (q_t_speeds, .inl (T 3, 4, .inr (.inr (.inl v_t_speeds))))] H := hP
  have hD : va_D A [(q_t, .inr (13, [.int 0, .ref q_t_answers, .ref q_t_links, .ref q_t_now, .ref q_t_flashed, .ref q_t_last, .int v_t_noise, .long v_t_z, .ref q_t_start, .ref q_t_slow, .ref q_t_fast, .int v_t_lead, .int v_t_cycle, .ref q_t_beats, .ref q_t_areApart, .ref q_t_marks, .ref q_t_swings, .ref q_t_angles, .ref q_t_speeds, .int v_t_stiffness, .int v_t_pull])), (q_t_swings, .inl (T 1, 4, .inl v_t_swings)), (q_t_angles, .inl (T 3, 4, .inr (.inr (.inl v_t_angles)))), (q_t_speeds, .inl (T 3, 4, .inr (.inr (.inl v_t_speeds))))] := hD
  refine lv_dconst0 hx hb dX8_energyBits_5 ?_
  refine lv_dstore_n (lv' := [(1, .double FP.dconst0), (0, .ref q_t)]) hx hb dX8_energyBits_6 rfl hl (by decide) rfl (fun ls hl => ?_)
  refine lv_iconst (v := (0 : Int32)) hx hb dX8_energyBits_7 (by decide) ?_
  refine lv_istore_n (lv' := [(3, .int (nI 0)), (1, .double FP.dconst0), (0, .ref q_t)]) hx hb dX8_energyBits_8 rfl hl (by decide) rfl (fun ls hl => ?_)
  suffices K : ∀ (j i1 : Nat) (s1 : UInt64), i1 + j = 4 → (∀ s2, rs_en v_t_swings v_t_angles v_t_speeds v_t_stiffness j i1 s1 s2 → rs_en v_t_swings v_t_angles v_t_speeds v_t_stiffness 4 0 FP.dconst0 s2) → ∀ (d : Drawn) (ls : Array Slot), s.drawn.sameBut d lw_cs → lv_has ls 10 [(3, .int (nI i1)), (1, .double s1), (0, .ref q_t)] → W p l e ({ frames := 4, cells := 0, slots := 0, locals := 120 } : Room) (s.setDrawn d) m (([.ref q_t] : List Value).toArray) below meth c H locs 0 0 (MQD lw_cs below (va_Ql (fun (r : Int64) (u : UInt64) => rs_en v_t_swings v_t_angles v_t_speeds v_t_stiffness 4 0 FP.dconst0 u ∧ f_Jxe99ae_doubleToLongBits_ccdee N u = some r) (fun _ t => va_P D vwCl [(q_t, .inr (13, [.int 0, .ref q_t_answers, .ref q_t_links, .ref q_t_now, .ref q_t_flashed, .ref q_t_last, .int v_t_noise, .long v_t_z, .ref q_t_start, .ref q_t_slow, .ref q_t_fast, .int v_t_lead, .int v_t_cycle, .ref q_t_beats, .ref q_t_areApart, .ref q_t_marks, .ref q_t_swings, .ref q_t_angles, .ref q_t_speeds, .int v_t_stiffness, .int v_t_pull])), (q_t_swings, .inl (T 1, 4, .inl v_t_swings)), (q_t_angles, .inl (T 3, 4, .inr (.inr (.inl v_t_angles)))), (q_t_speeds, .inl (T 3, 4, .inr (.inr (.inl v_t_speeds))))] t.heap ∧ va_D A [(q_t, .inr (13, [.int 0, .ref q_t_answers, .ref q_t_links, .ref q_t_now, .ref q_t_flashed, .ref q_t_last, .int v_t_noise, .long v_t_z, .ref q_t_start, .ref q_t_slow, .ref q_t_fast, .int v_t_lead, .int v_t_cycle, .ref q_t_beats, .ref q_t_areApart, .ref q_t_marks, .ref q_t_swings, .ref q_t_angles, .ref q_t_speeds, .int v_t_stiffness, .int v_t_pull])), (q_t_swings, .inl (T 1, 4, .inl v_t_swings)), (q_t_angles, .inl (T 3, 4, .inr (.inr (.inl v_t_angles)))), (q_t_speeds, .inl (T 3, 4, .inr (.inr (.inl v_t_speeds))))]) A) (([.ref q_t] : List Value).toArray) s 0 0 A) (F0 m 9 ls []) from K 4 0 _ rfl (fun _ h9 => h9) s.drawn ls hd0 hl
  intro j
  induction j with
  | zero =>
    intro i1 s1 hj hs1 d ls hd hl
    obtain rfl : i1 = 4 := by omega
    have hts := dr_words hts0 d
    have hK : va_K D vwCl (zr_ty T) (s.setDrawn d) := hK0
    refine lv_iload_n hx hb dX8_energyBits_9 rfl (lv_at hl 0 rfl) ?_
    refine lv_iconst (v := (4 : Int32)) hx hb dX8_energyBits_10 (by decide) ?_
    refine lv_icmp_ge (tgt := 79) hx hb dX8_energyBits_11 (by decide) (fun _ => ?_) (fun c9 => absurd (show nI 4 ≤ nI 4 from nI_le (Nat.le_refl _) (by omega)) c9)
    refine lv_dload_n hx hb dX8_energyBits_79 rfl (lv_at hl 1 rfl) ?_
    obtain ⟨o, ho⟩ : ∃ o, f_Jxe99ae_doubleToLongBits_ccdee N s1 = some o := by
      unfold f_Jxe99ae_doubleToLongBits_ccdee f_Jxe99ae_isNaN_b9ae7
      split
      · exact ⟨_, by simp; rfl⟩
      · exact ⟨_, by simp; rfl⟩
    refine zk_cl (s := s.setDrawn d) (wr := [(q_t, .inr (13, [.int 0, .ref q_t_answers, .ref q_t_links, .ref q_t_now, .ref q_t_flashed, .ref q_t_last, .int v_t_noise, .long v_t_z, .ref q_t_start, .ref q_t_slow, .ref q_t_fast, .int v_t_lead, .int v_t_cycle, .ref q_t_beats, .ref q_t_areApart, .ref q_t_marks, .ref q_t_swings, .ref q_t_angles, .ref q_t_speeds, .int v_t_stiffness, .int v_t_pull])), (q_t_swings, .inl (T 1, 4, .inl v_t_swings)), (q_t_angles, .inl (T 3, 4, .inr (.inr (.inl v_t_angles)))), (q_t_speeds, .inl (T 3, 4, .inr (.inr (.inl v_t_speeds))))]) (va_runS (As := [.double s1]) (rest := []) ⟨hx, hb, hml, hown, hts⟩ (k_Jxe99ae_doubleToLongBits_ccdee l D T N _ s1 o ho) (va_cwS 1 hts gX8_energyBits_Jxe99ae_doubleToLongBits_ccdee rfl rfl rfl (by decide +kernel) ⟨Nat.le_of_ble_eq_true rfl, Nat.le_of_ble_eq_true rfl⟩) (zr_preS hK hN (hP.sub [] rfl) (hD.sub [] (by decide) rfl)) rfl rfl hl.1 rfl (lv_room (Nat.le_of_ble_eq_true rfl)) dX8_energyBits_80 ⟨Nat.zero_le _, Nat.zero_le _⟩) hP hD hS hA [] [0, 1, 2, 3] rfl rfl (by decide) (by decide) [0, 1, 2, 3] (wf := [(q_t, .inr (13, [.int 0, .ref q_t_answers, .ref q_t_links, .ref q_t_now, .ref q_t_flashed, .ref q_t_last, .int v_t_noise, .long v_t_z, .ref q_t_start, .ref q_t_slow, .ref q_t_fast, .int v_t_lead, .int v_t_cycle, .ref q_t_beats, .ref q_t_areApart, .ref q_t_marks, .ref q_t_swings, .ref q_t_angles, .ref q_t_speeds, .int v_t_stiffness, .int v_t_pull])), (q_t_swings, .inl (T 1, 4, .inl v_t_swings)), (q_t_angles, .inl (T 3, 4, .inr (.inr (.inl v_t_angles)))), (q_t_speeds, .inl (T 3, 4, .inr (.inr (.inl v_t_speeds))))]) rfl (by decide) (fun H locs hP hD hS => ?_)
    refine W.endD hd ?_
    exact W.lret (v := o) hx hb hr (fun t ht hW => ⟨⟨_, s1, rfl, ⟨hs1 s1 rfl, ho⟩, by rw [ht]; exact hP, hD⟩, hS.F ht⟩) hS.2.2 dX8_energyBits_83
  | succ j ih =>
    intro i1 s1 hj hs1 d ls hd hl
    have hts := dr_words hts0 d
    have hK : va_K D vwCl (zr_ty T) (s.setDrawn d) := hK0
    have hi1 : i1 < 4 := by omega
    have ei1 : (nI i1).toNatClampNeg = i1 := nI_clamp (by omega)
    refine lv_iload_n hx hb dX8_energyBits_9 rfl (lv_at hl 0 rfl) ?_
    refine lv_iconst (v := (4 : Int32)) hx hb dX8_energyBits_10 (by decide) ?_
    refine lv_icmp_ge (tgt := 79) hx hb dX8_energyBits_11 (by decide) (fun c9 => absurd c9 (show ¬ nI 4 ≤ nI i1 from nI_ge (by omega) (by omega))) (fun _ => ?_)
    refine lv_aload_n hx hb dX8_energyBits_14 rfl (lv_at hl 2 rfl) ?_
    refine va_get (D := D) (ci := 13) (v := .ref q_t_swings) (C := RX8) (T := TX8) (N := 21) hx hb hts iX8_energyBits_X8 hown hK hP 0 rfl rfl 16 (by decide) (hts (.fieldLink RX8 61 "PulseMeadowModel" "swings" "[Z") (by decide +kernel)) (fun _ h9 => h9) rfl dX8_energyBits_15 ?_
    refine lv_iload_n hx hb dX8_energyBits_18 rfl (lv_at hl 0 rfl) ?_
    refine va_zald hx hb hK hP 1 1 rfl rfl (nI_in hi1 (by omega)) dX8_energyBits_19 ?_
    rw [ei1]
    have KS : ∀ (x : UInt64), (v_t_swings i1 = 0 → x = s1) → (¬ v_t_swings i1 = 0 → ∃ v b p1 p2 k1 q1 q2 t : UInt64, rs_al64 v (FP.f2d (v_t_speeds i1)) ∧ rs_al64 b (FP.f2d (v_t_angles i1)) ∧ rs_al64 p1 (FP.dmul v v) ∧ rs_al64 p2 (FP.dmul (4602678819172646912 : UInt64) p1) ∧ rs_al64 k1 (FP.dmul (4602678819172646912 : UInt64) (FP.i2d v_t_stiffness)) ∧ rs_al64 q1 (FP.dmul b b) ∧ rs_al64 q2 (FP.dmul k1 q1) ∧ rs_al64 t (FP.dadd p2 q2) ∧ rs_al64 x (FP.dadd s1 t)) → ∀ (d : Drawn) (ls : Array Slot), s.drawn.sameBut d lw_cs → lv_has ls 10 [(3, .int (nI i1)), (1, .double x), (0, .ref q_t)] → W p l e ({ frames := 4, cells := 0, slots := 0, locals := 120 } : Room) (s.setDrawn d) m (([.ref q_t] : List Value).toArray) below meth c H locs 0 0 (MQD lw_cs below (va_Ql (fun (r : Int64) (u : UInt64) => rs_en v_t_swings v_t_angles v_t_speeds v_t_stiffness 4 0 FP.dconst0 u ∧ f_Jxe99ae_doubleToLongBits_ccdee N u = some r) (fun _ t => va_P D vwCl [(q_t, .inr (13, [.int 0, .ref q_t_answers, .ref q_t_links, .ref q_t_now, .ref q_t_flashed, .ref q_t_last, .int v_t_noise, .long v_t_z, .ref q_t_start, .ref q_t_slow, .ref q_t_fast, .int v_t_lead, .int v_t_cycle, .ref q_t_beats, .ref q_t_areApart, .ref q_t_marks, .ref q_t_swings, .ref q_t_angles, .ref q_t_speeds, .int v_t_stiffness, .int v_t_pull])), (q_t_swings, .inl (T 1, 4, .inl v_t_swings)), (q_t_angles, .inl (T 3, 4, .inr (.inr (.inl v_t_angles)))), (q_t_speeds, .inl (T 3, 4, .inr (.inr (.inl v_t_speeds))))] t.heap ∧ va_D A [(q_t, .inr (13, [.int 0, .ref q_t_answers, .ref q_t_links, .ref q_t_now, .ref q_t_flashed, .ref q_t_last, .int v_t_noise, .long v_t_z, .ref q_t_start, .ref q_t_slow, .ref q_t_fast, .int v_t_lead, .int v_t_cycle, .ref q_t_beats, .ref q_t_areApart, .ref q_t_marks, .ref q_t_swings, .ref q_t_angles, .ref q_t_speeds, .int v_t_stiffness, .int v_t_pull])), (q_t_swings, .inl (T 1, 4, .inl v_t_swings)), (q_t_angles, .inl (T 3, 4, .inr (.inr (.inl v_t_angles)))), (q_t_speeds, .inl (T 3, 4, .inr (.inr (.inl v_t_speeds))))]) A) (([.ref q_t] : List Value).toArray) s 0 0 A) (F0 m 73 ls []) := by
      intro x hx0 hx9 d ls hd hl
      have hts := dr_words hts0 d
      have hK : va_K D vwCl (zr_ty T) (s.setDrawn d) := hK0
      refine lv_iinc (v := nI i1 + (1 : Int32)) (lv' := [(3, .int (nI i1 + (1 : Int32))), (1, .double x), (0, .ref q_t)]) hx hb dX8_energyBits_73 hl (k := 0) rfl rfl (by decide) rfl (fun ls hl => ?_)
      rw [nI_1] at hl
      refine lv_goto (tgt := 9) hx hb dX8_energyBits_76 (by decide) ?_
      exact ih (i1 + 1) x (by omega) (fun s2 hr9 => hs1 s2 ⟨x, hx0, hx9, hr9⟩) d ls hd hl
    refine lv_if_eq (tgt := 73) hx hb dX8_energyBits_20 (by decide) (fun c9 => ?_) (fun c9 => ?_)
    · exact KS s1 (fun _ => rfl) (fun q9 => absurd c9 q9) d ls hd hl
    · refine lv_aload_n hx hb dX8_energyBits_23 rfl (lv_at hl 2 rfl) ?_
      refine va_get (D := D) (ci := 13) (v := .ref q_t_speeds) (C := RX8) (T := TX8) (N := 21) hx hb hts iX8_energyBits_X8 hown hK hP 0 rfl rfl 18 (by decide) (hts (.fieldLink RX8 69 "PulseMeadowModel" "speeds" "[F") (by decide +kernel)) (fun _ h9 => h9) rfl dX8_energyBits_24 ?_
      refine lv_iload_n hx hb dX8_energyBits_27 rfl (lv_at hl 0 rfl) ?_
      refine va_fald hx hb hK hP 3 3 rfl rfl (nI_in hi1 (by omega)) dX8_energyBits_28 ?_
      rw [ei1]
      refine lv_f2d_any hd lw_bits hx hb dX8_energyBits_29 (fun v d1 hv hd1 => ?_)
      have hts := dr_words hts0 d1
      have hK : va_K D vwCl (zr_ty T) (s.setDrawn d1) := hK0
      refine lv_dstore (lv' := [(4, .double v), (3, .int (nI i1)), (1, .double s1), (0, .ref q_t)]) hx hb dX8_energyBits_30 hl (by decide) rfl (fun ls hl => ?_)
      refine lv_aload_n hx hb dX8_energyBits_32 rfl (lv_at hl 3 rfl) ?_
      refine va_get (D := D) (ci := 13) (v := .ref q_t_angles) (C := RX8) (T := TX8) (N := 21) hx hb hts iX8_energyBits_X8 hown hK hP 0 rfl rfl 17 (by decide) (hts (.fieldLink RX8 65 "PulseMeadowModel" "angles" "[F") (by decide +kernel)) (fun _ h9 => h9) rfl dX8_energyBits_33 ?_
      refine lv_iload_n hx hb dX8_energyBits_36 rfl (lv_at hl 1 rfl) ?_
      refine va_fald hx hb hK hP 2 3 rfl rfl (nI_in hi1 (by omega)) dX8_energyBits_37 ?_
      rw [ei1]
      refine lv_f2d_any hd1 lw_bits hx hb dX8_energyBits_38 (fun b d2 hb9 hd2 => ?_)
      have hts := dr_words hts0 d2
      have hK : va_K D vwCl (zr_ty T) (s.setDrawn d2) := hK0
      refine lv_dstore (lv' := [(6, .double b), (4, .double v), (3, .int (nI i1)), (1, .double s1), (0, .ref q_t)]) hx hb dX8_energyBits_39 hl (by decide) rfl (fun ls hl => ?_)
      refine lv_ldc2d (v := (4602678819172646912 : UInt64)) hx hb hown (hts (.constantDouble RX8 292 (4602678819172646912 : UInt64)) (by decide +kernel)) dX8_energyBits_41 ?_
      refine lv_dload hx hb dX8_energyBits_44 (lv_at hl 1 rfl) ?_
      refine lv_dload hx hb dX8_energyBits_46 (lv_at hl 1 rfl) ?_
      refine lv_dmul_any hd2 lw_bits hx hb dX8_energyBits_48 (fun p1 d3 hp1 hd3 => ?_)
      refine lv_dmul_any hd3 lw_bits hx hb dX8_energyBits_49 (fun p2 d4 hp2 hd4 => ?_)
      have hts := dr_words hts0 d4
      have hK : va_K D vwCl (zr_ty T) (s.setDrawn d4) := hK0
      refine lv_ldc2d (v := (4602678819172646912 : UInt64)) hx hb hown (hts (.constantDouble RX8 292 (4602678819172646912 : UInt64)) (by decide +kernel)) dX8_energyBits_50 ?_
      refine lv_aload_n hx hb dX8_energyBits_53 rfl (lv_at hl 4 rfl) ?_
      refine va_get (D := D) (ci := 13) (v := .int v_t_stiffness) (C := RX8) (T := TX8) (N := 21) hx hb hts iX8_energyBits_X8 hown hK hP 0 rfl rfl 19 (by decide) (hts (.fieldLink RX8 72 "PulseMeadowModel" "stiffness" "I") (by decide +kernel)) (fun _ h9 => h9) rfl dX8_energyBits_54 ?_
      refine lv_i2d hx hb dX8_energyBits_57 ?_
      refine lv_dmul_any hd4 lw_bits hx hb dX8_energyBits_58 (fun k1 d5 hk1 hd5 => ?_)
      refine lv_dload hx hb dX8_energyBits_59 (lv_at hl 0 rfl) ?_
      refine lv_dload hx hb dX8_energyBits_61 (lv_at hl 0 rfl) ?_
      refine lv_dmul_any hd5 lw_bits hx hb dX8_energyBits_63 (fun q1 d6 hq1 hd6 => ?_)
      refine lv_dmul_any hd6 lw_bits hx hb dX8_energyBits_64 (fun q2 d7 hq2 hd7 => ?_)
      refine lv_dadd_any hd7 lw_bits hx hb dX8_energyBits_65 (fun t d8 ht9 hd8 => ?_)
      refine lv_dstore (lv' := [(8, .double t), (6, .double b), (4, .double v), (3, .int (nI i1)), (1, .double s1), (0, .ref q_t)]) hx hb dX8_energyBits_66 hl (by decide) rfl (fun ls hl => ?_)
      refine lv_dload_n hx hb dX8_energyBits_68 rfl (lv_at hl 4 rfl) ?_
      refine lv_dload hx hb dX8_energyBits_69 (lv_at hl 0 rfl) ?_
      refine lv_dadd_any hd8 lw_bits hx hb dX8_energyBits_71 (fun x d9 hx9 hd9 => ?_)
      refine lv_dstore_n (lv' := [(1, .double x), (8, .double t), (6, .double b), (4, .double v), (3, .int (nI i1)), (0, .ref q_t)]) hx hb dX8_energyBits_72 rfl hl (by decide) rfl (fun ls hl => ?_)
      exact KS x (fun q9 => absurd q9 c9) (fun _ => ⟨v, b, p1, p2, k1, q1, q2, t, hv, hb9, hp1, hp2, hk1, hq1, hq2, ht9, hx9⟩) d9 ls hd9 (lv_sub hl [4, 0, 5] rfl)

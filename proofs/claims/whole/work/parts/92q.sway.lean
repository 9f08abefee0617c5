theorem iX8_sway_X8 : ∀ w ∈ wsX80, w ∈ wsX8_sway := by decide +kernel
def f_X8_sway_0 (N : Nat) (v_t_swings : Nat → Int32) (x1 : Int32) : Nat → Int32 → Option (Int32 × Int32 × Int32)
  | 0, _ => none
  | n + 1, v_t_thrown => (f_X8_in N x1.toInt64 (1 : Int64) (500 : Int64)).bind fun o7 => if o7 = 0 then (some ((1 : Int32), (0 : Int32), (0 : Int32))) else ((f_X8_manySwings N v_t_swings).bind fun o33 => some ((0 : Int32), o33, (0 : Int32)))
set_option maxHeartbeats 8000000 in
set_option maxRecDepth 100000 in
theorem l_X8_sway_0 {p : Program} {l : Launch} {e : Env} {s : State} {m : MethodId} {args : Array Value} {below : List Frame} {meth : Method} {c : Code} {Q : State → Prop} {A : Nat → Prop} {D : va_G} {T : Nat → ClassId} (N : Nat) (hx : p.tables.exec = Jvm.exec) (hb : c.code = cX8_sway) (hml : c.maxLocals = 8) (hown : s.vm.findClass RX8 = some m.cls) (hts : ∀ w ∈ wsX8_sway, w.before args s = true) (hA : ∀ q : Nat, s.heap.size ≤ q → A q) (hK : va_K D vwCl (zr_ty T) s) (hN : zr_N s) (kc ks : Nat) (hkc : kc ≤ 0) (hks : ks ≤ 0) (Z : zs_T) (hZ : zs_K Z A s s.heap) (q_t q_t_swings q_t_angles q_t_speeds q_t_answers q_t_links q_t_now q_t_flashed q_t_last q_t_start q_t_slow q_t_fast q_t_beats q_t_areApart q_t_marks : Nat) (v_t_noise : Int32) (v_t_z : Int64) (v_t_lead : Int32) (v_t_cycle : Int32) (v_t_stiffness : Int32) (v_t_pull : Int32) (v_t_swings : Nat → Int32) (v_t_angles : Nat → UInt32) (v_t_speeds : Nat → UInt32) (x1 : Int32) :
    ∀ (n : Nat) (v_t_thrown : Int32) (o : Int32 × Int32 × Int32), f_X8_sway_0 N v_t_swings x1 n v_t_thrown = some o → ∀ (H : Heap) (locs : List Loc) (ls : Array Slot), va_P D vwCl [(q_t, .inr (13, [.int v_t_thrown, .ref q_t_answers, .ref q_t_links, .ref q_t_now, .ref q_t_flashed, .ref q_t_last, .int v_t_noise, .long v_t_z, .ref q_t_start, .ref q_t_slow, .ref q_t_fast, .int v_t_lead, .int v_t_cycle, .ref q_t_beats, .ref q_t_areApart, .ref q_t_marks, .ref q_t_swings, .ref q_t_angles, .ref q_t_speeds, .int v_t_stiffness, .int v_t_pull])), (q_t_swings, .inl (T 1, 4, .inl v_t_swings)), (q_t_angles, .inl (T 3, 4, .inr (.inr (.inl v_t_angles)))), (q_t_speeds, .inl (T 3, 4, .inr (.inr (.inl v_t_speeds))))] H → va_D A [(q_t, .inr (13, [.int v_t_thrown, .ref q_t_answers, .ref q_t_links, .ref q_t_now, .ref q_t_flashed, .ref q_t_last, .int v_t_noise, .long v_t_z, .ref q_t_start, .ref q_t_slow, .ref q_t_fast, .int v_t_lead, .int v_t_cycle, .ref q_t_beats, .ref q_t_areApart, .ref q_t_marks, .ref q_t_swings, .ref q_t_angles, .ref q_t_speeds, .int v_t_stiffness, .int v_t_pull])), (q_t_swings, .inl (T 1, 4, .inl v_t_swings)), (q_t_angles, .inl (T 3, 4, .inr (.inr (.inl v_t_angles)))), (q_t_speeds, .inl (T 3, 4, .inr (.inr (.inl v_t_speeds))))] → va_S A s.heap H locs → lv_has ls 8 [(0, .ref q_t), (1, .int x1)] → (∀ (H : Heap) (locs : List Loc) (ls : Array Slot), va_P D vwCl [(q_t, .inr (13, [.int o.1, .ref q_t_answers, .ref q_t_links, .ref q_t_now, .ref q_t_flashed, .ref q_t_last, .int v_t_noise, .long v_t_z, .ref q_t_start, .ref q_t_slow, .ref q_t_fast, .int v_t_lead, .int v_t_cycle, .ref q_t_beats, .ref q_t_areApart, .ref q_t_marks, .ref q_t_swings, .ref q_t_angles, .ref q_t_speeds, .int v_t_stiffness, .int v_t_pull])), (q_t_swings, .inl (T 1, 4, .inl v_t_swings)), (q_t_angles, .inl (T 3, 4, .inr (.inr (.inl v_t_angles)))), (q_t_speeds, .inl (T 3, 4, .inr (.inr (.inl v_t_speeds))))] H → va_D A [(q_t, .inr (13, [.int o.1, .ref q_t_answers, .ref q_t_links, .ref q_t_now, .ref q_t_flashed, .ref q_t_last, .int v_t_noise, .long v_t_z, .ref q_t_start, .ref q_t_slow, .ref q_t_fast, .int v_t_lead, .int v_t_cycle, .ref q_t_beats, .ref q_t_areApart, .ref q_t_marks, .ref q_t_swings, .ref q_t_angles, .ref q_t_speeds, .int v_t_stiffness, .int v_t_pull])), (q_t_swings, .inl (T 1, 4, .inl v_t_swings)), (q_t_angles, .inl (T 3, 4, .inr (.inr (.inl v_t_angles)))), (q_t_speeds, .inl (T 3, 4, .inr (.inr (.inl v_t_speeds))))] → va_S A s.heap H locs → lv_has ls 8 [(0, .ref q_t), (1, .int x1), (2, .int o.2.1), (3, .int o.2.2)] → W p l e ({ frames := 4, cells := 0, slots := 0, locals := 120 } : Room) s m args below meth c H locs kc ks Q (F0 m 39 ls [])) → W p l e ({ frames := 4, cells := 0, slots := 0, locals := 120 } : Room) s m args below meth c H locs kc ks Q (F0 m 0 ls []) := by
  intro n
  induction n with
  | zero => intro v_t_thrown o h; exact absurd h (by simp [f_X8_sway_0])
  | succ n ih =>
    intro v_t_thrown o h H locs ls hP hD hS hl kx0
    rw [f_X8_sway_0] at h
    refine lv_aload_n hx hb dX8_sway_0 rfl (lv_at hl 0 rfl) ?_
    refine lv_iload_n hx hb dX8_sway_1 rfl (lv_at hl 1 rfl) ?_
    refine lv_i2l (v := x1.toInt64) hx hb dX8_sway_2 rfl ?_
    refine lv_lconst (v := (1 : Int64)) hx hb dX8_sway_3 (by decide) ?_
    refine lv_ldc2 (v := (500 : Int64)) hx hb hown (hts (.constantLong RX8 176 (500 : Int64)) (by decide +kernel)) dX8_sway_4 ?_
    obtain ⟨o7, hc7, h⟩ := zk_bind h
    refine zk_ci (wr := [(q_t, .inr (13, [.int v_t_thrown, .ref q_t_answers, .ref q_t_links, .ref q_t_now, .ref q_t_flashed, .ref q_t_last, .int v_t_noise, .long v_t_z, .ref q_t_start, .ref q_t_slow, .ref q_t_fast, .int v_t_lead, .int v_t_cycle, .ref q_t_beats, .ref q_t_areApart, .ref q_t_marks, .ref q_t_swings, .ref q_t_angles, .ref q_t_speeds, .int v_t_stiffness, .int v_t_pull])), (q_t_swings, .inl (T 1, 4, .inl v_t_swings)), (q_t_angles, .inl (T 3, 4, .inr (.inr (.inl v_t_angles)))), (q_t_speeds, .inl (T 3, 4, .inr (.inr (.inl v_t_speeds))))]) (va_runS (As := [.long x1.toInt64, .long (1 : Int64), .long (500 : Int64)]) (rest := [.ref q_t]) ⟨hx, hb, hml, hown, hts⟩ (k_X8_in l D T N  _  x1.toInt64 (1 : Int64) (500 : Int64) o7 hc7) (va_cwS 3 hts gX8_sway_X8_in rfl rfl rfl (by decide +kernel) ⟨Nat.le_of_ble_eq_true rfl, Nat.le_of_ble_eq_true rfl⟩) (zr_preS hK hN (hP.sub [] rfl) (hD.sub [] (by decide) rfl)) rfl rfl hl.1 rfl (lv_room (Nat.le_of_ble_eq_true rfl)) dX8_sway_7 ⟨hkc, hks⟩) hP hD hS hA [] [0, 1, 2, 3] rfl rfl (by decide) (by decide) [0, 1, 2, 3] (wf := [(q_t, .inr (13, [.int v_t_thrown, .ref q_t_answers, .ref q_t_links, .ref q_t_now, .ref q_t_flashed, .ref q_t_last, .int v_t_noise, .long v_t_z, .ref q_t_start, .ref q_t_slow, .ref q_t_fast, .int v_t_lead, .int v_t_cycle, .ref q_t_beats, .ref q_t_areApart, .ref q_t_marks, .ref q_t_swings, .ref q_t_angles, .ref q_t_speeds, .int v_t_stiffness, .int v_t_pull])), (q_t_swings, .inl (T 1, 4, .inl v_t_swings)), (q_t_angles, .inl (T 3, 4, .inr (.inr (.inl v_t_angles)))), (q_t_speeds, .inl (T 3, 4, .inr (.inr (.inl v_t_speeds))))]) rfl (by decide) (fun H locs hP hD hS => ?_)
    refine lv_if_eq (tgt := 17) hx hb dX8_sway_10 (by decide) (fun c10 => ?_) (fun c10 => ?_)
    · replace h := (if_pos c10).symm.trans h
      refine lv_iconst (v := (1 : Int32)) hx hb dX8_sway_17 (by decide) ?_
      refine va_put (D := D) (ci := 13) (v := .int (1 : Int32)) (ty := .int) (C := RX8) (T := TX8) (N := 21) hx hb hts iX8_sway_X8 tyX8 tyX8_ok nmX8 hown hK hP hD hS 0 rfl rfl 0 (by decide) (hts (.fieldLink RX8 76 "PulseMeadowModel" "thrown" "I") (by decide +kernel)) (fun _ h9 => h9) rfl (by decide +kernel) rfl rfl (Nat.le_of_ble_eq_true rfl) dX8_sway_18 (fun H locs hP hD hS => ?_)
      have hP : va_P D vwCl [(q_t, .inr (13, [.int (1 : Int32), .ref q_t_answers, .ref q_t_links, .ref q_t_now, .ref q_t_flashed, .ref q_t_last, .int v_t_noise, .long v_t_z, .ref q_t_start, .ref q_t_slow, .ref q_t_fast, .int v_t_lead, .int v_t_cycle, .ref q_t_beats, .ref q_t_areApart, .ref q_t_marks, .ref q_t_swings, .ref q_t_angles, .ref q_t_speeds, .int v_t_stiffness, .int v_t_pull])), (q_t_swings, .inl (T 1, 4, .inl v_t_swings)), (q_t_angles, .inl (T 3, 4, .inr (.inr (.inl v_t_angles)))), (q_t_speeds, .inl (T 3, 4, .inr (.inr (.inl v_t_speeds))))] H := hP
      have hD : va_D A [(q_t, .inr (13, [.int (1 : Int32), .ref q_t_answers, .ref q_t_links, .ref q_t_now, .ref q_t_flashed, .ref q_t_last, .int v_t_noise, .long v_t_z, .ref q_t_start, .ref q_t_slow, .ref q_t_fast, .int v_t_lead, .int v_t_cycle, .ref q_t_beats, .ref q_t_areApart, .ref q_t_marks, .ref q_t_swings, .ref q_t_angles, .ref q_t_speeds, .int v_t_stiffness, .int v_t_pull])), (q_t_swings, .inl (T 1, 4, .inl v_t_swings)), (q_t_angles, .inl (T 3, 4, .inr (.inr (.inl v_t_angles)))), (q_t_speeds, .inl (T 3, 4, .inr (.inr (.inl v_t_speeds))))] := hD
      refine lv_aload_n hx hb dX8_sway_21 rfl (lv_at hl 0 rfl) ?_
      refine va_get (D := D) (ci := 13) (v := .int (1 : Int32)) (C := RX8) (T := TX8) (N := 21) hx hb hts iX8_sway_X8 hown hK hP 0 rfl rfl 0 (by decide) (hts (.fieldLink RX8 76 "PulseMeadowModel" "thrown" "I") (by decide +kernel)) (fun _ h9 => h9) rfl dX8_sway_22 ?_
      refine lv_if_le (tgt := 32) hx hb dX8_sway_25 (by decide) (fun c9 => absurd c9 (by decide)) (fun _ => ?_)
      refine lv_iconst (v := (0 : Int32)) hx hb dX8_sway_28 (by decide) ?_
      refine lv_goto (tgt := 36) hx hb dX8_sway_29 (by decide) ?_
      refine lv_istore_n (lv' := [(2, .int (0 : Int32)), (0, .ref q_t), (1, .int x1)]) hx hb dX8_sway_36 rfl hl (by decide) rfl (fun ls hl => ?_)
      refine lv_iconst (v := (0 : Int32)) hx hb dX8_sway_37 (by decide) ?_
      refine lv_istore_n (lv' := [(3, .int (0 : Int32)), (2, .int (0 : Int32)), (0, .ref q_t), (1, .int x1)]) hx hb dX8_sway_38 rfl hl (by decide) rfl (fun ls hl => ?_)
      obtain rfl := Option.some.inj h
      exact kx0 _ _ _ hP hD hS (lv_sub hl [2, 3, 1, 0] rfl)
    · replace h := (if_neg c10).symm.trans h
      refine lv_iconst (v := (0 : Int32)) hx hb dX8_sway_13 (by decide) ?_
      refine lv_goto (tgt := 18) hx hb dX8_sway_14 (by decide) ?_
      refine va_put (D := D) (ci := 13) (v := .int (0 : Int32)) (ty := .int) (C := RX8) (T := TX8) (N := 21) hx hb hts iX8_sway_X8 tyX8 tyX8_ok nmX8 hown hK hP hD hS 0 rfl rfl 0 (by decide) (hts (.fieldLink RX8 76 "PulseMeadowModel" "thrown" "I") (by decide +kernel)) (fun _ h9 => h9) rfl (by decide +kernel) rfl rfl (Nat.le_of_ble_eq_true rfl) dX8_sway_18 (fun H locs hP hD hS => ?_)
      have hP : va_P D vwCl [(q_t, .inr (13, [.int (0 : Int32), .ref q_t_answers, .ref q_t_links, .ref q_t_now, .ref q_t_flashed, .ref q_t_last, .int v_t_noise, .long v_t_z, .ref q_t_start, .ref q_t_slow, .ref q_t_fast, .int v_t_lead, .int v_t_cycle, .ref q_t_beats, .ref q_t_areApart, .ref q_t_marks, .ref q_t_swings, .ref q_t_angles, .ref q_t_speeds, .int v_t_stiffness, .int v_t_pull])), (q_t_swings, .inl (T 1, 4, .inl v_t_swings)), (q_t_angles, .inl (T 3, 4, .inr (.inr (.inl v_t_angles)))), (q_t_speeds, .inl (T 3, 4, .inr (.inr (.inl v_t_speeds))))] H := hP
      have hD : va_D A [(q_t, .inr (13, [.int (0 : Int32), .ref q_t_answers, .ref q_t_links, .ref q_t_now, .ref q_t_flashed, .ref q_t_last, .int v_t_noise, .long v_t_z, .ref q_t_start, .ref q_t_slow, .ref q_t_fast, .int v_t_lead, .int v_t_cycle, .ref q_t_beats, .ref q_t_areApart, .ref q_t_marks, .ref q_t_swings, .ref q_t_angles, .ref q_t_speeds, .int v_t_stiffness, .int v_t_pull])), (q_t_swings, .inl (T 1, 4, .inl v_t_swings)), (q_t_angles, .inl (T 3, 4, .inr (.inr (.inl v_t_angles)))), (q_t_speeds, .inl (T 3, 4, .inr (.inr (.inl v_t_speeds))))] := hD
      refine lv_aload_n hx hb dX8_sway_21 rfl (lv_at hl 0 rfl) ?_
      refine va_get (D := D) (ci := 13) (v := .int (0 : Int32)) (C := RX8) (T := TX8) (N := 21) hx hb hts iX8_sway_X8 hown hK hP 0 rfl rfl 0 (by decide) (hts (.fieldLink RX8 76 "PulseMeadowModel" "thrown" "I") (by decide +kernel)) (fun _ h9 => h9) rfl dX8_sway_22 ?_
      refine lv_if_le (tgt := 32) hx hb dX8_sway_25 (by decide) (fun _ => ?_) (fun c9 => absurd (by decide) c9)
      refine lv_aload_n hx hb dX8_sway_32 rfl (lv_at hl 0 rfl) ?_
      obtain ⟨o33, hc33, h⟩ := zk_bind h
      refine zk_ci (wr := [(q_t_angles, .inl (T 3, 4, .inr (.inr (.inl v_t_angles)))), (q_t_speeds, .inl (T 3, 4, .inr (.inr (.inl v_t_speeds))))]) (va_runV (As := []) (rest := []) ⟨hx, hb, hml, hown, hts⟩ (k_X8_manySwings l D T N q_t q_t_swings q_t_answers q_t_links q_t_now q_t_flashed q_t_last q_t_start q_t_slow q_t_fast q_t_beats q_t_areApart q_t_marks q_t_angles q_t_speeds _ (0 : Int32) v_t_noise v_t_z v_t_lead v_t_cycle v_t_stiffness v_t_pull v_t_swings  o33 hc33) (cwV 0 hts gX8_sway_X8_manySwings rfl rfl rfl (by decide +kernel) ⟨Nat.le_of_ble_eq_true rfl, Nat.le_of_ble_eq_true rfl⟩) (zr_preV (q := (RX8, TX8, 21)) hK hN (hP.sub [0, 1] rfl) (hD.sub [0, 1] (by decide) rfl) 0 rfl rfl) rfl rfl hl.1 rfl (lv_room (Nat.le_of_ble_eq_true rfl)) dX8_sway_33 ⟨hkc, hks⟩) hP hD hS hA [0, 1] [2, 3] rfl rfl (by decide) (by decide) [2, 3, 0, 1] (wf := [(q_t, .inr (13, [.int (0 : Int32), .ref q_t_answers, .ref q_t_links, .ref q_t_now, .ref q_t_flashed, .ref q_t_last, .int v_t_noise, .long v_t_z, .ref q_t_start, .ref q_t_slow, .ref q_t_fast, .int v_t_lead, .int v_t_cycle, .ref q_t_beats, .ref q_t_areApart, .ref q_t_marks, .ref q_t_swings, .ref q_t_angles, .ref q_t_speeds, .int v_t_stiffness, .int v_t_pull])), (q_t_swings, .inl (T 1, 4, .inl v_t_swings)), (q_t_angles, .inl (T 3, 4, .inr (.inr (.inl v_t_angles)))), (q_t_speeds, .inl (T 3, 4, .inr (.inr (.inl v_t_speeds))))]) rfl (by decide) (fun H locs hP hD hS => ?_)
      refine lv_istore_n (lv' := [(2, .int o33), (0, .ref q_t), (1, .int x1)]) hx hb dX8_sway_36 rfl hl (by decide) rfl (fun ls hl => ?_)
      refine lv_iconst (v := (0 : Int32)) hx hb dX8_sway_37 (by decide) ?_
      refine lv_istore_n (lv' := [(3, .int (0 : Int32)), (2, .int o33), (0, .ref q_t), (1, .int x1)]) hx hb dX8_sway_38 rfl hl (by decide) rfl (fun ls hl => ?_)
      obtain rfl := Option.some.inj h
      exact kx0 _ _ _ hP hD hS (lv_sub hl [2, 3, 1, 0] rfl)
section ZLF
variable {p : Program} {l : Launch} {e : Env} {R : Room} {s : State} {m : MethodId} {args : Array Value} {below : List Frame} {meth : Method} {c : Code} {H : Heap} {locs : List Loc} {cells slots : Nat} {Q : State → Prop} {cc : ByteArray} {pc : Nat} {ls : Array Slot} {rest : List Value}
theorem zs_ldcwf {T : State} (X : Stand p l e R s m args below meth c T locs cells slots) (hexec : p.tables.exec = Jvm.exec) {own : String} {index : Nat} {v : UInt32} (hown : s.vm.findClass own = some m.cls)
    (hconst : (Cond.constantFloat own index v).before args s = true) {g : JFrame} (hg : g.method = m) (hdg : decode c.code g.pc = .ok (.ldc_w index, 3)) :
    ∀ target, Steps p.tables e below (T.setTop { g with pc := g.pc + 3, stack := .float v :: g.stack }) target → Steps p.tables e below (T.setTop g) target := by
  obtain ⟨k, cf, hk, hcf, hcp⟩ := Cond.constantFloat_spec hown hconst
  obtain ⟨k', hk', he⟩ := X.warmed.alike.2.2 _ _ hk
  intro target hrest
  subst hg
  jvm_step X.here [hexec, hdg, ldc_w.wp_float (s := T) (f := g) X.here.top hk' (by rw [he]; exact hcf) hcp]
  exact hrest
theorem lv_ldcwf (hexec : p.tables.exec = Jvm.exec) (hb : c.code = cc) {own : String} {index : Nat} {v : UInt32} (hown : s.vm.findClass own = some m.cls) (hconst : (Jvm.Cond.constantFloat own index v).before args s = true) (hdg : decode cc pc = .ok (.ldc_w index, 3)) (k : W p l e R s m args below meth c H locs cells slots Q (F0 m (pc + 3) ls (.float v :: rest))) : W p l e R s m args below meth c H locs cells slots Q (F0 m pc ls rest) := by
  intro T hT X
  obtain ⟨t, a, b⟩ := k T hT X
  exact ⟨t, zs_ldcwf X hexec hown hconst (g := F0 m pc ls rest) rfl (by rw [hb]; exact hdg) t a, b⟩
end ZLF
/-- what the reference's floats may be: any NaN stands where one comes out -/
def rs_al (r x : UInt32) : Prop := alike32 r x = true
def rs_sum (sw : Nat → Int32) (a : Nat → UInt32) : Nat → Nat → UInt32 → UInt32 → Prop
  | 0, _, s, s2 => s2 = s
  | j + 1, i, s, s2 => ∃ s1 : UInt32, (sw i = 0 → s1 = s) ∧ (¬ sw i = 0 → rs_al s1 (FP.fadd s (a i))) ∧ rs_sum sw a j (i + 1) s1 s2
def rs_sp (sw : Nat → Int32) (a : Nat → UInt32) (pl st : Int32) (mean : UInt32) : Nat → Nat → (Nat → UInt32) → (Nat → UInt32) → Prop
  | 0, _, sp, sp2 => sp2 = sp
  | j + 1, i, sp, sp2 => ∃ d1 m1 h1 f x : UInt32, rs_al d1 (FP.fsub mean (a i)) ∧ rs_al m1 (FP.fmul (FP.i2f pl) d1) ∧ rs_al h1 (FP.fmul (FP.i2f st) (a i)) ∧ rs_al f (FP.fsub m1 h1) ∧ (sw i = 0 → x = sp i) ∧ (¬ sw i = 0 → ∃ q : UInt32, rs_al q (FP.fmul (1008981770 : UInt32) f) ∧ rs_al x (FP.fadd (sp i) q)) ∧ rs_sp sw a pl st mean j (i + 1) (vf_upd sp i x) sp2
def rs_an (sw : Nat → Int32) (sp : Nat → UInt32) : Nat → Nat → (Nat → UInt32) → (Nat → UInt32) → Prop
  | 0, _, a, a2 => a2 = a
  | j + 1, i, a, a2 => ∃ x : UInt32, (sw i = 0 → x = a i) ∧ (¬ sw i = 0 → ∃ q : UInt32, rs_al q (FP.fmul (1008981770 : UInt32) (sp i)) ∧ rs_al x (FP.fadd (a i) q)) ∧ rs_an sw sp j (i + 1) (vf_upd a i x) a2
def rs_step (sw : Nat → Int32) (pl st many : Int32) (a sp a2 sp2 : Nat → UInt32) : Prop := ∃ sum mean : UInt32, rs_sum sw a 4 0 FP.fconst0 sum ∧ rs_al mean (FP.fdiv sum (FP.i2f many)) ∧ rs_sp sw a pl st mean 4 0 sp sp2 ∧ rs_an sw sp2 4 0 a a2
def rs_run (sw : Nat → Int32) (pl st many : Int32) : Nat → (Nat → UInt32) → (Nat → UInt32) → (Nat → UInt32) → (Nat → UInt32) → Prop
  | 0, a, sp, a2, sp2 => a2 = a ∧ sp2 = sp
  | n + 1, a, sp, a2, sp2 => ∃ a1 sp1 : Nat → UInt32, rs_step sw pl st many a sp a1 sp1 ∧ rs_run sw pl st many n a1 sp1 a2 sp2
/-- the whole of sway: no step where there are none, or no swing -/
def rs_all (sw : Nat → Int32) (pl st many steps : Int32) (a sp a2 sp2 : Nat → UInt32) : Prop := (many ≤ 0 → a2 = a ∧ sp2 = sp) ∧ (0 < many → rs_run sw pl st many steps.toNatClampNeg a sp a2 sp2)
def f_X8_sway (N : Nat) (v_t_thrown : Int32) (v_t_swings : Nat → Int32) (x1 : Int32) : Option (Int32 × Int32) := (f_X8_sway_0 N v_t_swings x1 1 v_t_thrown).bind fun t => if x1 ≤ 0 ∧ 0 < t.2.1 then none else if 100000 < x1 then (if t.2.1 ≤ 0 then some (t.2.1, t.1) else none) else some (t.2.1, t.1)
set_option maxHeartbeats 8000000 in
set_option maxRecDepth 100000 in
theorem k_X8_sway (l : Launch) (D : va_G) (T : Nat → ClassId) (N : Nat) (Z : zs_T) (q_t q_t_swings q_t_angles q_t_speeds q_t_answers q_t_links q_t_now q_t_flashed q_t_last q_t_start q_t_slow q_t_fast q_t_beats q_t_areApart q_t_marks : Nat) (sz : Nat) (v_t_thrown : Int32) (v_t_noise : Int32) (v_t_z : Int64) (v_t_lead : Int32) (v_t_cycle : Int32) (v_t_stiffness : Int32) (v_t_pull : Int32) (v_t_swings : Nat → Int32) (v_t_angles : Nat → UInt32) (v_t_speeds : Nat → UInt32) (x1 : Int32) (o : Int32 × Int32) (h : f_X8_sway N v_t_thrown v_t_swings x1 = some o) : MetD lw_cs l yX8_sway wsX8_sway ({ frames := 4, cells := 0, slots := 0, locals := 120 } : Room) (zs_Pc Z RX7 [] D T [.ref q_t, .int x1] [(q_t, .inr (13, [.int v_t_thrown, .ref q_t_answers, .ref q_t_links, .ref q_t_now, .ref q_t_flashed, .ref q_t_last, .int v_t_noise, .long v_t_z, .ref q_t_start, .ref q_t_slow, .ref q_t_fast, .int v_t_lead, .int v_t_cycle, .ref q_t_beats, .ref q_t_areApart, .ref q_t_marks, .ref q_t_swings, .ref q_t_angles, .ref q_t_speeds, .int v_t_stiffness, .int v_t_pull])), (q_t_swings, .inl (T 1, 4, .inl v_t_swings)), (q_t_angles, .inl (T 3, 4, .inr (.inr (.inl v_t_angles)))), (q_t_speeds, .inl (T 3, 4, .inr (.inr (.inl v_t_speeds))))] sz) (zs_Qi (fun u : (Nat → UInt32) × (Nat → UInt32) => rs_all v_t_swings v_t_pull v_t_stiffness o.1 x1 v_t_angles v_t_speeds u.1 u.2) (fun _ => o.1) D (fun u => [(q_t, .inr (13, [.int o.2, .ref q_t_answers, .ref q_t_links, .ref q_t_now, .ref q_t_flashed, .ref q_t_last, .int v_t_noise, .long v_t_z, .ref q_t_start, .ref q_t_slow, .ref q_t_fast, .int v_t_lead, .int v_t_cycle, .ref q_t_beats, .ref q_t_areApart, .ref q_t_marks, .ref q_t_swings, .ref q_t_angles, .ref q_t_speeds, .int v_t_stiffness, .int v_t_pull])), (q_t_swings, .inl (T 1, 4, .inl v_t_swings)), (q_t_angles, .inl (T 3, 4, .inr (.inr (.inl u.1)))), (q_t_speeds, .inl (T 3, 4, .inr (.inr (.inl u.2))))]) (va_A [(q_t, .inr (13, [.int v_t_thrown, .ref q_t_answers, .ref q_t_links, .ref q_t_now, .ref q_t_flashed, .ref q_t_last, .int v_t_noise, .long v_t_z, .ref q_t_start, .ref q_t_slow, .ref q_t_fast, .int v_t_lead, .int v_t_cycle, .ref q_t_beats, .ref q_t_areApart, .ref q_t_marks, .ref q_t_swings, .ref q_t_angles, .ref q_t_speeds, .int v_t_stiffness, .int v_t_pull])), (q_t_swings, .inl (T 1, 4, .inl v_t_swings)), (q_t_angles, .inl (T 3, 4, .inr (.inr (.inl v_t_angles)))), (q_t_speeds, .inl (T 3, 4, .inr (.inr (.inl v_t_speeds))))] sz) (va_A [(q_t, .inr (13, [.int v_t_thrown, .ref q_t_answers, .ref q_t_links, .ref q_t_now, .ref q_t_flashed, .ref q_t_last, .int v_t_noise, .long v_t_z, .ref q_t_start, .ref q_t_slow, .ref q_t_fast, .int v_t_lead, .int v_t_cycle, .ref q_t_beats, .ref q_t_areApart, .ref q_t_marks, .ref q_t_swings, .ref q_t_angles, .ref q_t_speeds, .int v_t_stiffness, .int v_t_pull])), (q_t_swings, .inl (T 1, 4, .inl v_t_swings)), (q_t_angles, .inl (T 3, 4, .inr (.inr (.inl v_t_angles)))), (q_t_speeds, .inl (T 3, 4, .inr (.inr (.inl v_t_speeds))))] sz)) 0 0 (va_A [(q_t, .inr (13, [.int v_t_thrown, .ref q_t_answers, .ref q_t_links, .ref q_t_now, .ref q_t_flashed, .ref q_t_last, .int v_t_noise, .long v_t_z, .ref q_t_start, .ref q_t_slow, .ref q_t_fast, .int v_t_lead, .int v_t_cycle, .ref q_t_beats, .ref q_t_areApart, .ref q_t_marks, .ref q_t_swings, .ref q_t_angles, .ref q_t_speeds, .int v_t_stiffness, .int v_t_pull])), (q_t_swings, .inl (T 1, 4, .inl v_t_swings)), (q_t_angles, .inl (T 3, 4, .inr (.inr (.inl v_t_angles)))), (q_t_speeds, .inl (T 3, 4, .inr (.inr (.inl v_t_speeds))))] sz) := by
  refine MetD.ofW (cc := cX8_sway) (maxL := 8) (ret := (some .int)) (by decide) rfl ?_
  intro p e s m args below meth c s₁ B hml hv hd0
  obtain ⟨rfl, hsz, hP, hK, hN, hD0, hZ, hL0⟩ := hv
  have hx := B.exec
  have hb := B.bytes
  have hr := B.returns
  have hts := atoms_spec (ws := wsX8_sway) B.pre
  have hown : s.vm.findClass RX8 = some m.cls := findClass_of_methodNamed B.named
  have hlocks := B.notSynchronized
  subst hsz
  have hD := hD0.self (sz := s.heap.size)
  generalize hAe : va_A [(q_t, .inr (13, [.int v_t_thrown, .ref q_t_answers, .ref q_t_links, .ref q_t_now, .ref q_t_flashed, .ref q_t_last, .int v_t_noise, .long v_t_z, .ref q_t_start, .ref q_t_slow, .ref q_t_fast, .int v_t_lead, .int v_t_cycle, .ref q_t_beats, .ref q_t_areApart, .ref q_t_marks, .ref q_t_swings, .ref q_t_angles, .ref q_t_speeds, .int v_t_stiffness, .int v_t_pull])), (q_t_swings, .inl (T 1, 4, .inl v_t_swings)), (q_t_angles, .inl (T 3, 4, .inr (.inr (.inl v_t_angles)))), (q_t_speeds, .inl (T 3, 4, .inr (.inr (.inl v_t_speeds))))] s.heap.size = A at hD hZ hL0 ⊢
  have hA : ∀ q : Nat, s.heap.size ≤ q → A q := fun q h => by rw [← hAe]; exact Or.inr h
  have hS : va_S A s.heap s.heap [] := va_S.rf
  have hP : va_P D vwCl [(q_t, .inr (13, [.int v_t_thrown, .ref q_t_answers, .ref q_t_links, .ref q_t_now, .ref q_t_flashed, .ref q_t_last, .int v_t_noise, .long v_t_z, .ref q_t_start, .ref q_t_slow, .ref q_t_fast, .int v_t_lead, .int v_t_cycle, .ref q_t_beats, .ref q_t_areApart, .ref q_t_marks, .ref q_t_swings, .ref q_t_angles, .ref q_t_speeds, .int v_t_stiffness, .int v_t_pull])), (q_t_swings, .inl (T 1, 4, .inl v_t_swings)), (q_t_angles, .inl (T 3, 4, .inr (.inr (.inl v_t_angles)))), (q_t_speeds, .inl (T 3, 4, .inr (.inr (.inl v_t_speeds))))] s.heap := hP
  have hl := lv_entry ([.ref q_t, .int x1]) (n := 8) (Nat.le_of_ble_eq_true rfl)
  rw [lg_entry_eq]
  generalize (lg_sl ([.ref q_t, .int x1]) ++ List.replicate (8 - (lg_sl ([.ref q_t, .int x1])).length) Slot.unset).toArray = ls at hl ⊢
  have hl : lv_has ls 8 [(0, .ref q_t), (1, .int x1)] := hl
  have hts0 := hts
  have hK0 := hK
  have hts := dr_words hts0 s.drawn
  have hK : va_K D vwCl (zr_ty T) (s.setDrawn s.drawn) := hK0
  unfold f_X8_sway at h
  obtain ⟨oo, hoo, h⟩ := zk_bind h
  refine l_X8_sway_0 (s := s.setDrawn s.drawn) N hx hb hml hown hts hA hK hN 0 0 (Nat.le_of_ble_eq_true rfl) (Nat.le_of_ble_eq_true rfl) Z hZ q_t q_t_swings q_t_angles q_t_speeds q_t_answers q_t_links q_t_now q_t_flashed q_t_last q_t_start q_t_slow q_t_fast q_t_beats q_t_areApart q_t_marks v_t_noise v_t_z v_t_lead v_t_cycle v_t_stiffness v_t_pull v_t_swings v_t_angles v_t_speeds x1 1 v_t_thrown oo hoo _ _ _ hP hD hS hl (fun H locs ls hP hD hS hl => ?_)
  have e3 : oo.2.2 = nI 0 := by
    rw [f_X8_sway_0] at hoo
    obtain ⟨o7, ho7, hoo⟩ := zk_bind hoo
    split at hoo
    · obtain rfl := Option.some.inj hoo; rfl
    · obtain ⟨o33, ho33, hoo⟩ := zk_bind hoo
      obtain rfl := Option.some.inj hoo
      rfl
  rw [e3] at hl
  generalize hth9 : oo.1 = th at hP hD h
  generalize hmy9 : oo.2.1 = my at hl h
  have KE : ∀ (a2 sp2 : Nat → UInt32), rs_all v_t_swings v_t_pull v_t_stiffness my x1 v_t_angles v_t_speeds a2 sp2 → ∀ (d : Drawn) (H : Heap) (locs : List Loc) (ls : Array Slot) (k9 : Nat), s.drawn.sameBut d lw_cs → va_P D vwCl [(q_t, .inr (13, [.int th, .ref q_t_answers, .ref q_t_links, .ref q_t_now, .ref q_t_flashed, .ref q_t_last, .int v_t_noise, .long v_t_z, .ref q_t_start, .ref q_t_slow, .ref q_t_fast, .int v_t_lead, .int v_t_cycle, .ref q_t_beats, .ref q_t_areApart, .ref q_t_marks, .ref q_t_swings, .ref q_t_angles, .ref q_t_speeds, .int v_t_stiffness, .int v_t_pull])), (q_t_swings, .inl (T 1, 4, .inl v_t_swings)), (q_t_angles, .inl (T 3, 4, .inr (.inr (.inl a2)))), (q_t_speeds, .inl (T 3, 4, .inr (.inr (.inl sp2))))] H → va_D A [(q_t, .inr (13, [.int th, .ref q_t_answers, .ref q_t_links, .ref q_t_now, .ref q_t_flashed, .ref q_t_last, .int v_t_noise, .long v_t_z, .ref q_t_start, .ref q_t_slow, .ref q_t_fast, .int v_t_lead, .int v_t_cycle, .ref q_t_beats, .ref q_t_areApart, .ref q_t_marks, .ref q_t_swings, .ref q_t_angles, .ref q_t_speeds, .int v_t_stiffness, .int v_t_pull])), (q_t_swings, .inl (T 1, 4, .inl v_t_swings)), (q_t_angles, .inl (T 3, 4, .inr (.inr (.inl a2)))), (q_t_speeds, .inl (T 3, 4, .inr (.inr (.inl sp2))))] → va_S A s.heap H locs → lv_has ls 8 [(3, .int (nI k9)), (0, .ref q_t), (1, .int x1), (2, .int my)] → W p l e ({ frames := 4, cells := 0, slots := 0, locals := 120 } : Room) (s.setDrawn d) m (([.ref q_t, .int x1] : List Value).toArray) below meth c H locs 0 0 (MQD lw_cs below (zs_Qi (fun u : (Nat → UInt32) × (Nat → UInt32) => rs_all v_t_swings v_t_pull v_t_stiffness my x1 v_t_angles v_t_speeds u.1 u.2) (fun _ => my) D (fun u => [(q_t, .inr (13, [.int th, .ref q_t_answers, .ref q_t_links, .ref q_t_now, .ref q_t_flashed, .ref q_t_last, .int v_t_noise, .long v_t_z, .ref q_t_start, .ref q_t_slow, .ref q_t_fast, .int v_t_lead, .int v_t_cycle, .ref q_t_beats, .ref q_t_areApart, .ref q_t_marks, .ref q_t_swings, .ref q_t_angles, .ref q_t_speeds, .int v_t_stiffness, .int v_t_pull])), (q_t_swings, .inl (T 1, 4, .inl v_t_swings)), (q_t_angles, .inl (T 3, 4, .inr (.inr (.inl u.1)))), (q_t_speeds, .inl (T 3, 4, .inr (.inr (.inl u.2))))]) A A) (([.ref q_t, .int x1] : List Value).toArray) s 0 0 A) (F0 m 255 ls []) := by
    intro a2 sp2 hal d H locs ls k9 hd hP hD hS hl
    refine lv_iload_n hx hb dX8_sway_255 rfl (lv_at hl 3 rfl) ?_
    refine W.endD hd ?_
    exact W.iret (v := my) hx hb hr (fun t ht hW => ⟨⟨_, (a2, sp2), rfl, ⟨hal, rfl⟩, by rw [ht]; exact hP, hD⟩, hS.F ht⟩) hS.2.2 dX8_sway_256
  have KL : ∀ (k i : Nat) (a sp : Nat → UInt32), 0 < my → x1 = nI (i + k) → i + k < 2 ^ 31 → (∀ a2 sp2, rs_run v_t_swings v_t_pull v_t_stiffness my k a sp a2 sp2 → rs_all v_t_swings v_t_pull v_t_stiffness my x1 v_t_angles v_t_speeds a2 sp2) → ∀ (d : Drawn) (H : Heap) (locs : List Loc) (ls : Array Slot), s.drawn.sameBut d lw_cs → va_P D vwCl [(q_t, .inr (13, [.int th, .ref q_t_answers, .ref q_t_links, .ref q_t_now, .ref q_t_flashed, .ref q_t_last, .int v_t_noise, .long v_t_z, .ref q_t_start, .ref q_t_slow, .ref q_t_fast, .int v_t_lead, .int v_t_cycle, .ref q_t_beats, .ref q_t_areApart, .ref q_t_marks, .ref q_t_swings, .ref q_t_angles, .ref q_t_speeds, .int v_t_stiffness, .int v_t_pull])), (q_t_swings, .inl (T 1, 4, .inl v_t_swings)), (q_t_angles, .inl (T 3, 4, .inr (.inr (.inl a)))), (q_t_speeds, .inl (T 3, 4, .inr (.inr (.inl sp))))] H → va_D A [(q_t, .inr (13, [.int th, .ref q_t_answers, .ref q_t_links, .ref q_t_now, .ref q_t_flashed, .ref q_t_last, .int v_t_noise, .long v_t_z, .ref q_t_start, .ref q_t_slow, .ref q_t_fast, .int v_t_lead, .int v_t_cycle, .ref q_t_beats, .ref q_t_areApart, .ref q_t_marks, .ref q_t_swings, .ref q_t_angles, .ref q_t_speeds, .int v_t_stiffness, .int v_t_pull])), (q_t_swings, .inl (T 1, 4, .inl v_t_swings)), (q_t_angles, .inl (T 3, 4, .inr (.inr (.inl a)))), (q_t_speeds, .inl (T 3, 4, .inr (.inr (.inl sp))))] → va_S A s.heap H locs → lv_has ls 8 [(3, .int (nI i)), (0, .ref q_t), (1, .int x1), (2, .int my)] → W p l e ({ frames := 4, cells := 0, slots := 0, locals := 120 } : Room) (s.setDrawn d) m (([.ref q_t, .int x1] : List Value).toArray) below meth c H locs 0 0 (MQD lw_cs below (zs_Qi (fun u : (Nat → UInt32) × (Nat → UInt32) => rs_all v_t_swings v_t_pull v_t_stiffness my x1 v_t_angles v_t_speeds u.1 u.2) (fun _ => my) D (fun u => [(q_t, .inr (13, [.int th, .ref q_t_answers, .ref q_t_links, .ref q_t_now, .ref q_t_flashed, .ref q_t_last, .int v_t_noise, .long v_t_z, .ref q_t_start, .ref q_t_slow, .ref q_t_fast, .int v_t_lead, .int v_t_cycle, .ref q_t_beats, .ref q_t_areApart, .ref q_t_marks, .ref q_t_swings, .ref q_t_angles, .ref q_t_speeds, .int v_t_stiffness, .int v_t_pull])), (q_t_swings, .inl (T 1, 4, .inl v_t_swings)), (q_t_angles, .inl (T 3, 4, .inr (.inr (.inl u.1)))), (q_t_speeds, .inl (T 3, 4, .inr (.inr (.inl u.2))))]) A A) (([.ref q_t, .int x1] : List Value).toArray) s 0 0 A) (F0 m 39 ls []) := by
    intro k
    induction k with
    | zero =>
      intro i a sp hmy hx1 hb1 hR d H locs ls hd hP hD hS hl
      have hts := dr_words hts0 d
      have hK : va_K D vwCl (zr_ty T) (s.setDrawn d) := hK0
      refine lv_iload_n hx hb dX8_sway_39 rfl (lv_at hl 0 rfl) ?_
      refine lv_iload_n hx hb dX8_sway_40 rfl (lv_at hl 2 rfl) ?_
      refine lv_icmp_ge (tgt := 255) hx hb dX8_sway_41 (by decide) (fun _ => ?_) (fun c9 => absurd (by rw [hx1]; exact nI_le (by omega) hb1) c9)
      exact KE a sp (hR a sp ⟨rfl, rfl⟩) d H locs ls i hd hP hD hS hl
    | succ k ih =>
      intro i a sp hmy hx1 hb1 hR d H locs ls hd hP hD hS hl
      have hts := dr_words hts0 d
      have hK : va_K D vwCl (zr_ty T) (s.setDrawn d) := hK0
      refine lv_iload_n hx hb dX8_sway_39 rfl (lv_at hl 0 rfl) ?_
      refine lv_iload_n hx hb dX8_sway_40 rfl (lv_at hl 2 rfl) ?_
      refine lv_icmp_ge (tgt := 255) hx hb dX8_sway_41 (by decide) (fun c9 => absurd c9 (by rw [hx1]; exact nI_ge (by omega) hb1)) (fun _ => ?_)
      refine lv_iload_n hx hb dX8_sway_44 rfl (lv_at hl 3 rfl) ?_
      refine lv_if_le (tgt := 255) hx hb dX8_sway_45 (by decide) (fun c9 => absurd hmy (Int32.not_lt.mpr c9)) (fun _ => ?_)
      refine lv_fconst0 hx hb dX8_sway_48 ?_
      refine lv_fstore (lv' := [(4, .float FP.fconst0), (3, .int (nI i)), (0, .ref q_t), (1, .int x1), (2, .int my)]) hx hb dX8_sway_49 hl (by decide) rfl (fun ls hl => ?_)
      refine lv_iconst (v := (0 : Int32)) hx hb dX8_sway_51 (by decide) ?_
      refine lv_istore (lv' := [(5, .int (nI 0)), (4, .float FP.fconst0), (3, .int (nI i)), (0, .ref q_t), (1, .int x1), (2, .int my)]) hx hb dX8_sway_52 hl (by decide) rfl (fun ls hl => ?_)
      suffices K1 : ∀ (j i1 : Nat) (s1 : UInt32), i1 + j = 4 → (∀ s2, rs_sum v_t_swings a j i1 s1 s2 → rs_sum v_t_swings a 4 0 FP.fconst0 s2) → ∀ (d : Drawn) (H : Heap) (locs : List Loc) (ls : Array Slot), s.drawn.sameBut d lw_cs → va_P D vwCl [(q_t, .inr (13, [.int th, .ref q_t_answers, .ref q_t_links, .ref q_t_now, .ref q_t_flashed, .ref q_t_last, .int v_t_noise, .long v_t_z, .ref q_t_start, .ref q_t_slow, .ref q_t_fast, .int v_t_lead, .int v_t_cycle, .ref q_t_beats, .ref q_t_areApart, .ref q_t_marks, .ref q_t_swings, .ref q_t_angles, .ref q_t_speeds, .int v_t_stiffness, .int v_t_pull])), (q_t_swings, .inl (T 1, 4, .inl v_t_swings)), (q_t_angles, .inl (T 3, 4, .inr (.inr (.inl a)))), (q_t_speeds, .inl (T 3, 4, .inr (.inr (.inl sp))))] H → va_D A [(q_t, .inr (13, [.int th, .ref q_t_answers, .ref q_t_links, .ref q_t_now, .ref q_t_flashed, .ref q_t_last, .int v_t_noise, .long v_t_z, .ref q_t_start, .ref q_t_slow, .ref q_t_fast, .int v_t_lead, .int v_t_cycle, .ref q_t_beats, .ref q_t_areApart, .ref q_t_marks, .ref q_t_swings, .ref q_t_angles, .ref q_t_speeds, .int v_t_stiffness, .int v_t_pull])), (q_t_swings, .inl (T 1, 4, .inl v_t_swings)), (q_t_angles, .inl (T 3, 4, .inr (.inr (.inl a)))), (q_t_speeds, .inl (T 3, 4, .inr (.inr (.inl sp))))] → va_S A s.heap H locs → lv_has ls 8 [(5, .int (nI i1)), (4, .float s1), (3, .int (nI i)), (0, .ref q_t), (1, .int x1), (2, .int my)] → W p l e ({ frames := 4, cells := 0, slots := 0, locals := 120 } : Room) (s.setDrawn d) m (([.ref q_t, .int x1] : List Value).toArray) below meth c H locs 0 0 (MQD lw_cs below (zs_Qi (fun u : (Nat → UInt32) × (Nat → UInt32) => rs_all v_t_swings v_t_pull v_t_stiffness my x1 v_t_angles v_t_speeds u.1 u.2) (fun _ => my) D (fun u => [(q_t, .inr (13, [.int th, .ref q_t_answers, .ref q_t_links, .ref q_t_now, .ref q_t_flashed, .ref q_t_last, .int v_t_noise, .long v_t_z, .ref q_t_start, .ref q_t_slow, .ref q_t_fast, .int v_t_lead, .int v_t_cycle, .ref q_t_beats, .ref q_t_areApart, .ref q_t_marks, .ref q_t_swings, .ref q_t_angles, .ref q_t_speeds, .int v_t_stiffness, .int v_t_pull])), (q_t_swings, .inl (T 1, 4, .inl v_t_swings)), (q_t_angles, .inl (T 3, 4, .inr (.inr (.inl u.1)))), (q_t_speeds, .inl (T 3, 4, .inr (.inr (.inl u.2))))]) A A) (([.ref q_t, .int x1] : List Value).toArray) s 0 0 A) (F0 m 54 ls []) from K1 4 0 _ rfl (fun _ h9 => h9) d H locs ls hd hP hD hS hl
      intro j
      induction j with
      | zero =>
        intro i1 s1 hj hs1 d H locs ls hd hP hD hS hl
        obtain rfl : i1 = 4 := by omega
        have hts := dr_words hts0 d
        have hK : va_K D vwCl (zr_ty T) (s.setDrawn d) := hK0
        refine lv_iload hx hb dX8_sway_54 (lv_at hl 0 rfl) ?_
        refine lv_iconst (v := (4 : Int32)) hx hb dX8_sway_56 (by decide) ?_
        refine lv_icmp_ge (tgt := 93) hx hb dX8_sway_57 (by decide) (fun _ => ?_) (fun c9 => absurd (show nI 4 ≤ nI 4 from nI_le (Nat.le_refl _) (by omega)) c9)
        refine lv_fload hx hb dX8_sway_93 (lv_at hl 1 rfl) ?_
        refine lv_iload_n hx hb dX8_sway_95 rfl (lv_at hl 5 rfl) ?_
        refine lv_i2f hx hb dX8_sway_96 ?_
        refine lv_fdiv_any hd lw_bits hx hb dX8_sway_97 (fun mean d1 hmean hd1 => ?_)
        have hts := dr_words hts0 d1
        have hK : va_K D vwCl (zr_ty T) (s.setDrawn d1) := hK0
        refine lv_fstore (lv' := [(5, .float mean), (4, .float s1), (3, .int (nI i)), (0, .ref q_t), (1, .int x1), (2, .int my)]) hx hb dX8_sway_98 hl (by decide) rfl (fun ls hl => ?_)
        refine lv_iconst (v := (0 : Int32)) hx hb dX8_sway_100 (by decide) ?_
        refine lv_istore (lv' := [(6, .int (nI 0)), (5, .float mean), (4, .float s1), (3, .int (nI i)), (0, .ref q_t), (1, .int x1), (2, .int my)]) hx hb dX8_sway_101 hl (by decide) rfl (fun ls hl => ?_)
        have hsum := hs1 s1 rfl
        suffices K2 : ∀ (j i1 : Nat) (sp1 : Nat → UInt32), i1 + j = 4 → (∀ sp2, rs_sp v_t_swings a v_t_pull v_t_stiffness mean j i1 sp1 sp2 → rs_sp v_t_swings a v_t_pull v_t_stiffness mean 4 0 sp sp2) → ∀ (d : Drawn) (H : Heap) (locs : List Loc) (ls : Array Slot), s.drawn.sameBut d lw_cs → va_P D vwCl [(q_t, .inr (13, [.int th, .ref q_t_answers, .ref q_t_links, .ref q_t_now, .ref q_t_flashed, .ref q_t_last, .int v_t_noise, .long v_t_z, .ref q_t_start, .ref q_t_slow, .ref q_t_fast, .int v_t_lead, .int v_t_cycle, .ref q_t_beats, .ref q_t_areApart, .ref q_t_marks, .ref q_t_swings, .ref q_t_angles, .ref q_t_speeds, .int v_t_stiffness, .int v_t_pull])), (q_t_swings, .inl (T 1, 4, .inl v_t_swings)), (q_t_angles, .inl (T 3, 4, .inr (.inr (.inl a)))), (q_t_speeds, .inl (T 3, 4, .inr (.inr (.inl sp1))))] H → va_D A [(q_t, .inr (13, [.int th, .ref q_t_answers, .ref q_t_links, .ref q_t_now, .ref q_t_flashed, .ref q_t_last, .int v_t_noise, .long v_t_z, .ref q_t_start, .ref q_t_slow, .ref q_t_fast, .int v_t_lead, .int v_t_cycle, .ref q_t_beats, .ref q_t_areApart, .ref q_t_marks, .ref q_t_swings, .ref q_t_angles, .ref q_t_speeds, .int v_t_stiffness, .int v_t_pull])), (q_t_swings, .inl (T 1, 4, .inl v_t_swings)), (q_t_angles, .inl (T 3, 4, .inr (.inr (.inl a)))), (q_t_speeds, .inl (T 3, 4, .inr (.inr (.inl sp1))))] → va_S A s.heap H locs → lv_has ls 8 [(6, .int (nI i1)), (5, .float mean), (4, .float s1), (3, .int (nI i)), (0, .ref q_t), (1, .int x1), (2, .int my)] → W p l e ({ frames := 4, cells := 0, slots := 0, locals := 120 } : Room) (s.setDrawn d) m (([.ref q_t, .int x1] : List Value).toArray) below meth c H locs 0 0 (MQD lw_cs below (zs_Qi (fun u : (Nat → UInt32) × (Nat → UInt32) => rs_all v_t_swings v_t_pull v_t_stiffness my x1 v_t_angles v_t_speeds u.1 u.2) (fun _ => my) D (fun u => [(q_t, .inr (13, [.int th, .ref q_t_answers, .ref q_t_links, .ref q_t_now, .ref q_t_flashed, .ref q_t_last, .int v_t_noise, .long v_t_z, .ref q_t_start, .ref q_t_slow, .ref q_t_fast, .int v_t_lead, .int v_t_cycle, .ref q_t_beats, .ref q_t_areApart, .ref q_t_marks, .ref q_t_swings, .ref q_t_angles, .ref q_t_speeds, .int v_t_stiffness, .int v_t_pull])), (q_t_swings, .inl (T 1, 4, .inl v_t_swings)), (q_t_angles, .inl (T 3, 4, .inr (.inr (.inl u.1)))), (q_t_speeds, .inl (T 3, 4, .inr (.inr (.inl u.2))))]) A A) (([.ref q_t, .int x1] : List Value).toArray) s 0 0 A) (F0 m 103 ls []) from K2 4 0 sp rfl (fun _ h9 => h9) d1 H locs ls hd1 hP hD hS hl
        clear hl hS hD hP
        intro j
        induction j with
        | zero =>
          intro i1 sp1 hj hsp1 d H locs ls hd hP hD hS hl
          obtain rfl : i1 = 4 := by omega
          have hts := dr_words hts0 d
          have hK : va_K D vwCl (zr_ty T) (s.setDrawn d) := hK0
          refine lv_iload hx hb dX8_sway_103 (lv_at hl 0 rfl) ?_
          refine lv_iconst (v := (4 : Int32)) hx hb dX8_sway_105 (by decide) ?_
          refine lv_icmp_ge (tgt := 188) hx hb dX8_sway_106 (by decide) (fun _ => ?_) (fun c9 => absurd (show nI 4 ≤ nI 4 from nI_le (Nat.le_refl _) (by omega)) c9)
          refine lv_iconst (v := (0 : Int32)) hx hb dX8_sway_188 (by decide) ?_
          refine lv_istore (lv' := [(6, .int (nI 0)), (5, .float mean), (4, .float s1), (3, .int (nI i)), (0, .ref q_t), (1, .int x1), (2, .int my)]) hx hb dX8_sway_189 hl (by decide) rfl (fun ls hl => ?_)
          have hspe := hsp1 sp1 rfl
          suffices K3 : ∀ (j i1 : Nat) (a1 : Nat → UInt32), i1 + j = 4 → (∀ a2, rs_an v_t_swings sp1 j i1 a1 a2 → rs_an v_t_swings sp1 4 0 a a2) → ∀ (d : Drawn) (H : Heap) (locs : List Loc) (ls : Array Slot), s.drawn.sameBut d lw_cs → va_P D vwCl [(q_t, .inr (13, [.int th, .ref q_t_answers, .ref q_t_links, .ref q_t_now, .ref q_t_flashed, .ref q_t_last, .int v_t_noise, .long v_t_z, .ref q_t_start, .ref q_t_slow, .ref q_t_fast, .int v_t_lead, .int v_t_cycle, .ref q_t_beats, .ref q_t_areApart, .ref q_t_marks, .ref q_t_swings, .ref q_t_angles, .ref q_t_speeds, .int v_t_stiffness, .int v_t_pull])), (q_t_swings, .inl (T 1, 4, .inl v_t_swings)), (q_t_angles, .inl (T 3, 4, .inr (.inr (.inl a1)))), (q_t_speeds, .inl (T 3, 4, .inr (.inr (.inl sp1))))] H → va_D A [(q_t, .inr (13, [.int th, .ref q_t_answers, .ref q_t_links, .ref q_t_now, .ref q_t_flashed, .ref q_t_last, .int v_t_noise, .long v_t_z, .ref q_t_start, .ref q_t_slow, .ref q_t_fast, .int v_t_lead, .int v_t_cycle, .ref q_t_beats, .ref q_t_areApart, .ref q_t_marks, .ref q_t_swings, .ref q_t_angles, .ref q_t_speeds, .int v_t_stiffness, .int v_t_pull])), (q_t_swings, .inl (T 1, 4, .inl v_t_swings)), (q_t_angles, .inl (T 3, 4, .inr (.inr (.inl a1)))), (q_t_speeds, .inl (T 3, 4, .inr (.inr (.inl sp1))))] → va_S A s.heap H locs → lv_has ls 8 [(6, .int (nI i1)), (5, .float mean), (4, .float s1), (3, .int (nI i)), (0, .ref q_t), (1, .int x1), (2, .int my)] → W p l e ({ frames := 4, cells := 0, slots := 0, locals := 120 } : Room) (s.setDrawn d) m (([.ref q_t, .int x1] : List Value).toArray) below meth c H locs 0 0 (MQD lw_cs below (zs_Qi (fun u : (Nat → UInt32) × (Nat → UInt32) => rs_all v_t_swings v_t_pull v_t_stiffness my x1 v_t_angles v_t_speeds u.1 u.2) (fun _ => my) D (fun u => [(q_t, .inr (13, [.int th, .ref q_t_answers, .ref q_t_links, .ref q_t_now, .ref q_t_flashed, .ref q_t_last, .int v_t_noise, .long v_t_z, .ref q_t_start, .ref q_t_slow, .ref q_t_fast, .int v_t_lead, .int v_t_cycle, .ref q_t_beats, .ref q_t_areApart, .ref q_t_marks, .ref q_t_swings, .ref q_t_angles, .ref q_t_speeds, .int v_t_stiffness, .int v_t_pull])), (q_t_swings, .inl (T 1, 4, .inl v_t_swings)), (q_t_angles, .inl (T 3, 4, .inr (.inr (.inl u.1)))), (q_t_speeds, .inl (T 3, 4, .inr (.inr (.inl u.2))))]) A A) (([.ref q_t, .int x1] : List Value).toArray) s 0 0 A) (F0 m 191 ls []) from K3 4 0 a rfl (fun _ h9 => h9) d H locs ls hd hP hD hS hl
          clear hl hS hD hP
          intro j
          induction j with
          | zero =>
            intro i1 a1 hj ha1 d H locs ls hd hP hD hS hl
            obtain rfl : i1 = 4 := by omega
            have hts := dr_words hts0 d
            have hK : va_K D vwCl (zr_ty T) (s.setDrawn d) := hK0
            refine lv_iload hx hb dX8_sway_191 (lv_at hl 0 rfl) ?_
            refine lv_iconst (v := (4 : Int32)) hx hb dX8_sway_193 (by decide) ?_
            refine lv_icmp_ge (tgt := 249) hx hb dX8_sway_194 (by decide) (fun _ => ?_) (fun c9 => absurd (show nI 4 ≤ nI 4 from nI_le (Nat.le_refl _) (by omega)) c9)
            refine lv_iinc (v := nI i + (1 : Int32)) (lv' := [(3, .int (nI i + (1 : Int32))), (6, .int (nI 4)), (5, .float mean), (4, .float s1), (0, .ref q_t), (1, .int x1), (2, .int my)]) hx hb dX8_sway_249 hl (k := 3) rfl rfl (by decide) rfl (fun ls hl => ?_)
            rw [nI_1] at hl
            refine lv_goto (tgt := 39) hx hb dX8_sway_252 (by decide) ?_
            exact ih (i + 1) a1 sp1 hmy (by rw [hx1]; congr 1; omega) (by omega) (fun a2 sp2 hr9 => hR a2 sp2 ⟨a1, sp1, ⟨s1, mean, hsum, hmean, hspe, ha1 a1 rfl⟩, hr9⟩) d H locs ls hd hP hD hS (lv_sub hl [0, 4, 5, 6] rfl)
          | succ j ih3 =>
            intro i1 a1 hj ha1 d H locs ls hd hP hD hS hl
            have hts := dr_words hts0 d
            have hK : va_K D vwCl (zr_ty T) (s.setDrawn d) := hK0
            have hi1 : i1 < 4 := by omega
            have ei1 : (nI i1).toNatClampNeg = i1 := nI_clamp (by omega)
            refine lv_iload hx hb dX8_sway_191 (lv_at hl 0 rfl) ?_
            refine lv_iconst (v := (4 : Int32)) hx hb dX8_sway_193 (by decide) ?_
            refine lv_icmp_ge (tgt := 249) hx hb dX8_sway_194 (by decide) (fun c9 => absurd c9 (show ¬ nI 4 ≤ nI i1 from nI_ge (by omega) (by omega))) (fun _ => ?_)
            refine lv_aload_n hx hb dX8_sway_197 rfl (lv_at hl 4 rfl) ?_
            refine va_get (D := D) (ci := 13) (v := .ref q_t_angles) (C := RX8) (T := TX8) (N := 21) hx hb hts iX8_sway_X8 hown hK hP 0 rfl rfl 17 (by decide) (hts (.fieldLink RX8 65 "PulseMeadowModel" "angles" "[F") (by decide +kernel)) (fun _ h9 => h9) rfl dX8_sway_198 ?_
            refine lv_iload hx hb dX8_sway_201 (lv_at hl 0 rfl) ?_
            refine lv_aload_n hx hb dX8_sway_203 rfl (lv_at hl 4 rfl) ?_
            refine va_get (D := D) (ci := 13) (v := .ref q_t_swings) (C := RX8) (T := TX8) (N := 21) hx hb hts iX8_sway_X8 hown hK hP 0 rfl rfl 16 (by decide) (hts (.fieldLink RX8 61 "PulseMeadowModel" "swings" "[Z") (by decide +kernel)) (fun _ h9 => h9) rfl dX8_sway_204 ?_
            refine lv_iload hx hb dX8_sway_207 (lv_at hl 0 rfl) ?_
            refine va_zald hx hb hK hP 1 1 rfl rfl (nI_in hi1 (by omega)) dX8_sway_209 ?_
            rw [ei1]
            suffices KS : ∀ (x : UInt32), (v_t_swings i1 = 0 → x = a1 i1) → (¬ v_t_swings i1 = 0 → ∃ q : UInt32, rs_al q (FP.fmul (1008981770 : UInt32) (sp1 i1)) ∧ rs_al x (FP.fadd (a1 i1) q)) → ∀ (d : Drawn), s.drawn.sameBut d lw_cs → W p l e ({ frames := 4, cells := 0, slots := 0, locals := 120 } : Room) (s.setDrawn d) m (([.ref q_t, .int x1] : List Value).toArray) below meth c H locs 0 0 (MQD lw_cs below (zs_Qi (fun u : (Nat → UInt32) × (Nat → UInt32) => rs_all v_t_swings v_t_pull v_t_stiffness my x1 v_t_angles v_t_speeds u.1 u.2) (fun _ => my) D (fun u => [(q_t, .inr (13, [.int th, .ref q_t_answers, .ref q_t_links, .ref q_t_now, .ref q_t_flashed, .ref q_t_last, .int v_t_noise, .long v_t_z, .ref q_t_start, .ref q_t_slow, .ref q_t_fast, .int v_t_lead, .int v_t_cycle, .ref q_t_beats, .ref q_t_areApart, .ref q_t_marks, .ref q_t_swings, .ref q_t_angles, .ref q_t_speeds, .int v_t_stiffness, .int v_t_pull])), (q_t_swings, .inl (T 1, 4, .inl v_t_swings)), (q_t_angles, .inl (T 3, 4, .inr (.inr (.inl u.1)))), (q_t_speeds, .inl (T 3, 4, .inr (.inr (.inl u.2))))]) A A) (([.ref q_t, .int x1] : List Value).toArray) s 0 0 A) (F0 m 242 ls [.float x, .int (nI i1), .ref q_t_angles]) by
              refine lv_if_eq (tgt := 235) hx hb dX8_sway_210 (by decide) (fun c9 => ?_) (fun c9 => ?_)
              · refine lv_aload_n hx hb dX8_sway_235 rfl (lv_at hl 4 rfl) ?_
                refine va_get (D := D) (ci := 13) (v := .ref q_t_angles) (C := RX8) (T := TX8) (N := 21) hx hb hts iX8_sway_X8 hown hK hP 0 rfl rfl 17 (by decide) (hts (.fieldLink RX8 65 "PulseMeadowModel" "angles" "[F") (by decide +kernel)) (fun _ h9 => h9) rfl dX8_sway_236 ?_
                refine lv_iload hx hb dX8_sway_239 (lv_at hl 0 rfl) ?_
                refine va_fald hx hb hK hP 2 3 rfl rfl (nI_in hi1 (by omega)) dX8_sway_241 ?_
                rw [ei1]
                exact KS _ (fun _ => rfl) (fun q9 => absurd c9 q9) d hd
              · refine lv_aload_n hx hb dX8_sway_213 rfl (lv_at hl 4 rfl) ?_
                refine va_get (D := D) (ci := 13) (v := .ref q_t_angles) (C := RX8) (T := TX8) (N := 21) hx hb hts iX8_sway_X8 hown hK hP 0 rfl rfl 17 (by decide) (hts (.fieldLink RX8 65 "PulseMeadowModel" "angles" "[F") (by decide +kernel)) (fun _ h9 => h9) rfl dX8_sway_214 ?_
                refine lv_iload hx hb dX8_sway_217 (lv_at hl 0 rfl) ?_
                refine va_fald hx hb hK hP 2 3 rfl rfl (nI_in hi1 (by omega)) dX8_sway_219 ?_
                rw [ei1]
                refine lv_ldcwf (v := (1008981770 : UInt32)) hx hb hown (hts (.constantFloat RX8 283 (1008981770 : UInt32)) (by decide +kernel)) dX8_sway_220 ?_
                refine lv_aload_n hx hb dX8_sway_223 rfl (lv_at hl 4 rfl) ?_
                refine va_get (D := D) (ci := 13) (v := .ref q_t_speeds) (C := RX8) (T := TX8) (N := 21) hx hb hts iX8_sway_X8 hown hK hP 0 rfl rfl 18 (by decide) (hts (.fieldLink RX8 69 "PulseMeadowModel" "speeds" "[F") (by decide +kernel)) (fun _ h9 => h9) rfl dX8_sway_224 ?_
                refine lv_iload hx hb dX8_sway_227 (lv_at hl 0 rfl) ?_
                refine va_fald hx hb hK hP 3 3 rfl rfl (nI_in hi1 (by omega)) dX8_sway_229 ?_
                rw [ei1]
                refine lv_fmul_any hd lw_bits hx hb dX8_sway_230 (fun q d2 hq hd2 => ?_)
                refine lv_fadd_any hd2 lw_bits hx hb dX8_sway_231 (fun x d3 hx9 hd3 => ?_)
                refine lv_goto (tgt := 242) hx hb dX8_sway_232 (by decide) ?_
                exact KS x (fun q9 => absurd q9 c9) (fun _ => ⟨q, hq, hx9⟩) d3 hd3
            intro x hx0 hx9 d hd
            have hts := dr_words hts0 d
            have hK : va_K D vwCl (zr_ty T) (s.setDrawn d) := hK0
            refine va_fast hx hb hK hP hD hS 2 3 rfl rfl (nI_in hi1 (by omega)) dX8_sway_242 (fun H locs hP hD hS => ?_)
            rw [ei1] at hP hD
            have hP : va_P D vwCl [(q_t, .inr (13, [.int th, .ref q_t_answers, .ref q_t_links, .ref q_t_now, .ref q_t_flashed, .ref q_t_last, .int v_t_noise, .long v_t_z, .ref q_t_start, .ref q_t_slow, .ref q_t_fast, .int v_t_lead, .int v_t_cycle, .ref q_t_beats, .ref q_t_areApart, .ref q_t_marks, .ref q_t_swings, .ref q_t_angles, .ref q_t_speeds, .int v_t_stiffness, .int v_t_pull])), (q_t_swings, .inl (T 1, 4, .inl v_t_swings)), (q_t_angles, .inl (T 3, 4, .inr (.inr (.inl (vf_upd a1 i1 x))))), (q_t_speeds, .inl (T 3, 4, .inr (.inr (.inl sp1))))] H := hP
            have hD : va_D A [(q_t, .inr (13, [.int th, .ref q_t_answers, .ref q_t_links, .ref q_t_now, .ref q_t_flashed, .ref q_t_last, .int v_t_noise, .long v_t_z, .ref q_t_start, .ref q_t_slow, .ref q_t_fast, .int v_t_lead, .int v_t_cycle, .ref q_t_beats, .ref q_t_areApart, .ref q_t_marks, .ref q_t_swings, .ref q_t_angles, .ref q_t_speeds, .int v_t_stiffness, .int v_t_pull])), (q_t_swings, .inl (T 1, 4, .inl v_t_swings)), (q_t_angles, .inl (T 3, 4, .inr (.inr (.inl (vf_upd a1 i1 x))))), (q_t_speeds, .inl (T 3, 4, .inr (.inr (.inl sp1))))] := hD
            refine lv_iinc (v := nI i1 + (1 : Int32)) (lv' := [(6, .int (nI i1 + (1 : Int32))), (5, .float mean), (4, .float s1), (3, .int (nI i)), (0, .ref q_t), (1, .int x1), (2, .int my)]) hx hb dX8_sway_243 hl (k := 0) rfl rfl (by decide) rfl (fun ls hl => ?_)
            rw [nI_1] at hl
            refine lv_goto (tgt := 191) hx hb dX8_sway_246 (by decide) ?_
            exact ih3 (i1 + 1) (vf_upd a1 i1 x) (by omega) (fun a2 hr9 => ha1 a2 ⟨x, hx0, hx9, hr9⟩) d H locs ls hd hP hD hS hl
        | succ j ih2 =>
          intro i1 sp1 hj hsp1 d H locs ls hd hP hD hS hl
          have hts := dr_words hts0 d
          have hK : va_K D vwCl (zr_ty T) (s.setDrawn d) := hK0
          have hi1 : i1 < 4 := by omega
          have ei1 : (nI i1).toNatClampNeg = i1 := nI_clamp (by omega)
          refine lv_iload hx hb dX8_sway_103 (lv_at hl 0 rfl) ?_
          refine lv_iconst (v := (4 : Int32)) hx hb dX8_sway_105 (by decide) ?_
          refine lv_icmp_ge (tgt := 188) hx hb dX8_sway_106 (by decide) (fun c9 => absurd c9 (show ¬ nI 4 ≤ nI i1 from nI_ge (by omega) (by omega))) (fun _ => ?_)
          refine lv_aload_n hx hb dX8_sway_109 rfl (lv_at hl 4 rfl) ?_
          refine va_get (D := D) (ci := 13) (v := .int v_t_pull) (C := RX8) (T := TX8) (N := 21) hx hb hts iX8_sway_X8 hown hK hP 0 rfl rfl 20 (by decide) (hts (.fieldLink RX8 277 "PulseMeadowModel" "pull" "I") (by decide +kernel)) (fun _ h9 => h9) rfl dX8_sway_110 ?_
          refine lv_i2f hx hb dX8_sway_113 ?_
          refine lv_fload hx hb dX8_sway_114 (lv_at hl 1 rfl) ?_
          refine lv_aload_n hx hb dX8_sway_116 rfl (lv_at hl 4 rfl) ?_
          refine va_get (D := D) (ci := 13) (v := .ref q_t_angles) (C := RX8) (T := TX8) (N := 21) hx hb hts iX8_sway_X8 hown hK hP 0 rfl rfl 17 (by decide) (hts (.fieldLink RX8 65 "PulseMeadowModel" "angles" "[F") (by decide +kernel)) (fun _ h9 => h9) rfl dX8_sway_117 ?_
          refine lv_iload hx hb dX8_sway_120 (lv_at hl 0 rfl) ?_
          refine va_fald hx hb hK hP 2 3 rfl rfl (nI_in hi1 (by omega)) dX8_sway_122 ?_
          rw [ei1]
          refine lv_fsub_any hd lw_bits hx hb dX8_sway_123 (fun d1 e1 hd9 he1 => ?_)
          have hts := dr_words hts0 e1
          have hK : va_K D vwCl (zr_ty T) (s.setDrawn e1) := hK0
          refine lv_fmul_any he1 lw_bits hx hb dX8_sway_124 (fun m1 e2 hm9 he2 => ?_)
          have hts := dr_words hts0 e2
          have hK : va_K D vwCl (zr_ty T) (s.setDrawn e2) := hK0
          refine lv_aload_n hx hb dX8_sway_125 rfl (lv_at hl 4 rfl) ?_
          refine va_get (D := D) (ci := 13) (v := .int v_t_stiffness) (C := RX8) (T := TX8) (N := 21) hx hb hts iX8_sway_X8 hown hK hP 0 rfl rfl 19 (by decide) (hts (.fieldLink RX8 72 "PulseMeadowModel" "stiffness" "I") (by decide +kernel)) (fun _ h9 => h9) rfl dX8_sway_126 ?_
          refine lv_i2f hx hb dX8_sway_129 ?_
          refine lv_aload_n hx hb dX8_sway_130 rfl (lv_at hl 4 rfl) ?_
          refine va_get (D := D) (ci := 13) (v := .ref q_t_angles) (C := RX8) (T := TX8) (N := 21) hx hb hts iX8_sway_X8 hown hK hP 0 rfl rfl 17 (by decide) (hts (.fieldLink RX8 65 "PulseMeadowModel" "angles" "[F") (by decide +kernel)) (fun _ h9 => h9) rfl dX8_sway_131 ?_
          refine lv_iload hx hb dX8_sway_134 (lv_at hl 0 rfl) ?_
          refine va_fald hx hb hK hP 2 3 rfl rfl (nI_in hi1 (by omega)) dX8_sway_136 ?_
          rw [ei1]
          refine lv_fmul_any he2 lw_bits hx hb dX8_sway_137 (fun h1 e3 hh9 he3 => ?_)
          refine lv_fsub_any he3 lw_bits hx hb dX8_sway_138 (fun f e4 hf9 he4 => ?_)
          have hts := dr_words hts0 e4
          have hK : va_K D vwCl (zr_ty T) (s.setDrawn e4) := hK0
          refine lv_fstore (lv' := [(7, .float f), (6, .int (nI i1)), (5, .float mean), (4, .float s1), (3, .int (nI i)), (0, .ref q_t), (1, .int x1), (2, .int my)]) hx hb dX8_sway_139 hl (by decide) rfl (fun ls hl => ?_)
          refine lv_aload_n hx hb dX8_sway_141 rfl (lv_at hl 5 rfl) ?_
          refine va_get (D := D) (ci := 13) (v := .ref q_t_speeds) (C := RX8) (T := TX8) (N := 21) hx hb hts iX8_sway_X8 hown hK hP 0 rfl rfl 18 (by decide) (hts (.fieldLink RX8 69 "PulseMeadowModel" "speeds" "[F") (by decide +kernel)) (fun _ h9 => h9) rfl dX8_sway_142 ?_
          refine lv_iload hx hb dX8_sway_145 (lv_at hl 1 rfl) ?_
          refine lv_aload_n hx hb dX8_sway_147 rfl (lv_at hl 5 rfl) ?_
          refine va_get (D := D) (ci := 13) (v := .ref q_t_swings) (C := RX8) (T := TX8) (N := 21) hx hb hts iX8_sway_X8 hown hK hP 0 rfl rfl 16 (by decide) (hts (.fieldLink RX8 61 "PulseMeadowModel" "swings" "[Z") (by decide +kernel)) (fun _ h9 => h9) rfl dX8_sway_148 ?_
          refine lv_iload hx hb dX8_sway_151 (lv_at hl 1 rfl) ?_
          refine va_zald hx hb hK hP 1 1 rfl rfl (nI_in hi1 (by omega)) dX8_sway_153 ?_
          rw [ei1]
          suffices KS : ∀ (x : UInt32), (v_t_swings i1 = 0 → x = sp1 i1) → (¬ v_t_swings i1 = 0 → ∃ q : UInt32, rs_al q (FP.fmul (1008981770 : UInt32) f) ∧ rs_al x (FP.fadd (sp1 i1) q)) → ∀ (d : Drawn), s.drawn.sameBut d lw_cs → W p l e ({ frames := 4, cells := 0, slots := 0, locals := 120 } : Room) (s.setDrawn d) m (([.ref q_t, .int x1] : List Value).toArray) below meth c H locs 0 0 (MQD lw_cs below (zs_Qi (fun u : (Nat → UInt32) × (Nat → UInt32) => rs_all v_t_swings v_t_pull v_t_stiffness my x1 v_t_angles v_t_speeds u.1 u.2) (fun _ => my) D (fun u => [(q_t, .inr (13, [.int th, .ref q_t_answers, .ref q_t_links, .ref q_t_now, .ref q_t_flashed, .ref q_t_last, .int v_t_noise, .long v_t_z, .ref q_t_start, .ref q_t_slow, .ref q_t_fast, .int v_t_lead, .int v_t_cycle, .ref q_t_beats, .ref q_t_areApart, .ref q_t_marks, .ref q_t_swings, .ref q_t_angles, .ref q_t_speeds, .int v_t_stiffness, .int v_t_pull])), (q_t_swings, .inl (T 1, 4, .inl v_t_swings)), (q_t_angles, .inl (T 3, 4, .inr (.inr (.inl u.1)))), (q_t_speeds, .inl (T 3, 4, .inr (.inr (.inl u.2))))]) A A) (([.ref q_t, .int x1] : List Value).toArray) s 0 0 A) (F0 m 181 ls [.float x, .int (nI i1), .ref q_t_speeds]) by
            refine lv_if_eq (tgt := 174) hx hb dX8_sway_154 (by decide) (fun c9 => ?_) (fun c9 => ?_)
            · refine lv_aload_n hx hb dX8_sway_174 rfl (lv_at hl 5 rfl) ?_
              refine va_get (D := D) (ci := 13) (v := .ref q_t_speeds) (C := RX8) (T := TX8) (N := 21) hx hb hts iX8_sway_X8 hown hK hP 0 rfl rfl 18 (by decide) (hts (.fieldLink RX8 69 "PulseMeadowModel" "speeds" "[F") (by decide +kernel)) (fun _ h9 => h9) rfl dX8_sway_175 ?_
              refine lv_iload hx hb dX8_sway_178 (lv_at hl 1 rfl) ?_
              refine va_fald hx hb hK hP 3 3 rfl rfl (nI_in hi1 (by omega)) dX8_sway_180 ?_
              rw [ei1]
              exact KS _ (fun _ => rfl) (fun q9 => absurd c9 q9) e4 he4
            · refine lv_aload_n hx hb dX8_sway_157 rfl (lv_at hl 5 rfl) ?_
              refine va_get (D := D) (ci := 13) (v := .ref q_t_speeds) (C := RX8) (T := TX8) (N := 21) hx hb hts iX8_sway_X8 hown hK hP 0 rfl rfl 18 (by decide) (hts (.fieldLink RX8 69 "PulseMeadowModel" "speeds" "[F") (by decide +kernel)) (fun _ h9 => h9) rfl dX8_sway_158 ?_
              refine lv_iload hx hb dX8_sway_161 (lv_at hl 1 rfl) ?_
              refine va_fald hx hb hK hP 3 3 rfl rfl (nI_in hi1 (by omega)) dX8_sway_163 ?_
              rw [ei1]
              refine lv_ldcwf (v := (1008981770 : UInt32)) hx hb hown (hts (.constantFloat RX8 283 (1008981770 : UInt32)) (by decide +kernel)) dX8_sway_164 ?_
              refine lv_fload hx hb dX8_sway_167 (lv_at hl 0 rfl) ?_
              refine lv_fmul_any he4 lw_bits hx hb dX8_sway_169 (fun q d2 hq hd2 => ?_)
              refine lv_fadd_any hd2 lw_bits hx hb dX8_sway_170 (fun x d3 hx9 hd3 => ?_)
              refine lv_goto (tgt := 181) hx hb dX8_sway_171 (by decide) ?_
              exact KS x (fun q9 => absurd q9 c9) (fun _ => ⟨q, hq, hx9⟩) d3 hd3
          intro x hx0 hx9 d hd
          have hts := dr_words hts0 d
          have hK : va_K D vwCl (zr_ty T) (s.setDrawn d) := hK0
          refine va_fast hx hb hK hP hD hS 3 3 rfl rfl (nI_in hi1 (by omega)) dX8_sway_181 (fun H locs hP hD hS => ?_)
          rw [ei1] at hP hD
          have hP : va_P D vwCl [(q_t, .inr (13, [.int th, .ref q_t_answers, .ref q_t_links, .ref q_t_now, .ref q_t_flashed, .ref q_t_last, .int v_t_noise, .long v_t_z, .ref q_t_start, .ref q_t_slow, .ref q_t_fast, .int v_t_lead, .int v_t_cycle, .ref q_t_beats, .ref q_t_areApart, .ref q_t_marks, .ref q_t_swings, .ref q_t_angles, .ref q_t_speeds, .int v_t_stiffness, .int v_t_pull])), (q_t_swings, .inl (T 1, 4, .inl v_t_swings)), (q_t_angles, .inl (T 3, 4, .inr (.inr (.inl a)))), (q_t_speeds, .inl (T 3, 4, .inr (.inr (.inl (vf_upd sp1 i1 x)))))] H := hP
          have hD : va_D A [(q_t, .inr (13, [.int th, .ref q_t_answers, .ref q_t_links, .ref q_t_now, .ref q_t_flashed, .ref q_t_last, .int v_t_noise, .long v_t_z, .ref q_t_start, .ref q_t_slow, .ref q_t_fast, .int v_t_lead, .int v_t_cycle, .ref q_t_beats, .ref q_t_areApart, .ref q_t_marks, .ref q_t_swings, .ref q_t_angles, .ref q_t_speeds, .int v_t_stiffness, .int v_t_pull])), (q_t_swings, .inl (T 1, 4, .inl v_t_swings)), (q_t_angles, .inl (T 3, 4, .inr (.inr (.inl a)))), (q_t_speeds, .inl (T 3, 4, .inr (.inr (.inl (vf_upd sp1 i1 x)))))] := hD
          refine lv_iinc (v := nI i1 + (1 : Int32)) (lv' := [(6, .int (nI i1 + (1 : Int32))), (7, .float f), (5, .float mean), (4, .float s1), (3, .int (nI i)), (0, .ref q_t), (1, .int x1), (2, .int my)]) hx hb dX8_sway_182 hl (k := 1) rfl rfl (by decide) rfl (fun ls hl => ?_)
          rw [nI_1] at hl
          refine lv_goto (tgt := 103) hx hb dX8_sway_185 (by decide) ?_
          exact ih2 (i1 + 1) (vf_upd sp1 i1 x) (by omega) (fun sp2 hr9 => hsp1 sp2 ⟨d1, m1, h1, f, x, hd9, hm9, hh9, hf9, hx0, hx9, hr9⟩) d H locs ls hd hP hD hS (lv_sub hl [0, 2, 3, 4, 5, 6, 7] rfl)
      | succ j ih1 =>
        intro i1 s1 hj hs1 d H locs ls hd hP hD hS hl
        have hts := dr_words hts0 d
        have hK : va_K D vwCl (zr_ty T) (s.setDrawn d) := hK0
        have hi1 : i1 < 4 := by omega
        have ei1 : (nI i1).toNatClampNeg = i1 := nI_clamp (by omega)
        refine lv_iload hx hb dX8_sway_54 (lv_at hl 0 rfl) ?_
        refine lv_iconst (v := (4 : Int32)) hx hb dX8_sway_56 (by decide) ?_
        refine lv_icmp_ge (tgt := 93) hx hb dX8_sway_57 (by decide) (fun c9 => absurd c9 (show ¬ nI 4 ≤ nI i1 from nI_ge (by omega) (by omega))) (fun _ => ?_)
        refine lv_aload_n hx hb dX8_sway_60 rfl (lv_at hl 3 rfl) ?_
        refine va_get (D := D) (ci := 13) (v := .ref q_t_swings) (C := RX8) (T := TX8) (N := 21) hx hb hts iX8_sway_X8 hown hK hP 0 rfl rfl 16 (by decide) (hts (.fieldLink RX8 61 "PulseMeadowModel" "swings" "[Z") (by decide +kernel)) (fun _ h9 => h9) rfl dX8_sway_61 ?_
        refine lv_iload hx hb dX8_sway_64 (lv_at hl 0 rfl) ?_
        refine va_zald hx hb hK hP 1 1 rfl rfl (nI_in hi1 (by omega)) dX8_sway_66 ?_
        rw [ei1]
        suffices KS : ∀ (x : UInt32), (v_t_swings i1 = 0 → x = s1) → (¬ v_t_swings i1 = 0 → rs_al x (FP.fadd s1 (a i1))) → ∀ (d : Drawn), s.drawn.sameBut d lw_cs → W p l e ({ frames := 4, cells := 0, slots := 0, locals := 120 } : Room) (s.setDrawn d) m (([.ref q_t, .int x1] : List Value).toArray) below meth c H locs 0 0 (MQD lw_cs below (zs_Qi (fun u : (Nat → UInt32) × (Nat → UInt32) => rs_all v_t_swings v_t_pull v_t_stiffness my x1 v_t_angles v_t_speeds u.1 u.2) (fun _ => my) D (fun u => [(q_t, .inr (13, [.int th, .ref q_t_answers, .ref q_t_links, .ref q_t_now, .ref q_t_flashed, .ref q_t_last, .int v_t_noise, .long v_t_z, .ref q_t_start, .ref q_t_slow, .ref q_t_fast, .int v_t_lead, .int v_t_cycle, .ref q_t_beats, .ref q_t_areApart, .ref q_t_marks, .ref q_t_swings, .ref q_t_angles, .ref q_t_speeds, .int v_t_stiffness, .int v_t_pull])), (q_t_swings, .inl (T 1, 4, .inl v_t_swings)), (q_t_angles, .inl (T 3, 4, .inr (.inr (.inl u.1)))), (q_t_speeds, .inl (T 3, 4, .inr (.inr (.inl u.2))))]) A A) (([.ref q_t, .int x1] : List Value).toArray) s 0 0 A) (F0 m 85 ls [.float x]) by
          refine lv_if_eq (tgt := 83) hx hb dX8_sway_67 (by decide) (fun c9 => ?_) (fun c9 => ?_)
          · refine lv_fload hx hb dX8_sway_83 (lv_at hl 1 rfl) ?_
            exact KS _ (fun _ => rfl) (fun q9 => absurd c9 q9) d hd
          · refine lv_fload hx hb dX8_sway_70 (lv_at hl 1 rfl) ?_
            refine lv_aload_n hx hb dX8_sway_72 rfl (lv_at hl 3 rfl) ?_
            refine va_get (D := D) (ci := 13) (v := .ref q_t_angles) (C := RX8) (T := TX8) (N := 21) hx hb hts iX8_sway_X8 hown hK hP 0 rfl rfl 17 (by decide) (hts (.fieldLink RX8 65 "PulseMeadowModel" "angles" "[F") (by decide +kernel)) (fun _ h9 => h9) rfl dX8_sway_73 ?_
            refine lv_iload hx hb dX8_sway_76 (lv_at hl 0 rfl) ?_
            refine va_fald hx hb hK hP 2 3 rfl rfl (nI_in hi1 (by omega)) dX8_sway_78 ?_
            rw [ei1]
            refine lv_fadd_any hd lw_bits hx hb dX8_sway_79 (fun x d3 hx9 hd3 => ?_)
            refine lv_goto (tgt := 85) hx hb dX8_sway_80 (by decide) ?_
            exact KS x (fun q9 => absurd q9 c9) (fun _ => hx9) d3 hd3
        intro x hx0 hx9 d hd
        have hts := dr_words hts0 d
        have hK : va_K D vwCl (zr_ty T) (s.setDrawn d) := hK0
        refine lv_fstore (lv' := [(4, .float x), (5, .int (nI i1)), (3, .int (nI i)), (0, .ref q_t), (1, .int x1), (2, .int my)]) hx hb dX8_sway_85 hl (by decide) rfl (fun ls hl => ?_)
        refine lv_iinc (v := nI i1 + (1 : Int32)) (lv' := [(5, .int (nI i1 + (1 : Int32))), (4, .float x), (3, .int (nI i)), (0, .ref q_t), (1, .int x1), (2, .int my)]) hx hb dX8_sway_87 hl (k := 1) rfl rfl (by decide) rfl (fun ls hl => ?_)
        rw [nI_1] at hl
        refine lv_goto (tgt := 54) hx hb dX8_sway_90 (by decide) ?_
        exact ih1 (i1 + 1) x (by omega) (fun s2 hr9 => hs1 s2 ⟨x, hx0, hx9, hr9⟩) d H locs ls hd hP hD hS hl
  have hl39 := lv_sub hl [3, 0, 1, 2] rfl
  by_cases hmy : 0 < my
  · have hle : ¬ x1 ≤ 0 := fun q9 => by rw [if_pos ⟨q9, hmy⟩] at h; cases h
    rw [if_neg (fun q9 => hle q9.1)] at h
    have hnb : ¬ 100000 < x1 := fun q9 => by rw [if_pos q9, if_neg (Int32.not_le.mpr hmy)] at h; cases h
    rw [if_neg hnb] at h
    obtain rfl := Option.some.inj h
    obtain ⟨n, hn, rfl⟩ := nI_of (x := x1) (fun q9 => hle (Int32.le_of_lt q9))
    exact KL n 0 v_t_angles v_t_speeds hmy (by rw [Nat.zero_add]) (by omega) (fun a2 sp2 hr9 => ⟨fun q9 => absurd hmy (Int32.not_lt.mpr q9), fun _ => by rw [nI_clamp hn]; exact hr9⟩) s.drawn H locs ls hd0 hP hD hS hl39
  · have hm0 : my ≤ 0 := Int32.not_lt.mp hmy
    have ho : o = (my, th) := by
      have e1 : ¬ (x1 ≤ 0 ∧ 0 < my) := fun q => hmy q.2
      rw [if_neg e1] at h
      by_cases hb9 : 100000 < x1
      · rw [if_pos hb9, if_pos hm0] at h
        exact (Option.some.inj h).symm
      · rw [if_neg hb9] at h
        exact (Option.some.inj h).symm
    subst ho
    have hE : rs_all v_t_swings v_t_pull v_t_stiffness my x1 v_t_angles v_t_speeds v_t_angles v_t_speeds := ⟨fun _ => ⟨rfl, rfl⟩, fun q9 => absurd q9 hmy⟩
    refine lv_iload_n hx hb dX8_sway_39 rfl (lv_at hl39 0 rfl) ?_
    refine lv_iload_n hx hb dX8_sway_40 rfl (lv_at hl39 2 rfl) ?_
    refine lv_icmp_ge (tgt := 255) hx hb dX8_sway_41 (by decide) (fun _ => ?_) (fun _ => ?_)
    · exact KE _ _ hE s.drawn H locs ls 0 hd0 hP hD hS hl39
    · refine lv_iload_n hx hb dX8_sway_44 rfl (lv_at hl39 3 rfl) ?_
      refine lv_if_le (tgt := 255) hx hb dX8_sway_45 (by decide) (fun _ => ?_) (fun c9 => absurd hm0 c9)
      exact KE _ _ hE s.drawn H locs ls 0 hd0 hP hD hS hl39

theorem iX2_clear_X2 : ∀ w ∈ wsX20, w ∈ wsX2_clear := by decide +kernel
def f_X2_clear_2 (N : Nat) : Nat → Int32 → (Nat → Int32) → Option (Int32 × (Nat → Int32))
  | 0, _, _ => none
  | n + 1, x1, v_t_phases => if (16 : Int32) ≤ x1 then (some (x1, v_t_phases)) else (zk_g x1 16 (f_X2_clear_2 N n (x1 + (1 : Int32)) (upd v_t_phases x1.toNatClampNeg (0 : Int32))))
set_option maxHeartbeats 8000000 in
set_option maxRecDepth 100000 in
theorem l_X2_clear_2 {p : Program} {l : Launch} {e : Env} {s : State} {m : MethodId} {args : Array Value} {below : List Frame} {meth : Method} {c : Code} {Q : State → Prop} {A : Nat → Prop} {D : va_G} {T : Nat → ClassId} (N : Nat) (hx : p.tables.exec = Jvm.exec) (hb : c.code = cX2_clear) (hml : c.maxLocals = 2) (hown : s.vm.findClass RX2 = some m.cls) (hts : ∀ w ∈ wsX2_clear, w.before args s = true) (hA : ∀ q : Nat, s.heap.size ≤ q → A q) (hK : va_K D vwCl (zk_ty T) s) (hN : zk_N s) (q_t q_t_phases q_t_coming : Nat) (v_t_row : Int32) (v_t_coming : Nat → Int32) :
    ∀ (n : Nat) (x1 : Int32) (v_t_phases : Nat → Int32) (o : Int32 × (Nat → Int32)), f_X2_clear_2 N n x1 v_t_phases = some o → ∀ (H : Heap) (locs : List Loc) (ls : Array Slot), va_P D vwCl [(q_t, .inr (4, [.ref q_t_phases, .ref q_t_coming, .int v_t_row])), (q_t_phases, .inl (T 0, 16, .inl v_t_phases)), (q_t_coming, .inl (T 0, 512, .inl v_t_coming))] H → va_D A [(q_t, .inr (4, [.ref q_t_phases, .ref q_t_coming, .int v_t_row])), (q_t_phases, .inl (T 0, 16, .inl v_t_phases)), (q_t_coming, .inl (T 0, 512, .inl v_t_coming))] → va_S A s.heap H locs → lv_has ls 2 [(0, .ref q_t), (1, .int x1)] → (∀ (H : Heap) (locs : List Loc) (ls : Array Slot), va_P D vwCl [(q_t, .inr (4, [.ref q_t_phases, .ref q_t_coming, .int v_t_row])), (q_t_phases, .inl (T 0, 16, .inl o.2)), (q_t_coming, .inl (T 0, 512, .inl v_t_coming))] H → va_D A [(q_t, .inr (4, [.ref q_t_phases, .ref q_t_coming, .int v_t_row])), (q_t_phases, .inl (T 0, 16, .inl o.2)), (q_t_coming, .inl (T 0, 512, .inl v_t_coming))] → va_S A s.heap H locs → lv_has ls 2 [(0, .ref q_t)] → W p l e ({ frames := 0, cells := 0, slots := 0, locals := 0 } : Room) s m args below meth c H locs 0 0 Q (F0 m 21 ls [])) → W p l e ({ frames := 0, cells := 0, slots := 0, locals := 0 } : Room) s m args below meth c H locs 0 0 Q (F0 m 2 ls []) := by
  intro n
  induction n with
  | zero => intro x1 v_t_phases o h; exact absurd h (by simp [f_X2_clear_2])
  | succ n ih =>
    intro x1 v_t_phases o h H locs ls hP hD hS hl kx0
    rw [f_X2_clear_2] at h
    refine lv_iload_n hx hb dX2_clear_2 rfl (lv_at hl 1 rfl) ?_
    refine lv_bipush (v := (16 : Int32)) hx hb dX2_clear_3 (by decide) ?_
    refine lv_icmp_ge (tgt := 21) hx hb dX2_clear_5 (by decide) (fun c5 => ?_) (fun c5 => ?_)
    · replace h := (if_pos c5).symm.trans h
      obtain rfl := Option.some.inj h
      exact kx0 _ _ _ hP hD hS (lv_sub hl [0] rfl)
    · replace h := (if_neg c5).symm.trans h
      refine lv_aload_n hx hb dX2_clear_8 rfl (lv_at hl 0 rfl) ?_
      refine va_get (D := D) (ci := 4) (v := .ref q_t_phases) (C := RX2) (T := TX2) (N := 3) hx hb hts iX2_clear_X2 hown hK hP 0 rfl rfl 0 (by decide) (hts (.fieldLink RX2 9 "PulseMeadow$State" "phases" "[I") (by decide +kernel)) (fun _ h9 => h9) rfl dX2_clear_9 ?_
      refine lv_iload_n hx hb dX2_clear_12 rfl (lv_at hl 1 rfl) ?_
      refine lv_iconst (v := (0 : Int32)) hx hb dX2_clear_13 (by decide) ?_
      obtain ⟨hb14, h⟩ := zk_g_spec h
      refine va_iast hx hb hK hP hD hS 1 0 rfl rfl hb14 dX2_clear_14 (fun H locs hP hD hS => ?_)
      have hP : va_P D vwCl [(q_t, .inr (4, [.ref q_t_phases, .ref q_t_coming, .int v_t_row])), (q_t_phases, .inl (T 0, 16, .inl (upd v_t_phases x1.toNatClampNeg (0 : Int32)))), (q_t_coming, .inl (T 0, 512, .inl v_t_coming))] H := hP
      have hD : va_D A [(q_t, .inr (4, [.ref q_t_phases, .ref q_t_coming, .int v_t_row])), (q_t_phases, .inl (T 0, 16, .inl (upd v_t_phases x1.toNatClampNeg (0 : Int32)))), (q_t_coming, .inl (T 0, 512, .inl v_t_coming))] := hD
      refine lv_iinc (v := x1 + (1 : Int32)) (lv' := [(1, .int (x1 + (1 : Int32))), (0, .ref q_t)]) hx hb dX2_clear_15 hl (k := 1) rfl rfl (by decide) rfl (fun ls hl => ?_)
      refine lv_goto (tgt := 2) hx hb dX2_clear_18 (by decide) ?_
      exact ih (x1 + (1 : Int32)) (upd v_t_phases x1.toNatClampNeg (0 : Int32)) o h _ _ _ hP hD hS (lv_sub hl [1, 0] rfl) kx0
def f_X2_clear_23 (N : Nat) : Nat → Int32 → (Nat → Int32) → Option (Int32 × (Nat → Int32))
  | 0, _, _ => none
  | n + 1, x1, v_t_coming => if (512 : Int32) ≤ x1 then (some (x1, v_t_coming)) else (zk_g x1 512 (f_X2_clear_23 N n (x1 + (1 : Int32)) (upd v_t_coming x1.toNatClampNeg (0 : Int32))))
set_option maxHeartbeats 8000000 in
set_option maxRecDepth 100000 in
theorem l_X2_clear_23 {p : Program} {l : Launch} {e : Env} {s : State} {m : MethodId} {args : Array Value} {below : List Frame} {meth : Method} {c : Code} {Q : State → Prop} {A : Nat → Prop} {D : va_G} {T : Nat → ClassId} (N : Nat) (hx : p.tables.exec = Jvm.exec) (hb : c.code = cX2_clear) (hml : c.maxLocals = 2) (hown : s.vm.findClass RX2 = some m.cls) (hts : ∀ w ∈ wsX2_clear, w.before args s = true) (hA : ∀ q : Nat, s.heap.size ≤ q → A q) (hK : va_K D vwCl (zk_ty T) s) (hN : zk_N s) (q_t q_t_phases q_t_coming : Nat) (v_t_row : Int32) (v_t_phases : Nat → Int32) :
    ∀ (n : Nat) (x1 : Int32) (v_t_coming : Nat → Int32) (o : Int32 × (Nat → Int32)), f_X2_clear_23 N n x1 v_t_coming = some o → ∀ (H : Heap) (locs : List Loc) (ls : Array Slot), va_P D vwCl [(q_t, .inr (4, [.ref q_t_phases, .ref q_t_coming, .int v_t_row])), (q_t_phases, .inl (T 0, 16, .inl v_t_phases)), (q_t_coming, .inl (T 0, 512, .inl v_t_coming))] H → va_D A [(q_t, .inr (4, [.ref q_t_phases, .ref q_t_coming, .int v_t_row])), (q_t_phases, .inl (T 0, 16, .inl v_t_phases)), (q_t_coming, .inl (T 0, 512, .inl v_t_coming))] → va_S A s.heap H locs → lv_has ls 2 [(0, .ref q_t), (1, .int x1)] → (∀ (H : Heap) (locs : List Loc) (ls : Array Slot), va_P D vwCl [(q_t, .inr (4, [.ref q_t_phases, .ref q_t_coming, .int v_t_row])), (q_t_phases, .inl (T 0, 16, .inl v_t_phases)), (q_t_coming, .inl (T 0, 512, .inl o.2))] H → va_D A [(q_t, .inr (4, [.ref q_t_phases, .ref q_t_coming, .int v_t_row])), (q_t_phases, .inl (T 0, 16, .inl v_t_phases)), (q_t_coming, .inl (T 0, 512, .inl o.2))] → va_S A s.heap H locs → lv_has ls 2 [] → W p l e ({ frames := 0, cells := 0, slots := 0, locals := 0 } : Room) s m args below meth c H locs 0 0 Q (F0 m 43 ls [])) → W p l e ({ frames := 0, cells := 0, slots := 0, locals := 0 } : Room) s m args below meth c H locs 0 0 Q (F0 m 23 ls []) := by
  intro n
  induction n with
  | zero => intro x1 v_t_coming o h; exact absurd h (by simp [f_X2_clear_23])
  | succ n ih =>
    intro x1 v_t_coming o h H locs ls hP hD hS hl kx0
    rw [f_X2_clear_23] at h
    refine lv_iload_n hx hb dX2_clear_23 rfl (lv_at hl 1 rfl) ?_
    refine lv_sipush (v := (512 : Int32)) hx hb dX2_clear_24 (by decide) ?_
    refine lv_icmp_ge (tgt := 43) hx hb dX2_clear_27 (by decide) (fun c27 => ?_) (fun c27 => ?_)
    · replace h := (if_pos c27).symm.trans h
      obtain rfl := Option.some.inj h
      exact kx0 _ _ _ hP hD hS (lv_sub hl [] rfl)
    · replace h := (if_neg c27).symm.trans h
      refine lv_aload_n hx hb dX2_clear_30 rfl (lv_at hl 0 rfl) ?_
      refine va_get (D := D) (ci := 4) (v := .ref q_t_coming) (C := RX2) (T := TX2) (N := 3) hx hb hts iX2_clear_X2 hown hK hP 0 rfl rfl 1 (by decide) (hts (.fieldLink RX2 15 "PulseMeadow$State" "coming" "[I") (by decide +kernel)) (fun _ h9 => h9) rfl dX2_clear_31 ?_
      refine lv_iload_n hx hb dX2_clear_34 rfl (lv_at hl 1 rfl) ?_
      refine lv_iconst (v := (0 : Int32)) hx hb dX2_clear_35 (by decide) ?_
      obtain ⟨hb36, h⟩ := zk_g_spec h
      refine va_iast hx hb hK hP hD hS 2 0 rfl rfl hb36 dX2_clear_36 (fun H locs hP hD hS => ?_)
      have hP : va_P D vwCl [(q_t, .inr (4, [.ref q_t_phases, .ref q_t_coming, .int v_t_row])), (q_t_phases, .inl (T 0, 16, .inl v_t_phases)), (q_t_coming, .inl (T 0, 512, .inl (upd v_t_coming x1.toNatClampNeg (0 : Int32))))] H := hP
      have hD : va_D A [(q_t, .inr (4, [.ref q_t_phases, .ref q_t_coming, .int v_t_row])), (q_t_phases, .inl (T 0, 16, .inl v_t_phases)), (q_t_coming, .inl (T 0, 512, .inl (upd v_t_coming x1.toNatClampNeg (0 : Int32))))] := hD
      refine lv_iinc (v := x1 + (1 : Int32)) (lv' := [(1, .int (x1 + (1 : Int32))), (0, .ref q_t)]) hx hb dX2_clear_37 hl (k := 1) rfl rfl (by decide) rfl (fun ls hl => ?_)
      refine lv_goto (tgt := 23) hx hb dX2_clear_40 (by decide) ?_
      exact ih (x1 + (1 : Int32)) (upd v_t_coming x1.toNatClampNeg (0 : Int32)) o h _ _ _ hP hD hS (lv_sub hl [1, 0] rfl) kx0
def f_X2_clear (N : Nat) (v_t_phases : Nat → Int32) (v_t_coming : Nat → Int32) : Option ((Nat → Int32) × (Nat → Int32)) := (f_X2_clear_2 N N (0 : Int32) v_t_phases).bind fun o2 => (f_X2_clear_23 N N (0 : Int32) v_t_coming).bind fun o23 => some (o2.2, o23.2)
set_option maxHeartbeats 8000000 in
set_option maxRecDepth 100000 in
theorem k_X2_clear (l : Launch) (D : va_G) (T : Nat → ClassId) (N : Nat) (q_t q_t_phases q_t_coming : Nat) (sz : Nat) (v_t_row : Int32) (v_t_phases : Nat → Int32) (v_t_coming : Nat → Int32) (o : (Nat → Int32) × (Nat → Int32)) (h : f_X2_clear N v_t_phases v_t_coming = some o) : Met l yX2_clear wsX2_clear ({ frames := 0, cells := 0, slots := 0, locals := 0 } : Room) (zk_Pc D T [.ref q_t] [(q_t, .inr (4, [.ref q_t_phases, .ref q_t_coming, .int v_t_row])), (q_t_phases, .inl (T 0, 16, .inl v_t_phases)), (q_t_coming, .inl (T 0, 512, .inl v_t_coming))] sz) (zk_Qv D [(q_t, .inr (4, [.ref q_t_phases, .ref q_t_coming, .int v_t_row])), (q_t_phases, .inl (T 0, 16, .inl o.1)), (q_t_coming, .inl (T 0, 512, .inl o.2))] (va_A [(q_t, .inr (4, [.ref q_t_phases, .ref q_t_coming, .int v_t_row])), (q_t_phases, .inl (T 0, 16, .inl v_t_phases)), (q_t_coming, .inl (T 0, 512, .inl v_t_coming))] sz) (va_A [(q_t, .inr (4, [.ref q_t_phases, .ref q_t_coming, .int v_t_row])), (q_t_phases, .inl (T 0, 16, .inl v_t_phases)), (q_t_coming, .inl (T 0, 512, .inl v_t_coming))] sz)) 0 0 (va_A [(q_t, .inr (4, [.ref q_t_phases, .ref q_t_coming, .int v_t_row])), (q_t_phases, .inl (T 0, 16, .inl v_t_phases)), (q_t_coming, .inl (T 0, 512, .inl v_t_coming))] sz) := by
  refine Met.ofW (cc := cX2_clear) (maxL := 2) (ret := none) (by decide) rfl ?_
  intro p e s m args below meth c s₁ B hml hv
  obtain ⟨rfl, hsz, hP, hK, hN, hD0⟩ := hv
  have hx := B.exec
  have hb := B.bytes
  have hr := B.returns
  have hts := atoms_spec (ws := wsX2_clear) B.pre
  have hown : s.vm.findClass RX2 = some m.cls := findClass_of_methodNamed B.named
  have hlocks := B.notSynchronized
  subst hsz
  have hD := hD0.self (sz := s.heap.size)
  generalize hAe : va_A [(q_t, .inr (4, [.ref q_t_phases, .ref q_t_coming, .int v_t_row])), (q_t_phases, .inl (T 0, 16, .inl v_t_phases)), (q_t_coming, .inl (T 0, 512, .inl v_t_coming))] s.heap.size = A at hD ⊢
  have hA : ∀ q : Nat, s.heap.size ≤ q → A q := fun q h => by rw [← hAe]; exact Or.inr h
  have hS : va_S A s.heap s.heap [] := va_S.rf
  have hP : va_P D vwCl [(q_t, .inr (4, [.ref q_t_phases, .ref q_t_coming, .int v_t_row])), (q_t_phases, .inl (T 0, 16, .inl v_t_phases)), (q_t_coming, .inl (T 0, 512, .inl v_t_coming))] s.heap := hP
  have hl := lv_entry ([.ref q_t]) (n := 2) (Nat.le_of_ble_eq_true rfl)
  rw [lg_entry_eq]
  generalize (lg_sl ([.ref q_t]) ++ List.replicate (2 - (lg_sl ([.ref q_t])).length) Slot.unset).toArray = ls at hl ⊢
  have hl : lv_has ls 2 [(0, .ref q_t)] := hl
  unfold f_X2_clear at h
  refine lv_iconst (v := (0 : Int32)) hx hb dX2_clear_0 (by decide) ?_
  refine lv_istore_n (lv' := [(1, .int (0 : Int32)), (0, .ref q_t)]) hx hb dX2_clear_1 rfl hl (by decide) rfl (fun ls hl => ?_)
  obtain ⟨o2, hc2, h⟩ := zk_bind h
  refine l_X2_clear_2 N hx hb hml hown hts hA hK hN q_t q_t_phases q_t_coming v_t_row v_t_coming N (0 : Int32) v_t_phases o2 hc2 _ _ _ hP hD hS (lv_sub hl [1, 0] rfl) (fun H locs ls hP hD hS hl => ?_)
  refine lv_iconst (v := (0 : Int32)) hx hb dX2_clear_21 (by decide) ?_
  refine lv_istore_n (lv' := [(1, .int (0 : Int32)), (0, .ref q_t)]) hx hb dX2_clear_22 rfl hl (by decide) rfl (fun ls hl => ?_)
  obtain ⟨o23, hc23, h⟩ := zk_bind h
  refine l_X2_clear_23 N hx hb hml hown hts hA hK hN q_t q_t_phases q_t_coming v_t_row o2.2 N (0 : Int32) v_t_coming o23 hc23 _ _ _ hP hD hS (lv_sub hl [1, 0] rfl) (fun H locs ls hP hD hS hl => ?_)
  obtain rfl := Option.some.inj h
  exact W.vret hx hb hr (fun t ht hW => ⟨⟨(), rfl, trivial, ⟨by rw [ht]; exact hP, hD⟩⟩, hS.F ht⟩) hS.2.2 dX2_clear_43
theorem iX2_copy_X2 : ∀ w ∈ wsX20, w ∈ wsX2_copy := by decide +kernel
def f_X2_copy (N : Nat) (v_p1_row : Int32) (v_p1_phases : Nat → Int32) (v_t_phases : Nat → Int32) (v_p1_coming : Nat → Int32) (v_t_coming : Nat → Int32) : Option (Int32 × (Nat → Int32) × (Nat → Int32)) := some (v_p1_row, va_cpy v_p1_phases v_t_phases 0 0 16, va_cpy v_p1_coming v_t_coming 0 0 512)
set_option maxHeartbeats 8000000 in
set_option maxRecDepth 100000 in
theorem k_X2_copy (l : Launch) (D : va_G) (T : Nat → ClassId) (N : Nat) (q_p1 q_t q_p1_phases q_t_phases q_p1_coming q_t_coming : Nat) (sz : Nat) (v_p1_row : Int32) (v_t_row : Int32) (v_p1_phases : Nat → Int32) (v_t_phases : Nat → Int32) (v_p1_coming : Nat → Int32) (v_t_coming : Nat → Int32) (o : Int32 × (Nat → Int32) × (Nat → Int32)) (h : f_X2_copy N v_p1_row v_p1_phases v_t_phases v_p1_coming v_t_coming = some o) : Met l yX2_copy wsX2_copy ({ frames := 1, cells := 0, slots := 0, locals := 32 } : Room) (zk_Pc D T [.ref q_t, .ref q_p1] [(q_p1, .inr (4, [.ref q_p1_phases, .ref q_p1_coming, .int v_p1_row])), (q_t, .inr (4, [.ref q_t_phases, .ref q_t_coming, .int v_t_row])), (q_p1_phases, .inl (T 0, 16, .inl v_p1_phases)), (q_t_phases, .inl (T 0, 16, .inl v_t_phases)), (q_p1_coming, .inl (T 0, 512, .inl v_p1_coming)), (q_t_coming, .inl (T 0, 512, .inl v_t_coming))] sz) (zk_Qv D [(q_p1, .inr (4, [.ref q_p1_phases, .ref q_p1_coming, .int v_p1_row])), (q_t, .inr (4, [.ref q_t_phases, .ref q_t_coming, .int o.1])), (q_p1_phases, .inl (T 0, 16, .inl v_p1_phases)), (q_t_phases, .inl (T 0, 16, .inl o.2.1)), (q_p1_coming, .inl (T 0, 512, .inl v_p1_coming)), (q_t_coming, .inl (T 0, 512, .inl o.2.2))] (va_A [(q_p1, .inr (4, [.ref q_p1_phases, .ref q_p1_coming, .int v_p1_row])), (q_t, .inr (4, [.ref q_t_phases, .ref q_t_coming, .int v_t_row])), (q_p1_phases, .inl (T 0, 16, .inl v_p1_phases)), (q_t_phases, .inl (T 0, 16, .inl v_t_phases)), (q_p1_coming, .inl (T 0, 512, .inl v_p1_coming)), (q_t_coming, .inl (T 0, 512, .inl v_t_coming))] sz) (va_A [(q_p1, .inr (4, [.ref q_p1_phases, .ref q_p1_coming, .int v_p1_row])), (q_t, .inr (4, [.ref q_t_phases, .ref q_t_coming, .int v_t_row])), (q_p1_phases, .inl (T 0, 16, .inl v_p1_phases)), (q_t_phases, .inl (T 0, 16, .inl v_t_phases)), (q_p1_coming, .inl (T 0, 512, .inl v_p1_coming)), (q_t_coming, .inl (T 0, 512, .inl v_t_coming))] sz)) 0 0 (va_A [(q_p1, .inr (4, [.ref q_p1_phases, .ref q_p1_coming, .int v_p1_row])), (q_t, .inr (4, [.ref q_t_phases, .ref q_t_coming, .int v_t_row])), (q_p1_phases, .inl (T 0, 16, .inl v_p1_phases)), (q_t_phases, .inl (T 0, 16, .inl v_t_phases)), (q_p1_coming, .inl (T 0, 512, .inl v_p1_coming)), (q_t_coming, .inl (T 0, 512, .inl v_t_coming))] sz) := by
  refine Met.ofW (cc := cX2_copy) (maxL := 2) (ret := none) (by decide) rfl ?_
  intro p e s m args below meth c s₁ B hml hv
  obtain ⟨rfl, hsz, hP, hK, hN, hD0⟩ := hv
  have hx := B.exec
  have hb := B.bytes
  have hr := B.returns
  have hts := atoms_spec (ws := wsX2_copy) B.pre
  have hown : s.vm.findClass RX2 = some m.cls := findClass_of_methodNamed B.named
  have hlocks := B.notSynchronized
  subst hsz
  have hD := hD0.self (sz := s.heap.size)
  generalize hAe : va_A [(q_p1, .inr (4, [.ref q_p1_phases, .ref q_p1_coming, .int v_p1_row])), (q_t, .inr (4, [.ref q_t_phases, .ref q_t_coming, .int v_t_row])), (q_p1_phases, .inl (T 0, 16, .inl v_p1_phases)), (q_t_phases, .inl (T 0, 16, .inl v_t_phases)), (q_p1_coming, .inl (T 0, 512, .inl v_p1_coming)), (q_t_coming, .inl (T 0, 512, .inl v_t_coming))] s.heap.size = A at hD ⊢
  have hA : ∀ q : Nat, s.heap.size ≤ q → A q := fun q h => by rw [← hAe]; exact Or.inr h
  have hS : va_S A s.heap s.heap [] := va_S.rf
  have hP : va_P D vwCl [(q_p1, .inr (4, [.ref q_p1_phases, .ref q_p1_coming, .int v_p1_row])), (q_t, .inr (4, [.ref q_t_phases, .ref q_t_coming, .int v_t_row])), (q_p1_phases, .inl (T 0, 16, .inl v_p1_phases)), (q_t_phases, .inl (T 0, 16, .inl v_t_phases)), (q_p1_coming, .inl (T 0, 512, .inl v_p1_coming)), (q_t_coming, .inl (T 0, 512, .inl v_t_coming))] s.heap := hP
  have hl := lv_entry ([.ref q_t, .ref q_p1]) (n := 2) (Nat.le_of_ble_eq_true rfl)
  rw [lg_entry_eq]
  generalize (lg_sl ([.ref q_t, .ref q_p1]) ++ List.replicate (2 - (lg_sl ([.ref q_t, .ref q_p1])).length) Slot.unset).toArray = ls at hl ⊢
  have hl : lv_has ls 2 [(0, .ref q_t), (1, .ref q_p1)] := hl
  unfold f_X2_copy at h
  refine lv_aload_n hx hb dX2_copy_0 rfl (lv_at hl 1 rfl) ?_
  refine va_get (D := D) (ci := 4) (v := .ref q_p1_phases) (C := RX2) (T := TX2) (N := 3) hx hb hts iX2_copy_X2 hown hK hP 0 rfl rfl 0 (by decide) (hts (.fieldLink RX2 9 "PulseMeadow$State" "phases" "[I") (by decide +kernel)) (fun _ h9 => h9) rfl dX2_copy_1 ?_
  refine lv_iconst (v := (0 : Int32)) hx hb dX2_copy_4 (by decide) ?_
  refine lv_aload_n hx hb dX2_copy_5 rfl (lv_at hl 0 rfl) ?_
  refine va_get (D := D) (ci := 4) (v := .ref q_t_phases) (C := RX2) (T := TX2) (N := 3) hx hb hts iX2_copy_X2 hown hK hP 1 rfl rfl 0 (by decide) (hts (.fieldLink RX2 9 "PulseMeadow$State" "phases" "[I") (by decide +kernel)) (fun _ h9 => h9) rfl dX2_copy_6 ?_
  refine lv_iconst (v := (0 : Int32)) hx hb dX2_copy_9 (by decide) ?_
  refine lv_bipush (v := (16 : Int32)) hx hb dX2_copy_10 (by decide) ?_
  refine va_copyi (sp := (0 : Int32)) (dp := (0 : Int32)) (n := (16 : Int32)) hx hb (hml.trans hl.1.symm) hown (hts (.methodLink RX2 22 arraycopyName) (by decide +kernel)) (hts (.native arraycopyName) (by decide +kernel)) (hts (.static arraycopyName) (by decide +kernel)) (hts (.initialized "java/lang/System") (by decide +kernel)) hK hP hD hS 2 3 0 0 rfl rfl rfl rfl rfl (by decide) (by decide) (by decide) (by decide +kernel) (by decide +kernel) (fun _ _ => rfl) (Nat.le_of_ble_eq_true rfl) (by decide +kernel) dX2_copy_12 (fun H locs hP hD hS => ?_)
  have hP : va_P D vwCl [(q_p1, .inr (4, [.ref q_p1_phases, .ref q_p1_coming, .int v_p1_row])), (q_t, .inr (4, [.ref q_t_phases, .ref q_t_coming, .int v_t_row])), (q_p1_phases, .inl (T 0, 16, .inl v_p1_phases)), (q_t_phases, .inl (T 0, 16, .inl (va_cpy v_p1_phases v_t_phases 0 0 16))), (q_p1_coming, .inl (T 0, 512, .inl v_p1_coming)), (q_t_coming, .inl (T 0, 512, .inl v_t_coming))] H := hP
  have hD : va_D A [(q_p1, .inr (4, [.ref q_p1_phases, .ref q_p1_coming, .int v_p1_row])), (q_t, .inr (4, [.ref q_t_phases, .ref q_t_coming, .int v_t_row])), (q_p1_phases, .inl (T 0, 16, .inl v_p1_phases)), (q_t_phases, .inl (T 0, 16, .inl (va_cpy v_p1_phases v_t_phases 0 0 16))), (q_p1_coming, .inl (T 0, 512, .inl v_p1_coming)), (q_t_coming, .inl (T 0, 512, .inl v_t_coming))] := hD
  refine lv_aload_n hx hb dX2_copy_15 rfl (lv_at hl 1 rfl) ?_
  refine va_get (D := D) (ci := 4) (v := .ref q_p1_coming) (C := RX2) (T := TX2) (N := 3) hx hb hts iX2_copy_X2 hown hK hP 0 rfl rfl 1 (by decide) (hts (.fieldLink RX2 15 "PulseMeadow$State" "coming" "[I") (by decide +kernel)) (fun _ h9 => h9) rfl dX2_copy_16 ?_
  refine lv_iconst (v := (0 : Int32)) hx hb dX2_copy_19 (by decide) ?_
  refine lv_aload_n hx hb dX2_copy_20 rfl (lv_at hl 0 rfl) ?_
  refine va_get (D := D) (ci := 4) (v := .ref q_t_coming) (C := RX2) (T := TX2) (N := 3) hx hb hts iX2_copy_X2 hown hK hP 1 rfl rfl 1 (by decide) (hts (.fieldLink RX2 15 "PulseMeadow$State" "coming" "[I") (by decide +kernel)) (fun _ h9 => h9) rfl dX2_copy_21 ?_
  refine lv_iconst (v := (0 : Int32)) hx hb dX2_copy_24 (by decide) ?_
  refine lv_sipush (v := (512 : Int32)) hx hb dX2_copy_25 (by decide) ?_
  refine va_copyi (sp := (0 : Int32)) (dp := (0 : Int32)) (n := (512 : Int32)) hx hb (hml.trans hl.1.symm) hown (hts (.methodLink RX2 22 arraycopyName) (by decide +kernel)) (hts (.native arraycopyName) (by decide +kernel)) (hts (.static arraycopyName) (by decide +kernel)) (hts (.initialized "java/lang/System") (by decide +kernel)) hK hP hD hS 4 5 0 0 rfl rfl rfl rfl rfl (by decide) (by decide) (by decide) (by decide +kernel) (by decide +kernel) (fun _ _ => rfl) (Nat.le_of_ble_eq_true rfl) (by decide +kernel) dX2_copy_28 (fun H locs hP hD hS => ?_)
  have hP : va_P D vwCl [(q_p1, .inr (4, [.ref q_p1_phases, .ref q_p1_coming, .int v_p1_row])), (q_t, .inr (4, [.ref q_t_phases, .ref q_t_coming, .int v_t_row])), (q_p1_phases, .inl (T 0, 16, .inl v_p1_phases)), (q_t_phases, .inl (T 0, 16, .inl (va_cpy v_p1_phases v_t_phases 0 0 16))), (q_p1_coming, .inl (T 0, 512, .inl v_p1_coming)), (q_t_coming, .inl (T 0, 512, .inl (va_cpy v_p1_coming v_t_coming 0 0 512)))] H := hP
  have hD : va_D A [(q_p1, .inr (4, [.ref q_p1_phases, .ref q_p1_coming, .int v_p1_row])), (q_t, .inr (4, [.ref q_t_phases, .ref q_t_coming, .int v_t_row])), (q_p1_phases, .inl (T 0, 16, .inl v_p1_phases)), (q_t_phases, .inl (T 0, 16, .inl (va_cpy v_p1_phases v_t_phases 0 0 16))), (q_p1_coming, .inl (T 0, 512, .inl v_p1_coming)), (q_t_coming, .inl (T 0, 512, .inl (va_cpy v_p1_coming v_t_coming 0 0 512)))] := hD
  refine lv_aload_n hx hb dX2_copy_31 rfl (lv_at hl 0 rfl) ?_
  refine lv_aload_n hx hb dX2_copy_32 rfl (lv_at hl 1 rfl) ?_
  refine va_get (D := D) (ci := 4) (v := .int v_p1_row) (C := RX2) (T := TX2) (N := 3) hx hb hts iX2_copy_X2 hown hK hP 0 rfl rfl 2 (by decide) (hts (.fieldLink RX2 18 "PulseMeadow$State" "row" "I") (by decide +kernel)) (fun _ h9 => h9) rfl dX2_copy_33 ?_
  refine va_put (D := D) (ci := 4) (v := .int v_p1_row) (ty := .int) (C := RX2) (T := TX2) (N := 3) hx hb hts iX2_copy_X2 tyX2 tyX2_ok nmX2 hown hK hP hD hS 1 rfl rfl 2 (by decide) (hts (.fieldLink RX2 18 "PulseMeadow$State" "row" "I") (by decide +kernel)) (fun _ h9 => h9) rfl (by decide +kernel) rfl rfl (Nat.le_of_ble_eq_true rfl) dX2_copy_36 (fun H locs hP hD hS => ?_)
  have hP : va_P D vwCl [(q_p1, .inr (4, [.ref q_p1_phases, .ref q_p1_coming, .int v_p1_row])), (q_t, .inr (4, [.ref q_t_phases, .ref q_t_coming, .int v_p1_row])), (q_p1_phases, .inl (T 0, 16, .inl v_p1_phases)), (q_t_phases, .inl (T 0, 16, .inl (va_cpy v_p1_phases v_t_phases 0 0 16))), (q_p1_coming, .inl (T 0, 512, .inl v_p1_coming)), (q_t_coming, .inl (T 0, 512, .inl (va_cpy v_p1_coming v_t_coming 0 0 512)))] H := hP
  have hD : va_D A [(q_p1, .inr (4, [.ref q_p1_phases, .ref q_p1_coming, .int v_p1_row])), (q_t, .inr (4, [.ref q_t_phases, .ref q_t_coming, .int v_p1_row])), (q_p1_phases, .inl (T 0, 16, .inl v_p1_phases)), (q_t_phases, .inl (T 0, 16, .inl (va_cpy v_p1_phases v_t_phases 0 0 16))), (q_p1_coming, .inl (T 0, 512, .inl v_p1_coming)), (q_t_coming, .inl (T 0, 512, .inl (va_cpy v_p1_coming v_t_coming 0 0 512)))] := hD
  obtain rfl := Option.some.inj h
  exact W.vret hx hb hr (fun t ht hW => ⟨⟨(), rfl, trivial, ⟨by rw [ht]; exact hP, hD⟩⟩, hS.F ht⟩) hS.2.2 dX2_copy_39
theorem iX2_startOfRow_X2 : ∀ w ∈ wsX20, w ∈ wsX2_startOfRow := by decide +kernel
def f_X2_startOfRow (N : Nat) (v_t_row : Int32) (x1 : Int32) : Option (Int32) := some (((v_t_row + x1) &&& (31 : Int32)) * (16 : Int32))
set_option maxHeartbeats 8000000 in
set_option maxRecDepth 100000 in
theorem k_X2_startOfRow (l : Launch) (D : va_G) (T : Nat → ClassId) (N : Nat) (q_t q_t_phases q_t_coming : Nat) (sz : Nat) (v_t_row : Int32) (x1 : Int32) (o : Int32) (h : f_X2_startOfRow N v_t_row x1 = some o) : Met l yX2_startOfRow wsX2_startOfRow ({ frames := 0, cells := 0, slots := 0, locals := 0 } : Room) (zk_Pc D T [.ref q_t, .int x1] [(q_t, .inr (4, [.ref q_t_phases, .ref q_t_coming, .int v_t_row]))] sz) (zk_Qi o D [(q_t, .inr (4, [.ref q_t_phases, .ref q_t_coming, .int v_t_row]))] (va_A [(q_t, .inr (4, [.ref q_t_phases, .ref q_t_coming, .int v_t_row]))] sz) (va_A [(q_t, .inr (4, [.ref q_t_phases, .ref q_t_coming, .int v_t_row]))] sz)) 0 0 (va_A [(q_t, .inr (4, [.ref q_t_phases, .ref q_t_coming, .int v_t_row]))] sz) := by
  refine Met.ofW (cc := cX2_startOfRow) (maxL := 2) (ret := (some .int)) (by decide) rfl ?_
  intro p e s m args below meth c s₁ B hml hv
  obtain ⟨rfl, hsz, hP, hK, hN, hD0⟩ := hv
  have hx := B.exec
  have hb := B.bytes
  have hr := B.returns
  have hts := atoms_spec (ws := wsX2_startOfRow) B.pre
  have hown : s.vm.findClass RX2 = some m.cls := findClass_of_methodNamed B.named
  have hlocks := B.notSynchronized
  subst hsz
  have hD := hD0.self (sz := s.heap.size)
  generalize hAe : va_A [(q_t, .inr (4, [.ref q_t_phases, .ref q_t_coming, .int v_t_row]))] s.heap.size = A at hD ⊢
  have hA : ∀ q : Nat, s.heap.size ≤ q → A q := fun q h => by rw [← hAe]; exact Or.inr h
  have hS : va_S A s.heap s.heap [] := va_S.rf
  have hP : va_P D vwCl [(q_t, .inr (4, [.ref q_t_phases, .ref q_t_coming, .int v_t_row]))] s.heap := hP
  have hl := lv_entry ([.ref q_t, .int x1]) (n := 2) (Nat.le_of_ble_eq_true rfl)
  rw [lg_entry_eq]
  generalize (lg_sl ([.ref q_t, .int x1]) ++ List.replicate (2 - (lg_sl ([.ref q_t, .int x1])).length) Slot.unset).toArray = ls at hl ⊢
  have hl : lv_has ls 2 [(0, .ref q_t), (1, .int x1)] := hl
  unfold f_X2_startOfRow at h
  refine lv_aload_n hx hb dX2_startOfRow_0 rfl (lv_at hl 0 rfl) ?_
  refine va_get (D := D) (ci := 4) (v := .int v_t_row) (C := RX2) (T := TX2) (N := 3) hx hb hts iX2_startOfRow_X2 hown hK hP 0 rfl rfl 2 (by decide) (hts (.fieldLink RX2 18 "PulseMeadow$State" "row" "I") (by decide +kernel)) (fun _ h9 => h9) rfl dX2_startOfRow_1 ?_
  refine lv_iload_n hx hb dX2_startOfRow_4 rfl (lv_at hl 1 rfl) ?_
  refine lv_iadd hx hb dX2_startOfRow_5 ?_
  refine lv_bipush (v := (31 : Int32)) hx hb dX2_startOfRow_6 (by decide) ?_
  refine lv_iand hx hb dX2_startOfRow_8 ?_
  refine lv_bipush (v := (16 : Int32)) hx hb dX2_startOfRow_9 (by decide) ?_
  refine lv_imul hx hb dX2_startOfRow_11 ?_
  obtain rfl := Option.some.inj h
  exact W.iret (v := ((v_t_row + x1) &&& (31 : Int32)) * (16 : Int32)) hx hb hr (fun t ht hW => ⟨⟨_, (), rfl, rfl, ⟨by rw [ht]; exact hP, hD⟩⟩, hS.F ht⟩) hS.2.2 dX2_startOfRow_12
theorem iX2_underWayTo_X2 : ∀ w ∈ wsX20, w ∈ wsX2_underWayTo := by decide +kernel
def f_X2_underWayTo_4 (N : Nat) (v_t_row : Int32) (v_t_coming : Nat → Int32) (x1 : Int32) : Nat → Int32 → Int32 → Option (Int32 × Int32)
  | 0, _, _ => none
  | n + 1, x2, x3 => if (30 : Int32) < x3 then (some (x2, x3)) else ((f_X2_startOfRow N v_t_row x3).bind fun o17 => zk_g (o17 + x1) 512 (f_X2_underWayTo_4 N v_t_row v_t_coming x1 n (x2 + (v_t_coming (o17 + x1).toNatClampNeg)) (x3 + (1 : Int32))))
set_option maxHeartbeats 8000000 in
set_option maxRecDepth 100000 in
theorem l_X2_underWayTo_4 {p : Program} {l : Launch} {e : Env} {s : State} {m : MethodId} {args : Array Value} {below : List Frame} {meth : Method} {c : Code} {Q : State → Prop} {A : Nat → Prop} {D : va_G} {T : Nat → ClassId} (N : Nat) (hx : p.tables.exec = Jvm.exec) (hb : c.code = cX2_underWayTo) (hml : c.maxLocals = 4) (hown : s.vm.findClass RX2 = some m.cls) (hts : ∀ w ∈ wsX2_underWayTo, w.before args s = true) (hA : ∀ q : Nat, s.heap.size ≤ q → A q) (hK : va_K D vwCl (zk_ty T) s) (hN : zk_N s) (q_t q_t_coming q_t_phases : Nat) (v_t_row : Int32) (v_t_coming : Nat → Int32) (x1 : Int32) :
    ∀ (n : Nat) (x2 : Int32) (x3 : Int32) (o : Int32 × Int32), f_X2_underWayTo_4 N v_t_row v_t_coming x1 n x2 x3 = some o → ∀ (H : Heap) (locs : List Loc) (ls : Array Slot), va_P D vwCl [(q_t, .inr (4, [.ref q_t_phases, .ref q_t_coming, .int v_t_row])), (q_t_coming, .inl (T 0, 512, .inl v_t_coming))] H → va_D A [(q_t, .inr (4, [.ref q_t_phases, .ref q_t_coming, .int v_t_row])), (q_t_coming, .inl (T 0, 512, .inl v_t_coming))] → va_S A s.heap H locs → lv_has ls 4 [(0, .ref q_t), (1, .int x1), (2, .int x2), (3, .int x3)] → (∀ (H : Heap) (locs : List Loc) (ls : Array Slot), va_P D vwCl [(q_t, .inr (4, [.ref q_t_phases, .ref q_t_coming, .int v_t_row])), (q_t_coming, .inl (T 0, 512, .inl v_t_coming))] H → va_D A [(q_t, .inr (4, [.ref q_t_phases, .ref q_t_coming, .int v_t_row])), (q_t_coming, .inl (T 0, 512, .inl v_t_coming))] → va_S A s.heap H locs → lv_has ls 4 [(2, .int o.1)] → W p l e ({ frames := 1, cells := 0, slots := 0, locals := 21 } : Room) s m args below meth c H locs 0 0 Q (F0 m 31 ls [])) → W p l e ({ frames := 1, cells := 0, slots := 0, locals := 21 } : Room) s m args below meth c H locs 0 0 Q (F0 m 4 ls []) := by
  intro n
  induction n with
  | zero => intro x2 x3 o h; exact absurd h (by simp [f_X2_underWayTo_4])
  | succ n ih =>
    intro x2 x3 o h H locs ls hP hD hS hl kx0
    rw [f_X2_underWayTo_4] at h
    refine lv_iload_n hx hb dX2_underWayTo_4 rfl (lv_at hl 3 rfl) ?_
    refine lv_bipush (v := (30 : Int32)) hx hb dX2_underWayTo_5 (by decide) ?_
    refine lv_icmp_gt (tgt := 31) hx hb dX2_underWayTo_7 (by decide) (fun c7 => ?_) (fun c7 => ?_)
    · replace h := (if_pos c7).symm.trans h
      obtain rfl := Option.some.inj h
      exact kx0 _ _ _ hP hD hS (lv_sub hl [2] rfl)
    · replace h := (if_neg c7).symm.trans h
      refine lv_iload_n hx hb dX2_underWayTo_10 rfl (lv_at hl 2 rfl) ?_
      refine lv_aload_n hx hb dX2_underWayTo_11 rfl (lv_at hl 0 rfl) ?_
      refine va_get (D := D) (ci := 4) (v := .ref q_t_coming) (C := RX2) (T := TX2) (N := 3) hx hb hts iX2_underWayTo_X2 hown hK hP 0 rfl rfl 1 (by decide) (hts (.fieldLink RX2 15 "PulseMeadow$State" "coming" "[I") (by decide +kernel)) (fun _ h9 => h9) rfl dX2_underWayTo_12 ?_
      refine lv_aload_n hx hb dX2_underWayTo_15 rfl (lv_at hl 0 rfl) ?_
      refine lv_iload_n hx hb dX2_underWayTo_16 rfl (lv_at hl 3 rfl) ?_
      obtain ⟨o17, hc17, h⟩ := zk_bind h
      refine zk_ci (wr := [(q_t_coming, .inl (T 0, 512, .inl v_t_coming))]) (va_runV (As := [.int x3]) (rest := [.ref q_t_coming, .int x2]) ⟨hx, hb, hml, hown, hts⟩ (k_X2_startOfRow l D T N q_t q_t_phases q_t_coming _ v_t_row x3 o17 hc17) (cwV 1 hts gX2_underWayTo_X2_startOfRow rfl rfl rfl (by decide +kernel) ⟨Nat.le_of_ble_eq_true rfl, Nat.le_of_ble_eq_true rfl⟩) (zk_preV (q := (RX2, TX2, 3)) hK hN (hP.sub [0] rfl) (hD.sub [0] (by decide) rfl) 0 rfl rfl) rfl rfl hl.1 rfl (lv_room (Nat.le_of_ble_eq_true rfl)) dX2_underWayTo_17 ⟨Nat.zero_le _, Nat.zero_le _⟩) hP hD hS hA [0] [1] rfl rfl (by decide) (by decide) [1, 0] (wf := [(q_t, .inr (4, [.ref q_t_phases, .ref q_t_coming, .int v_t_row])), (q_t_coming, .inl (T 0, 512, .inl v_t_coming))]) rfl (by decide) (fun H locs hP hD hS => ?_)
      refine lv_iload_n hx hb dX2_underWayTo_20 rfl (lv_at hl 1 rfl) ?_
      refine lv_iadd hx hb dX2_underWayTo_21 ?_
      obtain ⟨hb22, h⟩ := zk_g_spec h
      refine va_iald hx hb hK hP 1 0 rfl rfl hb22 dX2_underWayTo_22 ?_
      refine lv_iadd hx hb dX2_underWayTo_23 ?_
      refine lv_istore_n (lv' := [(2, .int (x2 + (v_t_coming (o17 + x1).toNatClampNeg))), (0, .ref q_t), (1, .int x1), (3, .int x3)]) hx hb dX2_underWayTo_24 rfl hl (by decide) rfl (fun ls hl => ?_)
      refine lv_iinc (v := x3 + (1 : Int32)) (lv' := [(3, .int (x3 + (1 : Int32))), (2, .int (x2 + (v_t_coming (o17 + x1).toNatClampNeg))), (0, .ref q_t), (1, .int x1)]) hx hb dX2_underWayTo_25 hl (k := 3) rfl rfl (by decide) rfl (fun ls hl => ?_)
      refine lv_goto (tgt := 4) hx hb dX2_underWayTo_28 (by decide) ?_
      exact ih (x2 + (v_t_coming (o17 + x1).toNatClampNeg)) (x3 + (1 : Int32)) o h _ _ _ hP hD hS (lv_sub hl [2, 3, 1, 0] rfl) kx0
def f_X2_underWayTo (N : Nat) (v_t_row : Int32) (v_t_coming : Nat → Int32) (x1 : Int32) : Option (Int32) := (f_X2_underWayTo_4 N v_t_row v_t_coming x1 N (0 : Int32) (1 : Int32)).bind fun o4 => some o4.1
set_option maxHeartbeats 8000000 in
set_option maxRecDepth 100000 in
theorem k_X2_underWayTo (l : Launch) (D : va_G) (T : Nat → ClassId) (N : Nat) (q_t q_t_coming q_t_phases : Nat) (sz : Nat) (v_t_row : Int32) (v_t_coming : Nat → Int32) (x1 : Int32) (o : Int32) (h : f_X2_underWayTo N v_t_row v_t_coming x1 = some o) : Met l yX2_underWayTo wsX2_underWayTo ({ frames := 1, cells := 0, slots := 0, locals := 21 } : Room) (zk_Pc D T [.ref q_t, .int x1] [(q_t, .inr (4, [.ref q_t_phases, .ref q_t_coming, .int v_t_row])), (q_t_coming, .inl (T 0, 512, .inl v_t_coming))] sz) (zk_Qi o D [(q_t, .inr (4, [.ref q_t_phases, .ref q_t_coming, .int v_t_row])), (q_t_coming, .inl (T 0, 512, .inl v_t_coming))] (va_A [(q_t, .inr (4, [.ref q_t_phases, .ref q_t_coming, .int v_t_row])), (q_t_coming, .inl (T 0, 512, .inl v_t_coming))] sz) (va_A [(q_t, .inr (4, [.ref q_t_phases, .ref q_t_coming, .int v_t_row])), (q_t_coming, .inl (T 0, 512, .inl v_t_coming))] sz)) 0 0 (va_A [(q_t, .inr (4, [.ref q_t_phases, .ref q_t_coming, .int v_t_row])), (q_t_coming, .inl (T 0, 512, .inl v_t_coming))] sz) := by
  refine Met.ofW (cc := cX2_underWayTo) (maxL := 4) (ret := (some .int)) (by decide) rfl ?_
  intro p e s m args below meth c s₁ B hml hv
  obtain ⟨rfl, hsz, hP, hK, hN, hD0⟩ := hv
  have hx := B.exec
  have hb := B.bytes
  have hr := B.returns
  have hts := atoms_spec (ws := wsX2_underWayTo) B.pre
  have hown : s.vm.findClass RX2 = some m.cls := findClass_of_methodNamed B.named
  have hlocks := B.notSynchronized
  subst hsz
  have hD := hD0.self (sz := s.heap.size)
  generalize hAe : va_A [(q_t, .inr (4, [.ref q_t_phases, .ref q_t_coming, .int v_t_row])), (q_t_coming, .inl (T 0, 512, .inl v_t_coming))] s.heap.size = A at hD ⊢
  have hA : ∀ q : Nat, s.heap.size ≤ q → A q := fun q h => by rw [← hAe]; exact Or.inr h
  have hS : va_S A s.heap s.heap [] := va_S.rf
  have hP : va_P D vwCl [(q_t, .inr (4, [.ref q_t_phases, .ref q_t_coming, .int v_t_row])), (q_t_coming, .inl (T 0, 512, .inl v_t_coming))] s.heap := hP
  have hl := lv_entry ([.ref q_t, .int x1]) (n := 4) (Nat.le_of_ble_eq_true rfl)
  rw [lg_entry_eq]
  generalize (lg_sl ([.ref q_t, .int x1]) ++ List.replicate (4 - (lg_sl ([.ref q_t, .int x1])).length) Slot.unset).toArray = ls at hl ⊢
  have hl : lv_has ls 4 [(0, .ref q_t), (1, .int x1)] := hl
  unfold f_X2_underWayTo at h
  refine lv_iconst (v := (0 : Int32)) hx hb dX2_underWayTo_0 (by decide) ?_
  refine lv_istore_n (lv' := [(2, .int (0 : Int32)), (0, .ref q_t), (1, .int x1)]) hx hb dX2_underWayTo_1 rfl hl (by decide) rfl (fun ls hl => ?_)
  refine lv_iconst (v := (1 : Int32)) hx hb dX2_underWayTo_2 (by decide) ?_
  refine lv_istore_n (lv' := [(3, .int (1 : Int32)), (2, .int (0 : Int32)), (0, .ref q_t), (1, .int x1)]) hx hb dX2_underWayTo_3 rfl hl (by decide) rfl (fun ls hl => ?_)
  obtain ⟨o4, hc4, h⟩ := zk_bind h
  refine l_X2_underWayTo_4 N hx hb hml hown hts hA hK hN q_t q_t_coming q_t_phases v_t_row v_t_coming x1 N (0 : Int32) (1 : Int32) o4 hc4 _ _ _ hP hD hS (lv_sub hl [2, 3, 1, 0] rfl) (fun H locs ls hP hD hS hl => ?_)
  refine lv_iload_n hx hb dX2_underWayTo_31 rfl (lv_at hl 0 rfl) ?_
  obtain rfl := Option.some.inj h
  exact W.iret (v := o4.1) hx hb hr (fun t ht hW => ⟨⟨_, (), rfl, rfl, ⟨by rw [ht]; exact hP, hD⟩⟩, hS.F ht⟩) hS.2.2 dX2_underWayTo_32
theorem iX2_sendSignals_X1 : ∀ w ∈ wsX10, w ∈ wsX2_sendSignals := by decide +kernel
theorem iX2_sendSignals_X2 : ∀ w ∈ wsX20, w ∈ wsX2_sendSignals := by decide +kernel
def f_X2_sendSignals_2 (N : Nat) (v_p1_links : Int32) (v_p1_froms : Nat → Int32) (v_t_row : Int32) (v_p1_delays : Nat → Int32) (v_p1_tos : Nat → Int32) (v_p1_strengths : Nat → Int32) (x2 : Int32) : Nat → Int32 → (Nat → Int32) → Option (Int32 × (Nat → Int32))
  | 0, _, _ => none
  | n + 1, x3, v_t_coming => if v_p1_links ≤ x3 then (some (x3, v_t_coming)) else (zk_g x3 60 (if ((x2 >>> ((v_p1_froms x3.toNatClampNeg) &&& 31)) &&& (1 : Int32)) = 0 then (f_X2_sendSignals_2 N v_p1_links v_p1_froms v_t_row v_p1_delays v_p1_tos v_p1_strengths x2 n (x3 + (1 : Int32)) v_t_coming) else (zk_g x3 60 ((f_X2_startOfRow N v_t_row (v_p1_delays x3.toNatClampNeg)).bind fun o34 => zk_g x3 60 (zk_g (o34 + (v_p1_tos x3.toNatClampNeg)) 512 (zk_g x3 60 (zk_g (o34 + (v_p1_tos x3.toNatClampNeg)) 512 (f_X2_sendSignals_2 N v_p1_links v_p1_froms v_t_row v_p1_delays v_p1_tos v_p1_strengths x2 n (x3 + (1 : Int32)) (upd v_t_coming (o34 + (v_p1_tos x3.toNatClampNeg)).toNatClampNeg ((v_t_coming (o34 + (v_p1_tos x3.toNatClampNeg)).toNatClampNeg) + (v_p1_strengths x3.toNatClampNeg)))))))))))
set_option maxHeartbeats 8000000 in
set_option maxRecDepth 100000 in
theorem l_X2_sendSignals_2 {p : Program} {l : Launch} {e : Env} {s : State} {m : MethodId} {args : Array Value} {below : List Frame} {meth : Method} {c : Code} {Q : State → Prop} {A : Nat → Prop} {D : va_G} {T : Nat → ClassId} (N : Nat) (hx : p.tables.exec = Jvm.exec) (hb : c.code = cX2_sendSignals) (hml : c.maxLocals = 4) (hown : s.vm.findClass RX2 = some m.cls) (hts : ∀ w ∈ wsX2_sendSignals, w.before args s = true) (hA : ∀ q : Nat, s.heap.size ≤ q → A q) (hK : va_K D vwCl (zk_ty T) s) (hN : zk_N s) (q_p1 q_p1_froms q_t q_p1_delays q_p1_tos q_t_coming q_p1_strengths q_p1_places q_p1_periods q_p1_quiets q_p1_answers q_t_phases : Nat) (v_p1_beaters : Int32) (v_p1_mask : Int32) (v_p1_links : Int32) (v_p1_froms : Nat → Int32) (v_t_row : Int32) (v_p1_delays : Nat → Int32) (v_p1_tos : Nat → Int32) (v_p1_strengths : Nat → Int32) (x2 : Int32) :
    ∀ (n : Nat) (x3 : Int32) (v_t_coming : Nat → Int32) (o : Int32 × (Nat → Int32)), f_X2_sendSignals_2 N v_p1_links v_p1_froms v_t_row v_p1_delays v_p1_tos v_p1_strengths x2 n x3 v_t_coming = some o → ∀ (H : Heap) (locs : List Loc) (ls : Array Slot), va_P D vwCl [(q_p1, .inr (3, [.int v_p1_beaters, .int v_p1_mask, .ref q_p1_places, .ref q_p1_periods, .ref q_p1_quiets, .ref q_p1_answers, .int v_p1_links, .ref q_p1_froms, .ref q_p1_tos, .ref q_p1_delays, .ref q_p1_strengths])), (q_p1_froms, .inl (T 0, 60, .inl v_p1_froms)), (q_t, .inr (4, [.ref q_t_phases, .ref q_t_coming, .int v_t_row])), (q_p1_delays, .inl (T 0, 60, .inl v_p1_delays)), (q_p1_tos, .inl (T 0, 60, .inl v_p1_tos)), (q_t_coming, .inl (T 0, 512, .inl v_t_coming)), (q_p1_strengths, .inl (T 0, 60, .inl v_p1_strengths))] H → va_D A [(q_p1, .inr (3, [.int v_p1_beaters, .int v_p1_mask, .ref q_p1_places, .ref q_p1_periods, .ref q_p1_quiets, .ref q_p1_answers, .int v_p1_links, .ref q_p1_froms, .ref q_p1_tos, .ref q_p1_delays, .ref q_p1_strengths])), (q_p1_froms, .inl (T 0, 60, .inl v_p1_froms)), (q_t, .inr (4, [.ref q_t_phases, .ref q_t_coming, .int v_t_row])), (q_p1_delays, .inl (T 0, 60, .inl v_p1_delays)), (q_p1_tos, .inl (T 0, 60, .inl v_p1_tos)), (q_t_coming, .inl (T 0, 512, .inl v_t_coming)), (q_p1_strengths, .inl (T 0, 60, .inl v_p1_strengths))] → va_S A s.heap H locs → lv_has ls 4 [(0, .ref q_t), (1, .ref q_p1), (2, .int x2), (3, .int x3)] → (∀ (H : Heap) (locs : List Loc) (ls : Array Slot), va_P D vwCl [(q_p1, .inr (3, [.int v_p1_beaters, .int v_p1_mask, .ref q_p1_places, .ref q_p1_periods, .ref q_p1_quiets, .ref q_p1_answers, .int v_p1_links, .ref q_p1_froms, .ref q_p1_tos, .ref q_p1_delays, .ref q_p1_strengths])), (q_p1_froms, .inl (T 0, 60, .inl v_p1_froms)), (q_t, .inr (4, [.ref q_t_phases, .ref q_t_coming, .int v_t_row])), (q_p1_delays, .inl (T 0, 60, .inl v_p1_delays)), (q_p1_tos, .inl (T 0, 60, .inl v_p1_tos)), (q_t_coming, .inl (T 0, 512, .inl o.2)), (q_p1_strengths, .inl (T 0, 60, .inl v_p1_strengths))] H → va_D A [(q_p1, .inr (3, [.int v_p1_beaters, .int v_p1_mask, .ref q_p1_places, .ref q_p1_periods, .ref q_p1_quiets, .ref q_p1_answers, .int v_p1_links, .ref q_p1_froms, .ref q_p1_tos, .ref q_p1_delays, .ref q_p1_strengths])), (q_p1_froms, .inl (T 0, 60, .inl v_p1_froms)), (q_t, .inr (4, [.ref q_t_phases, .ref q_t_coming, .int v_t_row])), (q_p1_delays, .inl (T 0, 60, .inl v_p1_delays)), (q_p1_tos, .inl (T 0, 60, .inl v_p1_tos)), (q_t_coming, .inl (T 0, 512, .inl o.2)), (q_p1_strengths, .inl (T 0, 60, .inl v_p1_strengths))] → va_S A s.heap H locs → lv_has ls 4 [] → W p l e ({ frames := 1, cells := 0, slots := 0, locals := 21 } : Room) s m args below meth c H locs 0 0 Q (F0 m 60 ls [])) → W p l e ({ frames := 1, cells := 0, slots := 0, locals := 21 } : Room) s m args below meth c H locs 0 0 Q (F0 m 2 ls []) := by
  intro n
  induction n with
  | zero => intro x3 v_t_coming o h; exact absurd h (by simp [f_X2_sendSignals_2])
  | succ n ih =>
    intro x3 v_t_coming o h H locs ls hP hD hS hl kx0
    rw [f_X2_sendSignals_2] at h
    refine lv_iload_n hx hb dX2_sendSignals_2 rfl (lv_at hl 3 rfl) ?_
    refine lv_aload_n hx hb dX2_sendSignals_3 rfl (lv_at hl 1 rfl) ?_
    refine va_getN (D := D) (ci := 3) (v := .int v_p1_links) (C := RX1) (T := TX1) (N := 11) hx hb hts iX2_sendSignals_X1 hown hK hP 0 rfl rfl 6 (by decide) (zk_f hN (own := RX2) (index := 51) (ref := "PulseMeadow$Setting") (n := "links") (d := "I") (host := "PulseMeadow") (by decide +kernel)) (fun _ h9 => h9) rfl dX2_sendSignals_4 ?_
    refine lv_icmp_ge (tgt := 60) hx hb dX2_sendSignals_7 (by decide) (fun c7 => ?_) (fun c7 => ?_)
    · replace h := (if_pos c7).symm.trans h
      obtain rfl := Option.some.inj h
      exact kx0 _ _ _ hP hD hS (lv_sub hl [] rfl)
    · replace h := (if_neg c7).symm.trans h
      refine lv_iload_n hx hb dX2_sendSignals_10 rfl (lv_at hl 2 rfl) ?_
      refine lv_aload_n hx hb dX2_sendSignals_11 rfl (lv_at hl 1 rfl) ?_
      refine va_getN (D := D) (ci := 3) (v := .ref q_p1_froms) (C := RX1) (T := TX1) (N := 11) hx hb hts iX2_sendSignals_X1 hown hK hP 0 rfl rfl 7 (by decide) (zk_f hN (own := RX2) (index := 54) (ref := "PulseMeadow$Setting") (n := "froms") (d := "[I") (host := "PulseMeadow") (by decide +kernel)) (fun _ h9 => h9) rfl dX2_sendSignals_12 ?_
      refine lv_iload_n hx hb dX2_sendSignals_15 rfl (lv_at hl 3 rfl) ?_
      obtain ⟨hb16, h⟩ := zk_g_spec h
      refine va_iald hx hb hK hP 1 0 rfl rfl hb16 dX2_sendSignals_16 ?_
      refine lv_ishr hx hb dX2_sendSignals_17 ?_
      refine lv_iconst (v := (1 : Int32)) hx hb dX2_sendSignals_18 (by decide) ?_
      refine lv_iand hx hb dX2_sendSignals_19 ?_
      refine lv_if_eq (tgt := 54) hx hb dX2_sendSignals_20 (by decide) (fun c20 => ?_) (fun c20 => ?_)
      · replace h := (if_pos c20).symm.trans h
        refine lv_iinc (v := x3 + (1 : Int32)) (lv' := [(3, .int (x3 + (1 : Int32))), (0, .ref q_t), (1, .ref q_p1), (2, .int x2)]) hx hb dX2_sendSignals_54 hl (k := 3) rfl rfl (by decide) rfl (fun ls hl => ?_)
        refine lv_goto (tgt := 2) hx hb dX2_sendSignals_57 (by decide) ?_
        exact ih (x3 + (1 : Int32)) v_t_coming o h _ _ _ hP hD hS (lv_sub hl [1, 2, 3, 0] rfl) kx0
      · replace h := (if_neg c20).symm.trans h
        refine lv_aload_n hx hb dX2_sendSignals_23 rfl (lv_at hl 0 rfl) ?_
        refine va_get (D := D) (ci := 4) (v := .ref q_t_coming) (C := RX2) (T := TX2) (N := 3) hx hb hts iX2_sendSignals_X2 hown hK hP 2 rfl rfl 1 (by decide) (hts (.fieldLink RX2 15 "PulseMeadow$State" "coming" "[I") (by decide +kernel)) (fun _ h9 => h9) rfl dX2_sendSignals_24 ?_
        refine lv_aload_n hx hb dX2_sendSignals_27 rfl (lv_at hl 0 rfl) ?_
        refine lv_aload_n hx hb dX2_sendSignals_28 rfl (lv_at hl 1 rfl) ?_
        refine va_getN (D := D) (ci := 3) (v := .ref q_p1_delays) (C := RX1) (T := TX1) (N := 11) hx hb hts iX2_sendSignals_X1 hown hK hP 0 rfl rfl 9 (by decide) (zk_f hN (own := RX2) (index := 57) (ref := "PulseMeadow$Setting") (n := "delays") (d := "[I") (host := "PulseMeadow") (by decide +kernel)) (fun _ h9 => h9) rfl dX2_sendSignals_29 ?_
        refine lv_iload_n hx hb dX2_sendSignals_32 rfl (lv_at hl 3 rfl) ?_
        obtain ⟨hb33, h⟩ := zk_g_spec h
        refine va_iald hx hb hK hP 3 0 rfl rfl hb33 dX2_sendSignals_33 ?_
        obtain ⟨o34, hc34, h⟩ := zk_bind h
        refine zk_ci (wr := [(q_p1, .inr (3, [.int v_p1_beaters, .int v_p1_mask, .ref q_p1_places, .ref q_p1_periods, .ref q_p1_quiets, .ref q_p1_answers, .int v_p1_links, .ref q_p1_froms, .ref q_p1_tos, .ref q_p1_delays, .ref q_p1_strengths])), (q_p1_froms, .inl (T 0, 60, .inl v_p1_froms)), (q_p1_delays, .inl (T 0, 60, .inl v_p1_delays)), (q_p1_tos, .inl (T 0, 60, .inl v_p1_tos)), (q_t_coming, .inl (T 0, 512, .inl v_t_coming)), (q_p1_strengths, .inl (T 0, 60, .inl v_p1_strengths))]) (va_runV (As := [.int (v_p1_delays x3.toNatClampNeg)]) (rest := [.ref q_t_coming]) ⟨hx, hb, hml, hown, hts⟩ (k_X2_startOfRow l D T N q_t q_t_phases q_t_coming _ v_t_row (v_p1_delays x3.toNatClampNeg) o34 hc34) (cwV 1 hts gX2_sendSignals_X2_startOfRow rfl rfl rfl (by decide +kernel) ⟨Nat.le_of_ble_eq_true rfl, Nat.le_of_ble_eq_true rfl⟩) (zk_preV (q := (RX2, TX2, 3)) hK hN (hP.sub [2] rfl) (hD.sub [2] (by decide) rfl) 0 rfl rfl) rfl rfl hl.1 rfl (lv_room (Nat.le_of_ble_eq_true rfl)) dX2_sendSignals_34 ⟨Nat.zero_le _, Nat.zero_le _⟩) hP hD hS hA [2] [0, 1, 3, 4, 5, 6] rfl rfl (by decide) (by decide) [0, 1, 6, 2, 3, 4, 5] (wf := [(q_p1, .inr (3, [.int v_p1_beaters, .int v_p1_mask, .ref q_p1_places, .ref q_p1_periods, .ref q_p1_quiets, .ref q_p1_answers, .int v_p1_links, .ref q_p1_froms, .ref q_p1_tos, .ref q_p1_delays, .ref q_p1_strengths])), (q_p1_froms, .inl (T 0, 60, .inl v_p1_froms)), (q_t, .inr (4, [.ref q_t_phases, .ref q_t_coming, .int v_t_row])), (q_p1_delays, .inl (T 0, 60, .inl v_p1_delays)), (q_p1_tos, .inl (T 0, 60, .inl v_p1_tos)), (q_t_coming, .inl (T 0, 512, .inl v_t_coming)), (q_p1_strengths, .inl (T 0, 60, .inl v_p1_strengths))]) rfl (by decide) (fun H locs hP hD hS => ?_)
        refine lv_aload_n hx hb dX2_sendSignals_37 rfl (lv_at hl 1 rfl) ?_
        refine va_getN (D := D) (ci := 3) (v := .ref q_p1_tos) (C := RX1) (T := TX1) (N := 11) hx hb hts iX2_sendSignals_X1 hown hK hP 0 rfl rfl 8 (by decide) (zk_f hN (own := RX2) (index := 60) (ref := "PulseMeadow$Setting") (n := "tos") (d := "[I") (host := "PulseMeadow") (by decide +kernel)) (fun _ h9 => h9) rfl dX2_sendSignals_38 ?_
        refine lv_iload_n hx hb dX2_sendSignals_41 rfl (lv_at hl 3 rfl) ?_
        obtain ⟨hb42, h⟩ := zk_g_spec h
        refine va_iald hx hb hK hP 4 0 rfl rfl hb42 dX2_sendSignals_42 ?_
        refine lv_iadd hx hb dX2_sendSignals_43 ?_
        refine lv_dup2_11 hx hb dX2_sendSignals_44 rfl rfl ?_
        obtain ⟨hb45, h⟩ := zk_g_spec h
        refine va_iald hx hb hK hP 5 0 rfl rfl hb45 dX2_sendSignals_45 ?_
        refine lv_aload_n hx hb dX2_sendSignals_46 rfl (lv_at hl 1 rfl) ?_
        refine va_getN (D := D) (ci := 3) (v := .ref q_p1_strengths) (C := RX1) (T := TX1) (N := 11) hx hb hts iX2_sendSignals_X1 hown hK hP 0 rfl rfl 10 (by decide) (zk_f hN (own := RX2) (index := 63) (ref := "PulseMeadow$Setting") (n := "strengths") (d := "[I") (host := "PulseMeadow") (by decide +kernel)) (fun _ h9 => h9) rfl dX2_sendSignals_47 ?_
        refine lv_iload_n hx hb dX2_sendSignals_50 rfl (lv_at hl 3 rfl) ?_
        obtain ⟨hb51, h⟩ := zk_g_spec h
        refine va_iald hx hb hK hP 6 0 rfl rfl hb51 dX2_sendSignals_51 ?_
        refine lv_iadd hx hb dX2_sendSignals_52 ?_
        obtain ⟨hb53, h⟩ := zk_g_spec h
        refine va_iast hx hb hK hP hD hS 5 0 rfl rfl hb53 dX2_sendSignals_53 (fun H locs hP hD hS => ?_)
        have hP : va_P D vwCl [(q_p1, .inr (3, [.int v_p1_beaters, .int v_p1_mask, .ref q_p1_places, .ref q_p1_periods, .ref q_p1_quiets, .ref q_p1_answers, .int v_p1_links, .ref q_p1_froms, .ref q_p1_tos, .ref q_p1_delays, .ref q_p1_strengths])), (q_p1_froms, .inl (T 0, 60, .inl v_p1_froms)), (q_t, .inr (4, [.ref q_t_phases, .ref q_t_coming, .int v_t_row])), (q_p1_delays, .inl (T 0, 60, .inl v_p1_delays)), (q_p1_tos, .inl (T 0, 60, .inl v_p1_tos)), (q_t_coming, .inl (T 0, 512, .inl (upd v_t_coming (o34 + (v_p1_tos x3.toNatClampNeg)).toNatClampNeg ((v_t_coming (o34 + (v_p1_tos x3.toNatClampNeg)).toNatClampNeg) + (v_p1_strengths x3.toNatClampNeg))))), (q_p1_strengths, .inl (T 0, 60, .inl v_p1_strengths))] H := hP
        have hD : va_D A [(q_p1, .inr (3, [.int v_p1_beaters, .int v_p1_mask, .ref q_p1_places, .ref q_p1_periods, .ref q_p1_quiets, .ref q_p1_answers, .int v_p1_links, .ref q_p1_froms, .ref q_p1_tos, .ref q_p1_delays, .ref q_p1_strengths])), (q_p1_froms, .inl (T 0, 60, .inl v_p1_froms)), (q_t, .inr (4, [.ref q_t_phases, .ref q_t_coming, .int v_t_row])), (q_p1_delays, .inl (T 0, 60, .inl v_p1_delays)), (q_p1_tos, .inl (T 0, 60, .inl v_p1_tos)), (q_t_coming, .inl (T 0, 512, .inl (upd v_t_coming (o34 + (v_p1_tos x3.toNatClampNeg)).toNatClampNeg ((v_t_coming (o34 + (v_p1_tos x3.toNatClampNeg)).toNatClampNeg) + (v_p1_strengths x3.toNatClampNeg))))), (q_p1_strengths, .inl (T 0, 60, .inl v_p1_strengths))] := hD
        refine lv_iinc (v := x3 + (1 : Int32)) (lv' := [(3, .int (x3 + (1 : Int32))), (0, .ref q_t), (1, .ref q_p1), (2, .int x2)]) hx hb dX2_sendSignals_54 hl (k := 3) rfl rfl (by decide) rfl (fun ls hl => ?_)
        refine lv_goto (tgt := 2) hx hb dX2_sendSignals_57 (by decide) ?_
        exact ih (x3 + (1 : Int32)) (upd v_t_coming (o34 + (v_p1_tos x3.toNatClampNeg)).toNatClampNeg ((v_t_coming (o34 + (v_p1_tos x3.toNatClampNeg)).toNatClampNeg) + (v_p1_strengths x3.toNatClampNeg))) o h _ _ _ hP hD hS (lv_sub hl [1, 2, 3, 0] rfl) kx0
def f_X2_sendSignals (N : Nat) (v_p1_links : Int32) (v_p1_froms : Nat → Int32) (v_t_row : Int32) (v_p1_delays : Nat → Int32) (v_p1_tos : Nat → Int32) (v_t_coming : Nat → Int32) (v_p1_strengths : Nat → Int32) (x2 : Int32) : Option ((Nat → Int32)) := (f_X2_sendSignals_2 N v_p1_links v_p1_froms v_t_row v_p1_delays v_p1_tos v_p1_strengths x2 N (0 : Int32) v_t_coming).bind fun o2 => some o2.2
set_option maxHeartbeats 8000000 in
set_option maxRecDepth 100000 in
theorem k_X2_sendSignals (l : Launch) (D : va_G) (T : Nat → ClassId) (N : Nat) (q_p1 q_p1_froms q_t q_p1_delays q_p1_tos q_t_coming q_p1_strengths q_p1_places q_p1_periods q_p1_quiets q_p1_answers q_t_phases : Nat) (sz : Nat) (v_p1_beaters : Int32) (v_p1_mask : Int32) (v_p1_links : Int32) (v_p1_froms : Nat → Int32) (v_t_row : Int32) (v_p1_delays : Nat → Int32) (v_p1_tos : Nat → Int32) (v_t_coming : Nat → Int32) (v_p1_strengths : Nat → Int32) (x2 : Int32) (o : (Nat → Int32)) (h : f_X2_sendSignals N v_p1_links v_p1_froms v_t_row v_p1_delays v_p1_tos v_t_coming v_p1_strengths x2 = some o) : Met l yX2_sendSignals wsX2_sendSignals ({ frames := 1, cells := 0, slots := 0, locals := 21 } : Room) (zk_Pc D T [.ref q_t, .ref q_p1, .int x2] [(q_p1, .inr (3, [.int v_p1_beaters, .int v_p1_mask, .ref q_p1_places, .ref q_p1_periods, .ref q_p1_quiets, .ref q_p1_answers, .int v_p1_links, .ref q_p1_froms, .ref q_p1_tos, .ref q_p1_delays, .ref q_p1_strengths])), (q_p1_froms, .inl (T 0, 60, .inl v_p1_froms)), (q_t, .inr (4, [.ref q_t_phases, .ref q_t_coming, .int v_t_row])), (q_p1_delays, .inl (T 0, 60, .inl v_p1_delays)), (q_p1_tos, .inl (T 0, 60, .inl v_p1_tos)), (q_t_coming, .inl (T 0, 512, .inl v_t_coming)), (q_p1_strengths, .inl (T 0, 60, .inl v_p1_strengths))] sz) (zk_Qv D [(q_p1, .inr (3, [.int v_p1_beaters, .int v_p1_mask, .ref q_p1_places, .ref q_p1_periods, .ref q_p1_quiets, .ref q_p1_answers, .int v_p1_links, .ref q_p1_froms, .ref q_p1_tos, .ref q_p1_delays, .ref q_p1_strengths])), (q_p1_froms, .inl (T 0, 60, .inl v_p1_froms)), (q_t, .inr (4, [.ref q_t_phases, .ref q_t_coming, .int v_t_row])), (q_p1_delays, .inl (T 0, 60, .inl v_p1_delays)), (q_p1_tos, .inl (T 0, 60, .inl v_p1_tos)), (q_t_coming, .inl (T 0, 512, .inl o)), (q_p1_strengths, .inl (T 0, 60, .inl v_p1_strengths))] (va_A [(q_p1, .inr (3, [.int v_p1_beaters, .int v_p1_mask, .ref q_p1_places, .ref q_p1_periods, .ref q_p1_quiets, .ref q_p1_answers, .int v_p1_links, .ref q_p1_froms, .ref q_p1_tos, .ref q_p1_delays, .ref q_p1_strengths])), (q_p1_froms, .inl (T 0, 60, .inl v_p1_froms)), (q_t, .inr (4, [.ref q_t_phases, .ref q_t_coming, .int v_t_row])), (q_p1_delays, .inl (T 0, 60, .inl v_p1_delays)), (q_p1_tos, .inl (T 0, 60, .inl v_p1_tos)), (q_t_coming, .inl (T 0, 512, .inl v_t_coming)), (q_p1_strengths, .inl (T 0, 60, .inl v_p1_strengths))] sz) (va_A [(q_p1, .inr (3, [.int v_p1_beaters, .int v_p1_mask, .ref q_p1_places, .ref q_p1_periods, .ref q_p1_quiets, .ref q_p1_answers, .int v_p1_links, .ref q_p1_froms, .ref q_p1_tos, .ref q_p1_delays, .ref q_p1_strengths])), (q_p1_froms, .inl (T 0, 60, .inl v_p1_froms)), (q_t, .inr (4, [.ref q_t_phases, .ref q_t_coming, .int v_t_row])), (q_p1_delays, .inl (T 0, 60, .inl v_p1_delays)), (q_p1_tos, .inl (T 0, 60, .inl v_p1_tos)), (q_t_coming, .inl (T 0, 512, .inl v_t_coming)), (q_p1_strengths, .inl (T 0, 60, .inl v_p1_strengths))] sz)) 0 0 (va_A [(q_p1, .inr (3, [.int v_p1_beaters, .int v_p1_mask, .ref q_p1_places, .ref q_p1_periods, .ref q_p1_quiets, .ref q_p1_answers, .int v_p1_links, .ref q_p1_froms, .ref q_p1_tos, .ref q_p1_delays, .ref q_p1_strengths])), (q_p1_froms, .inl (T 0, 60, .inl v_p1_froms)), (q_t, .inr (4, [.ref q_t_phases, .ref q_t_coming, .int v_t_row])), (q_p1_delays, .inl (T 0, 60, .inl v_p1_delays)), (q_p1_tos, .inl (T 0, 60, .inl v_p1_tos)), (q_t_coming, .inl (T 0, 512, .inl v_t_coming)), (q_p1_strengths, .inl (T 0, 60, .inl v_p1_strengths))] sz) := by
  refine Met.ofW (cc := cX2_sendSignals) (maxL := 4) (ret := none) (by decide) rfl ?_
  intro p e s m args below meth c s₁ B hml hv
  obtain ⟨rfl, hsz, hP, hK, hN, hD0⟩ := hv
  have hx := B.exec
  have hb := B.bytes
  have hr := B.returns
  have hts := atoms_spec (ws := wsX2_sendSignals) B.pre
  have hown : s.vm.findClass RX2 = some m.cls := findClass_of_methodNamed B.named
  have hlocks := B.notSynchronized
  subst hsz
  have hD := hD0.self (sz := s.heap.size)
  generalize hAe : va_A [(q_p1, .inr (3, [.int v_p1_beaters, .int v_p1_mask, .ref q_p1_places, .ref q_p1_periods, .ref q_p1_quiets, .ref q_p1_answers, .int v_p1_links, .ref q_p1_froms, .ref q_p1_tos, .ref q_p1_delays, .ref q_p1_strengths])), (q_p1_froms, .inl (T 0, 60, .inl v_p1_froms)), (q_t, .inr (4, [.ref q_t_phases, .ref q_t_coming, .int v_t_row])), (q_p1_delays, .inl (T 0, 60, .inl v_p1_delays)), (q_p1_tos, .inl (T 0, 60, .inl v_p1_tos)), (q_t_coming, .inl (T 0, 512, .inl v_t_coming)), (q_p1_strengths, .inl (T 0, 60, .inl v_p1_strengths))] s.heap.size = A at hD ⊢
  have hA : ∀ q : Nat, s.heap.size ≤ q → A q := fun q h => by rw [← hAe]; exact Or.inr h
  have hS : va_S A s.heap s.heap [] := va_S.rf
  have hP : va_P D vwCl [(q_p1, .inr (3, [.int v_p1_beaters, .int v_p1_mask, .ref q_p1_places, .ref q_p1_periods, .ref q_p1_quiets, .ref q_p1_answers, .int v_p1_links, .ref q_p1_froms, .ref q_p1_tos, .ref q_p1_delays, .ref q_p1_strengths])), (q_p1_froms, .inl (T 0, 60, .inl v_p1_froms)), (q_t, .inr (4, [.ref q_t_phases, .ref q_t_coming, .int v_t_row])), (q_p1_delays, .inl (T 0, 60, .inl v_p1_delays)), (q_p1_tos, .inl (T 0, 60, .inl v_p1_tos)), (q_t_coming, .inl (T 0, 512, .inl v_t_coming)), (q_p1_strengths, .inl (T 0, 60, .inl v_p1_strengths))] s.heap := hP
  have hl := lv_entry ([.ref q_t, .ref q_p1, .int x2]) (n := 4) (Nat.le_of_ble_eq_true rfl)
  rw [lg_entry_eq]
  generalize (lg_sl ([.ref q_t, .ref q_p1, .int x2]) ++ List.replicate (4 - (lg_sl ([.ref q_t, .ref q_p1, .int x2])).length) Slot.unset).toArray = ls at hl ⊢
  have hl : lv_has ls 4 [(0, .ref q_t), (1, .ref q_p1), (2, .int x2)] := hl
  unfold f_X2_sendSignals at h
  refine lv_iconst (v := (0 : Int32)) hx hb dX2_sendSignals_0 (by decide) ?_
  refine lv_istore_n (lv' := [(3, .int (0 : Int32)), (0, .ref q_t), (1, .ref q_p1), (2, .int x2)]) hx hb dX2_sendSignals_1 rfl hl (by decide) rfl (fun ls hl => ?_)
  obtain ⟨o2, hc2, h⟩ := zk_bind h
  refine l_X2_sendSignals_2 N hx hb hml hown hts hA hK hN q_p1 q_p1_froms q_t q_p1_delays q_p1_tos q_t_coming q_p1_strengths q_p1_places q_p1_periods q_p1_quiets q_p1_answers q_t_phases v_p1_beaters v_p1_mask v_p1_links v_p1_froms v_t_row v_p1_delays v_p1_tos v_p1_strengths x2 N (0 : Int32) v_t_coming o2 hc2 _ _ _ hP hD hS (lv_sub hl [1, 2, 3, 0] rfl) (fun H locs ls hP hD hS hl => ?_)
  obtain rfl := Option.some.inj h
  exact W.vret hx hb hr (fun t ht hW => ⟨⟨(), rfl, trivial, ⟨by rw [ht]; exact hP, hD⟩⟩, hS.F ht⟩) hS.2.2 dX2_sendSignals_60
theorem iX2_advance_X1 : ∀ w ∈ wsX10, w ∈ wsX2_advance := by decide +kernel
theorem iX2_advance_X2 : ∀ w ∈ wsX20, w ∈ wsX2_advance := by decide +kernel
def f_X2_advance_25 (N : Nat) (v_p1_beaters : Int32) (v_p1_places : Nat → Int32) (v_t_coming : Nat → Int32) (v_p1_periods : Nat → Int32) (v_p1_quiets : Nat → Int32) (v_p1_answers : Nat → Int32) (x2 : Int32) (x3 : Int32) : Nat → Int32 → Int32 → (Nat → Int32) → Option (Int32 × Int32 × (Nat → Int32))
  | 0, _, _, _ => none
  | n + 1, x4, x5, v_t_phases => if v_p1_beaters ≤ x5 then (some (x4, x5, v_t_phases)) else (zk_g x5 16 (zk_g (v_p1_places x5.toNatClampNeg) 16 (zk_g (x3 + (v_p1_places x5.toNatClampNeg)) 512 ((f_X1_pulled N v_p1_periods v_p1_quiets v_p1_answers (v_p1_places x5.toNatClampNeg) (v_t_phases (v_p1_places x5.toNatClampNeg).toNatClampNeg) (v_t_coming (x3 + (v_p1_places x5.toNatClampNeg)).toNatClampNeg)).bind fun o62 => zk_g (v_p1_places x5.toNatClampNeg) 16 (if ((o62 + (1 : Int32)) + ((x2 >>> ((v_p1_places x5.toNatClampNeg) &&& 31)) &&& (1 : Int32))) < (v_p1_periods (v_p1_places x5.toNatClampNeg).toNatClampNeg) then (zk_g (v_p1_places x5.toNatClampNeg) 16 (f_X2_advance_25 N v_p1_beaters v_p1_places v_t_coming v_p1_periods v_p1_quiets v_p1_answers x2 x3 n x4 (x5 + (1 : Int32)) (upd v_t_phases (v_p1_places x5.toNatClampNeg).toNatClampNeg ((o62 + (1 : Int32)) + ((x2 >>> ((v_p1_places x5.toNatClampNeg) &&& 31)) &&& (1 : Int32)))))) else (zk_g (v_p1_places x5.toNatClampNeg) 16 (f_X2_advance_25 N v_p1_beaters v_p1_places v_t_coming v_p1_periods v_p1_quiets v_p1_answers x2 x3 n (x4 ||| ((1 : Int32) <<< ((v_p1_places x5.toNatClampNeg) &&& 31))) (x5 + (1 : Int32)) (upd v_t_phases (v_p1_places x5.toNatClampNeg).toNatClampNeg (0 : Int32)))))))))
set_option maxHeartbeats 8000000 in
set_option maxRecDepth 100000 in
theorem l_X2_advance_25 {p : Program} {l : Launch} {e : Env} {s : State} {m : MethodId} {args : Array Value} {below : List Frame} {meth : Method} {c : Code} {Q : State → Prop} {A : Nat → Prop} {D : va_G} {T : Nat → ClassId} (N : Nat) (hx : p.tables.exec = Jvm.exec) (hb : c.code = cX2_advance) (hml : c.maxLocals = 8) (hown : s.vm.findClass RX2 = some m.cls) (hts : ∀ w ∈ wsX2_advance, w.before args s = true) (hA : ∀ q : Nat, s.heap.size ≤ q → A q) (hK : va_K D vwCl (zk_ty T) s) (hN : zk_N s) (q_t q_p1 q_p1_places q_t_phases q_t_coming q_p1_periods q_p1_quiets q_p1_answers q_p1_froms q_p1_delays q_p1_tos q_p1_strengths : Nat) (v_t_row : Int32) (v_p1_beaters : Int32) (v_p1_mask : Int32) (v_p1_links : Int32) (v_p1_places : Nat → Int32) (v_t_coming : Nat → Int32) (v_p1_periods : Nat → Int32) (v_p1_quiets : Nat → Int32) (v_p1_answers : Nat → Int32) (v_p1_froms : Nat → Int32) (v_p1_delays : Nat → Int32) (v_p1_tos : Nat → Int32) (v_p1_strengths : Nat → Int32) (x2 : Int32) (x3 : Int32) :
    ∀ (n : Nat) (x4 : Int32) (x5 : Int32) (v_t_phases : Nat → Int32) (o : Int32 × Int32 × (Nat → Int32)), f_X2_advance_25 N v_p1_beaters v_p1_places v_t_coming v_p1_periods v_p1_quiets v_p1_answers x2 x3 n x4 x5 v_t_phases = some o → ∀ (H : Heap) (locs : List Loc) (ls : Array Slot), va_P D vwCl [(q_t, .inr (4, [.ref q_t_phases, .ref q_t_coming, .int v_t_row])), (q_p1, .inr (3, [.int v_p1_beaters, .int v_p1_mask, .ref q_p1_places, .ref q_p1_periods, .ref q_p1_quiets, .ref q_p1_answers, .int v_p1_links, .ref q_p1_froms, .ref q_p1_tos, .ref q_p1_delays, .ref q_p1_strengths])), (q_p1_places, .inl (T 0, 16, .inl v_p1_places)), (q_t_phases, .inl (T 0, 16, .inl v_t_phases)), (q_t_coming, .inl (T 0, 512, .inl v_t_coming)), (q_p1_periods, .inl (T 0, 16, .inl v_p1_periods)), (q_p1_quiets, .inl (T 0, 16, .inl v_p1_quiets)), (q_p1_answers, .inl (T 0, 64, .inl v_p1_answers)), (q_p1_froms, .inl (T 0, 60, .inl v_p1_froms)), (q_p1_delays, .inl (T 0, 60, .inl v_p1_delays)), (q_p1_tos, .inl (T 0, 60, .inl v_p1_tos)), (q_p1_strengths, .inl (T 0, 60, .inl v_p1_strengths))] H → va_D A [(q_t, .inr (4, [.ref q_t_phases, .ref q_t_coming, .int v_t_row])), (q_p1, .inr (3, [.int v_p1_beaters, .int v_p1_mask, .ref q_p1_places, .ref q_p1_periods, .ref q_p1_quiets, .ref q_p1_answers, .int v_p1_links, .ref q_p1_froms, .ref q_p1_tos, .ref q_p1_delays, .ref q_p1_strengths])), (q_p1_places, .inl (T 0, 16, .inl v_p1_places)), (q_t_phases, .inl (T 0, 16, .inl v_t_phases)), (q_t_coming, .inl (T 0, 512, .inl v_t_coming)), (q_p1_periods, .inl (T 0, 16, .inl v_p1_periods)), (q_p1_quiets, .inl (T 0, 16, .inl v_p1_quiets)), (q_p1_answers, .inl (T 0, 64, .inl v_p1_answers)), (q_p1_froms, .inl (T 0, 60, .inl v_p1_froms)), (q_p1_delays, .inl (T 0, 60, .inl v_p1_delays)), (q_p1_tos, .inl (T 0, 60, .inl v_p1_tos)), (q_p1_strengths, .inl (T 0, 60, .inl v_p1_strengths))] → va_S A s.heap H locs → lv_has ls 8 [(0, .ref q_t), (1, .ref q_p1), (2, .int x2), (3, .int x3), (4, .int x4), (5, .int x5)] → (∀ (H : Heap) (locs : List Loc) (ls : Array Slot), va_P D vwCl [(q_t, .inr (4, [.ref q_t_phases, .ref q_t_coming, .int v_t_row])), (q_p1, .inr (3, [.int v_p1_beaters, .int v_p1_mask, .ref q_p1_places, .ref q_p1_periods, .ref q_p1_quiets, .ref q_p1_answers, .int v_p1_links, .ref q_p1_froms, .ref q_p1_tos, .ref q_p1_delays, .ref q_p1_strengths])), (q_p1_places, .inl (T 0, 16, .inl v_p1_places)), (q_t_phases, .inl (T 0, 16, .inl o.2.2)), (q_t_coming, .inl (T 0, 512, .inl v_t_coming)), (q_p1_periods, .inl (T 0, 16, .inl v_p1_periods)), (q_p1_quiets, .inl (T 0, 16, .inl v_p1_quiets)), (q_p1_answers, .inl (T 0, 64, .inl v_p1_answers)), (q_p1_froms, .inl (T 0, 60, .inl v_p1_froms)), (q_p1_delays, .inl (T 0, 60, .inl v_p1_delays)), (q_p1_tos, .inl (T 0, 60, .inl v_p1_tos)), (q_p1_strengths, .inl (T 0, 60, .inl v_p1_strengths))] H → va_D A [(q_t, .inr (4, [.ref q_t_phases, .ref q_t_coming, .int v_t_row])), (q_p1, .inr (3, [.int v_p1_beaters, .int v_p1_mask, .ref q_p1_places, .ref q_p1_periods, .ref q_p1_quiets, .ref q_p1_answers, .int v_p1_links, .ref q_p1_froms, .ref q_p1_tos, .ref q_p1_delays, .ref q_p1_strengths])), (q_p1_places, .inl (T 0, 16, .inl v_p1_places)), (q_t_phases, .inl (T 0, 16, .inl o.2.2)), (q_t_coming, .inl (T 0, 512, .inl v_t_coming)), (q_p1_periods, .inl (T 0, 16, .inl v_p1_periods)), (q_p1_quiets, .inl (T 0, 16, .inl v_p1_quiets)), (q_p1_answers, .inl (T 0, 64, .inl v_p1_answers)), (q_p1_froms, .inl (T 0, 60, .inl v_p1_froms)), (q_p1_delays, .inl (T 0, 60, .inl v_p1_delays)), (q_p1_tos, .inl (T 0, 60, .inl v_p1_tos)), (q_p1_strengths, .inl (T 0, 60, .inl v_p1_strengths))] → va_S A s.heap H locs → lv_has ls 8 [(0, .ref q_t), (1, .ref q_p1), (3, .int x3), (4, .int o.1)] → W p l e ({ frames := 2, cells := 0, slots := 0, locals := 44 } : Room) s m args below meth c H locs 0 0 Q (F0 m 115 ls [])) → W p l e ({ frames := 2, cells := 0, slots := 0, locals := 44 } : Room) s m args below meth c H locs 0 0 Q (F0 m 25 ls []) := by
  intro n
  induction n with
  | zero => intro x4 x5 v_t_phases o h; exact absurd h (by simp [f_X2_advance_25])
  | succ n ih =>
    intro x4 x5 v_t_phases o h H locs ls hP hD hS hl kx0
    rw [f_X2_advance_25] at h
    refine lv_iload hx hb dX2_advance_25 (lv_at hl 5 rfl) ?_
    refine lv_aload_n hx hb dX2_advance_27 rfl (lv_at hl 1 rfl) ?_
    refine va_getN (D := D) (ci := 3) (v := .int v_p1_beaters) (C := RX1) (T := TX1) (N := 11) hx hb hts iX2_advance_X1 hown hK hP 1 rfl rfl 0 (by decide) (zk_f hN (own := RX2) (index := 32) (ref := "PulseMeadow$Setting") (n := "beaters") (d := "I") (host := "PulseMeadow") (by decide +kernel)) (fun _ h9 => h9) rfl dX2_advance_28 ?_
    refine lv_icmp_ge (tgt := 115) hx hb dX2_advance_31 (by decide) (fun c31 => ?_) (fun c31 => ?_)
    · replace h := (if_pos c31).symm.trans h
      obtain rfl := Option.some.inj h
      exact kx0 _ _ _ hP hD hS (lv_sub hl [0, 1, 3, 4] rfl)
    · replace h := (if_neg c31).symm.trans h
      refine lv_aload_n hx hb dX2_advance_34 rfl (lv_at hl 1 rfl) ?_
      refine va_getN (D := D) (ci := 3) (v := .ref q_p1_places) (C := RX1) (T := TX1) (N := 11) hx hb hts iX2_advance_X1 hown hK hP 1 rfl rfl 2 (by decide) (zk_f hN (own := RX2) (index := 37) (ref := "PulseMeadow$Setting") (n := "places") (d := "[I") (host := "PulseMeadow") (by decide +kernel)) (fun _ h9 => h9) rfl dX2_advance_35 ?_
      refine lv_iload hx hb dX2_advance_38 (lv_at hl 5 rfl) ?_
      obtain ⟨hb40, h⟩ := zk_g_spec h
      refine va_iald hx hb hK hP 2 0 rfl rfl hb40 dX2_advance_40 ?_
      refine lv_istore (lv' := [(6, .int (v_p1_places x5.toNatClampNeg)), (0, .ref q_t), (1, .ref q_p1), (2, .int x2), (3, .int x3), (4, .int x4), (5, .int x5)]) hx hb dX2_advance_41 hl (by decide) rfl (fun ls hl => ?_)
      refine lv_aload_n hx hb dX2_advance_43 rfl (lv_at hl 2 rfl) ?_
      refine lv_iload hx hb dX2_advance_44 (lv_at hl 0 rfl) ?_
      refine lv_aload_n hx hb dX2_advance_46 rfl (lv_at hl 1 rfl) ?_
      refine va_get (D := D) (ci := 4) (v := .ref q_t_phases) (C := RX2) (T := TX2) (N := 3) hx hb hts iX2_advance_X2 hown hK hP 0 rfl rfl 0 (by decide) (hts (.fieldLink RX2 9 "PulseMeadow$State" "phases" "[I") (by decide +kernel)) (fun _ h9 => h9) rfl dX2_advance_47 ?_
      refine lv_iload hx hb dX2_advance_50 (lv_at hl 0 rfl) ?_
      obtain ⟨hb52, h⟩ := zk_g_spec h
      refine va_iald hx hb hK hP 3 0 rfl rfl hb52 dX2_advance_52 ?_
      refine lv_aload_n hx hb dX2_advance_53 rfl (lv_at hl 1 rfl) ?_
      refine va_get (D := D) (ci := 4) (v := .ref q_t_coming) (C := RX2) (T := TX2) (N := 3) hx hb hts iX2_advance_X2 hown hK hP 0 rfl rfl 1 (by decide) (hts (.fieldLink RX2 15 "PulseMeadow$State" "coming" "[I") (by decide +kernel)) (fun _ h9 => h9) rfl dX2_advance_54 ?_
      refine lv_iload_n hx hb dX2_advance_57 rfl (lv_at hl 4 rfl) ?_
      refine lv_iload hx hb dX2_advance_58 (lv_at hl 0 rfl) ?_
      refine lv_iadd hx hb dX2_advance_60 ?_
      obtain ⟨hb61, h⟩ := zk_g_spec h
      refine va_iald hx hb hK hP 4 0 rfl rfl hb61 dX2_advance_61 ?_
      obtain ⟨o62, hc62, h⟩ := zk_bind h
      refine zk_ci (wr := [(q_t, .inr (4, [.ref q_t_phases, .ref q_t_coming, .int v_t_row])), (q_p1_places, .inl (T 0, 16, .inl v_p1_places)), (q_t_phases, .inl (T 0, 16, .inl v_t_phases)), (q_t_coming, .inl (T 0, 512, .inl v_t_coming)), (q_p1_froms, .inl (T 0, 60, .inl v_p1_froms)), (q_p1_delays, .inl (T 0, 60, .inl v_p1_delays)), (q_p1_tos, .inl (T 0, 60, .inl v_p1_tos)), (q_p1_strengths, .inl (T 0, 60, .inl v_p1_strengths))]) (va_runVN (As := [.int (v_p1_places x5.toNatClampNeg), .int (v_t_phases (v_p1_places x5.toNatClampNeg).toNatClampNeg), .int (v_t_coming (x3 + (v_p1_places x5.toNatClampNeg)).toNatClampNeg)]) (rest := []) ⟨hx, hb, hml, hown, hts⟩ (k_X1_pulled l D T N q_p1 q_p1_periods q_p1_quiets q_p1_answers q_p1_places q_p1_froms q_p1_tos q_p1_delays q_p1_strengths _ v_p1_beaters v_p1_mask v_p1_links v_p1_periods v_p1_quiets v_p1_answers (v_p1_places x5.toNatClampNeg) (v_t_phases (v_p1_places x5.toNatClampNeg).toNatClampNeg) (v_t_coming (x3 + (v_p1_places x5.toNatClampNeg)).toNatClampNeg) o62 hc62) ⟨va_cnB 3 hts gX2_advance_X1_pulled_n40 rfl rfl rfl (zk_m hN (own := RX2) (index := 40) (y := yX1_pulled) (host := "PulseMeadow") (by decide +kernel)) (hts (.initialized RX1) (by decide +kernel)) (by decide +kernel) ⟨Nat.le_of_ble_eq_true rfl, Nat.le_of_ble_eq_true rfl⟩, hts (.instanceMethod yX1_pulled) (by decide +kernel), hts (.selects RX1 yX1_pulled yX1_pulled) (by decide +kernel)⟩ (zk_preV (q := (RX1, TX1, 11)) hK hN (hP.sub [1, 5, 6, 7] rfl) (hD.sub [1, 5, 6, 7] (by decide) rfl) 0 rfl rfl) rfl rfl hl.1 rfl (lv_room (Nat.le_of_ble_eq_true rfl)) dX2_advance_62 ⟨Nat.zero_le _, Nat.zero_le _⟩) hP hD hS hA [1, 5, 6, 7] [0, 2, 3, 4, 8, 9, 10, 11] rfl rfl (by decide) (by decide) [0, 8, 1, 2, 3, 9, 10, 11, 4, 5, 6, 7] (wf := [(q_t, .inr (4, [.ref q_t_phases, .ref q_t_coming, .int v_t_row])), (q_p1, .inr (3, [.int v_p1_beaters, .int v_p1_mask, .ref q_p1_places, .ref q_p1_periods, .ref q_p1_quiets, .ref q_p1_answers, .int v_p1_links, .ref q_p1_froms, .ref q_p1_tos, .ref q_p1_delays, .ref q_p1_strengths])), (q_p1_places, .inl (T 0, 16, .inl v_p1_places)), (q_t_phases, .inl (T 0, 16, .inl v_t_phases)), (q_t_coming, .inl (T 0, 512, .inl v_t_coming)), (q_p1_periods, .inl (T 0, 16, .inl v_p1_periods)), (q_p1_quiets, .inl (T 0, 16, .inl v_p1_quiets)), (q_p1_answers, .inl (T 0, 64, .inl v_p1_answers)), (q_p1_froms, .inl (T 0, 60, .inl v_p1_froms)), (q_p1_delays, .inl (T 0, 60, .inl v_p1_delays)), (q_p1_tos, .inl (T 0, 60, .inl v_p1_tos)), (q_p1_strengths, .inl (T 0, 60, .inl v_p1_strengths))]) rfl (by decide) (fun H locs hP hD hS => ?_)
      refine lv_iconst (v := (1 : Int32)) hx hb dX2_advance_65 (by decide) ?_
      refine lv_iadd hx hb dX2_advance_66 ?_
      refine lv_iload_n hx hb dX2_advance_67 rfl (lv_at hl 3 rfl) ?_
      refine lv_iload hx hb dX2_advance_68 (lv_at hl 0 rfl) ?_
      refine lv_ishr hx hb dX2_advance_70 ?_
      refine lv_iconst (v := (1 : Int32)) hx hb dX2_advance_71 (by decide) ?_
      refine lv_iand hx hb dX2_advance_72 ?_
      refine lv_iadd hx hb dX2_advance_73 ?_
      refine lv_istore (lv' := [(7, .int ((o62 + (1 : Int32)) + ((x2 >>> ((v_p1_places x5.toNatClampNeg) &&& 31)) &&& (1 : Int32)))), (6, .int (v_p1_places x5.toNatClampNeg)), (0, .ref q_t), (1, .ref q_p1), (2, .int x2), (3, .int x3), (4, .int x4), (5, .int x5)]) hx hb dX2_advance_74 hl (by decide) rfl (fun ls hl => ?_)
      refine lv_iload hx hb dX2_advance_76 (lv_at hl 0 rfl) ?_
      refine lv_aload_n hx hb dX2_advance_78 rfl (lv_at hl 3 rfl) ?_
      refine va_getN (D := D) (ci := 3) (v := .ref q_p1_periods) (C := RX1) (T := TX1) (N := 11) hx hb hts iX2_advance_X1 hown hK hP 1 rfl rfl 3 (by decide) (zk_f hN (own := RX2) (index := 44) (ref := "PulseMeadow$Setting") (n := "periods") (d := "[I") (host := "PulseMeadow") (by decide +kernel)) (fun _ h9 => h9) rfl dX2_advance_79 ?_
      refine lv_iload hx hb dX2_advance_82 (lv_at hl 1 rfl) ?_
      obtain ⟨hb84, h⟩ := zk_g_spec h
      refine va_iald hx hb hK hP 5 0 rfl rfl hb84 dX2_advance_84 ?_
      refine lv_icmp_lt (tgt := 100) hx hb dX2_advance_85 (by decide) (fun c85 => ?_) (fun c85 => ?_)
      · replace h := (if_pos c85).symm.trans h
        refine lv_aload_n hx hb dX2_advance_100 rfl (lv_at hl 2 rfl) ?_
        refine va_get (D := D) (ci := 4) (v := .ref q_t_phases) (C := RX2) (T := TX2) (N := 3) hx hb hts iX2_advance_X2 hown hK hP 0 rfl rfl 0 (by decide) (hts (.fieldLink RX2 9 "PulseMeadow$State" "phases" "[I") (by decide +kernel)) (fun _ h9 => h9) rfl dX2_advance_101 ?_
        refine lv_iload hx hb dX2_advance_104 (lv_at hl 1 rfl) ?_
        refine lv_iload hx hb dX2_advance_106 (lv_at hl 0 rfl) ?_
        obtain ⟨hb108, h⟩ := zk_g_spec h
        refine va_iast hx hb hK hP hD hS 3 0 rfl rfl hb108 dX2_advance_108 (fun H locs hP hD hS => ?_)
        have hP : va_P D vwCl [(q_t, .inr (4, [.ref q_t_phases, .ref q_t_coming, .int v_t_row])), (q_p1, .inr (3, [.int v_p1_beaters, .int v_p1_mask, .ref q_p1_places, .ref q_p1_periods, .ref q_p1_quiets, .ref q_p1_answers, .int v_p1_links, .ref q_p1_froms, .ref q_p1_tos, .ref q_p1_delays, .ref q_p1_strengths])), (q_p1_places, .inl (T 0, 16, .inl v_p1_places)), (q_t_phases, .inl (T 0, 16, .inl (upd v_t_phases (v_p1_places x5.toNatClampNeg).toNatClampNeg ((o62 + (1 : Int32)) + ((x2 >>> ((v_p1_places x5.toNatClampNeg) &&& 31)) &&& (1 : Int32)))))), (q_t_coming, .inl (T 0, 512, .inl v_t_coming)), (q_p1_periods, .inl (T 0, 16, .inl v_p1_periods)), (q_p1_quiets, .inl (T 0, 16, .inl v_p1_quiets)), (q_p1_answers, .inl (T 0, 64, .inl v_p1_answers)), (q_p1_froms, .inl (T 0, 60, .inl v_p1_froms)), (q_p1_delays, .inl (T 0, 60, .inl v_p1_delays)), (q_p1_tos, .inl (T 0, 60, .inl v_p1_tos)), (q_p1_strengths, .inl (T 0, 60, .inl v_p1_strengths))] H := hP
        have hD : va_D A [(q_t, .inr (4, [.ref q_t_phases, .ref q_t_coming, .int v_t_row])), (q_p1, .inr (3, [.int v_p1_beaters, .int v_p1_mask, .ref q_p1_places, .ref q_p1_periods, .ref q_p1_quiets, .ref q_p1_answers, .int v_p1_links, .ref q_p1_froms, .ref q_p1_tos, .ref q_p1_delays, .ref q_p1_strengths])), (q_p1_places, .inl (T 0, 16, .inl v_p1_places)), (q_t_phases, .inl (T 0, 16, .inl (upd v_t_phases (v_p1_places x5.toNatClampNeg).toNatClampNeg ((o62 + (1 : Int32)) + ((x2 >>> ((v_p1_places x5.toNatClampNeg) &&& 31)) &&& (1 : Int32)))))), (q_t_coming, .inl (T 0, 512, .inl v_t_coming)), (q_p1_periods, .inl (T 0, 16, .inl v_p1_periods)), (q_p1_quiets, .inl (T 0, 16, .inl v_p1_quiets)), (q_p1_answers, .inl (T 0, 64, .inl v_p1_answers)), (q_p1_froms, .inl (T 0, 60, .inl v_p1_froms)), (q_p1_delays, .inl (T 0, 60, .inl v_p1_delays)), (q_p1_tos, .inl (T 0, 60, .inl v_p1_tos)), (q_p1_strengths, .inl (T 0, 60, .inl v_p1_strengths))] := hD
        refine lv_iinc (v := x5 + (1 : Int32)) (lv' := [(5, .int (x5 + (1 : Int32))), (7, .int ((o62 + (1 : Int32)) + ((x2 >>> ((v_p1_places x5.toNatClampNeg) &&& 31)) &&& (1 : Int32)))), (6, .int (v_p1_places x5.toNatClampNeg)), (0, .ref q_t), (1, .ref q_p1), (2, .int x2), (3, .int x3), (4, .int x4)]) hx hb dX2_advance_109 hl (k := 7) rfl rfl (by decide) rfl (fun ls hl => ?_)
        refine lv_goto (tgt := 25) hx hb dX2_advance_112 (by decide) ?_
        exact ih x4 (x5 + (1 : Int32)) (upd v_t_phases (v_p1_places x5.toNatClampNeg).toNatClampNeg ((o62 + (1 : Int32)) + ((x2 >>> ((v_p1_places x5.toNatClampNeg) &&& 31)) &&& (1 : Int32)))) o h _ _ _ hP hD hS (lv_sub hl [3, 4, 5, 6, 7, 0] rfl) kx0
      · replace h := (if_neg c85).symm.trans h
        refine lv_iconst (v := (0 : Int32)) hx hb dX2_advance_88 (by decide) ?_
        refine lv_istore (lv' := [(7, .int (0 : Int32)), (6, .int (v_p1_places x5.toNatClampNeg)), (0, .ref q_t), (1, .ref q_p1), (2, .int x2), (3, .int x3), (4, .int x4), (5, .int x5)]) hx hb dX2_advance_89 hl (by decide) rfl (fun ls hl => ?_)
        refine lv_iload hx hb dX2_advance_91 (lv_at hl 6 rfl) ?_
        refine lv_iconst (v := (1 : Int32)) hx hb dX2_advance_93 (by decide) ?_
        refine lv_iload hx hb dX2_advance_94 (lv_at hl 1 rfl) ?_
        refine lv_ishl hx hb dX2_advance_96 ?_
        refine lv_ior hx hb dX2_advance_97 ?_
        refine lv_istore (lv' := [(4, .int (x4 ||| ((1 : Int32) <<< ((v_p1_places x5.toNatClampNeg) &&& 31)))), (7, .int (0 : Int32)), (6, .int (v_p1_places x5.toNatClampNeg)), (0, .ref q_t), (1, .ref q_p1), (2, .int x2), (3, .int x3), (5, .int x5)]) hx hb dX2_advance_98 hl (by decide) rfl (fun ls hl => ?_)
        refine lv_aload_n hx hb dX2_advance_100 rfl (lv_at hl 3 rfl) ?_
        refine va_get (D := D) (ci := 4) (v := .ref q_t_phases) (C := RX2) (T := TX2) (N := 3) hx hb hts iX2_advance_X2 hown hK hP 0 rfl rfl 0 (by decide) (hts (.fieldLink RX2 9 "PulseMeadow$State" "phases" "[I") (by decide +kernel)) (fun _ h9 => h9) rfl dX2_advance_101 ?_
        refine lv_iload hx hb dX2_advance_104 (lv_at hl 2 rfl) ?_
        refine lv_iload hx hb dX2_advance_106 (lv_at hl 1 rfl) ?_
        obtain ⟨hb108, h⟩ := zk_g_spec h
        refine va_iast hx hb hK hP hD hS 3 0 rfl rfl hb108 dX2_advance_108 (fun H locs hP hD hS => ?_)
        have hP : va_P D vwCl [(q_t, .inr (4, [.ref q_t_phases, .ref q_t_coming, .int v_t_row])), (q_p1, .inr (3, [.int v_p1_beaters, .int v_p1_mask, .ref q_p1_places, .ref q_p1_periods, .ref q_p1_quiets, .ref q_p1_answers, .int v_p1_links, .ref q_p1_froms, .ref q_p1_tos, .ref q_p1_delays, .ref q_p1_strengths])), (q_p1_places, .inl (T 0, 16, .inl v_p1_places)), (q_t_phases, .inl (T 0, 16, .inl (upd v_t_phases (v_p1_places x5.toNatClampNeg).toNatClampNeg (0 : Int32)))), (q_t_coming, .inl (T 0, 512, .inl v_t_coming)), (q_p1_periods, .inl (T 0, 16, .inl v_p1_periods)), (q_p1_quiets, .inl (T 0, 16, .inl v_p1_quiets)), (q_p1_answers, .inl (T 0, 64, .inl v_p1_answers)), (q_p1_froms, .inl (T 0, 60, .inl v_p1_froms)), (q_p1_delays, .inl (T 0, 60, .inl v_p1_delays)), (q_p1_tos, .inl (T 0, 60, .inl v_p1_tos)), (q_p1_strengths, .inl (T 0, 60, .inl v_p1_strengths))] H := hP
        have hD : va_D A [(q_t, .inr (4, [.ref q_t_phases, .ref q_t_coming, .int v_t_row])), (q_p1, .inr (3, [.int v_p1_beaters, .int v_p1_mask, .ref q_p1_places, .ref q_p1_periods, .ref q_p1_quiets, .ref q_p1_answers, .int v_p1_links, .ref q_p1_froms, .ref q_p1_tos, .ref q_p1_delays, .ref q_p1_strengths])), (q_p1_places, .inl (T 0, 16, .inl v_p1_places)), (q_t_phases, .inl (T 0, 16, .inl (upd v_t_phases (v_p1_places x5.toNatClampNeg).toNatClampNeg (0 : Int32)))), (q_t_coming, .inl (T 0, 512, .inl v_t_coming)), (q_p1_periods, .inl (T 0, 16, .inl v_p1_periods)), (q_p1_quiets, .inl (T 0, 16, .inl v_p1_quiets)), (q_p1_answers, .inl (T 0, 64, .inl v_p1_answers)), (q_p1_froms, .inl (T 0, 60, .inl v_p1_froms)), (q_p1_delays, .inl (T 0, 60, .inl v_p1_delays)), (q_p1_tos, .inl (T 0, 60, .inl v_p1_tos)), (q_p1_strengths, .inl (T 0, 60, .inl v_p1_strengths))] := hD
        refine lv_iinc (v := x5 + (1 : Int32)) (lv' := [(5, .int (x5 + (1 : Int32))), (4, .int (x4 ||| ((1 : Int32) <<< ((v_p1_places x5.toNatClampNeg) &&& 31)))), (7, .int (0 : Int32)), (6, .int (v_p1_places x5.toNatClampNeg)), (0, .ref q_t), (1, .ref q_p1), (2, .int x2), (3, .int x3)]) hx hb dX2_advance_109 hl (k := 7) rfl rfl (by decide) rfl (fun ls hl => ?_)
        refine lv_goto (tgt := 25) hx hb dX2_advance_112 (by decide) ?_
        exact ih (x4 ||| ((1 : Int32) <<< ((v_p1_places x5.toNatClampNeg) &&& 31))) (x5 + (1 : Int32)) (upd v_t_phases (v_p1_places x5.toNatClampNeg).toNatClampNeg (0 : Int32)) o h _ _ _ hP hD hS (lv_sub hl [4, 5, 6, 7, 1, 0] rfl) kx0
def f_X2_advance_118 (N : Nat) (x3 : Int32) : Nat → Int32 → (Nat → Int32) → Option (Int32 × (Nat → Int32))
  | 0, _, _ => none
  | n + 1, x5, v_t_coming => if (16 : Int32) ≤ x5 then (some (x5, v_t_coming)) else (zk_g (x3 + x5) 512 (f_X2_advance_118 N x3 n (x5 + (1 : Int32)) (upd v_t_coming (x3 + x5).toNatClampNeg (0 : Int32))))
set_option maxHeartbeats 8000000 in
set_option maxRecDepth 100000 in
theorem l_X2_advance_118 {p : Program} {l : Launch} {e : Env} {s : State} {m : MethodId} {args : Array Value} {below : List Frame} {meth : Method} {c : Code} {Q : State → Prop} {A : Nat → Prop} {D : va_G} {T : Nat → ClassId} (N : Nat) (hx : p.tables.exec = Jvm.exec) (hb : c.code = cX2_advance) (hml : c.maxLocals = 8) (hown : s.vm.findClass RX2 = some m.cls) (hts : ∀ w ∈ wsX2_advance, w.before args s = true) (hA : ∀ q : Nat, s.heap.size ≤ q → A q) (hK : va_K D vwCl (zk_ty T) s) (hN : zk_N s) (q_t q_p1 q_p1_places q_t_phases q_t_coming q_p1_periods q_p1_quiets q_p1_answers q_p1_froms q_p1_delays q_p1_tos q_p1_strengths : Nat) (v_t_row : Int32) (v_p1_beaters : Int32) (v_p1_mask : Int32) (v_p1_links : Int32) (v_p1_places : Nat → Int32) (v_t_phases : Nat → Int32) (v_p1_periods : Nat → Int32) (v_p1_quiets : Nat → Int32) (v_p1_answers : Nat → Int32) (v_p1_froms : Nat → Int32) (v_p1_delays : Nat → Int32) (v_p1_tos : Nat → Int32) (v_p1_strengths : Nat → Int32) (x3 : Int32) (x4 : Int32) :
    ∀ (n : Nat) (x5 : Int32) (v_t_coming : Nat → Int32) (o : Int32 × (Nat → Int32)), f_X2_advance_118 N x3 n x5 v_t_coming = some o → ∀ (H : Heap) (locs : List Loc) (ls : Array Slot), va_P D vwCl [(q_t, .inr (4, [.ref q_t_phases, .ref q_t_coming, .int v_t_row])), (q_p1, .inr (3, [.int v_p1_beaters, .int v_p1_mask, .ref q_p1_places, .ref q_p1_periods, .ref q_p1_quiets, .ref q_p1_answers, .int v_p1_links, .ref q_p1_froms, .ref q_p1_tos, .ref q_p1_delays, .ref q_p1_strengths])), (q_p1_places, .inl (T 0, 16, .inl v_p1_places)), (q_t_phases, .inl (T 0, 16, .inl v_t_phases)), (q_t_coming, .inl (T 0, 512, .inl v_t_coming)), (q_p1_periods, .inl (T 0, 16, .inl v_p1_periods)), (q_p1_quiets, .inl (T 0, 16, .inl v_p1_quiets)), (q_p1_answers, .inl (T 0, 64, .inl v_p1_answers)), (q_p1_froms, .inl (T 0, 60, .inl v_p1_froms)), (q_p1_delays, .inl (T 0, 60, .inl v_p1_delays)), (q_p1_tos, .inl (T 0, 60, .inl v_p1_tos)), (q_p1_strengths, .inl (T 0, 60, .inl v_p1_strengths))] H → va_D A [(q_t, .inr (4, [.ref q_t_phases, .ref q_t_coming, .int v_t_row])), (q_p1, .inr (3, [.int v_p1_beaters, .int v_p1_mask, .ref q_p1_places, .ref q_p1_periods, .ref q_p1_quiets, .ref q_p1_answers, .int v_p1_links, .ref q_p1_froms, .ref q_p1_tos, .ref q_p1_delays, .ref q_p1_strengths])), (q_p1_places, .inl (T 0, 16, .inl v_p1_places)), (q_t_phases, .inl (T 0, 16, .inl v_t_phases)), (q_t_coming, .inl (T 0, 512, .inl v_t_coming)), (q_p1_periods, .inl (T 0, 16, .inl v_p1_periods)), (q_p1_quiets, .inl (T 0, 16, .inl v_p1_quiets)), (q_p1_answers, .inl (T 0, 64, .inl v_p1_answers)), (q_p1_froms, .inl (T 0, 60, .inl v_p1_froms)), (q_p1_delays, .inl (T 0, 60, .inl v_p1_delays)), (q_p1_tos, .inl (T 0, 60, .inl v_p1_tos)), (q_p1_strengths, .inl (T 0, 60, .inl v_p1_strengths))] → va_S A s.heap H locs → lv_has ls 8 [(0, .ref q_t), (1, .ref q_p1), (3, .int x3), (4, .int x4), (5, .int x5)] → (∀ (H : Heap) (locs : List Loc) (ls : Array Slot), va_P D vwCl [(q_t, .inr (4, [.ref q_t_phases, .ref q_t_coming, .int v_t_row])), (q_p1, .inr (3, [.int v_p1_beaters, .int v_p1_mask, .ref q_p1_places, .ref q_p1_periods, .ref q_p1_quiets, .ref q_p1_answers, .int v_p1_links, .ref q_p1_froms, .ref q_p1_tos, .ref q_p1_delays, .ref q_p1_strengths])), (q_p1_places, .inl (T 0, 16, .inl v_p1_places)), (q_t_phases, .inl (T 0, 16, .inl v_t_phases)), (q_t_coming, .inl (T 0, 512, .inl o.2)), (q_p1_periods, .inl (T 0, 16, .inl v_p1_periods)), (q_p1_quiets, .inl (T 0, 16, .inl v_p1_quiets)), (q_p1_answers, .inl (T 0, 64, .inl v_p1_answers)), (q_p1_froms, .inl (T 0, 60, .inl v_p1_froms)), (q_p1_delays, .inl (T 0, 60, .inl v_p1_delays)), (q_p1_tos, .inl (T 0, 60, .inl v_p1_tos)), (q_p1_strengths, .inl (T 0, 60, .inl v_p1_strengths))] H → va_D A [(q_t, .inr (4, [.ref q_t_phases, .ref q_t_coming, .int v_t_row])), (q_p1, .inr (3, [.int v_p1_beaters, .int v_p1_mask, .ref q_p1_places, .ref q_p1_periods, .ref q_p1_quiets, .ref q_p1_answers, .int v_p1_links, .ref q_p1_froms, .ref q_p1_tos, .ref q_p1_delays, .ref q_p1_strengths])), (q_p1_places, .inl (T 0, 16, .inl v_p1_places)), (q_t_phases, .inl (T 0, 16, .inl v_t_phases)), (q_t_coming, .inl (T 0, 512, .inl o.2)), (q_p1_periods, .inl (T 0, 16, .inl v_p1_periods)), (q_p1_quiets, .inl (T 0, 16, .inl v_p1_quiets)), (q_p1_answers, .inl (T 0, 64, .inl v_p1_answers)), (q_p1_froms, .inl (T 0, 60, .inl v_p1_froms)), (q_p1_delays, .inl (T 0, 60, .inl v_p1_delays)), (q_p1_tos, .inl (T 0, 60, .inl v_p1_tos)), (q_p1_strengths, .inl (T 0, 60, .inl v_p1_strengths))] → va_S A s.heap H locs → lv_has ls 8 [(0, .ref q_t), (1, .ref q_p1), (4, .int x4)] → W p l e ({ frames := 2, cells := 0, slots := 0, locals := 44 } : Room) s m args below meth c H locs 0 0 Q (F0 m 141 ls [])) → W p l e ({ frames := 2, cells := 0, slots := 0, locals := 44 } : Room) s m args below meth c H locs 0 0 Q (F0 m 118 ls []) := by
  intro n
  induction n with
  | zero => intro x5 v_t_coming o h; exact absurd h (by simp [f_X2_advance_118])
  | succ n ih =>
    intro x5 v_t_coming o h H locs ls hP hD hS hl kx0
    rw [f_X2_advance_118] at h
    refine lv_iload hx hb dX2_advance_118 (lv_at hl 4 rfl) ?_
    refine lv_bipush (v := (16 : Int32)) hx hb dX2_advance_120 (by decide) ?_
    refine lv_icmp_ge (tgt := 141) hx hb dX2_advance_122 (by decide) (fun c122 => ?_) (fun c122 => ?_)
    · replace h := (if_pos c122).symm.trans h
      obtain rfl := Option.some.inj h
      exact kx0 _ _ _ hP hD hS (lv_sub hl [0, 1, 3] rfl)
    · replace h := (if_neg c122).symm.trans h
      refine lv_aload_n hx hb dX2_advance_125 rfl (lv_at hl 0 rfl) ?_
      refine va_get (D := D) (ci := 4) (v := .ref q_t_coming) (C := RX2) (T := TX2) (N := 3) hx hb hts iX2_advance_X2 hown hK hP 0 rfl rfl 1 (by decide) (hts (.fieldLink RX2 15 "PulseMeadow$State" "coming" "[I") (by decide +kernel)) (fun _ h9 => h9) rfl dX2_advance_126 ?_
      refine lv_iload_n hx hb dX2_advance_129 rfl (lv_at hl 2 rfl) ?_
      refine lv_iload hx hb dX2_advance_130 (lv_at hl 4 rfl) ?_
      refine lv_iadd hx hb dX2_advance_132 ?_
      refine lv_iconst (v := (0 : Int32)) hx hb dX2_advance_133 (by decide) ?_
      obtain ⟨hb134, h⟩ := zk_g_spec h
      refine va_iast hx hb hK hP hD hS 4 0 rfl rfl hb134 dX2_advance_134 (fun H locs hP hD hS => ?_)
      have hP : va_P D vwCl [(q_t, .inr (4, [.ref q_t_phases, .ref q_t_coming, .int v_t_row])), (q_p1, .inr (3, [.int v_p1_beaters, .int v_p1_mask, .ref q_p1_places, .ref q_p1_periods, .ref q_p1_quiets, .ref q_p1_answers, .int v_p1_links, .ref q_p1_froms, .ref q_p1_tos, .ref q_p1_delays, .ref q_p1_strengths])), (q_p1_places, .inl (T 0, 16, .inl v_p1_places)), (q_t_phases, .inl (T 0, 16, .inl v_t_phases)), (q_t_coming, .inl (T 0, 512, .inl (upd v_t_coming (x3 + x5).toNatClampNeg (0 : Int32)))), (q_p1_periods, .inl (T 0, 16, .inl v_p1_periods)), (q_p1_quiets, .inl (T 0, 16, .inl v_p1_quiets)), (q_p1_answers, .inl (T 0, 64, .inl v_p1_answers)), (q_p1_froms, .inl (T 0, 60, .inl v_p1_froms)), (q_p1_delays, .inl (T 0, 60, .inl v_p1_delays)), (q_p1_tos, .inl (T 0, 60, .inl v_p1_tos)), (q_p1_strengths, .inl (T 0, 60, .inl v_p1_strengths))] H := hP
      have hD : va_D A [(q_t, .inr (4, [.ref q_t_phases, .ref q_t_coming, .int v_t_row])), (q_p1, .inr (3, [.int v_p1_beaters, .int v_p1_mask, .ref q_p1_places, .ref q_p1_periods, .ref q_p1_quiets, .ref q_p1_answers, .int v_p1_links, .ref q_p1_froms, .ref q_p1_tos, .ref q_p1_delays, .ref q_p1_strengths])), (q_p1_places, .inl (T 0, 16, .inl v_p1_places)), (q_t_phases, .inl (T 0, 16, .inl v_t_phases)), (q_t_coming, .inl (T 0, 512, .inl (upd v_t_coming (x3 + x5).toNatClampNeg (0 : Int32)))), (q_p1_periods, .inl (T 0, 16, .inl v_p1_periods)), (q_p1_quiets, .inl (T 0, 16, .inl v_p1_quiets)), (q_p1_answers, .inl (T 0, 64, .inl v_p1_answers)), (q_p1_froms, .inl (T 0, 60, .inl v_p1_froms)), (q_p1_delays, .inl (T 0, 60, .inl v_p1_delays)), (q_p1_tos, .inl (T 0, 60, .inl v_p1_tos)), (q_p1_strengths, .inl (T 0, 60, .inl v_p1_strengths))] := hD
      refine lv_iinc (v := x5 + (1 : Int32)) (lv' := [(5, .int (x5 + (1 : Int32))), (0, .ref q_t), (1, .ref q_p1), (3, .int x3), (4, .int x4)]) hx hb dX2_advance_135 hl (k := 4) rfl rfl (by decide) rfl (fun ls hl => ?_)
      refine lv_goto (tgt := 118) hx hb dX2_advance_138 (by decide) ?_
      exact ih (x5 + (1 : Int32)) (upd v_t_coming (x3 + x5).toNatClampNeg (0 : Int32)) o h _ _ _ hP hD hS (lv_sub hl [1, 2, 3, 4, 0] rfl) kx0
def f_X2_advance (N : Nat) (v_t_row : Int32) (v_p1_beaters : Int32) (v_p1_links : Int32) (v_p1_places : Nat → Int32) (v_t_phases : Nat → Int32) (v_t_coming : Nat → Int32) (v_p1_periods : Nat → Int32) (v_p1_quiets : Nat → Int32) (v_p1_answers : Nat → Int32) (v_p1_froms : Nat → Int32) (v_p1_delays : Nat → Int32) (v_p1_tos : Nat → Int32) (v_p1_strengths : Nat → Int32) (x2 : Int32) : Option (Int32 × Int32 × (Nat → Int32) × (Nat → Int32)) := (f_X2_startOfRow N ((v_t_row + (1 : Int32)) &&& (31 : Int32)) (0 : Int32)).bind fun o15 => (f_X2_advance_25 N v_p1_beaters v_p1_places v_t_coming v_p1_periods v_p1_quiets v_p1_answers x2 o15 N (0 : Int32) (0 : Int32) v_t_phases).bind fun o25 => (f_X2_advance_118 N o15 N (0 : Int32) v_t_coming).bind fun o118 => if o25.1 = 0 then (some (o25.1, (v_t_row + (1 : Int32)) &&& (31 : Int32), o25.2.2, o118.2)) else ((f_X2_sendSignals N v_p1_links v_p1_froms ((v_t_row + (1 : Int32)) &&& (31 : Int32)) v_p1_delays v_p1_tos o118.2 v_p1_strengths o25.1).bind fun o150 => some (o25.1, (v_t_row + (1 : Int32)) &&& (31 : Int32), o25.2.2, o150))
set_option maxHeartbeats 8000000 in
set_option maxRecDepth 100000 in
theorem k_X2_advance (l : Launch) (D : va_G) (T : Nat → ClassId) (N : Nat) (q_t q_p1 q_p1_places q_t_phases q_t_coming q_p1_periods q_p1_quiets q_p1_answers q_p1_froms q_p1_delays q_p1_tos q_p1_strengths : Nat) (sz : Nat) (v_t_row : Int32) (v_p1_beaters : Int32) (v_p1_mask : Int32) (v_p1_links : Int32) (v_p1_places : Nat → Int32) (v_t_phases : Nat → Int32) (v_t_coming : Nat → Int32) (v_p1_periods : Nat → Int32) (v_p1_quiets : Nat → Int32) (v_p1_answers : Nat → Int32) (v_p1_froms : Nat → Int32) (v_p1_delays : Nat → Int32) (v_p1_tos : Nat → Int32) (v_p1_strengths : Nat → Int32) (x2 : Int32) (o : Int32 × Int32 × (Nat → Int32) × (Nat → Int32)) (h : f_X2_advance N v_t_row v_p1_beaters v_p1_links v_p1_places v_t_phases v_t_coming v_p1_periods v_p1_quiets v_p1_answers v_p1_froms v_p1_delays v_p1_tos v_p1_strengths x2 = some o) : Met l yX2_advance wsX2_advance ({ frames := 2, cells := 0, slots := 0, locals := 44 } : Room) (zk_Pc D T [.ref q_t, .ref q_p1, .int x2] [(q_t, .inr (4, [.ref q_t_phases, .ref q_t_coming, .int v_t_row])), (q_p1, .inr (3, [.int v_p1_beaters, .int v_p1_mask, .ref q_p1_places, .ref q_p1_periods, .ref q_p1_quiets, .ref q_p1_answers, .int v_p1_links, .ref q_p1_froms, .ref q_p1_tos, .ref q_p1_delays, .ref q_p1_strengths])), (q_p1_places, .inl (T 0, 16, .inl v_p1_places)), (q_t_phases, .inl (T 0, 16, .inl v_t_phases)), (q_t_coming, .inl (T 0, 512, .inl v_t_coming)), (q_p1_periods, .inl (T 0, 16, .inl v_p1_periods)), (q_p1_quiets, .inl (T 0, 16, .inl v_p1_quiets)), (q_p1_answers, .inl (T 0, 64, .inl v_p1_answers)), (q_p1_froms, .inl (T 0, 60, .inl v_p1_froms)), (q_p1_delays, .inl (T 0, 60, .inl v_p1_delays)), (q_p1_tos, .inl (T 0, 60, .inl v_p1_tos)), (q_p1_strengths, .inl (T 0, 60, .inl v_p1_strengths))] sz) (zk_Qi o.1 D [(q_t, .inr (4, [.ref q_t_phases, .ref q_t_coming, .int o.2.1])), (q_p1, .inr (3, [.int v_p1_beaters, .int v_p1_mask, .ref q_p1_places, .ref q_p1_periods, .ref q_p1_quiets, .ref q_p1_answers, .int v_p1_links, .ref q_p1_froms, .ref q_p1_tos, .ref q_p1_delays, .ref q_p1_strengths])), (q_p1_places, .inl (T 0, 16, .inl v_p1_places)), (q_t_phases, .inl (T 0, 16, .inl o.2.2.1)), (q_t_coming, .inl (T 0, 512, .inl o.2.2.2)), (q_p1_periods, .inl (T 0, 16, .inl v_p1_periods)), (q_p1_quiets, .inl (T 0, 16, .inl v_p1_quiets)), (q_p1_answers, .inl (T 0, 64, .inl v_p1_answers)), (q_p1_froms, .inl (T 0, 60, .inl v_p1_froms)), (q_p1_delays, .inl (T 0, 60, .inl v_p1_delays)), (q_p1_tos, .inl (T 0, 60, .inl v_p1_tos)), (q_p1_strengths, .inl (T 0, 60, .inl v_p1_strengths))] (va_A [(q_t, .inr (4, [.ref q_t_phases, .ref q_t_coming, .int v_t_row])), (q_p1, .inr (3, [.int v_p1_beaters, .int v_p1_mask, .ref q_p1_places, .ref q_p1_periods, .ref q_p1_quiets, .ref q_p1_answers, .int v_p1_links, .ref q_p1_froms, .ref q_p1_tos, .ref q_p1_delays, .ref q_p1_strengths])), (q_p1_places, .inl (T 0, 16, .inl v_p1_places)), (q_t_phases, .inl (T 0, 16, .inl v_t_phases)), (q_t_coming, .inl (T 0, 512, .inl v_t_coming)), (q_p1_periods, .inl (T 0, 16, .inl v_p1_periods)), (q_p1_quiets, .inl (T 0, 16, .inl v_p1_quiets)), (q_p1_answers, .inl (T 0, 64, .inl v_p1_answers)), (q_p1_froms, .inl (T 0, 60, .inl v_p1_froms)), (q_p1_delays, .inl (T 0, 60, .inl v_p1_delays)), (q_p1_tos, .inl (T 0, 60, .inl v_p1_tos)), (q_p1_strengths, .inl (T 0, 60, .inl v_p1_strengths))] sz) (va_A [(q_t, .inr (4, [.ref q_t_phases, .ref q_t_coming, .int v_t_row])), (q_p1, .inr (3, [.int v_p1_beaters, .int v_p1_mask, .ref q_p1_places, .ref q_p1_periods, .ref q_p1_quiets, .ref q_p1_answers, .int v_p1_links, .ref q_p1_froms, .ref q_p1_tos, .ref q_p1_delays, .ref q_p1_strengths])), (q_p1_places, .inl (T 0, 16, .inl v_p1_places)), (q_t_phases, .inl (T 0, 16, .inl v_t_phases)), (q_t_coming, .inl (T 0, 512, .inl v_t_coming)), (q_p1_periods, .inl (T 0, 16, .inl v_p1_periods)), (q_p1_quiets, .inl (T 0, 16, .inl v_p1_quiets)), (q_p1_answers, .inl (T 0, 64, .inl v_p1_answers)), (q_p1_froms, .inl (T 0, 60, .inl v_p1_froms)), (q_p1_delays, .inl (T 0, 60, .inl v_p1_delays)), (q_p1_tos, .inl (T 0, 60, .inl v_p1_tos)), (q_p1_strengths, .inl (T 0, 60, .inl v_p1_strengths))] sz)) 0 0 (va_A [(q_t, .inr (4, [.ref q_t_phases, .ref q_t_coming, .int v_t_row])), (q_p1, .inr (3, [.int v_p1_beaters, .int v_p1_mask, .ref q_p1_places, .ref q_p1_periods, .ref q_p1_quiets, .ref q_p1_answers, .int v_p1_links, .ref q_p1_froms, .ref q_p1_tos, .ref q_p1_delays, .ref q_p1_strengths])), (q_p1_places, .inl (T 0, 16, .inl v_p1_places)), (q_t_phases, .inl (T 0, 16, .inl v_t_phases)), (q_t_coming, .inl (T 0, 512, .inl v_t_coming)), (q_p1_periods, .inl (T 0, 16, .inl v_p1_periods)), (q_p1_quiets, .inl (T 0, 16, .inl v_p1_quiets)), (q_p1_answers, .inl (T 0, 64, .inl v_p1_answers)), (q_p1_froms, .inl (T 0, 60, .inl v_p1_froms)), (q_p1_delays, .inl (T 0, 60, .inl v_p1_delays)), (q_p1_tos, .inl (T 0, 60, .inl v_p1_tos)), (q_p1_strengths, .inl (T 0, 60, .inl v_p1_strengths))] sz) := by
  refine Met.ofW (cc := cX2_advance) (maxL := 8) (ret := (some .int)) (by decide) rfl ?_
  intro p e s m args below meth c s₁ B hml hv
  obtain ⟨rfl, hsz, hP, hK, hN, hD0⟩ := hv
  have hx := B.exec
  have hb := B.bytes
  have hr := B.returns
  have hts := atoms_spec (ws := wsX2_advance) B.pre
  have hown : s.vm.findClass RX2 = some m.cls := findClass_of_methodNamed B.named
  have hlocks := B.notSynchronized
  subst hsz
  have hD := hD0.self (sz := s.heap.size)
  generalize hAe : va_A [(q_t, .inr (4, [.ref q_t_phases, .ref q_t_coming, .int v_t_row])), (q_p1, .inr (3, [.int v_p1_beaters, .int v_p1_mask, .ref q_p1_places, .ref q_p1_periods, .ref q_p1_quiets, .ref q_p1_answers, .int v_p1_links, .ref q_p1_froms, .ref q_p1_tos, .ref q_p1_delays, .ref q_p1_strengths])), (q_p1_places, .inl (T 0, 16, .inl v_p1_places)), (q_t_phases, .inl (T 0, 16, .inl v_t_phases)), (q_t_coming, .inl (T 0, 512, .inl v_t_coming)), (q_p1_periods, .inl (T 0, 16, .inl v_p1_periods)), (q_p1_quiets, .inl (T 0, 16, .inl v_p1_quiets)), (q_p1_answers, .inl (T 0, 64, .inl v_p1_answers)), (q_p1_froms, .inl (T 0, 60, .inl v_p1_froms)), (q_p1_delays, .inl (T 0, 60, .inl v_p1_delays)), (q_p1_tos, .inl (T 0, 60, .inl v_p1_tos)), (q_p1_strengths, .inl (T 0, 60, .inl v_p1_strengths))] s.heap.size = A at hD ⊢
  have hA : ∀ q : Nat, s.heap.size ≤ q → A q := fun q h => by rw [← hAe]; exact Or.inr h
  have hS : va_S A s.heap s.heap [] := va_S.rf
  have hP : va_P D vwCl [(q_t, .inr (4, [.ref q_t_phases, .ref q_t_coming, .int v_t_row])), (q_p1, .inr (3, [.int v_p1_beaters, .int v_p1_mask, .ref q_p1_places, .ref q_p1_periods, .ref q_p1_quiets, .ref q_p1_answers, .int v_p1_links, .ref q_p1_froms, .ref q_p1_tos, .ref q_p1_delays, .ref q_p1_strengths])), (q_p1_places, .inl (T 0, 16, .inl v_p1_places)), (q_t_phases, .inl (T 0, 16, .inl v_t_phases)), (q_t_coming, .inl (T 0, 512, .inl v_t_coming)), (q_p1_periods, .inl (T 0, 16, .inl v_p1_periods)), (q_p1_quiets, .inl (T 0, 16, .inl v_p1_quiets)), (q_p1_answers, .inl (T 0, 64, .inl v_p1_answers)), (q_p1_froms, .inl (T 0, 60, .inl v_p1_froms)), (q_p1_delays, .inl (T 0, 60, .inl v_p1_delays)), (q_p1_tos, .inl (T 0, 60, .inl v_p1_tos)), (q_p1_strengths, .inl (T 0, 60, .inl v_p1_strengths))] s.heap := hP
  have hl := lv_entry ([.ref q_t, .ref q_p1, .int x2]) (n := 8) (Nat.le_of_ble_eq_true rfl)
  rw [lg_entry_eq]
  generalize (lg_sl ([.ref q_t, .ref q_p1, .int x2]) ++ List.replicate (8 - (lg_sl ([.ref q_t, .ref q_p1, .int x2])).length) Slot.unset).toArray = ls at hl ⊢
  have hl : lv_has ls 8 [(0, .ref q_t), (1, .ref q_p1), (2, .int x2)] := hl
  unfold f_X2_advance at h
  refine lv_aload_n hx hb dX2_advance_0 rfl (lv_at hl 0 rfl) ?_
  refine lv_aload_n hx hb dX2_advance_1 rfl (lv_at hl 0 rfl) ?_
  refine va_get (D := D) (ci := 4) (v := .int v_t_row) (C := RX2) (T := TX2) (N := 3) hx hb hts iX2_advance_X2 hown hK hP 0 rfl rfl 2 (by decide) (hts (.fieldLink RX2 18 "PulseMeadow$State" "row" "I") (by decide +kernel)) (fun _ h9 => h9) rfl dX2_advance_2 ?_
  refine lv_iconst (v := (1 : Int32)) hx hb dX2_advance_5 (by decide) ?_
  refine lv_iadd hx hb dX2_advance_6 ?_
  refine lv_bipush (v := (31 : Int32)) hx hb dX2_advance_7 (by decide) ?_
  refine lv_iand hx hb dX2_advance_9 ?_
  refine va_put (D := D) (ci := 4) (v := .int ((v_t_row + (1 : Int32)) &&& (31 : Int32))) (ty := .int) (C := RX2) (T := TX2) (N := 3) hx hb hts iX2_advance_X2 tyX2 tyX2_ok nmX2 hown hK hP hD hS 0 rfl rfl 2 (by decide) (hts (.fieldLink RX2 18 "PulseMeadow$State" "row" "I") (by decide +kernel)) (fun _ h9 => h9) rfl (by decide +kernel) rfl rfl (Nat.le_of_ble_eq_true rfl) dX2_advance_10 (fun H locs hP hD hS => ?_)
  have hP : va_P D vwCl [(q_t, .inr (4, [.ref q_t_phases, .ref q_t_coming, .int ((v_t_row + (1 : Int32)) &&& (31 : Int32))])), (q_p1, .inr (3, [.int v_p1_beaters, .int v_p1_mask, .ref q_p1_places, .ref q_p1_periods, .ref q_p1_quiets, .ref q_p1_answers, .int v_p1_links, .ref q_p1_froms, .ref q_p1_tos, .ref q_p1_delays, .ref q_p1_strengths])), (q_p1_places, .inl (T 0, 16, .inl v_p1_places)), (q_t_phases, .inl (T 0, 16, .inl v_t_phases)), (q_t_coming, .inl (T 0, 512, .inl v_t_coming)), (q_p1_periods, .inl (T 0, 16, .inl v_p1_periods)), (q_p1_quiets, .inl (T 0, 16, .inl v_p1_quiets)), (q_p1_answers, .inl (T 0, 64, .inl v_p1_answers)), (q_p1_froms, .inl (T 0, 60, .inl v_p1_froms)), (q_p1_delays, .inl (T 0, 60, .inl v_p1_delays)), (q_p1_tos, .inl (T 0, 60, .inl v_p1_tos)), (q_p1_strengths, .inl (T 0, 60, .inl v_p1_strengths))] H := hP
  have hD : va_D A [(q_t, .inr (4, [.ref q_t_phases, .ref q_t_coming, .int ((v_t_row + (1 : Int32)) &&& (31 : Int32))])), (q_p1, .inr (3, [.int v_p1_beaters, .int v_p1_mask, .ref q_p1_places, .ref q_p1_periods, .ref q_p1_quiets, .ref q_p1_answers, .int v_p1_links, .ref q_p1_froms, .ref q_p1_tos, .ref q_p1_delays, .ref q_p1_strengths])), (q_p1_places, .inl (T 0, 16, .inl v_p1_places)), (q_t_phases, .inl (T 0, 16, .inl v_t_phases)), (q_t_coming, .inl (T 0, 512, .inl v_t_coming)), (q_p1_periods, .inl (T 0, 16, .inl v_p1_periods)), (q_p1_quiets, .inl (T 0, 16, .inl v_p1_quiets)), (q_p1_answers, .inl (T 0, 64, .inl v_p1_answers)), (q_p1_froms, .inl (T 0, 60, .inl v_p1_froms)), (q_p1_delays, .inl (T 0, 60, .inl v_p1_delays)), (q_p1_tos, .inl (T 0, 60, .inl v_p1_tos)), (q_p1_strengths, .inl (T 0, 60, .inl v_p1_strengths))] := hD
  refine lv_aload_n hx hb dX2_advance_13 rfl (lv_at hl 0 rfl) ?_
  refine lv_iconst (v := (0 : Int32)) hx hb dX2_advance_14 (by decide) ?_
  obtain ⟨o15, hc15, h⟩ := zk_bind h
  refine zk_ci (wr := [(q_p1, .inr (3, [.int v_p1_beaters, .int v_p1_mask, .ref q_p1_places, .ref q_p1_periods, .ref q_p1_quiets, .ref q_p1_answers, .int v_p1_links, .ref q_p1_froms, .ref q_p1_tos, .ref q_p1_delays, .ref q_p1_strengths])), (q_p1_places, .inl (T 0, 16, .inl v_p1_places)), (q_t_phases, .inl (T 0, 16, .inl v_t_phases)), (q_t_coming, .inl (T 0, 512, .inl v_t_coming)), (q_p1_periods, .inl (T 0, 16, .inl v_p1_periods)), (q_p1_quiets, .inl (T 0, 16, .inl v_p1_quiets)), (q_p1_answers, .inl (T 0, 64, .inl v_p1_answers)), (q_p1_froms, .inl (T 0, 60, .inl v_p1_froms)), (q_p1_delays, .inl (T 0, 60, .inl v_p1_delays)), (q_p1_tos, .inl (T 0, 60, .inl v_p1_tos)), (q_p1_strengths, .inl (T 0, 60, .inl v_p1_strengths))]) (va_runV (As := [.int (0 : Int32)]) (rest := []) ⟨hx, hb, hml, hown, hts⟩ (k_X2_startOfRow l D T N q_t q_t_phases q_t_coming _ ((v_t_row + (1 : Int32)) &&& (31 : Int32)) (0 : Int32) o15 hc15) (cwV 1 hts gX2_advance_X2_startOfRow rfl rfl rfl (by decide +kernel) ⟨Nat.le_of_ble_eq_true rfl, Nat.le_of_ble_eq_true rfl⟩) (zk_preV (q := (RX2, TX2, 3)) hK hN (hP.sub [0] rfl) (hD.sub [0] (by decide) rfl) 0 rfl rfl) rfl rfl hl.1 rfl (lv_room (Nat.le_of_ble_eq_true rfl)) dX2_advance_15 ⟨Nat.zero_le _, Nat.zero_le _⟩) hP hD hS hA [0] [1, 2, 3, 4, 5, 6, 7, 8, 9, 10, 11] rfl rfl (by decide) (by decide) [11, 0, 1, 2, 3, 4, 5, 6, 7, 8, 9, 10] (wf := [(q_t, .inr (4, [.ref q_t_phases, .ref q_t_coming, .int ((v_t_row + (1 : Int32)) &&& (31 : Int32))])), (q_p1, .inr (3, [.int v_p1_beaters, .int v_p1_mask, .ref q_p1_places, .ref q_p1_periods, .ref q_p1_quiets, .ref q_p1_answers, .int v_p1_links, .ref q_p1_froms, .ref q_p1_tos, .ref q_p1_delays, .ref q_p1_strengths])), (q_p1_places, .inl (T 0, 16, .inl v_p1_places)), (q_t_phases, .inl (T 0, 16, .inl v_t_phases)), (q_t_coming, .inl (T 0, 512, .inl v_t_coming)), (q_p1_periods, .inl (T 0, 16, .inl v_p1_periods)), (q_p1_quiets, .inl (T 0, 16, .inl v_p1_quiets)), (q_p1_answers, .inl (T 0, 64, .inl v_p1_answers)), (q_p1_froms, .inl (T 0, 60, .inl v_p1_froms)), (q_p1_delays, .inl (T 0, 60, .inl v_p1_delays)), (q_p1_tos, .inl (T 0, 60, .inl v_p1_tos)), (q_p1_strengths, .inl (T 0, 60, .inl v_p1_strengths))]) rfl (by decide) (fun H locs hP hD hS => ?_)
  refine lv_istore_n (lv' := [(3, .int o15), (0, .ref q_t), (1, .ref q_p1), (2, .int x2)]) hx hb dX2_advance_18 rfl hl (by decide) rfl (fun ls hl => ?_)
  refine lv_iconst (v := (0 : Int32)) hx hb dX2_advance_19 (by decide) ?_
  refine lv_istore (lv' := [(4, .int (0 : Int32)), (3, .int o15), (0, .ref q_t), (1, .ref q_p1), (2, .int x2)]) hx hb dX2_advance_20 hl (by decide) rfl (fun ls hl => ?_)
  refine lv_iconst (v := (0 : Int32)) hx hb dX2_advance_22 (by decide) ?_
  refine lv_istore (lv' := [(5, .int (0 : Int32)), (4, .int (0 : Int32)), (3, .int o15), (0, .ref q_t), (1, .ref q_p1), (2, .int x2)]) hx hb dX2_advance_23 hl (by decide) rfl (fun ls hl => ?_)
  obtain ⟨o25, hc25, h⟩ := zk_bind h
  refine l_X2_advance_25 N hx hb hml hown hts hA hK hN q_t q_p1 q_p1_places q_t_phases q_t_coming q_p1_periods q_p1_quiets q_p1_answers q_p1_froms q_p1_delays q_p1_tos q_p1_strengths ((v_t_row + (1 : Int32)) &&& (31 : Int32)) v_p1_beaters v_p1_mask v_p1_links v_p1_places v_t_coming v_p1_periods v_p1_quiets v_p1_answers v_p1_froms v_p1_delays v_p1_tos v_p1_strengths x2 o15 N (0 : Int32) (0 : Int32) v_t_phases o25 hc25 _ _ _ hP hD hS (lv_sub hl [3, 4, 5, 2, 1, 0] rfl) (fun H locs ls hP hD hS hl => ?_)
  refine lv_iconst (v := (0 : Int32)) hx hb dX2_advance_115 (by decide) ?_
  refine lv_istore (lv' := [(5, .int (0 : Int32)), (0, .ref q_t), (1, .ref q_p1), (3, .int o15), (4, .int o25.1)]) hx hb dX2_advance_116 hl (by decide) rfl (fun ls hl => ?_)
  obtain ⟨o118, hc118, h⟩ := zk_bind h
  refine l_X2_advance_118 N hx hb hml hown hts hA hK hN q_t q_p1 q_p1_places q_t_phases q_t_coming q_p1_periods q_p1_quiets q_p1_answers q_p1_froms q_p1_delays q_p1_tos q_p1_strengths ((v_t_row + (1 : Int32)) &&& (31 : Int32)) v_p1_beaters v_p1_mask v_p1_links v_p1_places o25.2.2 v_p1_periods v_p1_quiets v_p1_answers v_p1_froms v_p1_delays v_p1_tos v_p1_strengths o15 o25.1 N (0 : Int32) v_t_coming o118 hc118 _ _ _ hP hD hS (lv_sub hl [1, 2, 3, 4, 0] rfl) (fun H locs ls hP hD hS hl => ?_)
  refine lv_iload hx hb dX2_advance_141 (lv_at hl 2 rfl) ?_
  refine lv_if_eq (tgt := 153) hx hb dX2_advance_143 (by decide) (fun c143 => ?_) (fun c143 => ?_)
  · replace h := (if_pos c143).symm.trans h
    refine lv_iload hx hb dX2_advance_153 (lv_at hl 2 rfl) ?_
    obtain rfl := Option.some.inj h
    exact W.iret (v := o25.1) hx hb hr (fun t ht hW => ⟨⟨_, (), rfl, rfl, ⟨by rw [ht]; exact hP, hD⟩⟩, hS.F ht⟩) hS.2.2 dX2_advance_155
  · replace h := (if_neg c143).symm.trans h
    refine lv_aload_n hx hb dX2_advance_146 rfl (lv_at hl 0 rfl) ?_
    refine lv_aload_n hx hb dX2_advance_147 rfl (lv_at hl 1 rfl) ?_
    refine lv_iload hx hb dX2_advance_148 (lv_at hl 2 rfl) ?_
    obtain ⟨o150, hc150, h⟩ := zk_bind h
    refine zk_cv (wr := [(q_p1_places, .inl (T 0, 16, .inl v_p1_places)), (q_t_phases, .inl (T 0, 16, .inl o25.2.2)), (q_p1_periods, .inl (T 0, 16, .inl v_p1_periods)), (q_p1_quiets, .inl (T 0, 16, .inl v_p1_quiets)), (q_p1_answers, .inl (T 0, 64, .inl v_p1_answers))]) (va_runV (As := [.ref q_p1, .int o25.1]) (rest := []) ⟨hx, hb, hml, hown, hts⟩ (k_X2_sendSignals l D T N q_p1 q_p1_froms q_t q_p1_delays q_p1_tos q_t_coming q_p1_strengths q_p1_places q_p1_periods q_p1_quiets q_p1_answers q_t_phases _ v_p1_beaters v_p1_mask v_p1_links v_p1_froms ((v_t_row + (1 : Int32)) &&& (31 : Int32)) v_p1_delays v_p1_tos o118.2 v_p1_strengths o25.1 o150 hc150) (cwV 2 hts gX2_advance_X2_sendSignals rfl rfl rfl (by decide +kernel) ⟨Nat.le_of_ble_eq_true rfl, Nat.le_of_ble_eq_true rfl⟩) (zk_preV (q := (RX2, TX2, 3)) hK hN (hP.sub [1, 8, 0, 9, 10, 4, 11] rfl) (hD.sub [1, 8, 0, 9, 10, 4, 11] (by decide) rfl) 2 rfl rfl) rfl rfl hl.1 rfl (lv_room (Nat.le_of_ble_eq_true rfl)) dX2_advance_150 ⟨Nat.zero_le _, Nat.zero_le _⟩) hP hD hS hA [1, 8, 0, 9, 10, 4, 11] [2, 3, 5, 6, 7] rfl rfl (by decide) (by decide) [7, 5, 0, 1, 10, 2, 3, 4, 6, 8, 9, 11] (wf := [(q_t, .inr (4, [.ref q_t_phases, .ref q_t_coming, .int ((v_t_row + (1 : Int32)) &&& (31 : Int32))])), (q_p1, .inr (3, [.int v_p1_beaters, .int v_p1_mask, .ref q_p1_places, .ref q_p1_periods, .ref q_p1_quiets, .ref q_p1_answers, .int v_p1_links, .ref q_p1_froms, .ref q_p1_tos, .ref q_p1_delays, .ref q_p1_strengths])), (q_p1_places, .inl (T 0, 16, .inl v_p1_places)), (q_t_phases, .inl (T 0, 16, .inl o25.2.2)), (q_t_coming, .inl (T 0, 512, .inl o150)), (q_p1_periods, .inl (T 0, 16, .inl v_p1_periods)), (q_p1_quiets, .inl (T 0, 16, .inl v_p1_quiets)), (q_p1_answers, .inl (T 0, 64, .inl v_p1_answers)), (q_p1_froms, .inl (T 0, 60, .inl v_p1_froms)), (q_p1_delays, .inl (T 0, 60, .inl v_p1_delays)), (q_p1_tos, .inl (T 0, 60, .inl v_p1_tos)), (q_p1_strengths, .inl (T 0, 60, .inl v_p1_strengths))]) rfl (by decide) (fun H locs hP hD hS => ?_)
    refine lv_iload hx hb dX2_advance_153 (lv_at hl 2 rfl) ?_
    obtain rfl := Option.some.inj h
    exact W.iret (v := o25.1) hx hb hr (fun t ht hW => ⟨⟨_, (), rfl, rfl, ⟨by rw [ht]; exact hP, hD⟩⟩, hS.F ht⟩) hS.2.2 dX2_advance_155
theorem iX2_isLike_X1 : ∀ w ∈ wsX10, w ∈ wsX2_isLike := by decide +kernel
theorem iX2_isLike_X2 : ∀ w ∈ wsX20, w ∈ wsX2_isLike := by decide +kernel
def f_X2_isLike_2 (N : Nat) (v_p2_beaters : Int32) (v_p2_places : Nat → Int32) (v_t_phases : Nat → Int32) (v_p1_phases : Nat → Int32) : Nat → Int32 → Option ((Int32) ⊕ (Int32))
  | 0, _ => none
  | n + 1, x3 => if v_p2_beaters ≤ x3 then (some (.inr x3)) else (zk_g x3 16 (zk_g (v_p2_places x3.toNatClampNeg) 16 (zk_g (v_p2_places x3.toNatClampNeg) 16 (if (v_t_phases (v_p2_places x3.toNatClampNeg).toNatClampNeg) = (v_p1_phases (v_p2_places x3.toNatClampNeg).toNatClampNeg) then (f_X2_isLike_2 N v_p2_beaters v_p2_places v_t_phases v_p1_phases n (x3 + (1 : Int32))) else (some (.inl x3))))))
set_option maxHeartbeats 8000000 in
set_option maxRecDepth 100000 in
theorem l_X2_isLike_2 {p : Program} {l : Launch} {e : Env} {s : State} {m : MethodId} {args : Array Value} {below : List Frame} {meth : Method} {c : Code} {Q : State → Prop} {A : Nat → Prop} {D : va_G} {T : Nat → ClassId} (N : Nat) (hx : p.tables.exec = Jvm.exec) (hb : c.code = cX2_isLike) (hml : c.maxLocals = 8) (hown : s.vm.findClass RX2 = some m.cls) (hts : ∀ w ∈ wsX2_isLike, w.before args s = true) (hA : ∀ q : Nat, s.heap.size ≤ q → A q) (hK : va_K D vwCl (zk_ty T) s) (hN : zk_N s) (q_p2 q_p2_places q_t q_t_phases q_p1 q_p1_phases q_t_coming q_p1_coming q_p2_periods q_p2_quiets q_p2_answers q_p2_froms q_p2_tos q_p2_delays q_p2_strengths : Nat) (v_p2_beaters : Int32) (v_p2_mask : Int32) (v_p2_links : Int32) (v_p2_places : Nat → Int32) (v_t_row : Int32) (v_t_phases : Nat → Int32) (v_p1_row : Int32) (v_p1_phases : Nat → Int32) (v_t_coming : Nat → Int32) (v_p1_coming : Nat → Int32) :
    ∀ (n : Nat) (x3 : Int32) (o : (Int32) ⊕ (Int32)), f_X2_isLike_2 N v_p2_beaters v_p2_places v_t_phases v_p1_phases n x3 = some o → ∀ (H : Heap) (locs : List Loc) (ls : Array Slot), va_P D vwCl [(q_p2, .inr (3, [.int v_p2_beaters, .int v_p2_mask, .ref q_p2_places, .ref q_p2_periods, .ref q_p2_quiets, .ref q_p2_answers, .int v_p2_links, .ref q_p2_froms, .ref q_p2_tos, .ref q_p2_delays, .ref q_p2_strengths])), (q_p2_places, .inl (T 0, 16, .inl v_p2_places)), (q_t, .inr (4, [.ref q_t_phases, .ref q_t_coming, .int v_t_row])), (q_t_phases, .inl (T 0, 16, .inl v_t_phases)), (q_p1, .inr (4, [.ref q_p1_phases, .ref q_p1_coming, .int v_p1_row])), (q_p1_phases, .inl (T 0, 16, .inl v_p1_phases)), (q_t_coming, .inl (T 0, 512, .inl v_t_coming)), (q_p1_coming, .inl (T 0, 512, .inl v_p1_coming))] H → va_D A [(q_p2, .inr (3, [.int v_p2_beaters, .int v_p2_mask, .ref q_p2_places, .ref q_p2_periods, .ref q_p2_quiets, .ref q_p2_answers, .int v_p2_links, .ref q_p2_froms, .ref q_p2_tos, .ref q_p2_delays, .ref q_p2_strengths])), (q_p2_places, .inl (T 0, 16, .inl v_p2_places)), (q_t, .inr (4, [.ref q_t_phases, .ref q_t_coming, .int v_t_row])), (q_t_phases, .inl (T 0, 16, .inl v_t_phases)), (q_p1, .inr (4, [.ref q_p1_phases, .ref q_p1_coming, .int v_p1_row])), (q_p1_phases, .inl (T 0, 16, .inl v_p1_phases)), (q_t_coming, .inl (T 0, 512, .inl v_t_coming)), (q_p1_coming, .inl (T 0, 512, .inl v_p1_coming))] → va_S A s.heap H locs → lv_has ls 8 [(0, .ref q_t), (1, .ref q_p1), (2, .ref q_p2), (3, .int x3)] → (∀ t, o = .inl t → ∀ (H : Heap) (locs : List Loc) (ls : Array Slot), va_P D vwCl [(q_p2, .inr (3, [.int v_p2_beaters, .int v_p2_mask, .ref q_p2_places, .ref q_p2_periods, .ref q_p2_quiets, .ref q_p2_answers, .int v_p2_links, .ref q_p2_froms, .ref q_p2_tos, .ref q_p2_delays, .ref q_p2_strengths])), (q_p2_places, .inl (T 0, 16, .inl v_p2_places)), (q_t, .inr (4, [.ref q_t_phases, .ref q_t_coming, .int v_t_row])), (q_t_phases, .inl (T 0, 16, .inl v_t_phases)), (q_p1, .inr (4, [.ref q_p1_phases, .ref q_p1_coming, .int v_p1_row])), (q_p1_phases, .inl (T 0, 16, .inl v_p1_phases)), (q_t_coming, .inl (T 0, 512, .inl v_t_coming)), (q_p1_coming, .inl (T 0, 512, .inl v_p1_coming))] H → va_D A [(q_p2, .inr (3, [.int v_p2_beaters, .int v_p2_mask, .ref q_p2_places, .ref q_p2_periods, .ref q_p2_quiets, .ref q_p2_answers, .int v_p2_links, .ref q_p2_froms, .ref q_p2_tos, .ref q_p2_delays, .ref q_p2_strengths])), (q_p2_places, .inl (T 0, 16, .inl v_p2_places)), (q_t, .inr (4, [.ref q_t_phases, .ref q_t_coming, .int v_t_row])), (q_t_phases, .inl (T 0, 16, .inl v_t_phases)), (q_p1, .inr (4, [.ref q_p1_phases, .ref q_p1_coming, .int v_p1_row])), (q_p1_phases, .inl (T 0, 16, .inl v_p1_phases)), (q_t_coming, .inl (T 0, 512, .inl v_t_coming)), (q_p1_coming, .inl (T 0, 512, .inl v_p1_coming))] → va_S A s.heap H locs → lv_has ls 8 [] → W p l e ({ frames := 1, cells := 0, slots := 0, locals := 21 } : Room) s m args below meth c H locs 0 0 Q (F0 m 35 ls [])) → (∀ t, o = .inr t → ∀ (H : Heap) (locs : List Loc) (ls : Array Slot), va_P D vwCl [(q_p2, .inr (3, [.int v_p2_beaters, .int v_p2_mask, .ref q_p2_places, .ref q_p2_periods, .ref q_p2_quiets, .ref q_p2_answers, .int v_p2_links, .ref q_p2_froms, .ref q_p2_tos, .ref q_p2_delays, .ref q_p2_strengths])), (q_p2_places, .inl (T 0, 16, .inl v_p2_places)), (q_t, .inr (4, [.ref q_t_phases, .ref q_t_coming, .int v_t_row])), (q_t_phases, .inl (T 0, 16, .inl v_t_phases)), (q_p1, .inr (4, [.ref q_p1_phases, .ref q_p1_coming, .int v_p1_row])), (q_p1_phases, .inl (T 0, 16, .inl v_p1_phases)), (q_t_coming, .inl (T 0, 512, .inl v_t_coming)), (q_p1_coming, .inl (T 0, 512, .inl v_p1_coming))] H → va_D A [(q_p2, .inr (3, [.int v_p2_beaters, .int v_p2_mask, .ref q_p2_places, .ref q_p2_periods, .ref q_p2_quiets, .ref q_p2_answers, .int v_p2_links, .ref q_p2_froms, .ref q_p2_tos, .ref q_p2_delays, .ref q_p2_strengths])), (q_p2_places, .inl (T 0, 16, .inl v_p2_places)), (q_t, .inr (4, [.ref q_t_phases, .ref q_t_coming, .int v_t_row])), (q_t_phases, .inl (T 0, 16, .inl v_t_phases)), (q_p1, .inr (4, [.ref q_p1_phases, .ref q_p1_coming, .int v_p1_row])), (q_p1_phases, .inl (T 0, 16, .inl v_p1_phases)), (q_t_coming, .inl (T 0, 512, .inl v_t_coming)), (q_p1_coming, .inl (T 0, 512, .inl v_p1_coming))] → va_S A s.heap H locs → lv_has ls 8 [(0, .ref q_t), (1, .ref q_p1), (2, .ref q_p2)] → W p l e ({ frames := 1, cells := 0, slots := 0, locals := 21 } : Room) s m args below meth c H locs 0 0 Q (F0 m 43 ls [])) → W p l e ({ frames := 1, cells := 0, slots := 0, locals := 21 } : Room) s m args below meth c H locs 0 0 Q (F0 m 2 ls []) := by
  intro n
  induction n with
  | zero => intro x3 o h; exact absurd h (by simp [f_X2_isLike_2])
  | succ n ih =>
    intro x3 o h H locs ls hP hD hS hl kx0 kx1
    rw [f_X2_isLike_2] at h
    refine lv_iload_n hx hb dX2_isLike_2 rfl (lv_at hl 3 rfl) ?_
    refine lv_aload_n hx hb dX2_isLike_3 rfl (lv_at hl 2 rfl) ?_
    refine va_getN (D := D) (ci := 3) (v := .int v_p2_beaters) (C := RX1) (T := TX1) (N := 11) hx hb hts iX2_isLike_X1 hown hK hP 0 rfl rfl 0 (by decide) (zk_f hN (own := RX2) (index := 32) (ref := "PulseMeadow$Setting") (n := "beaters") (d := "I") (host := "PulseMeadow") (by decide +kernel)) (fun _ h9 => h9) rfl dX2_isLike_4 ?_
    refine lv_icmp_ge (tgt := 43) hx hb dX2_isLike_7 (by decide) (fun c7 => ?_) (fun c7 => ?_)
    · replace h := (if_pos c7).symm.trans h
      obtain rfl := Option.some.inj h
      exact kx1 _ rfl _ _ _ hP hD hS (lv_sub hl [0, 1, 2] rfl)
    · replace h := (if_neg c7).symm.trans h
      refine lv_aload_n hx hb dX2_isLike_10 rfl (lv_at hl 2 rfl) ?_
      refine va_getN (D := D) (ci := 3) (v := .ref q_p2_places) (C := RX1) (T := TX1) (N := 11) hx hb hts iX2_isLike_X1 hown hK hP 0 rfl rfl 2 (by decide) (zk_f hN (own := RX2) (index := 37) (ref := "PulseMeadow$Setting") (n := "places") (d := "[I") (host := "PulseMeadow") (by decide +kernel)) (fun _ h9 => h9) rfl dX2_isLike_11 ?_
      refine lv_iload_n hx hb dX2_isLike_14 rfl (lv_at hl 3 rfl) ?_
      obtain ⟨hb15, h⟩ := zk_g_spec h
      refine va_iald hx hb hK hP 1 0 rfl rfl hb15 dX2_isLike_15 ?_
      refine lv_istore (lv' := [(4, .int (v_p2_places x3.toNatClampNeg)), (0, .ref q_t), (1, .ref q_p1), (2, .ref q_p2), (3, .int x3)]) hx hb dX2_isLike_16 hl (by decide) rfl (fun ls hl => ?_)
      refine lv_aload_n hx hb dX2_isLike_18 rfl (lv_at hl 1 rfl) ?_
      refine va_get (D := D) (ci := 4) (v := .ref q_t_phases) (C := RX2) (T := TX2) (N := 3) hx hb hts iX2_isLike_X2 hown hK hP 2 rfl rfl 0 (by decide) (hts (.fieldLink RX2 9 "PulseMeadow$State" "phases" "[I") (by decide +kernel)) (fun _ h9 => h9) rfl dX2_isLike_19 ?_
      refine lv_iload hx hb dX2_isLike_22 (lv_at hl 0 rfl) ?_
      obtain ⟨hb24, h⟩ := zk_g_spec h
      refine va_iald hx hb hK hP 3 0 rfl rfl hb24 dX2_isLike_24 ?_
      refine lv_aload_n hx hb dX2_isLike_25 rfl (lv_at hl 2 rfl) ?_
      refine va_get (D := D) (ci := 4) (v := .ref q_p1_phases) (C := RX2) (T := TX2) (N := 3) hx hb hts iX2_isLike_X2 hown hK hP 4 rfl rfl 0 (by decide) (hts (.fieldLink RX2 9 "PulseMeadow$State" "phases" "[I") (by decide +kernel)) (fun _ h9 => h9) rfl dX2_isLike_26 ?_
      refine lv_iload hx hb dX2_isLike_29 (lv_at hl 0 rfl) ?_
      obtain ⟨hb31, h⟩ := zk_g_spec h
      refine va_iald hx hb hK hP 5 0 rfl rfl hb31 dX2_isLike_31 ?_
      refine lv_icmp_eq (tgt := 37) hx hb dX2_isLike_32 (by decide) (fun c32 => ?_) (fun c32 => ?_)
      · replace h := (if_pos c32).symm.trans h
        refine lv_iinc (v := x3 + (1 : Int32)) (lv' := [(3, .int (x3 + (1 : Int32))), (4, .int (v_p2_places x3.toNatClampNeg)), (0, .ref q_t), (1, .ref q_p1), (2, .ref q_p2)]) hx hb dX2_isLike_37 hl (k := 4) rfl rfl (by decide) rfl (fun ls hl => ?_)
        refine lv_goto (tgt := 2) hx hb dX2_isLike_40 (by decide) ?_
        exact ih (x3 + (1 : Int32)) o h _ _ _ hP hD hS (lv_sub hl [2, 3, 4, 0] rfl) kx0 kx1
      · replace h := (if_neg c32).symm.trans h
        obtain rfl := Option.some.inj h
        exact kx0 _ rfl _ _ _ hP hD hS (lv_sub hl [] rfl)
def f_X2_isLike_68 (N : Nat) (v_p2_beaters : Int32) (v_p2_places : Nat → Int32) (v_t_coming : Nat → Int32) (v_p1_coming : Nat → Int32) (x4 : Int32) (x5 : Int32) : Nat → Int32 → Option ((Int32) ⊕ (Int32))
  | 0, _ => none
  | n + 1, x6 => if v_p2_beaters ≤ x6 then (some (.inr x6)) else (zk_g x6 16 (zk_g (x4 + (v_p2_places x6.toNatClampNeg)) 512 (zk_g (x5 + (v_p2_places x6.toNatClampNeg)) 512 (if (v_t_coming (x4 + (v_p2_places x6.toNatClampNeg)).toNatClampNeg) = (v_p1_coming (x5 + (v_p2_places x6.toNatClampNeg)).toNatClampNeg) then (f_X2_isLike_68 N v_p2_beaters v_p2_places v_t_coming v_p1_coming x4 x5 n (x6 + (1 : Int32))) else (some (.inl x6))))))
set_option maxHeartbeats 8000000 in
set_option maxRecDepth 100000 in
theorem l_X2_isLike_68 {p : Program} {l : Launch} {e : Env} {s : State} {m : MethodId} {args : Array Value} {below : List Frame} {meth : Method} {c : Code} {Q : State → Prop} {A : Nat → Prop} {D : va_G} {T : Nat → ClassId} (N : Nat) (hx : p.tables.exec = Jvm.exec) (hb : c.code = cX2_isLike) (hml : c.maxLocals = 8) (hown : s.vm.findClass RX2 = some m.cls) (hts : ∀ w ∈ wsX2_isLike, w.before args s = true) (hA : ∀ q : Nat, s.heap.size ≤ q → A q) (hK : va_K D vwCl (zk_ty T) s) (hN : zk_N s) (q_p2 q_p2_places q_t q_t_phases q_p1 q_p1_phases q_t_coming q_p1_coming q_p2_periods q_p2_quiets q_p2_answers q_p2_froms q_p2_tos q_p2_delays q_p2_strengths : Nat) (v_p2_beaters : Int32) (v_p2_mask : Int32) (v_p2_links : Int32) (v_p2_places : Nat → Int32) (v_t_row : Int32) (v_t_phases : Nat → Int32) (v_p1_row : Int32) (v_p1_phases : Nat → Int32) (v_t_coming : Nat → Int32) (v_p1_coming : Nat → Int32) (x3 : Int32) (x4 : Int32) (x5 : Int32) :
    ∀ (n : Nat) (x6 : Int32) (o : (Int32) ⊕ (Int32)), f_X2_isLike_68 N v_p2_beaters v_p2_places v_t_coming v_p1_coming x4 x5 n x6 = some o → ∀ (H : Heap) (locs : List Loc) (ls : Array Slot), va_P D vwCl [(q_p2, .inr (3, [.int v_p2_beaters, .int v_p2_mask, .ref q_p2_places, .ref q_p2_periods, .ref q_p2_quiets, .ref q_p2_answers, .int v_p2_links, .ref q_p2_froms, .ref q_p2_tos, .ref q_p2_delays, .ref q_p2_strengths])), (q_p2_places, .inl (T 0, 16, .inl v_p2_places)), (q_t, .inr (4, [.ref q_t_phases, .ref q_t_coming, .int v_t_row])), (q_t_phases, .inl (T 0, 16, .inl v_t_phases)), (q_p1, .inr (4, [.ref q_p1_phases, .ref q_p1_coming, .int v_p1_row])), (q_p1_phases, .inl (T 0, 16, .inl v_p1_phases)), (q_t_coming, .inl (T 0, 512, .inl v_t_coming)), (q_p1_coming, .inl (T 0, 512, .inl v_p1_coming))] H → va_D A [(q_p2, .inr (3, [.int v_p2_beaters, .int v_p2_mask, .ref q_p2_places, .ref q_p2_periods, .ref q_p2_quiets, .ref q_p2_answers, .int v_p2_links, .ref q_p2_froms, .ref q_p2_tos, .ref q_p2_delays, .ref q_p2_strengths])), (q_p2_places, .inl (T 0, 16, .inl v_p2_places)), (q_t, .inr (4, [.ref q_t_phases, .ref q_t_coming, .int v_t_row])), (q_t_phases, .inl (T 0, 16, .inl v_t_phases)), (q_p1, .inr (4, [.ref q_p1_phases, .ref q_p1_coming, .int v_p1_row])), (q_p1_phases, .inl (T 0, 16, .inl v_p1_phases)), (q_t_coming, .inl (T 0, 512, .inl v_t_coming)), (q_p1_coming, .inl (T 0, 512, .inl v_p1_coming))] → va_S A s.heap H locs → lv_has ls 8 [(0, .ref q_t), (1, .ref q_p1), (2, .ref q_p2), (3, .int x3), (4, .int x4), (5, .int x5), (6, .int x6)] → (∀ t, o = .inl t → ∀ (H : Heap) (locs : List Loc) (ls : Array Slot), va_P D vwCl [(q_p2, .inr (3, [.int v_p2_beaters, .int v_p2_mask, .ref q_p2_places, .ref q_p2_periods, .ref q_p2_quiets, .ref q_p2_answers, .int v_p2_links, .ref q_p2_froms, .ref q_p2_tos, .ref q_p2_delays, .ref q_p2_strengths])), (q_p2_places, .inl (T 0, 16, .inl v_p2_places)), (q_t, .inr (4, [.ref q_t_phases, .ref q_t_coming, .int v_t_row])), (q_t_phases, .inl (T 0, 16, .inl v_t_phases)), (q_p1, .inr (4, [.ref q_p1_phases, .ref q_p1_coming, .int v_p1_row])), (q_p1_phases, .inl (T 0, 16, .inl v_p1_phases)), (q_t_coming, .inl (T 0, 512, .inl v_t_coming)), (q_p1_coming, .inl (T 0, 512, .inl v_p1_coming))] H → va_D A [(q_p2, .inr (3, [.int v_p2_beaters, .int v_p2_mask, .ref q_p2_places, .ref q_p2_periods, .ref q_p2_quiets, .ref q_p2_answers, .int v_p2_links, .ref q_p2_froms, .ref q_p2_tos, .ref q_p2_delays, .ref q_p2_strengths])), (q_p2_places, .inl (T 0, 16, .inl v_p2_places)), (q_t, .inr (4, [.ref q_t_phases, .ref q_t_coming, .int v_t_row])), (q_t_phases, .inl (T 0, 16, .inl v_t_phases)), (q_p1, .inr (4, [.ref q_p1_phases, .ref q_p1_coming, .int v_p1_row])), (q_p1_phases, .inl (T 0, 16, .inl v_p1_phases)), (q_t_coming, .inl (T 0, 512, .inl v_t_coming)), (q_p1_coming, .inl (T 0, 512, .inl v_p1_coming))] → va_S A s.heap H locs → lv_has ls 8 [] → W p l e ({ frames := 1, cells := 0, slots := 0, locals := 21 } : Room) s m args below meth c H locs 0 0 Q (F0 m 109 ls [])) → (∀ t, o = .inr t → ∀ (H : Heap) (locs : List Loc) (ls : Array Slot), va_P D vwCl [(q_p2, .inr (3, [.int v_p2_beaters, .int v_p2_mask, .ref q_p2_places, .ref q_p2_periods, .ref q_p2_quiets, .ref q_p2_answers, .int v_p2_links, .ref q_p2_froms, .ref q_p2_tos, .ref q_p2_delays, .ref q_p2_strengths])), (q_p2_places, .inl (T 0, 16, .inl v_p2_places)), (q_t, .inr (4, [.ref q_t_phases, .ref q_t_coming, .int v_t_row])), (q_t_phases, .inl (T 0, 16, .inl v_t_phases)), (q_p1, .inr (4, [.ref q_p1_phases, .ref q_p1_coming, .int v_p1_row])), (q_p1_phases, .inl (T 0, 16, .inl v_p1_phases)), (q_t_coming, .inl (T 0, 512, .inl v_t_coming)), (q_p1_coming, .inl (T 0, 512, .inl v_p1_coming))] H → va_D A [(q_p2, .inr (3, [.int v_p2_beaters, .int v_p2_mask, .ref q_p2_places, .ref q_p2_periods, .ref q_p2_quiets, .ref q_p2_answers, .int v_p2_links, .ref q_p2_froms, .ref q_p2_tos, .ref q_p2_delays, .ref q_p2_strengths])), (q_p2_places, .inl (T 0, 16, .inl v_p2_places)), (q_t, .inr (4, [.ref q_t_phases, .ref q_t_coming, .int v_t_row])), (q_t_phases, .inl (T 0, 16, .inl v_t_phases)), (q_p1, .inr (4, [.ref q_p1_phases, .ref q_p1_coming, .int v_p1_row])), (q_p1_phases, .inl (T 0, 16, .inl v_p1_phases)), (q_t_coming, .inl (T 0, 512, .inl v_t_coming)), (q_p1_coming, .inl (T 0, 512, .inl v_p1_coming))] → va_S A s.heap H locs → lv_has ls 8 [(0, .ref q_t), (1, .ref q_p1), (2, .ref q_p2), (3, .int x3)] → W p l e ({ frames := 1, cells := 0, slots := 0, locals := 21 } : Room) s m args below meth c H locs 0 0 Q (F0 m 117 ls [])) → W p l e ({ frames := 1, cells := 0, slots := 0, locals := 21 } : Room) s m args below meth c H locs 0 0 Q (F0 m 68 ls []) := by
  intro n
  induction n with
  | zero => intro x6 o h; exact absurd h (by simp [f_X2_isLike_68])
  | succ n ih =>
    intro x6 o h H locs ls hP hD hS hl kx0 kx1
    rw [f_X2_isLike_68] at h
    refine lv_iload hx hb dX2_isLike_68 (lv_at hl 6 rfl) ?_
    refine lv_aload_n hx hb dX2_isLike_70 rfl (lv_at hl 2 rfl) ?_
    refine va_getN (D := D) (ci := 3) (v := .int v_p2_beaters) (C := RX1) (T := TX1) (N := 11) hx hb hts iX2_isLike_X1 hown hK hP 0 rfl rfl 0 (by decide) (zk_f hN (own := RX2) (index := 32) (ref := "PulseMeadow$Setting") (n := "beaters") (d := "I") (host := "PulseMeadow") (by decide +kernel)) (fun _ h9 => h9) rfl dX2_isLike_71 ?_
    refine lv_icmp_ge (tgt := 117) hx hb dX2_isLike_74 (by decide) (fun c74 => ?_) (fun c74 => ?_)
    · replace h := (if_pos c74).symm.trans h
      obtain rfl := Option.some.inj h
      exact kx1 _ rfl _ _ _ hP hD hS (lv_sub hl [0, 1, 2, 3] rfl)
    · replace h := (if_neg c74).symm.trans h
      refine lv_aload_n hx hb dX2_isLike_77 rfl (lv_at hl 2 rfl) ?_
      refine va_getN (D := D) (ci := 3) (v := .ref q_p2_places) (C := RX1) (T := TX1) (N := 11) hx hb hts iX2_isLike_X1 hown hK hP 0 rfl rfl 2 (by decide) (zk_f hN (own := RX2) (index := 37) (ref := "PulseMeadow$Setting") (n := "places") (d := "[I") (host := "PulseMeadow") (by decide +kernel)) (fun _ h9 => h9) rfl dX2_isLike_78 ?_
      refine lv_iload hx hb dX2_isLike_81 (lv_at hl 6 rfl) ?_
      obtain ⟨hb83, h⟩ := zk_g_spec h
      refine va_iald hx hb hK hP 1 0 rfl rfl hb83 dX2_isLike_83 ?_
      refine lv_istore (lv' := [(7, .int (v_p2_places x6.toNatClampNeg)), (0, .ref q_t), (1, .ref q_p1), (2, .ref q_p2), (3, .int x3), (4, .int x4), (5, .int x5), (6, .int x6)]) hx hb dX2_isLike_84 hl (by decide) rfl (fun ls hl => ?_)
      refine lv_aload_n hx hb dX2_isLike_86 rfl (lv_at hl 1 rfl) ?_
      refine va_get (D := D) (ci := 4) (v := .ref q_t_coming) (C := RX2) (T := TX2) (N := 3) hx hb hts iX2_isLike_X2 hown hK hP 2 rfl rfl 1 (by decide) (hts (.fieldLink RX2 15 "PulseMeadow$State" "coming" "[I") (by decide +kernel)) (fun _ h9 => h9) rfl dX2_isLike_87 ?_
      refine lv_iload hx hb dX2_isLike_90 (lv_at hl 5 rfl) ?_
      refine lv_iload hx hb dX2_isLike_92 (lv_at hl 0 rfl) ?_
      refine lv_iadd hx hb dX2_isLike_94 ?_
      obtain ⟨hb95, h⟩ := zk_g_spec h
      refine va_iald hx hb hK hP 6 0 rfl rfl hb95 dX2_isLike_95 ?_
      refine lv_aload_n hx hb dX2_isLike_96 rfl (lv_at hl 2 rfl) ?_
      refine va_get (D := D) (ci := 4) (v := .ref q_p1_coming) (C := RX2) (T := TX2) (N := 3) hx hb hts iX2_isLike_X2 hown hK hP 4 rfl rfl 1 (by decide) (hts (.fieldLink RX2 15 "PulseMeadow$State" "coming" "[I") (by decide +kernel)) (fun _ h9 => h9) rfl dX2_isLike_97 ?_
      refine lv_iload hx hb dX2_isLike_100 (lv_at hl 6 rfl) ?_
      refine lv_iload hx hb dX2_isLike_102 (lv_at hl 0 rfl) ?_
      refine lv_iadd hx hb dX2_isLike_104 ?_
      obtain ⟨hb105, h⟩ := zk_g_spec h
      refine va_iald hx hb hK hP 7 0 rfl rfl hb105 dX2_isLike_105 ?_
      refine lv_icmp_eq (tgt := 111) hx hb dX2_isLike_106 (by decide) (fun c106 => ?_) (fun c106 => ?_)
      · replace h := (if_pos c106).symm.trans h
        refine lv_iinc (v := x6 + (1 : Int32)) (lv' := [(6, .int (x6 + (1 : Int32))), (7, .int (v_p2_places x6.toNatClampNeg)), (0, .ref q_t), (1, .ref q_p1), (2, .ref q_p2), (3, .int x3), (4, .int x4), (5, .int x5)]) hx hb dX2_isLike_111 hl (k := 7) rfl rfl (by decide) rfl (fun ls hl => ?_)
        refine lv_goto (tgt := 68) hx hb dX2_isLike_114 (by decide) ?_
        exact ih (x6 + (1 : Int32)) o h _ _ _ hP hD hS (lv_sub hl [2, 3, 4, 5, 6, 7, 0] rfl) kx0 kx1
      · replace h := (if_neg c106).symm.trans h
        obtain rfl := Option.some.inj h
        exact kx0 _ rfl _ _ _ hP hD hS (lv_sub hl [] rfl)
def f_X2_isLike_45 (N : Nat) (v_p2_beaters : Int32) (v_p2_places : Nat → Int32) (v_t_row : Int32) (v_p1_row : Int32) (v_t_coming : Nat → Int32) (v_p1_coming : Nat → Int32) : Nat → Int32 → Option ((Int32) ⊕ (Int32))
  | 0, _ => none
  | n + 1, x3 => if (30 : Int32) < x3 then (some (.inr x3)) else ((f_X2_startOfRow N v_t_row x3).bind fun o53 => (f_X2_startOfRow N v_p1_row x3).bind fun o60 => (f_X2_isLike_68 N v_p2_beaters v_p2_places v_t_coming v_p1_coming o53 o60 N (0 : Int32)).bind (Sum.elim (fun t68_0 => some (.inl 0)) (fun t68_1 => f_X2_isLike_45 N v_p2_beaters v_p2_places v_t_row v_p1_row v_t_coming v_p1_coming n (x3 + (1 : Int32)))))
set_option maxHeartbeats 8000000 in
set_option maxRecDepth 100000 in
theorem l_X2_isLike_45 {p : Program} {l : Launch} {e : Env} {s : State} {m : MethodId} {args : Array Value} {below : List Frame} {meth : Method} {c : Code} {Q : State → Prop} {A : Nat → Prop} {D : va_G} {T : Nat → ClassId} (N : Nat) (hx : p.tables.exec = Jvm.exec) (hb : c.code = cX2_isLike) (hml : c.maxLocals = 8) (hown : s.vm.findClass RX2 = some m.cls) (hts : ∀ w ∈ wsX2_isLike, w.before args s = true) (hA : ∀ q : Nat, s.heap.size ≤ q → A q) (hK : va_K D vwCl (zk_ty T) s) (hN : zk_N s) (q_p2 q_p2_places q_t q_t_phases q_p1 q_p1_phases q_t_coming q_p1_coming q_p2_periods q_p2_quiets q_p2_answers q_p2_froms q_p2_tos q_p2_delays q_p2_strengths : Nat) (v_p2_beaters : Int32) (v_p2_mask : Int32) (v_p2_links : Int32) (v_p2_places : Nat → Int32) (v_t_row : Int32) (v_t_phases : Nat → Int32) (v_p1_row : Int32) (v_p1_phases : Nat → Int32) (v_t_coming : Nat → Int32) (v_p1_coming : Nat → Int32) :
    ∀ (n : Nat) (x3 : Int32) (o : (Int32) ⊕ (Int32)), f_X2_isLike_45 N v_p2_beaters v_p2_places v_t_row v_p1_row v_t_coming v_p1_coming n x3 = some o → ∀ (H : Heap) (locs : List Loc) (ls : Array Slot), va_P D vwCl [(q_p2, .inr (3, [.int v_p2_beaters, .int v_p2_mask, .ref q_p2_places, .ref q_p2_periods, .ref q_p2_quiets, .ref q_p2_answers, .int v_p2_links, .ref q_p2_froms, .ref q_p2_tos, .ref q_p2_delays, .ref q_p2_strengths])), (q_p2_places, .inl (T 0, 16, .inl v_p2_places)), (q_t, .inr (4, [.ref q_t_phases, .ref q_t_coming, .int v_t_row])), (q_t_phases, .inl (T 0, 16, .inl v_t_phases)), (q_p1, .inr (4, [.ref q_p1_phases, .ref q_p1_coming, .int v_p1_row])), (q_p1_phases, .inl (T 0, 16, .inl v_p1_phases)), (q_t_coming, .inl (T 0, 512, .inl v_t_coming)), (q_p1_coming, .inl (T 0, 512, .inl v_p1_coming))] H → va_D A [(q_p2, .inr (3, [.int v_p2_beaters, .int v_p2_mask, .ref q_p2_places, .ref q_p2_periods, .ref q_p2_quiets, .ref q_p2_answers, .int v_p2_links, .ref q_p2_froms, .ref q_p2_tos, .ref q_p2_delays, .ref q_p2_strengths])), (q_p2_places, .inl (T 0, 16, .inl v_p2_places)), (q_t, .inr (4, [.ref q_t_phases, .ref q_t_coming, .int v_t_row])), (q_t_phases, .inl (T 0, 16, .inl v_t_phases)), (q_p1, .inr (4, [.ref q_p1_phases, .ref q_p1_coming, .int v_p1_row])), (q_p1_phases, .inl (T 0, 16, .inl v_p1_phases)), (q_t_coming, .inl (T 0, 512, .inl v_t_coming)), (q_p1_coming, .inl (T 0, 512, .inl v_p1_coming))] → va_S A s.heap H locs → lv_has ls 8 [(0, .ref q_t), (1, .ref q_p1), (2, .ref q_p2), (3, .int x3)] → (∀ t, o = .inl t → ∀ (H : Heap) (locs : List Loc) (ls : Array Slot), va_P D vwCl [(q_p2, .inr (3, [.int v_p2_beaters, .int v_p2_mask, .ref q_p2_places, .ref q_p2_periods, .ref q_p2_quiets, .ref q_p2_answers, .int v_p2_links, .ref q_p2_froms, .ref q_p2_tos, .ref q_p2_delays, .ref q_p2_strengths])), (q_p2_places, .inl (T 0, 16, .inl v_p2_places)), (q_t, .inr (4, [.ref q_t_phases, .ref q_t_coming, .int v_t_row])), (q_t_phases, .inl (T 0, 16, .inl v_t_phases)), (q_p1, .inr (4, [.ref q_p1_phases, .ref q_p1_coming, .int v_p1_row])), (q_p1_phases, .inl (T 0, 16, .inl v_p1_phases)), (q_t_coming, .inl (T 0, 512, .inl v_t_coming)), (q_p1_coming, .inl (T 0, 512, .inl v_p1_coming))] H → va_D A [(q_p2, .inr (3, [.int v_p2_beaters, .int v_p2_mask, .ref q_p2_places, .ref q_p2_periods, .ref q_p2_quiets, .ref q_p2_answers, .int v_p2_links, .ref q_p2_froms, .ref q_p2_tos, .ref q_p2_delays, .ref q_p2_strengths])), (q_p2_places, .inl (T 0, 16, .inl v_p2_places)), (q_t, .inr (4, [.ref q_t_phases, .ref q_t_coming, .int v_t_row])), (q_t_phases, .inl (T 0, 16, .inl v_t_phases)), (q_p1, .inr (4, [.ref q_p1_phases, .ref q_p1_coming, .int v_p1_row])), (q_p1_phases, .inl (T 0, 16, .inl v_p1_phases)), (q_t_coming, .inl (T 0, 512, .inl v_t_coming)), (q_p1_coming, .inl (T 0, 512, .inl v_p1_coming))] → va_S A s.heap H locs → lv_has ls 8 [] → W p l e ({ frames := 1, cells := 0, slots := 0, locals := 21 } : Room) s m args below meth c H locs 0 0 Q (F0 m 109 ls [])) → (∀ t, o = .inr t → ∀ (H : Heap) (locs : List Loc) (ls : Array Slot), va_P D vwCl [(q_p2, .inr (3, [.int v_p2_beaters, .int v_p2_mask, .ref q_p2_places, .ref q_p2_periods, .ref q_p2_quiets, .ref q_p2_answers, .int v_p2_links, .ref q_p2_froms, .ref q_p2_tos, .ref q_p2_delays, .ref q_p2_strengths])), (q_p2_places, .inl (T 0, 16, .inl v_p2_places)), (q_t, .inr (4, [.ref q_t_phases, .ref q_t_coming, .int v_t_row])), (q_t_phases, .inl (T 0, 16, .inl v_t_phases)), (q_p1, .inr (4, [.ref q_p1_phases, .ref q_p1_coming, .int v_p1_row])), (q_p1_phases, .inl (T 0, 16, .inl v_p1_phases)), (q_t_coming, .inl (T 0, 512, .inl v_t_coming)), (q_p1_coming, .inl (T 0, 512, .inl v_p1_coming))] H → va_D A [(q_p2, .inr (3, [.int v_p2_beaters, .int v_p2_mask, .ref q_p2_places, .ref q_p2_periods, .ref q_p2_quiets, .ref q_p2_answers, .int v_p2_links, .ref q_p2_froms, .ref q_p2_tos, .ref q_p2_delays, .ref q_p2_strengths])), (q_p2_places, .inl (T 0, 16, .inl v_p2_places)), (q_t, .inr (4, [.ref q_t_phases, .ref q_t_coming, .int v_t_row])), (q_t_phases, .inl (T 0, 16, .inl v_t_phases)), (q_p1, .inr (4, [.ref q_p1_phases, .ref q_p1_coming, .int v_p1_row])), (q_p1_phases, .inl (T 0, 16, .inl v_p1_phases)), (q_t_coming, .inl (T 0, 512, .inl v_t_coming)), (q_p1_coming, .inl (T 0, 512, .inl v_p1_coming))] → va_S A s.heap H locs → lv_has ls 8 [] → W p l e ({ frames := 1, cells := 0, slots := 0, locals := 21 } : Room) s m args below meth c H locs 0 0 Q (F0 m 123 ls [])) → W p l e ({ frames := 1, cells := 0, slots := 0, locals := 21 } : Room) s m args below meth c H locs 0 0 Q (F0 m 45 ls []) := by
  intro n
  induction n with
  | zero => intro x3 o h; exact absurd h (by simp [f_X2_isLike_45])
  | succ n ih =>
    intro x3 o h H locs ls hP hD hS hl kx0 kx1
    rw [f_X2_isLike_45] at h
    refine lv_iload_n hx hb dX2_isLike_45 rfl (lv_at hl 3 rfl) ?_
    refine lv_bipush (v := (30 : Int32)) hx hb dX2_isLike_46 (by decide) ?_
    refine lv_icmp_gt (tgt := 123) hx hb dX2_isLike_48 (by decide) (fun c48 => ?_) (fun c48 => ?_)
    · replace h := (if_pos c48).symm.trans h
      obtain rfl := Option.some.inj h
      exact kx1 _ rfl _ _ _ hP hD hS (lv_sub hl [] rfl)
    · replace h := (if_neg c48).symm.trans h
      refine lv_aload_n hx hb dX2_isLike_51 rfl (lv_at hl 0 rfl) ?_
      refine lv_iload_n hx hb dX2_isLike_52 rfl (lv_at hl 3 rfl) ?_
      obtain ⟨o53, hc53, h⟩ := zk_bind h
      refine zk_ci (wr := [(q_p2, .inr (3, [.int v_p2_beaters, .int v_p2_mask, .ref q_p2_places, .ref q_p2_periods, .ref q_p2_quiets, .ref q_p2_answers, .int v_p2_links, .ref q_p2_froms, .ref q_p2_tos, .ref q_p2_delays, .ref q_p2_strengths])), (q_p2_places, .inl (T 0, 16, .inl v_p2_places)), (q_t_phases, .inl (T 0, 16, .inl v_t_phases)), (q_p1, .inr (4, [.ref q_p1_phases, .ref q_p1_coming, .int v_p1_row])), (q_p1_phases, .inl (T 0, 16, .inl v_p1_phases)), (q_t_coming, .inl (T 0, 512, .inl v_t_coming)), (q_p1_coming, .inl (T 0, 512, .inl v_p1_coming))]) (va_runV (As := [.int x3]) (rest := []) ⟨hx, hb, hml, hown, hts⟩ (k_X2_startOfRow l D T N q_t q_t_phases q_t_coming _ v_t_row x3 o53 hc53) (cwV 1 hts gX2_isLike_X2_startOfRow rfl rfl rfl (by decide +kernel) ⟨Nat.le_of_ble_eq_true rfl, Nat.le_of_ble_eq_true rfl⟩) (zk_preV (q := (RX2, TX2, 3)) hK hN (hP.sub [2] rfl) (hD.sub [2] (by decide) rfl) 0 rfl rfl) rfl rfl hl.1 rfl (lv_room (Nat.le_of_ble_eq_true rfl)) dX2_isLike_53 ⟨Nat.zero_le _, Nat.zero_le _⟩) hP hD hS hA [2] [0, 1, 3, 4, 5, 6, 7] rfl rfl (by decide) (by decide) [0, 1, 7, 2, 3, 4, 5, 6] (wf := [(q_p2, .inr (3, [.int v_p2_beaters, .int v_p2_mask, .ref q_p2_places, .ref q_p2_periods, .ref q_p2_quiets, .ref q_p2_answers, .int v_p2_links, .ref q_p2_froms, .ref q_p2_tos, .ref q_p2_delays, .ref q_p2_strengths])), (q_p2_places, .inl (T 0, 16, .inl v_p2_places)), (q_t, .inr (4, [.ref q_t_phases, .ref q_t_coming, .int v_t_row])), (q_t_phases, .inl (T 0, 16, .inl v_t_phases)), (q_p1, .inr (4, [.ref q_p1_phases, .ref q_p1_coming, .int v_p1_row])), (q_p1_phases, .inl (T 0, 16, .inl v_p1_phases)), (q_t_coming, .inl (T 0, 512, .inl v_t_coming)), (q_p1_coming, .inl (T 0, 512, .inl v_p1_coming))]) rfl (by decide) (fun H locs hP hD hS => ?_)
      refine lv_istore (lv' := [(4, .int o53), (0, .ref q_t), (1, .ref q_p1), (2, .ref q_p2), (3, .int x3)]) hx hb dX2_isLike_56 hl (by decide) rfl (fun ls hl => ?_)
      refine lv_aload_n hx hb dX2_isLike_58 rfl (lv_at hl 2 rfl) ?_
      refine lv_iload_n hx hb dX2_isLike_59 rfl (lv_at hl 4 rfl) ?_
      obtain ⟨o60, hc60, h⟩ := zk_bind h
      refine zk_ci (wr := [(q_p2, .inr (3, [.int v_p2_beaters, .int v_p2_mask, .ref q_p2_places, .ref q_p2_periods, .ref q_p2_quiets, .ref q_p2_answers, .int v_p2_links, .ref q_p2_froms, .ref q_p2_tos, .ref q_p2_delays, .ref q_p2_strengths])), (q_p2_places, .inl (T 0, 16, .inl v_p2_places)), (q_t, .inr (4, [.ref q_t_phases, .ref q_t_coming, .int v_t_row])), (q_t_phases, .inl (T 0, 16, .inl v_t_phases)), (q_p1_phases, .inl (T 0, 16, .inl v_p1_phases)), (q_t_coming, .inl (T 0, 512, .inl v_t_coming)), (q_p1_coming, .inl (T 0, 512, .inl v_p1_coming))]) (va_runV (As := [.int x3]) (rest := []) ⟨hx, hb, hml, hown, hts⟩ (k_X2_startOfRow l D T N q_p1 q_p1_phases q_p1_coming _ v_p1_row x3 o60 hc60) (cwV 1 hts gX2_isLike_X2_startOfRow rfl rfl rfl (by decide +kernel) ⟨Nat.le_of_ble_eq_true rfl, Nat.le_of_ble_eq_true rfl⟩) (zk_preV (q := (RX2, TX2, 3)) hK hN (hP.sub [4] rfl) (hD.sub [4] (by decide) rfl) 0 rfl rfl) rfl rfl hl.1 rfl (lv_room (Nat.le_of_ble_eq_true rfl)) dX2_isLike_60 ⟨Nat.zero_le _, Nat.zero_le _⟩) hP hD hS hA [4] [0, 1, 2, 3, 5, 6, 7] rfl rfl (by decide) (by decide) [0, 1, 2, 3, 7, 4, 5, 6] (wf := [(q_p2, .inr (3, [.int v_p2_beaters, .int v_p2_mask, .ref q_p2_places, .ref q_p2_periods, .ref q_p2_quiets, .ref q_p2_answers, .int v_p2_links, .ref q_p2_froms, .ref q_p2_tos, .ref q_p2_delays, .ref q_p2_strengths])), (q_p2_places, .inl (T 0, 16, .inl v_p2_places)), (q_t, .inr (4, [.ref q_t_phases, .ref q_t_coming, .int v_t_row])), (q_t_phases, .inl (T 0, 16, .inl v_t_phases)), (q_p1, .inr (4, [.ref q_p1_phases, .ref q_p1_coming, .int v_p1_row])), (q_p1_phases, .inl (T 0, 16, .inl v_p1_phases)), (q_t_coming, .inl (T 0, 512, .inl v_t_coming)), (q_p1_coming, .inl (T 0, 512, .inl v_p1_coming))]) rfl (by decide) (fun H locs hP hD hS => ?_)
      refine lv_istore (lv' := [(5, .int o60), (4, .int o53), (0, .ref q_t), (1, .ref q_p1), (2, .ref q_p2), (3, .int x3)]) hx hb dX2_isLike_63 hl (by decide) rfl (fun ls hl => ?_)
      refine lv_iconst (v := (0 : Int32)) hx hb dX2_isLike_65 (by decide) ?_
      refine lv_istore (lv' := [(6, .int (0 : Int32)), (5, .int o60), (4, .int o53), (0, .ref q_t), (1, .ref q_p1), (2, .ref q_p2), (3, .int x3)]) hx hb dX2_isLike_66 hl (by decide) rfl (fun ls hl => ?_)
      obtain ⟨o68, hc68, h⟩ := zk_bind h
      refine l_X2_isLike_68 N hx hb hml hown hts hA hK hN q_p2 q_p2_places q_t q_t_phases q_p1 q_p1_phases q_t_coming q_p1_coming q_p2_periods q_p2_quiets q_p2_answers q_p2_froms q_p2_tos q_p2_delays q_p2_strengths v_p2_beaters v_p2_mask v_p2_links v_p2_places v_t_row v_t_phases v_p1_row v_p1_phases v_t_coming v_p1_coming x3 o53 o60 N (0 : Int32) o68 hc68 _ _ _ hP hD hS (lv_sub hl [3, 4, 5, 6, 2, 1, 0] rfl) (fun t68_0 ht68 H locs ls hP hD hS hl => ?_) (fun t68_1 ht68 H locs ls hP hD hS hl => ?_)
      · subst ht68
        replace h : _ = _ := h
        replace h := zk_inl.symm.trans h
        obtain rfl := Option.some.inj h
        exact kx0 _ rfl _ _ _ hP hD hS (lv_sub hl [] rfl)
      · subst ht68
        replace h : _ = _ := h
        replace h := zk_inr.symm.trans h
        refine lv_iinc (v := x3 + (1 : Int32)) (lv' := [(3, .int (x3 + (1 : Int32))), (0, .ref q_t), (1, .ref q_p1), (2, .ref q_p2)]) hx hb dX2_isLike_117 hl (k := 3) rfl rfl (by decide) rfl (fun ls hl => ?_)
        refine lv_goto (tgt := 45) hx hb dX2_isLike_120 (by decide) ?_
        exact ih (x3 + (1 : Int32)) o h _ _ _ hP hD hS (lv_sub hl [1, 2, 3, 0] rfl) kx0 kx1
def f_X2_isLike (N : Nat) (v_p2_beaters : Int32) (v_p2_places : Nat → Int32) (v_t_row : Int32) (v_t_phases : Nat → Int32) (v_p1_row : Int32) (v_p1_phases : Nat → Int32) (v_t_coming : Nat → Int32) (v_p1_coming : Nat → Int32) : Option (Int32) := (f_X2_isLike_2 N v_p2_beaters v_p2_places v_t_phases v_p1_phases N (0 : Int32)).bind (Sum.elim (fun t2_0 => some (0 : Int32)) (fun t2_1 => (f_X2_isLike_45 N v_p2_beaters v_p2_places v_t_row v_p1_row v_t_coming v_p1_coming N (1 : Int32)).bind (Sum.elim (fun t45_0 => some (0 : Int32)) (fun t45_1 => some (1 : Int32)))))
set_option maxHeartbeats 8000000 in
set_option maxRecDepth 100000 in
theorem k_X2_isLike (l : Launch) (D : va_G) (T : Nat → ClassId) (N : Nat) (q_p2 q_p2_places q_t q_t_phases q_p1 q_p1_phases q_t_coming q_p1_coming q_p2_periods q_p2_quiets q_p2_answers q_p2_froms q_p2_tos q_p2_delays q_p2_strengths : Nat) (sz : Nat) (v_p2_beaters : Int32) (v_p2_mask : Int32) (v_p2_links : Int32) (v_p2_places : Nat → Int32) (v_t_row : Int32) (v_t_phases : Nat → Int32) (v_p1_row : Int32) (v_p1_phases : Nat → Int32) (v_t_coming : Nat → Int32) (v_p1_coming : Nat → Int32) (o : Int32) (h : f_X2_isLike N v_p2_beaters v_p2_places v_t_row v_t_phases v_p1_row v_p1_phases v_t_coming v_p1_coming = some o) : Met l yX2_isLike wsX2_isLike ({ frames := 1, cells := 0, slots := 0, locals := 21 } : Room) (zk_Pc D T [.ref q_t, .ref q_p1, .ref q_p2] [(q_p2, .inr (3, [.int v_p2_beaters, .int v_p2_mask, .ref q_p2_places, .ref q_p2_periods, .ref q_p2_quiets, .ref q_p2_answers, .int v_p2_links, .ref q_p2_froms, .ref q_p2_tos, .ref q_p2_delays, .ref q_p2_strengths])), (q_p2_places, .inl (T 0, 16, .inl v_p2_places)), (q_t, .inr (4, [.ref q_t_phases, .ref q_t_coming, .int v_t_row])), (q_t_phases, .inl (T 0, 16, .inl v_t_phases)), (q_p1, .inr (4, [.ref q_p1_phases, .ref q_p1_coming, .int v_p1_row])), (q_p1_phases, .inl (T 0, 16, .inl v_p1_phases)), (q_t_coming, .inl (T 0, 512, .inl v_t_coming)), (q_p1_coming, .inl (T 0, 512, .inl v_p1_coming))] sz) (zk_Qi o D [(q_p2, .inr (3, [.int v_p2_beaters, .int v_p2_mask, .ref q_p2_places, .ref q_p2_periods, .ref q_p2_quiets, .ref q_p2_answers, .int v_p2_links, .ref q_p2_froms, .ref q_p2_tos, .ref q_p2_delays, .ref q_p2_strengths])), (q_p2_places, .inl (T 0, 16, .inl v_p2_places)), (q_t, .inr (4, [.ref q_t_phases, .ref q_t_coming, .int v_t_row])), (q_t_phases, .inl (T 0, 16, .inl v_t_phases)), (q_p1, .inr (4, [.ref q_p1_phases, .ref q_p1_coming, .int v_p1_row])), (q_p1_phases, .inl (T 0, 16, .inl v_p1_phases)), (q_t_coming, .inl (T 0, 512, .inl v_t_coming)), (q_p1_coming, .inl (T 0, 512, .inl v_p1_coming))] (va_A [(q_p2, .inr (3, [.int v_p2_beaters, .int v_p2_mask, .ref q_p2_places, .ref q_p2_periods, .ref q_p2_quiets, .ref q_p2_answers, .int v_p2_links, .ref q_p2_froms, .ref q_p2_tos, .ref q_p2_delays, .ref q_p2_strengths])), (q_p2_places, .inl (T 0, 16, .inl v_p2_places)), (q_t, .inr (4, [.ref q_t_phases, .ref q_t_coming, .int v_t_row])), (q_t_phases, .inl (T 0, 16, .inl v_t_phases)), (q_p1, .inr (4, [.ref q_p1_phases, .ref q_p1_coming, .int v_p1_row])), (q_p1_phases, .inl (T 0, 16, .inl v_p1_phases)), (q_t_coming, .inl (T 0, 512, .inl v_t_coming)), (q_p1_coming, .inl (T 0, 512, .inl v_p1_coming))] sz) (va_A [(q_p2, .inr (3, [.int v_p2_beaters, .int v_p2_mask, .ref q_p2_places, .ref q_p2_periods, .ref q_p2_quiets, .ref q_p2_answers, .int v_p2_links, .ref q_p2_froms, .ref q_p2_tos, .ref q_p2_delays, .ref q_p2_strengths])), (q_p2_places, .inl (T 0, 16, .inl v_p2_places)), (q_t, .inr (4, [.ref q_t_phases, .ref q_t_coming, .int v_t_row])), (q_t_phases, .inl (T 0, 16, .inl v_t_phases)), (q_p1, .inr (4, [.ref q_p1_phases, .ref q_p1_coming, .int v_p1_row])), (q_p1_phases, .inl (T 0, 16, .inl v_p1_phases)), (q_t_coming, .inl (T 0, 512, .inl v_t_coming)), (q_p1_coming, .inl (T 0, 512, .inl v_p1_coming))] sz)) 0 0 (va_A [(q_p2, .inr (3, [.int v_p2_beaters, .int v_p2_mask, .ref q_p2_places, .ref q_p2_periods, .ref q_p2_quiets, .ref q_p2_answers, .int v_p2_links, .ref q_p2_froms, .ref q_p2_tos, .ref q_p2_delays, .ref q_p2_strengths])), (q_p2_places, .inl (T 0, 16, .inl v_p2_places)), (q_t, .inr (4, [.ref q_t_phases, .ref q_t_coming, .int v_t_row])), (q_t_phases, .inl (T 0, 16, .inl v_t_phases)), (q_p1, .inr (4, [.ref q_p1_phases, .ref q_p1_coming, .int v_p1_row])), (q_p1_phases, .inl (T 0, 16, .inl v_p1_phases)), (q_t_coming, .inl (T 0, 512, .inl v_t_coming)), (q_p1_coming, .inl (T 0, 512, .inl v_p1_coming))] sz) := by
  refine Met.ofW (cc := cX2_isLike) (maxL := 8) (ret := (some .boolean)) (by decide) rfl ?_
  intro p e s m args below meth c s₁ B hml hv
  obtain ⟨rfl, hsz, hP, hK, hN, hD0⟩ := hv
  have hx := B.exec
  have hb := B.bytes
  have hr := B.returns
  have hts := atoms_spec (ws := wsX2_isLike) B.pre
  have hown : s.vm.findClass RX2 = some m.cls := findClass_of_methodNamed B.named
  have hlocks := B.notSynchronized
  subst hsz
  have hD := hD0.self (sz := s.heap.size)
  generalize hAe : va_A [(q_p2, .inr (3, [.int v_p2_beaters, .int v_p2_mask, .ref q_p2_places, .ref q_p2_periods, .ref q_p2_quiets, .ref q_p2_answers, .int v_p2_links, .ref q_p2_froms, .ref q_p2_tos, .ref q_p2_delays, .ref q_p2_strengths])), (q_p2_places, .inl (T 0, 16, .inl v_p2_places)), (q_t, .inr (4, [.ref q_t_phases, .ref q_t_coming, .int v_t_row])), (q_t_phases, .inl (T 0, 16, .inl v_t_phases)), (q_p1, .inr (4, [.ref q_p1_phases, .ref q_p1_coming, .int v_p1_row])), (q_p1_phases, .inl (T 0, 16, .inl v_p1_phases)), (q_t_coming, .inl (T 0, 512, .inl v_t_coming)), (q_p1_coming, .inl (T 0, 512, .inl v_p1_coming))] s.heap.size = A at hD ⊢
  have hA : ∀ q : Nat, s.heap.size ≤ q → A q := fun q h => by rw [← hAe]; exact Or.inr h
  have hS : va_S A s.heap s.heap [] := va_S.rf
  have hP : va_P D vwCl [(q_p2, .inr (3, [.int v_p2_beaters, .int v_p2_mask, .ref q_p2_places, .ref q_p2_periods, .ref q_p2_quiets, .ref q_p2_answers, .int v_p2_links, .ref q_p2_froms, .ref q_p2_tos, .ref q_p2_delays, .ref q_p2_strengths])), (q_p2_places, .inl (T 0, 16, .inl v_p2_places)), (q_t, .inr (4, [.ref q_t_phases, .ref q_t_coming, .int v_t_row])), (q_t_phases, .inl (T 0, 16, .inl v_t_phases)), (q_p1, .inr (4, [.ref q_p1_phases, .ref q_p1_coming, .int v_p1_row])), (q_p1_phases, .inl (T 0, 16, .inl v_p1_phases)), (q_t_coming, .inl (T 0, 512, .inl v_t_coming)), (q_p1_coming, .inl (T 0, 512, .inl v_p1_coming))] s.heap := hP
  have hl := lv_entry ([.ref q_t, .ref q_p1, .ref q_p2]) (n := 8) (Nat.le_of_ble_eq_true rfl)
  rw [lg_entry_eq]
  generalize (lg_sl ([.ref q_t, .ref q_p1, .ref q_p2]) ++ List.replicate (8 - (lg_sl ([.ref q_t, .ref q_p1, .ref q_p2])).length) Slot.unset).toArray = ls at hl ⊢
  have hl : lv_has ls 8 [(0, .ref q_t), (1, .ref q_p1), (2, .ref q_p2)] := hl
  unfold f_X2_isLike at h
  refine lv_iconst (v := (0 : Int32)) hx hb dX2_isLike_0 (by decide) ?_
  refine lv_istore_n (lv' := [(3, .int (0 : Int32)), (0, .ref q_t), (1, .ref q_p1), (2, .ref q_p2)]) hx hb dX2_isLike_1 rfl hl (by decide) rfl (fun ls hl => ?_)
  obtain ⟨o2, hc2, h⟩ := zk_bind h
  refine l_X2_isLike_2 N hx hb hml hown hts hA hK hN q_p2 q_p2_places q_t q_t_phases q_p1 q_p1_phases q_t_coming q_p1_coming q_p2_periods q_p2_quiets q_p2_answers q_p2_froms q_p2_tos q_p2_delays q_p2_strengths v_p2_beaters v_p2_mask v_p2_links v_p2_places v_t_row v_t_phases v_p1_row v_p1_phases v_t_coming v_p1_coming N (0 : Int32) o2 hc2 _ _ _ hP hD hS (lv_sub hl [1, 2, 3, 0] rfl) (fun t2_0 ht2 H locs ls hP hD hS hl => ?_) (fun t2_1 ht2 H locs ls hP hD hS hl => ?_)
  · subst ht2
    replace h : _ = _ := h
    replace h := zk_inl.symm.trans h
    refine lv_iconst (v := (0 : Int32)) hx hb dX2_isLike_35 (by decide) ?_
    obtain rfl := Option.some.inj h
    exact W.zret (v := (0 : Int32)) hx hb hr rfl (fun t ht hW => ⟨⟨_, (), rfl, rfl, ⟨by rw [ht]; exact hP, hD⟩⟩, hS.F ht⟩) hS.2.2 dX2_isLike_36
  · subst ht2
    replace h : _ = _ := h
    replace h := zk_inr.symm.trans h
    refine lv_iconst (v := (1 : Int32)) hx hb dX2_isLike_43 (by decide) ?_
    refine lv_istore_n (lv' := [(3, .int (1 : Int32)), (0, .ref q_t), (1, .ref q_p1), (2, .ref q_p2)]) hx hb dX2_isLike_44 rfl hl (by decide) rfl (fun ls hl => ?_)
    obtain ⟨o45, hc45, h⟩ := zk_bind h
    refine l_X2_isLike_45 N hx hb hml hown hts hA hK hN q_p2 q_p2_places q_t q_t_phases q_p1 q_p1_phases q_t_coming q_p1_coming q_p2_periods q_p2_quiets q_p2_answers q_p2_froms q_p2_tos q_p2_delays q_p2_strengths v_p2_beaters v_p2_mask v_p2_links v_p2_places v_t_row v_t_phases v_p1_row v_p1_phases v_t_coming v_p1_coming N (1 : Int32) o45 hc45 _ _ _ hP hD hS (lv_sub hl [1, 2, 3, 0] rfl) (fun t45_0 ht45 H locs ls hP hD hS hl => ?_) (fun t45_1 ht45 H locs ls hP hD hS hl => ?_)
    · subst ht45
      replace h : _ = _ := h
      replace h := zk_inl.symm.trans h
      refine lv_iconst (v := (0 : Int32)) hx hb dX2_isLike_109 (by decide) ?_
      obtain rfl := Option.some.inj h
      exact W.zret (v := (0 : Int32)) hx hb hr rfl (fun t ht hW => ⟨⟨_, (), rfl, rfl, ⟨by rw [ht]; exact hP, hD⟩⟩, hS.F ht⟩) hS.2.2 dX2_isLike_110
    · subst ht45
      replace h : _ = _ := h
      replace h := zk_inr.symm.trans h
      refine lv_iconst (v := (1 : Int32)) hx hb dX2_isLike_123 (by decide) ?_
      obtain rfl := Option.some.inj h
      exact W.zret (v := (1 : Int32)) hx hb hr rfl (fun t ht hW => ⟨⟨_, (), rfl, rfl, ⟨by rw [ht]; exact hP, hD⟩⟩, hS.F ht⟩) hS.2.2 dX2_isLike_124

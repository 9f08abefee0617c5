theorem iX0_agreeOn_X0 : ∀ w ∈ wsX00, w ∈ wsX0_agreeOn := by decide +kernel
def f_X0_agreeOn_2 (N : Nat) (v_t_count : Int32) (v_t_ticks : Nat → Int32) (x1 : Int32) : Nat → Int32 → Option ((Int32) ⊕ (Int32))
  | 0, _ => none
  | n + 1, x2 => if v_t_count ≤ x2 then (some (.inr x2)) else (if x1 < (1 : Int32) then (some (.inl x2)) else (zk_g x2 20 (zk_nz x1 (zk_nz x1 (if ((v_t_ticks x2.toNatClampNeg) - (v_t_ticks x2.toNatClampNeg) / x1 * x1) = ((v_t_ticks (0 : Int32).toNatClampNeg) - (v_t_ticks (0 : Int32).toNatClampNeg) / x1 * x1) then (f_X0_agreeOn_2 N v_t_count v_t_ticks x1 n (x2 + (1 : Int32))) else (some (.inl x2)))))))
set_option maxHeartbeats 8000000 in
set_option maxRecDepth 100000 in
theorem l_X0_agreeOn_2 {p : Program} {l : Launch} {e : Env} {s : State} {m : MethodId} {args : Array Value} {below : List Frame} {meth : Method} {c : Code} {Q : State → Prop} {A : Nat → Prop} {D : va_G} {T : Nat → ClassId} (N : Nat) (hx : p.tables.exec = Jvm.exec) (hb : c.code = cX0_agreeOn) (hml : c.maxLocals = 3) (hown : s.vm.findClass RX0 = some m.cls) (hts : ∀ w ∈ wsX0_agreeOn, w.before args s = true) (hA : ∀ q : Nat, s.heap.size ≤ q → A q) (hK : va_K D vwCl (zk_ty T) s) (hN : zk_N s) (q_t q_t_ticks : Nat) (v_t_count : Int32) (v_t_ticks : Nat → Int32) (x1 : Int32) :
    ∀ (n : Nat) (x2 : Int32) (o : (Int32) ⊕ (Int32)), f_X0_agreeOn_2 N v_t_count v_t_ticks x1 n x2 = some o → ∀ (H : Heap) (locs : List Loc) (ls : Array Slot), va_P D vwCl [(q_t, .inr (2, [.int v_t_count, .ref q_t_ticks])), (q_t_ticks, .inl (T 0, 20, .inl v_t_ticks))] H → va_D A [(q_t, .inr (2, [.int v_t_count, .ref q_t_ticks])), (q_t_ticks, .inl (T 0, 20, .inl v_t_ticks))] → va_S A s.heap H locs → lv_has ls 3 [(0, .ref q_t), (1, .int x1), (2, .int x2)] → (∀ t, o = .inl t → ∀ (H : Heap) (locs : List Loc) (ls : Array Slot), va_P D vwCl [(q_t, .inr (2, [.int v_t_count, .ref q_t_ticks])), (q_t_ticks, .inl (T 0, 20, .inl v_t_ticks))] H → va_D A [(q_t, .inr (2, [.int v_t_count, .ref q_t_ticks])), (q_t_ticks, .inl (T 0, 20, .inl v_t_ticks))] → va_S A s.heap H locs → lv_has ls 3 [] → W p l e ({ frames := 0, cells := 0, slots := 0, locals := 0 } : Room) s m args below meth c H locs 0 0 Q (F0 m 34 ls [])) → (∀ t, o = .inr t → ∀ (H : Heap) (locs : List Loc) (ls : Array Slot), va_P D vwCl [(q_t, .inr (2, [.int v_t_count, .ref q_t_ticks])), (q_t_ticks, .inl (T 0, 20, .inl v_t_ticks))] H → va_D A [(q_t, .inr (2, [.int v_t_count, .ref q_t_ticks])), (q_t_ticks, .inl (T 0, 20, .inl v_t_ticks))] → va_S A s.heap H locs → lv_has ls 3 [] → W p l e ({ frames := 0, cells := 0, slots := 0, locals := 0 } : Room) s m args below meth c H locs 0 0 Q (F0 m 42 ls [])) → W p l e ({ frames := 0, cells := 0, slots := 0, locals := 0 } : Room) s m args below meth c H locs 0 0 Q (F0 m 2 ls []) := by
  intro n
  induction n with
  | zero => intro x2 o h; exact absurd h (by simp [f_X0_agreeOn_2])
  | succ n ih =>
    intro x2 o h H locs ls hP hD hS hl kx0 kx1
    rw [f_X0_agreeOn_2] at h
    refine lv_iload_n hx hb dX0_agreeOn_2 rfl (lv_at hl 2 rfl) ?_
    refine lv_aload_n hx hb dX0_agreeOn_3 rfl (lv_at hl 0 rfl) ?_
    refine va_get (D := D) (ci := 2) (v := .int v_t_count) (C := RX0) (T := TX0) (N := 2) hx hb hts iX0_agreeOn_X0 hown hK hP 0 rfl rfl 0 (by decide) (hts (.fieldLink RX0 9 "PulseMeadow$Marks" "count" "I") (by decide +kernel)) (fun _ h9 => h9) rfl dX0_agreeOn_4 ?_
    refine lv_icmp_ge (tgt := 42) hx hb dX0_agreeOn_7 (by decide) (fun c7 => ?_) (fun c7 => ?_)
    · replace h := (if_pos c7).symm.trans h
      obtain rfl := Option.some.inj h
      exact kx1 _ rfl _ _ _ hP hD hS (lv_sub hl [] rfl)
    · replace h := (if_neg c7).symm.trans h
      refine lv_iload_n hx hb dX0_agreeOn_10 rfl (lv_at hl 1 rfl) ?_
      refine lv_iconst (v := (1 : Int32)) hx hb dX0_agreeOn_11 (by decide) ?_
      refine lv_icmp_lt (tgt := 34) hx hb dX0_agreeOn_12 (by decide) (fun c12 => ?_) (fun c12 => ?_)
      · replace h := (if_pos c12).symm.trans h
        obtain rfl := Option.some.inj h
        exact kx0 _ rfl _ _ _ hP hD hS (lv_sub hl [] rfl)
      · replace h := (if_neg c12).symm.trans h
        refine lv_aload_n hx hb dX0_agreeOn_15 rfl (lv_at hl 0 rfl) ?_
        refine va_get (D := D) (ci := 2) (v := .ref q_t_ticks) (C := RX0) (T := TX0) (N := 2) hx hb hts iX0_agreeOn_X0 hown hK hP 0 rfl rfl 1 (by decide) (hts (.fieldLink RX0 15 "PulseMeadow$Marks" "ticks" "[I") (by decide +kernel)) (fun _ h9 => h9) rfl dX0_agreeOn_16 ?_
        refine lv_iload_n hx hb dX0_agreeOn_19 rfl (lv_at hl 2 rfl) ?_
        obtain ⟨hb20, h⟩ := zk_g_spec h
        refine va_iald hx hb hK hP 1 0 rfl rfl hb20 dX0_agreeOn_20 ?_
        refine lv_iload_n hx hb dX0_agreeOn_21 rfl (lv_at hl 1 rfl) ?_
        obtain ⟨hz22, h⟩ := zk_nz_spec h
        refine lv_irem hx hb dX0_agreeOn_22 hz22 ?_
        refine lv_aload_n hx hb dX0_agreeOn_23 rfl (lv_at hl 0 rfl) ?_
        refine va_get (D := D) (ci := 2) (v := .ref q_t_ticks) (C := RX0) (T := TX0) (N := 2) hx hb hts iX0_agreeOn_X0 hown hK hP 0 rfl rfl 1 (by decide) (hts (.fieldLink RX0 15 "PulseMeadow$Marks" "ticks" "[I") (by decide +kernel)) (fun _ h9 => h9) rfl dX0_agreeOn_24 ?_
        refine lv_iconst (v := (0 : Int32)) hx hb dX0_agreeOn_27 (by decide) ?_
        refine va_iald hx hb hK hP 1 0 rfl rfl (zk_lit (by decide +kernel)) dX0_agreeOn_28 ?_
        refine lv_iload_n hx hb dX0_agreeOn_29 rfl (lv_at hl 1 rfl) ?_
        obtain ⟨hz30, h⟩ := zk_nz_spec h
        refine lv_irem hx hb dX0_agreeOn_30 hz30 ?_
        refine lv_icmp_eq (tgt := 36) hx hb dX0_agreeOn_31 (by decide) (fun c31 => ?_) (fun c31 => ?_)
        · replace h := (if_pos c31).symm.trans h
          refine lv_iinc (v := x2 + (1 : Int32)) (lv' := [(2, .int (x2 + (1 : Int32))), (0, .ref q_t), (1, .int x1)]) hx hb dX0_agreeOn_36 hl (k := 2) rfl rfl (by decide) rfl (fun ls hl => ?_)
          refine lv_goto (tgt := 2) hx hb dX0_agreeOn_39 (by decide) ?_
          exact ih (x2 + (1 : Int32)) o h _ _ _ hP hD hS (lv_sub hl [1, 2, 0] rfl) kx0 kx1
        · replace h := (if_neg c31).symm.trans h
          obtain rfl := Option.some.inj h
          exact kx0 _ rfl _ _ _ hP hD hS (lv_sub hl [] rfl)
def f_X0_agreeOn (N : Nat) (v_t_count : Int32) (v_t_ticks : Nat → Int32) (x1 : Int32) : Option (Int32) := (f_X0_agreeOn_2 N v_t_count v_t_ticks x1 N (1 : Int32)).bind (Sum.elim (fun t2_0 => some (0 : Int32)) (fun t2_1 => some (1 : Int32)))
set_option maxHeartbeats 8000000 in
set_option maxRecDepth 100000 in
theorem k_X0_agreeOn (l : Launch) (D : va_G) (T : Nat → ClassId) (N : Nat) (q_t q_t_ticks : Nat) (sz : Nat) (v_t_count : Int32) (v_t_ticks : Nat → Int32) (x1 : Int32) (o : Int32) (h : f_X0_agreeOn N v_t_count v_t_ticks x1 = some o) : Met l yX0_agreeOn wsX0_agreeOn ({ frames := 0, cells := 0, slots := 0, locals := 0 } : Room) (zk_Pc D T [.ref q_t, .int x1] [(q_t, .inr (2, [.int v_t_count, .ref q_t_ticks])), (q_t_ticks, .inl (T 0, 20, .inl v_t_ticks))] sz) (zk_Qi o D [(q_t, .inr (2, [.int v_t_count, .ref q_t_ticks])), (q_t_ticks, .inl (T 0, 20, .inl v_t_ticks))] (va_A [(q_t, .inr (2, [.int v_t_count, .ref q_t_ticks])), (q_t_ticks, .inl (T 0, 20, .inl v_t_ticks))] sz) (va_A [(q_t, .inr (2, [.int v_t_count, .ref q_t_ticks])), (q_t_ticks, .inl (T 0, 20, .inl v_t_ticks))] sz)) 0 0 (va_A [(q_t, .inr (2, [.int v_t_count, .ref q_t_ticks])), (q_t_ticks, .inl (T 0, 20, .inl v_t_ticks))] sz) := by
  refine Met.ofW (cc := cX0_agreeOn) (maxL := 3) (ret := (some .boolean)) (by decide) rfl ?_
  intro p e s m args below meth c s₁ B hml hv
  obtain ⟨rfl, hsz, hP, hK, hN, hD0⟩ := hv
  have hx := B.exec
  have hb := B.bytes
  have hr := B.returns
  have hts := atoms_spec (ws := wsX0_agreeOn) B.pre
  have hown : s.vm.findClass RX0 = some m.cls := findClass_of_methodNamed B.named
  have hlocks := B.notSynchronized
  subst hsz
  have hD := hD0.self (sz := s.heap.size)
  generalize hAe : va_A [(q_t, .inr (2, [.int v_t_count, .ref q_t_ticks])), (q_t_ticks, .inl (T 0, 20, .inl v_t_ticks))] s.heap.size = A at hD ⊢
  have hA : ∀ q : Nat, s.heap.size ≤ q → A q := fun q h => by rw [← hAe]; exact Or.inr h
  have hS : va_S A s.heap s.heap [] := va_S.rf
  have hP : va_P D vwCl [(q_t, .inr (2, [.int v_t_count, .ref q_t_ticks])), (q_t_ticks, .inl (T 0, 20, .inl v_t_ticks))] s.heap := hP
  have hl := lv_entry ([.ref q_t, .int x1]) (n := 3) (Nat.le_of_ble_eq_true rfl)
  rw [lg_entry_eq]
  generalize (lg_sl ([.ref q_t, .int x1]) ++ List.replicate (3 - (lg_sl ([.ref q_t, .int x1])).length) Slot.unset).toArray = ls at hl ⊢
  have hl : lv_has ls 3 [(0, .ref q_t), (1, .int x1)] := hl
  unfold f_X0_agreeOn at h
  refine lv_iconst (v := (1 : Int32)) hx hb dX0_agreeOn_0 (by decide) ?_
  refine lv_istore_n (lv' := [(2, .int (1 : Int32)), (0, .ref q_t), (1, .int x1)]) hx hb dX0_agreeOn_1 rfl hl (by decide) rfl (fun ls hl => ?_)
  obtain ⟨o2, hc2, h⟩ := zk_bind h
  refine l_X0_agreeOn_2 N hx hb hml hown hts hA hK hN q_t q_t_ticks v_t_count v_t_ticks x1 N (1 : Int32) o2 hc2 _ _ _ hP hD hS (lv_sub hl [1, 2, 0] rfl) (fun t2_0 ht2 H locs ls hP hD hS hl => ?_) (fun t2_1 ht2 H locs ls hP hD hS hl => ?_)
  · subst ht2
    replace h : _ = _ := h
    replace h := zk_inl.symm.trans h
    refine lv_iconst (v := (0 : Int32)) hx hb dX0_agreeOn_34 (by decide) ?_
    obtain rfl := Option.some.inj h
    exact W.zret (v := (0 : Int32)) hx hb hr rfl (fun t ht hW => ⟨⟨_, (), rfl, rfl, ⟨by rw [ht]; exact hP, hD⟩⟩, hS.F ht⟩) hS.2.2 dX0_agreeOn_35
  · subst ht2
    replace h : _ = _ := h
    replace h := zk_inr.symm.trans h
    refine lv_iconst (v := (1 : Int32)) hx hb dX0_agreeOn_42 (by decide) ?_
    obtain rfl := Option.some.inj h
    exact W.zret (v := (1 : Int32)) hx hb hr rfl (fun t ht hW => ⟨⟨_, (), rfl, rfl, ⟨by rw [ht]; exact hP, hD⟩⟩, hS.F ht⟩) hS.2.2 dX0_agreeOn_43
def f_X0_countPeriods_4 (N : Nat) (v_t_count : Int32) (v_t_ticks : Nat → Int32) : Nat → Int32 → Int32 → Option (Int32 × Int32)
  | 0, _, _ => none
  | n + 1, x1, x2 => if (99 : Int32) < x2 then (some (x1, x2)) else ((f_X0_agreeOn N v_t_count v_t_ticks x2).bind fun o12 => if o12 = 0 then (f_X0_countPeriods_4 N v_t_count v_t_ticks n x1 (x2 + (1 : Int32))) else (f_X0_countPeriods_4 N v_t_count v_t_ticks n (x1 + (1 : Int32)) (x2 + (1 : Int32))))
set_option maxHeartbeats 8000000 in
set_option maxRecDepth 100000 in
theorem l_X0_countPeriods_4 {p : Program} {l : Launch} {e : Env} {s : State} {m : MethodId} {args : Array Value} {below : List Frame} {meth : Method} {c : Code} {Q : State → Prop} {A : Nat → Prop} {D : va_G} {T : Nat → ClassId} (N : Nat) (hx : p.tables.exec = Jvm.exec) (hb : c.code = cX0_countPeriods) (hml : c.maxLocals = 3) (hown : s.vm.findClass RX0 = some m.cls) (hts : ∀ w ∈ wsX0_countPeriods, w.before args s = true) (hA : ∀ q : Nat, s.heap.size ≤ q → A q) (hK : va_K D vwCl (zk_ty T) s) (hN : zk_N s) (q_t q_t_ticks : Nat) (v_t_count : Int32) (v_t_ticks : Nat → Int32) :
    ∀ (n : Nat) (x1 : Int32) (x2 : Int32) (o : Int32 × Int32), f_X0_countPeriods_4 N v_t_count v_t_ticks n x1 x2 = some o → ∀ (H : Heap) (locs : List Loc) (ls : Array Slot), va_P D vwCl [(q_t, .inr (2, [.int v_t_count, .ref q_t_ticks])), (q_t_ticks, .inl (T 0, 20, .inl v_t_ticks))] H → va_D A [(q_t, .inr (2, [.int v_t_count, .ref q_t_ticks])), (q_t_ticks, .inl (T 0, 20, .inl v_t_ticks))] → va_S A s.heap H locs → lv_has ls 3 [(0, .ref q_t), (1, .int x1), (2, .int x2)] → (∀ (H : Heap) (locs : List Loc) (ls : Array Slot), va_P D vwCl [(q_t, .inr (2, [.int v_t_count, .ref q_t_ticks])), (q_t_ticks, .inl (T 0, 20, .inl v_t_ticks))] H → va_D A [(q_t, .inr (2, [.int v_t_count, .ref q_t_ticks])), (q_t_ticks, .inl (T 0, 20, .inl v_t_ticks))] → va_S A s.heap H locs → lv_has ls 3 [(1, .int o.1)] → W p l e ({ frames := 1, cells := 0, slots := 0, locals := 22 } : Room) s m args below meth c H locs 0 0 Q (F0 m 27 ls [])) → W p l e ({ frames := 1, cells := 0, slots := 0, locals := 22 } : Room) s m args below meth c H locs 0 0 Q (F0 m 4 ls []) := by
  intro n
  induction n with
  | zero => intro x1 x2 o h; exact absurd h (by simp [f_X0_countPeriods_4])
  | succ n ih =>
    intro x1 x2 o h H locs ls hP hD hS hl kx0
    rw [f_X0_countPeriods_4] at h
    refine lv_iload_n hx hb dX0_countPeriods_4 rfl (lv_at hl 2 rfl) ?_
    refine lv_bipush (v := (99 : Int32)) hx hb dX0_countPeriods_5 (by decide) ?_
    refine lv_icmp_gt (tgt := 27) hx hb dX0_countPeriods_7 (by decide) (fun c7 => ?_) (fun c7 => ?_)
    · replace h := (if_pos c7).symm.trans h
      obtain rfl := Option.some.inj h
      exact kx0 _ _ _ hP hD hS (lv_sub hl [1] rfl)
    · replace h := (if_neg c7).symm.trans h
      refine lv_aload_n hx hb dX0_countPeriods_10 rfl (lv_at hl 0 rfl) ?_
      refine lv_iload_n hx hb dX0_countPeriods_11 rfl (lv_at hl 2 rfl) ?_
      obtain ⟨o12, hc12, h⟩ := zk_bind h
      refine zk_ci (wr := []) (va_runV (As := [.int x2]) (rest := []) ⟨hx, hb, hml, hown, hts⟩ (k_X0_agreeOn l D T N q_t q_t_ticks _ v_t_count v_t_ticks x2 o12 hc12) (cwV 1 hts gX0_countPeriods_X0_agreeOn rfl rfl rfl (by decide +kernel) ⟨Nat.le_of_ble_eq_true rfl, Nat.le_of_ble_eq_true rfl⟩) (zk_preV (q := (RX0, TX0, 2)) hK hN (hP.sub [0, 1] rfl) (hD.sub [0, 1] (by decide) rfl) 0 rfl rfl) rfl rfl hl.1 rfl (lv_room (Nat.le_of_ble_eq_true rfl)) dX0_countPeriods_12 ⟨Nat.zero_le _, Nat.zero_le _⟩) hP hD hS hA [0, 1] [] rfl rfl (by decide) (by decide) [0, 1] (wf := [(q_t, .inr (2, [.int v_t_count, .ref q_t_ticks])), (q_t_ticks, .inl (T 0, 20, .inl v_t_ticks))]) rfl (by decide) (fun H locs hP hD hS => ?_)
      refine lv_if_eq (tgt := 21) hx hb dX0_countPeriods_15 (by decide) (fun c15 => ?_) (fun c15 => ?_)
      · replace h := (if_pos c15).symm.trans h
        refine lv_iinc (v := x2 + (1 : Int32)) (lv' := [(2, .int (x2 + (1 : Int32))), (0, .ref q_t), (1, .int x1)]) hx hb dX0_countPeriods_21 hl (k := 2) rfl rfl (by decide) rfl (fun ls hl => ?_)
        refine lv_goto (tgt := 4) hx hb dX0_countPeriods_24 (by decide) ?_
        exact ih x1 (x2 + (1 : Int32)) o h _ _ _ hP hD hS (lv_sub hl [1, 2, 0] rfl) kx0
      · replace h := (if_neg c15).symm.trans h
        refine lv_iinc (v := x1 + (1 : Int32)) (lv' := [(1, .int (x1 + (1 : Int32))), (0, .ref q_t), (2, .int x2)]) hx hb dX0_countPeriods_18 hl (k := 1) rfl rfl (by decide) rfl (fun ls hl => ?_)
        refine lv_iinc (v := x2 + (1 : Int32)) (lv' := [(2, .int (x2 + (1 : Int32))), (1, .int (x1 + (1 : Int32))), (0, .ref q_t)]) hx hb dX0_countPeriods_21 hl (k := 2) rfl rfl (by decide) rfl (fun ls hl => ?_)
        refine lv_goto (tgt := 4) hx hb dX0_countPeriods_24 (by decide) ?_
        exact ih (x1 + (1 : Int32)) (x2 + (1 : Int32)) o h _ _ _ hP hD hS (lv_sub hl [2, 1, 0] rfl) kx0
def f_X0_countPeriods (N : Nat) (v_t_count : Int32) (v_t_ticks : Nat → Int32) : Option (Int32) := (f_X0_countPeriods_4 N v_t_count v_t_ticks N (0 : Int32) (2 : Int32)).bind fun o4 => some o4.1
set_option maxHeartbeats 8000000 in
set_option maxRecDepth 100000 in
theorem k_X0_countPeriods (l : Launch) (D : va_G) (T : Nat → ClassId) (N : Nat) (q_t q_t_ticks : Nat) (sz : Nat) (v_t_count : Int32) (v_t_ticks : Nat → Int32) (o : Int32) (h : f_X0_countPeriods N v_t_count v_t_ticks = some o) : Met l yX0_countPeriods wsX0_countPeriods ({ frames := 1, cells := 0, slots := 0, locals := 22 } : Room) (zk_Pc D T [.ref q_t] [(q_t, .inr (2, [.int v_t_count, .ref q_t_ticks])), (q_t_ticks, .inl (T 0, 20, .inl v_t_ticks))] sz) (zk_Qi o D [(q_t, .inr (2, [.int v_t_count, .ref q_t_ticks])), (q_t_ticks, .inl (T 0, 20, .inl v_t_ticks))] (va_A [(q_t, .inr (2, [.int v_t_count, .ref q_t_ticks])), (q_t_ticks, .inl (T 0, 20, .inl v_t_ticks))] sz) (va_A [(q_t, .inr (2, [.int v_t_count, .ref q_t_ticks])), (q_t_ticks, .inl (T 0, 20, .inl v_t_ticks))] sz)) 0 0 (va_A [(q_t, .inr (2, [.int v_t_count, .ref q_t_ticks])), (q_t_ticks, .inl (T 0, 20, .inl v_t_ticks))] sz) := by
  refine Met.ofW (cc := cX0_countPeriods) (maxL := 3) (ret := (some .int)) (by decide) rfl ?_
  intro p e s m args below meth c s₁ B hml hv
  obtain ⟨rfl, hsz, hP, hK, hN, hD0⟩ := hv
  have hx := B.exec
  have hb := B.bytes
  have hr := B.returns
  have hts := atoms_spec (ws := wsX0_countPeriods) B.pre
  have hown : s.vm.findClass RX0 = some m.cls := findClass_of_methodNamed B.named
  have hlocks := B.notSynchronized
  subst hsz
  have hD := hD0.self (sz := s.heap.size)
  generalize hAe : va_A [(q_t, .inr (2, [.int v_t_count, .ref q_t_ticks])), (q_t_ticks, .inl (T 0, 20, .inl v_t_ticks))] s.heap.size = A at hD ⊢
  have hA : ∀ q : Nat, s.heap.size ≤ q → A q := fun q h => by rw [← hAe]; exact Or.inr h
  have hS : va_S A s.heap s.heap [] := va_S.rf
  have hP : va_P D vwCl [(q_t, .inr (2, [.int v_t_count, .ref q_t_ticks])), (q_t_ticks, .inl (T 0, 20, .inl v_t_ticks))] s.heap := hP
  have hl := lv_entry ([.ref q_t]) (n := 3) (Nat.le_of_ble_eq_true rfl)
  rw [lg_entry_eq]
  generalize (lg_sl ([.ref q_t]) ++ List.replicate (3 - (lg_sl ([.ref q_t])).length) Slot.unset).toArray = ls at hl ⊢
  have hl : lv_has ls 3 [(0, .ref q_t)] := hl
  unfold f_X0_countPeriods at h
  refine lv_iconst (v := (0 : Int32)) hx hb dX0_countPeriods_0 (by decide) ?_
  refine lv_istore_n (lv' := [(1, .int (0 : Int32)), (0, .ref q_t)]) hx hb dX0_countPeriods_1 rfl hl (by decide) rfl (fun ls hl => ?_)
  refine lv_iconst (v := (2 : Int32)) hx hb dX0_countPeriods_2 (by decide) ?_
  refine lv_istore_n (lv' := [(2, .int (2 : Int32)), (1, .int (0 : Int32)), (0, .ref q_t)]) hx hb dX0_countPeriods_3 rfl hl (by decide) rfl (fun ls hl => ?_)
  obtain ⟨o4, hc4, h⟩ := zk_bind h
  refine l_X0_countPeriods_4 N hx hb hml hown hts hA hK hN q_t q_t_ticks v_t_count v_t_ticks N (0 : Int32) (2 : Int32) o4 hc4 _ _ _ hP hD hS (lv_sub hl [2, 1, 0] rfl) (fun H locs ls hP hD hS hl => ?_)
  refine lv_iload_n hx hb dX0_countPeriods_27 rfl (lv_at hl 0 rfl) ?_
  obtain rfl := Option.some.inj h
  exact W.iret (v := o4.1) hx hb hr (fun t ht hW => ⟨⟨_, (), rfl, rfl, ⟨by rw [ht]; exact hP, hD⟩⟩, hS.F ht⟩) hS.2.2 dX0_countPeriods_28
def f_X0_periodAt_5 (N : Nat) (v_t_count : Int32) (v_t_ticks : Nat → Int32) : Nat → Int32 → Int32 → Option ((Int32 × Int32) ⊕ (Int32 × Int32))
  | 0, _, _ => none
  | n + 1, x2, x3 => if x3 < (2 : Int32) then (some (.inr (x2, x3))) else ((f_X0_agreeOn N v_t_count v_t_ticks x3).bind fun o12 => if o12 = 0 then (f_X0_periodAt_5 N v_t_count v_t_ticks n x2 (x3 + (-1 : Int32))) else (if x2 = 0 then (some (.inl (x2, x3))) else (f_X0_periodAt_5 N v_t_count v_t_ticks n (x2 + (-1 : Int32)) (x3 + (-1 : Int32)))))
set_option maxHeartbeats 8000000 in
set_option maxRecDepth 100000 in
theorem l_X0_periodAt_5 {p : Program} {l : Launch} {e : Env} {s : State} {m : MethodId} {args : Array Value} {below : List Frame} {meth : Method} {c : Code} {Q : State → Prop} {A : Nat → Prop} {D : va_G} {T : Nat → ClassId} (N : Nat) (hx : p.tables.exec = Jvm.exec) (hb : c.code = cX0_periodAt) (hml : c.maxLocals = 4) (hown : s.vm.findClass RX0 = some m.cls) (hts : ∀ w ∈ wsX0_periodAt, w.before args s = true) (hA : ∀ q : Nat, s.heap.size ≤ q → A q) (hK : va_K D vwCl (zk_ty T) s) (hN : zk_N s) (q_t q_t_ticks : Nat) (v_t_count : Int32) (v_t_ticks : Nat → Int32) :
    ∀ (n : Nat) (x2 : Int32) (x3 : Int32) (o : (Int32 × Int32) ⊕ (Int32 × Int32)), f_X0_periodAt_5 N v_t_count v_t_ticks n x2 x3 = some o → ∀ (H : Heap) (locs : List Loc) (ls : Array Slot), va_P D vwCl [(q_t, .inr (2, [.int v_t_count, .ref q_t_ticks])), (q_t_ticks, .inl (T 0, 20, .inl v_t_ticks))] H → va_D A [(q_t, .inr (2, [.int v_t_count, .ref q_t_ticks])), (q_t_ticks, .inl (T 0, 20, .inl v_t_ticks))] → va_S A s.heap H locs → lv_has ls 4 [(0, .ref q_t), (2, .int x2), (3, .int x3)] → (∀ t, o = .inl t → ∀ (H : Heap) (locs : List Loc) (ls : Array Slot), va_P D vwCl [(q_t, .inr (2, [.int v_t_count, .ref q_t_ticks])), (q_t_ticks, .inl (T 0, 20, .inl v_t_ticks))] H → va_D A [(q_t, .inr (2, [.int v_t_count, .ref q_t_ticks])), (q_t_ticks, .inl (T 0, 20, .inl v_t_ticks))] → va_S A s.heap H locs → lv_has ls 4 [(3, .int t.2)] → W p l e ({ frames := 1, cells := 0, slots := 0, locals := 22 } : Room) s m args below meth c H locs 0 0 Q (F0 m 22 ls [])) → (∀ t, o = .inr t → ∀ (H : Heap) (locs : List Loc) (ls : Array Slot), va_P D vwCl [(q_t, .inr (2, [.int v_t_count, .ref q_t_ticks])), (q_t_ticks, .inl (T 0, 20, .inl v_t_ticks))] H → va_D A [(q_t, .inr (2, [.int v_t_count, .ref q_t_ticks])), (q_t_ticks, .inl (T 0, 20, .inl v_t_ticks))] → va_S A s.heap H locs → lv_has ls 4 [] → W p l e ({ frames := 1, cells := 0, slots := 0, locals := 22 } : Room) s m args below meth c H locs 0 0 Q (F0 m 33 ls [])) → W p l e ({ frames := 1, cells := 0, slots := 0, locals := 22 } : Room) s m args below meth c H locs 0 0 Q (F0 m 5 ls []) := by
  intro n
  induction n with
  | zero => intro x2 x3 o h; exact absurd h (by simp [f_X0_periodAt_5])
  | succ n ih =>
    intro x2 x3 o h H locs ls hP hD hS hl kx0 kx1
    rw [f_X0_periodAt_5] at h
    refine lv_iload_n hx hb dX0_periodAt_5 rfl (lv_at hl 2 rfl) ?_
    refine lv_iconst (v := (2 : Int32)) hx hb dX0_periodAt_6 (by decide) ?_
    refine lv_icmp_lt (tgt := 33) hx hb dX0_periodAt_7 (by decide) (fun c7 => ?_) (fun c7 => ?_)
    · replace h := (if_pos c7).symm.trans h
      obtain rfl := Option.some.inj h
      exact kx1 _ rfl _ _ _ hP hD hS (lv_sub hl [] rfl)
    · replace h := (if_neg c7).symm.trans h
      refine lv_aload_n hx hb dX0_periodAt_10 rfl (lv_at hl 0 rfl) ?_
      refine lv_iload_n hx hb dX0_periodAt_11 rfl (lv_at hl 2 rfl) ?_
      obtain ⟨o12, hc12, h⟩ := zk_bind h
      refine zk_ci (wr := []) (va_runV (As := [.int x3]) (rest := []) ⟨hx, hb, hml, hown, hts⟩ (k_X0_agreeOn l D T N q_t q_t_ticks _ v_t_count v_t_ticks x3 o12 hc12) (cwV 1 hts gX0_periodAt_X0_agreeOn rfl rfl rfl (by decide +kernel) ⟨Nat.le_of_ble_eq_true rfl, Nat.le_of_ble_eq_true rfl⟩) (zk_preV (q := (RX0, TX0, 2)) hK hN (hP.sub [0, 1] rfl) (hD.sub [0, 1] (by decide) rfl) 0 rfl rfl) rfl rfl hl.1 rfl (lv_room (Nat.le_of_ble_eq_true rfl)) dX0_periodAt_12 ⟨Nat.zero_le _, Nat.zero_le _⟩) hP hD hS hA [0, 1] [] rfl rfl (by decide) (by decide) [0, 1] (wf := [(q_t, .inr (2, [.int v_t_count, .ref q_t_ticks])), (q_t_ticks, .inl (T 0, 20, .inl v_t_ticks))]) rfl (by decide) (fun H locs hP hD hS => ?_)
      refine lv_if_eq (tgt := 27) hx hb dX0_periodAt_15 (by decide) (fun c15 => ?_) (fun c15 => ?_)
      · replace h := (if_pos c15).symm.trans h
        refine lv_iinc (v := x3 + (-1 : Int32)) (lv' := [(3, .int (x3 + (-1 : Int32))), (0, .ref q_t), (2, .int x2)]) hx hb dX0_periodAt_27 hl (k := 2) rfl rfl (by decide) rfl (fun ls hl => ?_)
        refine lv_goto (tgt := 5) hx hb dX0_periodAt_30 (by decide) ?_
        exact ih x2 (x3 + (-1 : Int32)) o h _ _ _ hP hD hS (lv_sub hl [1, 2, 0] rfl) kx0 kx1
      · replace h := (if_neg c15).symm.trans h
        refine lv_iload_n hx hb dX0_periodAt_18 rfl (lv_at hl 1 rfl) ?_
        refine lv_if_ne (tgt := 24) hx hb dX0_periodAt_19 (by decide) (fun c19 => ?_) (fun c19 => ?_)
        · replace h := (if_neg c19).symm.trans h
          refine lv_iinc (v := x2 + (-1 : Int32)) (lv' := [(2, .int (x2 + (-1 : Int32))), (0, .ref q_t), (3, .int x3)]) hx hb dX0_periodAt_24 hl (k := 1) rfl rfl (by decide) rfl (fun ls hl => ?_)
          refine lv_iinc (v := x3 + (-1 : Int32)) (lv' := [(3, .int (x3 + (-1 : Int32))), (2, .int (x2 + (-1 : Int32))), (0, .ref q_t)]) hx hb dX0_periodAt_27 hl (k := 2) rfl rfl (by decide) rfl (fun ls hl => ?_)
          refine lv_goto (tgt := 5) hx hb dX0_periodAt_30 (by decide) ?_
          exact ih (x2 + (-1 : Int32)) (x3 + (-1 : Int32)) o h _ _ _ hP hD hS (lv_sub hl [2, 1, 0] rfl) kx0 kx1
        · replace h := (if_pos c19).symm.trans h
          obtain rfl := Option.some.inj h
          exact kx0 _ rfl _ _ _ hP hD hS (lv_sub hl [2] rfl)
def f_X0_periodAt (N : Nat) (v_t_count : Int32) (v_t_ticks : Nat → Int32) (x1 : Int32) : Option (Int32) := (f_X0_periodAt_5 N v_t_count v_t_ticks N x1 (99 : Int32)).bind (Sum.elim (fun t5_0 => some t5_0.2) (fun t5_1 => some (0 : Int32)))
set_option maxHeartbeats 8000000 in
set_option maxRecDepth 100000 in
theorem k_X0_periodAt (l : Launch) (D : va_G) (T : Nat → ClassId) (N : Nat) (q_t q_t_ticks : Nat) (sz : Nat) (v_t_count : Int32) (v_t_ticks : Nat → Int32) (x1 : Int32) (o : Int32) (h : f_X0_periodAt N v_t_count v_t_ticks x1 = some o) : Met l yX0_periodAt wsX0_periodAt ({ frames := 1, cells := 0, slots := 0, locals := 22 } : Room) (zk_Pc D T [.ref q_t, .int x1] [(q_t, .inr (2, [.int v_t_count, .ref q_t_ticks])), (q_t_ticks, .inl (T 0, 20, .inl v_t_ticks))] sz) (zk_Qi o D [(q_t, .inr (2, [.int v_t_count, .ref q_t_ticks])), (q_t_ticks, .inl (T 0, 20, .inl v_t_ticks))] (va_A [(q_t, .inr (2, [.int v_t_count, .ref q_t_ticks])), (q_t_ticks, .inl (T 0, 20, .inl v_t_ticks))] sz) (va_A [(q_t, .inr (2, [.int v_t_count, .ref q_t_ticks])), (q_t_ticks, .inl (T 0, 20, .inl v_t_ticks))] sz)) 0 0 (va_A [(q_t, .inr (2, [.int v_t_count, .ref q_t_ticks])), (q_t_ticks, .inl (T 0, 20, .inl v_t_ticks))] sz) := by
  refine Met.ofW (cc := cX0_periodAt) (maxL := 4) (ret := (some .int)) (by decide) rfl ?_
  intro p e s m args below meth c s₁ B hml hv
  obtain ⟨rfl, hsz, hP, hK, hN, hD0⟩ := hv
  have hx := B.exec
  have hb := B.bytes
  have hr := B.returns
  have hts := atoms_spec (ws := wsX0_periodAt) B.pre
  have hown : s.vm.findClass RX0 = some m.cls := findClass_of_methodNamed B.named
  have hlocks := B.notSynchronized
  subst hsz
  have hD := hD0.self (sz := s.heap.size)
  generalize hAe : va_A [(q_t, .inr (2, [.int v_t_count, .ref q_t_ticks])), (q_t_ticks, .inl (T 0, 20, .inl v_t_ticks))] s.heap.size = A at hD ⊢
  have hA : ∀ q : Nat, s.heap.size ≤ q → A q := fun q h => by rw [← hAe]; exact Or.inr h
  have hS : va_S A s.heap s.heap [] := va_S.rf
  have hP : va_P D vwCl [(q_t, .inr (2, [.int v_t_count, .ref q_t_ticks])), (q_t_ticks, .inl (T 0, 20, .inl v_t_ticks))] s.heap := hP
  have hl := lv_entry ([.ref q_t, .int x1]) (n := 4) (Nat.le_of_ble_eq_true rfl)
  rw [lg_entry_eq]
  generalize (lg_sl ([.ref q_t, .int x1]) ++ List.replicate (4 - (lg_sl ([.ref q_t, .int x1])).length) Slot.unset).toArray = ls at hl ⊢
  have hl : lv_has ls 4 [(0, .ref q_t), (1, .int x1)] := hl
  unfold f_X0_periodAt at h
  refine lv_iload_n hx hb dX0_periodAt_0 rfl (lv_at hl 1 rfl) ?_
  refine lv_istore_n (lv' := [(2, .int x1), (0, .ref q_t), (1, .int x1)]) hx hb dX0_periodAt_1 rfl hl (by decide) rfl (fun ls hl => ?_)
  refine lv_bipush (v := (99 : Int32)) hx hb dX0_periodAt_2 (by decide) ?_
  refine lv_istore_n (lv' := [(3, .int (99 : Int32)), (2, .int x1), (0, .ref q_t), (1, .int x1)]) hx hb dX0_periodAt_4 rfl hl (by decide) rfl (fun ls hl => ?_)
  obtain ⟨o5, hc5, h⟩ := zk_bind h
  refine l_X0_periodAt_5 N hx hb hml hown hts hA hK hN q_t q_t_ticks v_t_count v_t_ticks N x1 (99 : Int32) o5 hc5 _ _ _ hP hD hS (lv_sub hl [2, 1, 0] rfl) (fun t5_0 ht5 H locs ls hP hD hS hl => ?_) (fun t5_1 ht5 H locs ls hP hD hS hl => ?_)
  · subst ht5
    replace h : _ = _ := h
    replace h := zk_inl.symm.trans h
    refine lv_iload_n hx hb dX0_periodAt_22 rfl (lv_at hl 0 rfl) ?_
    obtain rfl := Option.some.inj h
    exact W.iret (v := t5_0.2) hx hb hr (fun t ht hW => ⟨⟨_, (), rfl, rfl, ⟨by rw [ht]; exact hP, hD⟩⟩, hS.F ht⟩) hS.2.2 dX0_periodAt_23
  · subst ht5
    replace h : _ = _ := h
    replace h := zk_inr.symm.trans h
    refine lv_iconst (v := (0 : Int32)) hx hb dX0_periodAt_33 (by decide) ?_
    obtain rfl := Option.some.inj h
    exact W.iret (v := (0 : Int32)) hx hb hr (fun t ht hW => ⟨⟨_, (), rfl, rfl, ⟨by rw [ht]; exact hP, hD⟩⟩, hS.F ht⟩) hS.2.2 dX0_periodAt_34
theorem iX0_add_X0 : ∀ w ∈ wsX00, w ∈ wsX0_add := by decide +kernel
def f_X0_add (N : Nat) (v_t_count : Int32) (v_t_ticks : Nat → Int32) (x1 : Int32) : Option (Int32 × Int32 × (Nat → Int32)) := if (20 : Int32) ≤ v_t_count then (some (v_t_count, v_t_count, v_t_ticks)) else (zk_g v_t_count 20 (some (v_t_count + (1 : Int32), v_t_count + (1 : Int32), upd v_t_ticks v_t_count.toNatClampNeg x1)))
set_option maxHeartbeats 8000000 in
set_option maxRecDepth 100000 in
theorem k_X0_add (l : Launch) (D : va_G) (T : Nat → ClassId) (N : Nat) (q_t q_t_ticks : Nat) (sz : Nat) (v_t_count : Int32) (v_t_ticks : Nat → Int32) (x1 : Int32) (o : Int32 × Int32 × (Nat → Int32)) (h : f_X0_add N v_t_count v_t_ticks x1 = some o) : Met l yX0_add wsX0_add ({ frames := 0, cells := 0, slots := 0, locals := 0 } : Room) (zk_Pc D T [.ref q_t, .int x1] [(q_t, .inr (2, [.int v_t_count, .ref q_t_ticks])), (q_t_ticks, .inl (T 0, 20, .inl v_t_ticks))] sz) (zk_Qi o.1 D [(q_t, .inr (2, [.int o.2.1, .ref q_t_ticks])), (q_t_ticks, .inl (T 0, 20, .inl o.2.2))] (va_A [(q_t, .inr (2, [.int v_t_count, .ref q_t_ticks])), (q_t_ticks, .inl (T 0, 20, .inl v_t_ticks))] sz) (va_A [(q_t, .inr (2, [.int v_t_count, .ref q_t_ticks])), (q_t_ticks, .inl (T 0, 20, .inl v_t_ticks))] sz)) 0 0 (va_A [(q_t, .inr (2, [.int v_t_count, .ref q_t_ticks])), (q_t_ticks, .inl (T 0, 20, .inl v_t_ticks))] sz) := by
  refine Met.ofW (cc := cX0_add) (maxL := 2) (ret := (some .int)) (by decide) rfl ?_
  intro p e s m args below meth c s₁ B hml hv
  obtain ⟨rfl, hsz, hP, hK, hN, hD0⟩ := hv
  have hx := B.exec
  have hb := B.bytes
  have hr := B.returns
  have hts := atoms_spec (ws := wsX0_add) B.pre
  have hown : s.vm.findClass RX0 = some m.cls := findClass_of_methodNamed B.named
  have hlocks := B.notSynchronized
  subst hsz
  have hD := hD0.self (sz := s.heap.size)
  generalize hAe : va_A [(q_t, .inr (2, [.int v_t_count, .ref q_t_ticks])), (q_t_ticks, .inl (T 0, 20, .inl v_t_ticks))] s.heap.size = A at hD ⊢
  have hA : ∀ q : Nat, s.heap.size ≤ q → A q := fun q h => by rw [← hAe]; exact Or.inr h
  have hS : va_S A s.heap s.heap [] := va_S.rf
  have hP : va_P D vwCl [(q_t, .inr (2, [.int v_t_count, .ref q_t_ticks])), (q_t_ticks, .inl (T 0, 20, .inl v_t_ticks))] s.heap := hP
  have hl := lv_entry ([.ref q_t, .int x1]) (n := 2) (Nat.le_of_ble_eq_true rfl)
  rw [lg_entry_eq]
  generalize (lg_sl ([.ref q_t, .int x1]) ++ List.replicate (2 - (lg_sl ([.ref q_t, .int x1])).length) Slot.unset).toArray = ls at hl ⊢
  have hl : lv_has ls 2 [(0, .ref q_t), (1, .int x1)] := hl
  unfold f_X0_add at h
  refine lv_aload_n hx hb dX0_add_0 rfl (lv_at hl 0 rfl) ?_
  refine va_get (D := D) (ci := 2) (v := .int v_t_count) (C := RX0) (T := TX0) (N := 2) hx hb hts iX0_add_X0 hown hK hP 0 rfl rfl 0 (by decide) (hts (.fieldLink RX0 9 "PulseMeadow$Marks" "count" "I") (by decide +kernel)) (fun _ h9 => h9) rfl dX0_add_1 ?_
  refine lv_bipush (v := (20 : Int32)) hx hb dX0_add_4 (by decide) ?_
  refine lv_icmp_ge (tgt := 29) hx hb dX0_add_6 (by decide) (fun c6 => ?_) (fun c6 => ?_)
  · replace h := (if_pos c6).symm.trans h
    refine lv_aload_n hx hb dX0_add_29 rfl (lv_at hl 0 rfl) ?_
    refine va_get (D := D) (ci := 2) (v := .int v_t_count) (C := RX0) (T := TX0) (N := 2) hx hb hts iX0_add_X0 hown hK hP 0 rfl rfl 0 (by decide) (hts (.fieldLink RX0 9 "PulseMeadow$Marks" "count" "I") (by decide +kernel)) (fun _ h9 => h9) rfl dX0_add_30 ?_
    obtain rfl := Option.some.inj h
    exact W.iret (v := v_t_count) hx hb hr (fun t ht hW => ⟨⟨_, (), rfl, rfl, ⟨by rw [ht]; exact hP, hD⟩⟩, hS.F ht⟩) hS.2.2 dX0_add_33
  · replace h := (if_neg c6).symm.trans h
    refine lv_aload_n hx hb dX0_add_9 rfl (lv_at hl 0 rfl) ?_
    refine va_get (D := D) (ci := 2) (v := .ref q_t_ticks) (C := RX0) (T := TX0) (N := 2) hx hb hts iX0_add_X0 hown hK hP 0 rfl rfl 1 (by decide) (hts (.fieldLink RX0 15 "PulseMeadow$Marks" "ticks" "[I") (by decide +kernel)) (fun _ h9 => h9) rfl dX0_add_10 ?_
    refine lv_aload_n hx hb dX0_add_13 rfl (lv_at hl 0 rfl) ?_
    refine va_get (D := D) (ci := 2) (v := .int v_t_count) (C := RX0) (T := TX0) (N := 2) hx hb hts iX0_add_X0 hown hK hP 0 rfl rfl 0 (by decide) (hts (.fieldLink RX0 9 "PulseMeadow$Marks" "count" "I") (by decide +kernel)) (fun _ h9 => h9) rfl dX0_add_14 ?_
    refine lv_iload_n hx hb dX0_add_17 rfl (lv_at hl 1 rfl) ?_
    obtain ⟨hb18, h⟩ := zk_g_spec h
    refine va_iast hx hb hK hP hD hS 1 0 rfl rfl hb18 dX0_add_18 (fun H locs hP hD hS => ?_)
    have hP : va_P D vwCl [(q_t, .inr (2, [.int v_t_count, .ref q_t_ticks])), (q_t_ticks, .inl (T 0, 20, .inl (upd v_t_ticks v_t_count.toNatClampNeg x1)))] H := hP
    have hD : va_D A [(q_t, .inr (2, [.int v_t_count, .ref q_t_ticks])), (q_t_ticks, .inl (T 0, 20, .inl (upd v_t_ticks v_t_count.toNatClampNeg x1)))] := hD
    refine lv_aload_n hx hb dX0_add_19 rfl (lv_at hl 0 rfl) ?_
    refine lv_dup hx hb dX0_add_20 rfl ?_
    refine va_get (D := D) (ci := 2) (v := .int v_t_count) (C := RX0) (T := TX0) (N := 2) hx hb hts iX0_add_X0 hown hK hP 0 rfl rfl 0 (by decide) (hts (.fieldLink RX0 9 "PulseMeadow$Marks" "count" "I") (by decide +kernel)) (fun _ h9 => h9) rfl dX0_add_21 ?_
    refine lv_iconst (v := (1 : Int32)) hx hb dX0_add_24 (by decide) ?_
    refine lv_iadd hx hb dX0_add_25 ?_
    refine va_put (D := D) (ci := 2) (v := .int (v_t_count + (1 : Int32))) (ty := .int) (C := RX0) (T := TX0) (N := 2) hx hb hts iX0_add_X0 tyX0 tyX0_ok nmX0 hown hK hP hD hS 0 rfl rfl 0 (by decide) (hts (.fieldLink RX0 9 "PulseMeadow$Marks" "count" "I") (by decide +kernel)) (fun _ h9 => h9) rfl (by decide +kernel) rfl rfl (Nat.le_of_ble_eq_true rfl) dX0_add_26 (fun H locs hP hD hS => ?_)
    have hP : va_P D vwCl [(q_t, .inr (2, [.int (v_t_count + (1 : Int32)), .ref q_t_ticks])), (q_t_ticks, .inl (T 0, 20, .inl (upd v_t_ticks v_t_count.toNatClampNeg x1)))] H := hP
    have hD : va_D A [(q_t, .inr (2, [.int (v_t_count + (1 : Int32)), .ref q_t_ticks])), (q_t_ticks, .inl (T 0, 20, .inl (upd v_t_ticks v_t_count.toNatClampNeg x1)))] := hD
    refine lv_aload_n hx hb dX0_add_29 rfl (lv_at hl 0 rfl) ?_
    refine va_get (D := D) (ci := 2) (v := .int (v_t_count + (1 : Int32))) (C := RX0) (T := TX0) (N := 2) hx hb hts iX0_add_X0 hown hK hP 0 rfl rfl 0 (by decide) (hts (.fieldLink RX0 9 "PulseMeadow$Marks" "count" "I") (by decide +kernel)) (fun _ h9 => h9) rfl dX0_add_30 ?_
    obtain rfl := Option.some.inj h
    exact W.iret (v := v_t_count + (1 : Int32)) hx hb hr (fun t ht hW => ⟨⟨_, (), rfl, rfl, ⟨by rw [ht]; exact hP, hD⟩⟩, hS.F ht⟩) hS.2.2 dX0_add_33

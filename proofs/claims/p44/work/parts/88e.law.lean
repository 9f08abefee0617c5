/-! rows of mine: the law's first calls, in pieces -/
set_option maxHeartbeats 16000000 in
set_option maxRecDepth 100000 in
theorem law_s5 {p : Program} {l : Launch} {e : Env} {s : State} {m : MethodId} {below : List Frame} {meth : Method} {c : Code} {Q : State → Prop} {A : Nat → Prop} {D : va_G} {T : Nat → ClassId} {q : Nat → Nat} {b : Nat} {ls : Array Slot} (hst : l.stackTraces = false) (hx : p.tables.exec = Jvm.exec) (hb : c.code = cL_law) (hml : c.maxLocals = 2) (hown : s.vm.findClass RL = some m.cls) (hts : ∀ w ∈ lw_tbl, w.before #[Value.ref b] s = true) (hA : ∀ q : Nat, s.heap.size ≤ q → A q) (hK : va_K D vwCl (zk_ty T) s) (hN : zk_N s) (hX : zx_K A s s.heap) (hNc : zn_K s) (hl : lv_has ls 2 [(1, .ref (q 0)), (0, .ref b)]) {pr : (Int32 × Int32 × Int32 × (Nat → Int32) × (Nat → Int32) × (Nat → Int32) × (Nat → Int32) × (Nat → Int32) × (Nat → Int32) × (Nat → Int32) × (Nat → Int32))} {ts : (Int32 × (Nat → Int32) × (Nat → Int32))} {tr : (Int32 × Int32 × (Nat → Int32) × (Nat → Int32) × (Int32 × (Nat → Int32) × (Nat → Int32)) × (Int32 × (Nat → Int32) × (Nat → Int32)))} {H : Heap} {locs : List Loc} (hP : va_P D vwCl (ow T q (el 1 0 0 0 1 ob_0.2.2.2.2.1.2.2 pr ts tr)) H) (hD : va_D A (ow T q (el 1 0 0 0 1 ob_0.2.2.2.2.1.2.2 pr ts tr))) (hS : va_S A s.heap H locs) (kk : ∀ (ah : (Nat → Int32) × (Nat → Int32) × (Int32 × (Nat → Int32) × (Nat → Int32)) × (Int32 × (Nat → Int32) × (Nat → Int32))) (pr : (Int32 × Int32 × Int32 × (Nat → Int32) × (Nat → Int32) × (Nat → Int32) × (Nat → Int32) × (Nat → Int32) × (Nat → Int32) × (Nat → Int32) × (Nat → Int32))) (ts : (Int32 × (Nat → Int32) × (Nat → Int32))) (tr : (Int32 × Int32 × (Nat → Int32) × (Nat → Int32) × (Int32 × (Nat → Int32) × (Nat → Int32)) × (Int32 × (Nat → Int32) × (Nat → Int32)))) (H : Heap) (locs : List Loc), va_P D vwCl (ow T q (el 1 1 1 0 1 ah pr ts tr)) H → va_D A (ow T q (el 1 1 1 0 1 ah pr ts tr)) → va_S A s.heap H locs → W p l e room_1 s m #[Value.ref b] below meth c H locs 199 8812 Q (F0 m 859 ls [])) : W p l e room_1 s m #[Value.ref b] below meth c H locs 173 8698 Q (F0 m 723 ls []) := by
  refine lv_aload_n hx hb dL_law_723 rfl (lv_at hl 0 rfl) ?_
  refine lv_bipush (v := (82 : Int32)) hx hb dL_law_724 (by decide) ?_
  refine lv_iconst (v := (1 : Int32)) hx hb dL_law_726 (by decide) ?_
  refine lk_new (N' := 1) hx hb (hts _ lm_arrayClass_int) hK hP hD hS hA (by decide) (by decide +kernel) (Nat.le_of_ble_eq_true rfl) (Nat.le_of_ble_eq_true rfl) (Nat.le_of_ble_eq_true rfl) dL_law_727 (fun qv727 H hP hD hS => ?_)
  refine lv_dup hx hb dL_law_729 rfl ?_
  refine lv_iconst (v := (0 : Int32)) hx hb dL_law_730 (by decide) ?_
  refine lv_sipush (v := (501 : Int32)) hx hb dL_law_731 (by decide) ?_
  refine va_iast hx hb hK hP hD hS 0 0 rfl rfl (zk_lit (by decide +kernel)) dL_law_734 (fun H locs hP hD hS => ?_)
  have hP : va_P D vwCl ((qv727, .inl (T 0, 1, .inl (upd (fun _ => (0 : Int32)) (0 : Int32).toNatClampNeg (501 : Int32)))) :: (ow T q (el 1 0 0 0 1 ob_0.2.2.2.2.1.2.2 pr ts tr))) H := hP
  have hD : va_D A ((qv727, .inl (T 0, 1, .inl (upd (fun _ => (0 : Int32)) (0 : Int32).toNatClampNeg (501 : Int32)))) :: (ow T q (el 1 0 0 0 1 ob_0.2.2.2.2.1.2.2 pr ts tr))) := hD
  refine lk_ask (ws' := []) (nL := 2) (rw_ := []) (stk := []) (x := el 1 0 0 0 1 ob_0.2.2.2.2.1.2.2 pr ts tr) (o := ((-2000000002 : Int32), el 1 0 0 0 1 ob_0.2.2.2.2.1.2.2 pr ts tr)) (fun sz => a_R l hst D T 3000 q qv727 sz (el 1 0 0 0 1 ob_0.2.2.2.2.1.2.2 pr ts tr) 1 (upd (fun _ => (0 : Int32)) (0 : Int32).toNatClampNeg (501 : Int32)) ((-2000000002 : Int32), el 1 0 0 0 1 ob_0.2.2.2.2.1.2.2 pr ts tr) (el_33 ob_0.2.2.2.2.1.2.2 pr ts tr)) ⟨hx, hb, hml, hown, hts⟩ (vx_cwSW 3 hts gT_ask rfl rfl rfl (by decide +kernel) ⟨(Nat.le_of_ble_eq_true rfl), (Nat.le_of_ble_eq_true rfl)⟩) hK hN hX hNc hS hA (by rw [List.append_nil]; exact hP) (by rw [List.append_nil]; exact hD) hl.1 (Nat.le_of_ble_eq_true rfl) dL_law_735 ⟨(Nat.le_of_ble_eq_true rfl), (Nat.le_of_ble_eq_true rfl)⟩ (fun H locs hP hD hS => ?_)
  rw [List.append_nil] at hP hD
  have hP : va_P D vwCl (ow T q (el 1 0 0 0 1 ob_0.2.2.2.2.1.2.2 pr ts tr)) H := hP
  have hD : va_D A (ow T q (el 1 0 0 0 1 ob_0.2.2.2.2.1.2.2 pr ts tr)) := hD
  refine W.widen (k := 175) (n := 8705) (Nat.le_of_ble_eq_true rfl) (Nat.le_of_ble_eq_true rfl) ?_
  refine lv_ldc (v := (-2000000002 : Int32)) hx hb hown (hts _ lm_constant_RL_76_2000000002) dL_law_738 ?_
  refine lv_icmp_ne (tgt := 1394) hx hb dL_law_740 (by decide) (fun c9 => absurd rfl c9) (fun _ => ?_)
  refine lv_aload_n hx hb dL_law_743 rfl (lv_at hl 0 rfl) ?_
  refine lv_bipush (v := (102 : Int32)) hx hb dL_law_744 (by decide) ?_
  refine lv_iconst (v := (1 : Int32)) hx hb dL_law_746 (by decide) ?_
  refine lk_new (N' := 1) hx hb (hts _ lm_arrayClass_int) hK hP hD hS hA (by decide) (by decide +kernel) (Nat.le_of_ble_eq_true rfl) (Nat.le_of_ble_eq_true rfl) (Nat.le_of_ble_eq_true rfl) dL_law_747 (fun qv747 H hP hD hS => ?_)
  refine lv_dup hx hb dL_law_749 rfl ?_
  refine lv_iconst (v := (0 : Int32)) hx hb dL_law_750 (by decide) ?_
  refine lv_iconst (v := (0 : Int32)) hx hb dL_law_751 (by decide) ?_
  refine va_iast hx hb hK hP hD hS 0 0 rfl rfl (zk_lit (by decide +kernel)) dL_law_752 (fun H locs hP hD hS => ?_)
  have hP : va_P D vwCl ((qv747, .inl (T 0, 1, .inl (upd (fun _ => (0 : Int32)) (0 : Int32).toNatClampNeg (0 : Int32)))) :: (ow T q (el 1 0 0 0 1 ob_0.2.2.2.2.1.2.2 pr ts tr))) H := hP
  have hD : va_D A ((qv747, .inl (T 0, 1, .inl (upd (fun _ => (0 : Int32)) (0 : Int32).toNatClampNeg (0 : Int32)))) :: (ow T q (el 1 0 0 0 1 ob_0.2.2.2.2.1.2.2 pr ts tr))) := hD
  refine lk_ask (ws' := []) (nL := 2) (rw_ := []) (stk := []) (x := el 1 0 0 0 1 ob_0.2.2.2.2.1.2.2 pr ts tr) (o := ((-2000000005 : Int32), el 1 0 0 0 1 ob_0.2.2.2.2.1.2.2 pr ts tr)) (fun sz => a_f l hst D T 3000 q qv747 sz (el 1 0 0 0 1 ob_0.2.2.2.2.1.2.2 pr ts tr) 1 (upd (fun _ => (0 : Int32)) (0 : Int32).toNatClampNeg (0 : Int32)) ((-2000000005 : Int32), el 1 0 0 0 1 ob_0.2.2.2.2.1.2.2 pr ts tr) (el_34 ob_0.2.2.2.2.1.2.2 pr ts tr)) ⟨hx, hb, hml, hown, hts⟩ (vx_cwSW 3 hts gT_ask rfl rfl rfl (by decide +kernel) ⟨(Nat.le_of_ble_eq_true rfl), (Nat.le_of_ble_eq_true rfl)⟩) hK hN hX hNc hS hA (by rw [List.append_nil]; exact hP) (by rw [List.append_nil]; exact hD) hl.1 (Nat.le_of_ble_eq_true rfl) dL_law_753 ⟨(Nat.le_of_ble_eq_true rfl), (Nat.le_of_ble_eq_true rfl)⟩ (fun H locs hP hD hS => ?_)
  rw [List.append_nil] at hP hD
  have hP : va_P D vwCl (ow T q (el 1 0 0 0 1 ob_0.2.2.2.2.1.2.2 pr ts tr)) H := hP
  have hD : va_D A (ow T q (el 1 0 0 0 1 ob_0.2.2.2.2.1.2.2 pr ts tr)) := hD
  refine W.widen (k := 178) (n := 8718) (Nat.le_of_ble_eq_true rfl) (Nat.le_of_ble_eq_true rfl) ?_
  refine lv_ldc (v := (-2000000005 : Int32)) hx hb hown (hts _ lm_constant_RL_88_2000000005) dL_law_756 ?_
  refine lv_icmp_ne (tgt := 1394) hx hb dL_law_758 (by decide) (fun c9 => absurd rfl c9) (fun _ => ?_)
  refine lv_aload_n hx hb dL_law_761 rfl (lv_at hl 0 rfl) ?_
  refine lv_bipush (v := (108 : Int32)) hx hb dL_law_762 (by decide) ?_
  refine lv_iconst (v := (1 : Int32)) hx hb dL_law_764 (by decide) ?_
  refine lk_new (N' := 1) hx hb (hts _ lm_arrayClass_int) hK hP hD hS hA (by decide) (by decide +kernel) (Nat.le_of_ble_eq_true rfl) (Nat.le_of_ble_eq_true rfl) (Nat.le_of_ble_eq_true rfl) dL_law_765 (fun qv765 H hP hD hS => ?_)
  refine lv_dup hx hb dL_law_767 rfl ?_
  refine lv_iconst (v := (0 : Int32)) hx hb dL_law_768 (by decide) ?_
  refine lv_iconst (v := (0 : Int32)) hx hb dL_law_769 (by decide) ?_
  refine va_iast hx hb hK hP hD hS 0 0 rfl rfl (zk_lit (by decide +kernel)) dL_law_770 (fun H locs hP hD hS => ?_)
  have hP : va_P D vwCl ((qv765, .inl (T 0, 1, .inl (upd (fun _ => (0 : Int32)) (0 : Int32).toNatClampNeg (0 : Int32)))) :: (ow T q (el 1 0 0 0 1 ob_0.2.2.2.2.1.2.2 pr ts tr))) H := hP
  have hD : va_D A ((qv765, .inl (T 0, 1, .inl (upd (fun _ => (0 : Int32)) (0 : Int32).toNatClampNeg (0 : Int32)))) :: (ow T q (el 1 0 0 0 1 ob_0.2.2.2.2.1.2.2 pr ts tr))) := hD
  refine lk_ask (ws' := []) (nL := 2) (rw_ := []) (stk := []) (x := el 1 0 0 0 1 ob_0.2.2.2.2.1.2.2 pr ts tr) (o := ((-2000000005 : Int32), el 1 0 0 0 1 ob_0.2.2.2.2.1.2.2 pr ts tr)) (fun sz => a_l l hst D T 3000 q qv765 sz (el 1 0 0 0 1 ob_0.2.2.2.2.1.2.2 pr ts tr) 1 (upd (fun _ => (0 : Int32)) (0 : Int32).toNatClampNeg (0 : Int32)) ((-2000000005 : Int32), el 1 0 0 0 1 ob_0.2.2.2.2.1.2.2 pr ts tr) (el_35 ob_0.2.2.2.2.1.2.2 pr ts tr)) ⟨hx, hb, hml, hown, hts⟩ (vx_cwSW 3 hts gT_ask rfl rfl rfl (by decide +kernel) ⟨(Nat.le_of_ble_eq_true rfl), (Nat.le_of_ble_eq_true rfl)⟩) hK hN hX hNc hS hA (by rw [List.append_nil]; exact hP) (by rw [List.append_nil]; exact hD) hl.1 (Nat.le_of_ble_eq_true rfl) dL_law_771 ⟨(Nat.le_of_ble_eq_true rfl), (Nat.le_of_ble_eq_true rfl)⟩ (fun H locs hP hD hS => ?_)
  rw [List.append_nil] at hP hD
  have hP : va_P D vwCl (ow T q (el 1 0 0 0 1 ob_0.2.2.2.2.1.2.2 pr ts tr)) H := hP
  have hD : va_D A (ow T q (el 1 0 0 0 1 ob_0.2.2.2.2.1.2.2 pr ts tr)) := hD
  refine W.widen (k := 181) (n := 8731) (Nat.le_of_ble_eq_true rfl) (Nat.le_of_ble_eq_true rfl) ?_
  refine lv_ldc (v := (-2000000005 : Int32)) hx hb hown (hts _ lm_constant_RL_88_2000000005) dL_law_774 ?_
  refine lv_icmp_ne (tgt := 1394) hx hb dL_law_776 (by decide) (fun c9 => absurd rfl c9) (fun _ => ?_)
  refine lv_aload_n hx hb dL_law_779 rfl (lv_at hl 0 rfl) ?_
  refine lv_bipush (v := (119 : Int32)) hx hb dL_law_780 (by decide) ?_
  refine lv_iconst (v := (1 : Int32)) hx hb dL_law_782 (by decide) ?_
  refine lk_new (N' := 1) hx hb (hts _ lm_arrayClass_int) hK hP hD hS hA (by decide) (by decide +kernel) (Nat.le_of_ble_eq_true rfl) (Nat.le_of_ble_eq_true rfl) (Nat.le_of_ble_eq_true rfl) dL_law_783 (fun qv783 H hP hD hS => ?_)
  refine lv_dup hx hb dL_law_785 rfl ?_
  refine lv_iconst (v := (0 : Int32)) hx hb dL_law_786 (by decide) ?_
  refine lv_bipush (v := (20 : Int32)) hx hb dL_law_787 (by decide) ?_
  refine va_iast hx hb hK hP hD hS 0 0 rfl rfl (zk_lit (by decide +kernel)) dL_law_789 (fun H locs hP hD hS => ?_)
  have hP : va_P D vwCl ((qv783, .inl (T 0, 1, .inl (upd (fun _ => (0 : Int32)) (0 : Int32).toNatClampNeg (20 : Int32)))) :: (ow T q (el 1 0 0 0 1 ob_0.2.2.2.2.1.2.2 pr ts tr))) H := hP
  have hD : va_D A ((qv783, .inl (T 0, 1, .inl (upd (fun _ => (0 : Int32)) (0 : Int32).toNatClampNeg (20 : Int32)))) :: (ow T q (el 1 0 0 0 1 ob_0.2.2.2.2.1.2.2 pr ts tr))) := hD
  refine lk_ask (ws' := []) (nL := 2) (rw_ := []) (stk := []) (x := el 1 0 0 0 1 ob_0.2.2.2.2.1.2.2 pr ts tr) (o := ((-2000000001 : Int32), el 1 0 0 0 1 ob_0.2.2.2.2.1.2.2 pr ts tr)) (fun sz => a_w l hst D T 3000 q qv783 sz (el 1 0 0 0 1 ob_0.2.2.2.2.1.2.2 pr ts tr) 1 (upd (fun _ => (0 : Int32)) (0 : Int32).toNatClampNeg (20 : Int32)) ((-2000000001 : Int32), el 1 0 0 0 1 ob_0.2.2.2.2.1.2.2 pr ts tr) (el_36 ob_0.2.2.2.2.1.2.2 pr ts tr)) ⟨hx, hb, hml, hown, hts⟩ (vx_cwSW 3 hts gT_ask rfl rfl rfl (by decide +kernel) ⟨(Nat.le_of_ble_eq_true rfl), (Nat.le_of_ble_eq_true rfl)⟩) hK hN hX hNc hS hA (by rw [List.append_nil]; exact hP) (by rw [List.append_nil]; exact hD) hl.1 (Nat.le_of_ble_eq_true rfl) dL_law_790 ⟨(Nat.le_of_ble_eq_true rfl), (Nat.le_of_ble_eq_true rfl)⟩ (fun H locs hP hD hS => ?_)
  rw [List.append_nil] at hP hD
  have hP : va_P D vwCl (ow T q (el 1 0 0 0 1 ob_0.2.2.2.2.1.2.2 pr ts tr)) H := hP
  have hD : va_D A (ow T q (el 1 0 0 0 1 ob_0.2.2.2.2.1.2.2 pr ts tr)) := hD
  refine W.widen (k := 184) (n := 8744) (Nat.le_of_ble_eq_true rfl) (Nat.le_of_ble_eq_true rfl) ?_
  refine lv_ldc (v := (-2000000001 : Int32)) hx hb hown (hts _ lm_constant_RL_73_2000000001) dL_law_793 ?_
  refine lv_icmp_ne (tgt := 1394) hx hb dL_law_795 (by decide) (fun c9 => absurd rfl c9) (fun _ => ?_)
  refine lv_aload_n hx hb dL_law_798 rfl (lv_at hl 0 rfl) ?_
  refine lv_bipush (v := (115 : Int32)) hx hb dL_law_799 (by decide) ?_
  refine lv_iconst (v := (1 : Int32)) hx hb dL_law_801 (by decide) ?_
  refine lk_new (N' := 1) hx hb (hts _ lm_arrayClass_int) hK hP hD hS hA (by decide) (by decide +kernel) (Nat.le_of_ble_eq_true rfl) (Nat.le_of_ble_eq_true rfl) (Nat.le_of_ble_eq_true rfl) dL_law_802 (fun qv802 H hP hD hS => ?_)
  refine lv_dup hx hb dL_law_804 rfl ?_
  refine lv_iconst (v := (0 : Int32)) hx hb dL_law_805 (by decide) ?_
  refine lv_iconst (v := (0 : Int32)) hx hb dL_law_806 (by decide) ?_
  refine va_iast hx hb hK hP hD hS 0 0 rfl rfl (zk_lit (by decide +kernel)) dL_law_807 (fun H locs hP hD hS => ?_)
  have hP : va_P D vwCl ((qv802, .inl (T 0, 1, .inl (upd (fun _ => (0 : Int32)) (0 : Int32).toNatClampNeg (0 : Int32)))) :: (ow T q (el 1 0 0 0 1 ob_0.2.2.2.2.1.2.2 pr ts tr))) H := hP
  have hD : va_D A ((qv802, .inl (T 0, 1, .inl (upd (fun _ => (0 : Int32)) (0 : Int32).toNatClampNeg (0 : Int32)))) :: (ow T q (el 1 0 0 0 1 ob_0.2.2.2.2.1.2.2 pr ts tr))) := hD
  refine lk_ask (ws' := []) (nL := 2) (rw_ := []) (stk := []) (x := el 1 0 0 0 1 ob_0.2.2.2.2.1.2.2 pr ts tr) (o := ((-2000000005 : Int32), el 1 0 0 0 1 ob_0.2.2.2.2.1.2.2 pr ts tr)) (fun sz => a_s l hst D T 3000 q qv802 sz (el 1 0 0 0 1 ob_0.2.2.2.2.1.2.2 pr ts tr) 1 (upd (fun _ => (0 : Int32)) (0 : Int32).toNatClampNeg (0 : Int32)) ((-2000000005 : Int32), el 1 0 0 0 1 ob_0.2.2.2.2.1.2.2 pr ts tr) (el_37 ob_0.2.2.2.2.1.2.2 pr ts tr)) ⟨hx, hb, hml, hown, hts⟩ (vx_cwSW 3 hts gT_ask rfl rfl rfl (by decide +kernel) ⟨(Nat.le_of_ble_eq_true rfl), (Nat.le_of_ble_eq_true rfl)⟩) hK hN hX hNc hS hA (by rw [List.append_nil]; exact hP) (by rw [List.append_nil]; exact hD) hl.1 (Nat.le_of_ble_eq_true rfl) dL_law_808 ⟨(Nat.le_of_ble_eq_true rfl), (Nat.le_of_ble_eq_true rfl)⟩ (fun H locs hP hD hS => ?_)
  rw [List.append_nil] at hP hD
  have hP : va_P D vwCl (ow T q (el 1 0 0 0 1 ob_0.2.2.2.2.1.2.2 pr ts tr)) H := hP
  have hD : va_D A (ow T q (el 1 0 0 0 1 ob_0.2.2.2.2.1.2.2 pr ts tr)) := hD
  refine W.widen (k := 188) (n := 8763) (Nat.le_of_ble_eq_true rfl) (Nat.le_of_ble_eq_true rfl) ?_
  refine lv_ldc (v := (-2000000005 : Int32)) hx hb hown (hts _ lm_constant_RL_88_2000000005) dL_law_811 ?_
  refine lv_icmp_ne (tgt := 1394) hx hb dL_law_813 (by decide) (fun c9 => absurd rfl c9) (fun _ => ?_)
  refine lv_aload_n hx hb dL_law_816 rfl (lv_at hl 0 rfl) ?_
  refine lv_bipush (v := (99 : Int32)) hx hb dL_law_817 (by decide) ?_
  refine lv_iconst (v := (0 : Int32)) hx hb dL_law_819 (by decide) ?_
  refine lk_new (N' := 0) hx hb (hts _ lm_arrayClass_int) hK hP hD hS hA (by decide) (by decide +kernel) (Nat.le_of_ble_eq_true rfl) (Nat.le_of_ble_eq_true rfl) (Nat.le_of_ble_eq_true rfl) dL_law_820 (fun qv820 H hP hD hS => ?_)
  obtain ⟨ah38, he38⟩ := el_38 ob_0.2.2.2.2.1.2.2 pr ts tr
  refine lk_ask (ws' := []) (nL := 2) (rw_ := []) (stk := []) (x := el 1 0 0 0 1 ob_0.2.2.2.2.1.2.2 pr ts tr) (o := ((1 : Int32), el 1 1 1 0 1 ah38 pr ts tr)) (fun sz => a_c l hst D T 3000 q qv820 sz (el 1 0 0 0 1 ob_0.2.2.2.2.1.2.2 pr ts tr) 0 (fun _ => (0 : Int32)) ((1 : Int32), el 1 1 1 0 1 ah38 pr ts tr) (he38)) ⟨hx, hb, hml, hown, hts⟩ (vx_cwSW 3 hts gT_ask rfl rfl rfl (by decide +kernel) ⟨(Nat.le_of_ble_eq_true rfl), (Nat.le_of_ble_eq_true rfl)⟩) hK hN hX hNc hS hA (by rw [List.append_nil]; exact hP) (by rw [List.append_nil]; exact hD) hl.1 (Nat.le_of_ble_eq_true rfl) dL_law_822 ⟨(Nat.le_of_ble_eq_true rfl), (Nat.le_of_ble_eq_true rfl)⟩ (fun H locs hP hD hS => ?_)
  rw [List.append_nil] at hP hD
  have hP : va_P D vwCl (ow T q (el 1 1 1 0 1 ah38 pr ts tr)) H := hP
  have hD : va_D A (ow T q (el 1 1 1 0 1 ah38 pr ts tr)) := hD
  refine W.widen (k := 191) (n := 8775) (Nat.le_of_ble_eq_true rfl) (Nat.le_of_ble_eq_true rfl) ?_
  refine lv_iconst (v := (1 : Int32)) hx hb dL_law_825 (by decide) ?_
  refine lv_icmp_ne (tgt := 1394) hx hb dL_law_826 (by decide) (fun c9 => absurd rfl c9) (fun _ => ?_)
  refine lv_aload_n hx hb dL_law_829 rfl (lv_at hl 0 rfl) ?_
  refine lv_bipush (v := (100 : Int32)) hx hb dL_law_830 (by decide) ?_
  refine lv_iconst (v := (0 : Int32)) hx hb dL_law_832 (by decide) ?_
  refine lk_new (N' := 0) hx hb (hts _ lm_arrayClass_int) hK hP hD hS hA (by decide) (by decide +kernel) (Nat.le_of_ble_eq_true rfl) (Nat.le_of_ble_eq_true rfl) (Nat.le_of_ble_eq_true rfl) dL_law_833 (fun qv833 H hP hD hS => ?_)
  refine lk_ask (ws' := []) (nL := 2) (rw_ := []) (stk := []) (x := el 1 1 1 0 1 ah38 pr ts tr) (o := ((0 : Int32), el 1 1 1 0 1 ah38 pr ts tr)) (fun sz => a_d l hst D T 3000 q qv833 sz (el 1 1 1 0 1 ah38 pr ts tr) 0 (fun _ => (0 : Int32)) ((0 : Int32), el 1 1 1 0 1 ah38 pr ts tr) (el_39 ah38 pr ts tr)) ⟨hx, hb, hml, hown, hts⟩ (vx_cwSW 3 hts gT_ask rfl rfl rfl (by decide +kernel) ⟨(Nat.le_of_ble_eq_true rfl), (Nat.le_of_ble_eq_true rfl)⟩) hK hN hX hNc hS hA (by rw [List.append_nil]; exact hP) (by rw [List.append_nil]; exact hD) hl.1 (Nat.le_of_ble_eq_true rfl) dL_law_835 ⟨(Nat.le_of_ble_eq_true rfl), (Nat.le_of_ble_eq_true rfl)⟩ (fun H locs hP hD hS => ?_)
  rw [List.append_nil] at hP hD
  have hP : va_P D vwCl (ow T q (el 1 1 1 0 1 ah38 pr ts tr)) H := hP
  have hD : va_D A (ow T q (el 1 1 1 0 1 ah38 pr ts tr)) := hD
  refine W.widen (k := 194) (n := 8787) (Nat.le_of_ble_eq_true rfl) (Nat.le_of_ble_eq_true rfl) ?_
  refine lv_if_ne (tgt := 1394) hx hb dL_law_838 (by decide) (fun c9 => absurd rfl c9) (fun _ => ?_)
  refine lv_aload_n hx hb dL_law_841 rfl (lv_at hl 0 rfl) ?_
  refine lv_bipush (v := (98 : Int32)) hx hb dL_law_842 (by decide) ?_
  refine lv_iconst (v := (1 : Int32)) hx hb dL_law_844 (by decide) ?_
  refine lk_new (N' := 1) hx hb (hts _ lm_arrayClass_int) hK hP hD hS hA (by decide) (by decide +kernel) (Nat.le_of_ble_eq_true rfl) (Nat.le_of_ble_eq_true rfl) (Nat.le_of_ble_eq_true rfl) dL_law_845 (fun qv845 H hP hD hS => ?_)
  refine lv_dup hx hb dL_law_847 rfl ?_
  refine lv_iconst (v := (0 : Int32)) hx hb dL_law_848 (by decide) ?_
  refine lv_iconst (v := (0 : Int32)) hx hb dL_law_849 (by decide) ?_
  refine va_iast hx hb hK hP hD hS 0 0 rfl rfl (zk_lit (by decide +kernel)) dL_law_850 (fun H locs hP hD hS => ?_)
  have hP : va_P D vwCl ((qv845, .inl (T 0, 1, .inl (upd (fun _ => (0 : Int32)) (0 : Int32).toNatClampNeg (0 : Int32)))) :: (ow T q (el 1 1 1 0 1 ah38 pr ts tr))) H := hP
  have hD : va_D A ((qv845, .inl (T 0, 1, .inl (upd (fun _ => (0 : Int32)) (0 : Int32).toNatClampNeg (0 : Int32)))) :: (ow T q (el 1 1 1 0 1 ah38 pr ts tr))) := hD
  refine lk_ask (ws' := []) (nL := 2) (rw_ := []) (stk := []) (x := el 1 1 1 0 1 ah38 pr ts tr) (o := ((-2000000005 : Int32), el 1 1 1 0 1 ah38 pr ts tr)) (fun sz => a_b l hst D T 3000 q qv845 sz (el 1 1 1 0 1 ah38 pr ts tr) 1 (upd (fun _ => (0 : Int32)) (0 : Int32).toNatClampNeg (0 : Int32)) ((-2000000005 : Int32), el 1 1 1 0 1 ah38 pr ts tr) (el_40 ah38 pr ts tr)) ⟨hx, hb, hml, hown, hts⟩ (vx_cwSW 3 hts gT_ask rfl rfl rfl (by decide +kernel) ⟨(Nat.le_of_ble_eq_true rfl), (Nat.le_of_ble_eq_true rfl)⟩) hK hN hX hNc hS hA (by rw [List.append_nil]; exact hP) (by rw [List.append_nil]; exact hD) hl.1 (Nat.le_of_ble_eq_true rfl) dL_law_851 ⟨(Nat.le_of_ble_eq_true rfl), (Nat.le_of_ble_eq_true rfl)⟩ (fun H locs hP hD hS => ?_)
  rw [List.append_nil] at hP hD
  have hP : va_P D vwCl (ow T q (el 1 1 1 0 1 ah38 pr ts tr)) H := hP
  have hD : va_D A (ow T q (el 1 1 1 0 1 ah38 pr ts tr)) := hD
  refine W.widen (k := 199) (n := 8812) (Nat.le_of_ble_eq_true rfl) (Nat.le_of_ble_eq_true rfl) ?_
  refine lv_ldc (v := (-2000000005 : Int32)) hx hb hown (hts _ lm_constant_RL_88_2000000005) dL_law_854 ?_
  refine lv_icmp_ne (tgt := 1394) hx hb dL_law_856 (by decide) (fun c9 => absurd rfl c9) (fun _ => ?_)
  exact kk ah38 pr ts tr H locs hP hD hS

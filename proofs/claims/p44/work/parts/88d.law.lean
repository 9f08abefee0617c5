/-! rows of mine: the law's first calls, in pieces -/
set_option maxHeartbeats 16000000 in
set_option maxRecDepth 100000 in
theorem law_s4 {p : Program} {l : Launch} {e : Env} {s : State} {m : MethodId} {below : List Frame} {meth : Method} {c : Code} {Q : State → Prop} {A : Nat → Prop} {D : va_G} {T : Nat → ClassId} {q : Nat → Nat} {b : Nat} {ls : Array Slot} (hst : l.stackTraces = false) (hx : p.tables.exec = Jvm.exec) (hb : c.code = cL_law) (hml : c.maxLocals = 2) (hown : s.vm.findClass RL = some m.cls) (hts : ∀ w ∈ lw_tbl, w.before #[Value.ref b] s = true) (hA : ∀ q : Nat, s.heap.size ≤ q → A q) (hK : va_K D vwCl (zk_ty T) s) (hN : zk_N s) (hX : zx_K A s s.heap) (hNc : zn_K s) (hl : lv_has ls 2 [(1, .ref (q 0)), (0, .ref b)]) {pr : (Int32 × Int32 × Int32 × (Nat → Int32) × (Nat → Int32) × (Nat → Int32) × (Nat → Int32) × (Nat → Int32) × (Nat → Int32) × (Nat → Int32) × (Nat → Int32))} {ts : (Int32 × (Nat → Int32) × (Nat → Int32))} {tr : (Int32 × Int32 × (Nat → Int32) × (Nat → Int32) × (Int32 × (Nat → Int32) × (Nat → Int32)) × (Int32 × (Nat → Int32) × (Nat → Int32)))} {H : Heap} {locs : List Loc} (hP : va_P D vwCl (ow T q (el 1 0 0 0 1 ob_0.2.2.2.2.1.2.2 pr ts tr)) H) (hD : va_D A (ow T q (el 1 0 0 0 1 ob_0.2.2.2.2.1.2.2 pr ts tr))) (hS : va_S A s.heap H locs) (kk : ∀ (pr : (Int32 × Int32 × Int32 × (Nat → Int32) × (Nat → Int32) × (Nat → Int32) × (Nat → Int32) × (Nat → Int32) × (Nat → Int32) × (Nat → Int32) × (Nat → Int32))) (ts : (Int32 × (Nat → Int32) × (Nat → Int32))) (tr : (Int32 × Int32 × (Nat → Int32) × (Nat → Int32) × (Int32 × (Nat → Int32) × (Nat → Int32)) × (Int32 × (Nat → Int32) × (Nat → Int32)))) (H : Heap) (locs : List Loc), va_P D vwCl (ow T q (el 1 0 0 0 1 ob_0.2.2.2.2.1.2.2 pr ts tr)) H → va_D A (ow T q (el 1 0 0 0 1 ob_0.2.2.2.2.1.2.2 pr ts tr)) → va_S A s.heap H locs → W p l e room_1 s m #[Value.ref b] below meth c H locs 173 8698 Q (F0 m 723 ls [])) : W p l e room_1 s m #[Value.ref b] below meth c H locs 142 8537 Q (F0 m 514 ls []) := by
  refine lv_aload_n hx hb dL_law_514 rfl (lv_at hl 0 rfl) ?_
  refine lv_bipush (v := (76 : Int32)) hx hb dL_law_515 (by decide) ?_
  refine lv_iconst (v := (4 : Int32)) hx hb dL_law_517 (by decide) ?_
  refine lk_new (N' := 4) hx hb (hts _ lm_arrayClass_int) hK hP hD hS hA (by decide) (by decide +kernel) (Nat.le_of_ble_eq_true rfl) (Nat.le_of_ble_eq_true rfl) (Nat.le_of_ble_eq_true rfl) dL_law_518 (fun qv518 H hP hD hS => ?_)
  refine lv_dup hx hb dL_law_520 rfl ?_
  refine lv_iconst (v := (0 : Int32)) hx hb dL_law_521 (by decide) ?_
  refine lv_iconst (v := (0 : Int32)) hx hb dL_law_522 (by decide) ?_
  refine va_iast hx hb hK hP hD hS 0 0 rfl rfl (zk_lit (by decide +kernel)) dL_law_523 (fun H locs hP hD hS => ?_)
  have hP : va_P D vwCl ((qv518, .inl (T 0, 4, .inl (upd (fun _ => (0 : Int32)) (0 : Int32).toNatClampNeg (0 : Int32)))) :: (ow T q (el 1 0 0 0 1 ob_0.2.2.2.2.1.2.2 pr ts tr))) H := hP
  have hD : va_D A ((qv518, .inl (T 0, 4, .inl (upd (fun _ => (0 : Int32)) (0 : Int32).toNatClampNeg (0 : Int32)))) :: (ow T q (el 1 0 0 0 1 ob_0.2.2.2.2.1.2.2 pr ts tr))) := hD
  refine lv_dup hx hb dL_law_524 rfl ?_
  refine lv_iconst (v := (1 : Int32)) hx hb dL_law_525 (by decide) ?_
  refine lv_iconst (v := (0 : Int32)) hx hb dL_law_526 (by decide) ?_
  refine va_iast hx hb hK hP hD hS 0 0 rfl rfl (zk_lit (by decide +kernel)) dL_law_527 (fun H locs hP hD hS => ?_)
  have hP : va_P D vwCl ((qv518, .inl (T 0, 4, .inl (upd (upd (fun _ => (0 : Int32)) (0 : Int32).toNatClampNeg (0 : Int32)) (1 : Int32).toNatClampNeg (0 : Int32)))) :: (ow T q (el 1 0 0 0 1 ob_0.2.2.2.2.1.2.2 pr ts tr))) H := hP
  have hD : va_D A ((qv518, .inl (T 0, 4, .inl (upd (upd (fun _ => (0 : Int32)) (0 : Int32).toNatClampNeg (0 : Int32)) (1 : Int32).toNatClampNeg (0 : Int32)))) :: (ow T q (el 1 0 0 0 1 ob_0.2.2.2.2.1.2.2 pr ts tr))) := hD
  refine lv_dup hx hb dL_law_528 rfl ?_
  refine lv_iconst (v := (2 : Int32)) hx hb dL_law_529 (by decide) ?_
  refine lv_iconst (v := (1 : Int32)) hx hb dL_law_530 (by decide) ?_
  refine va_iast hx hb hK hP hD hS 0 0 rfl rfl (zk_lit (by decide +kernel)) dL_law_531 (fun H locs hP hD hS => ?_)
  have hP : va_P D vwCl ((qv518, .inl (T 0, 4, .inl (upd (upd (upd (fun _ => (0 : Int32)) (0 : Int32).toNatClampNeg (0 : Int32)) (1 : Int32).toNatClampNeg (0 : Int32)) (2 : Int32).toNatClampNeg (1 : Int32)))) :: (ow T q (el 1 0 0 0 1 ob_0.2.2.2.2.1.2.2 pr ts tr))) H := hP
  have hD : va_D A ((qv518, .inl (T 0, 4, .inl (upd (upd (upd (fun _ => (0 : Int32)) (0 : Int32).toNatClampNeg (0 : Int32)) (1 : Int32).toNatClampNeg (0 : Int32)) (2 : Int32).toNatClampNeg (1 : Int32)))) :: (ow T q (el 1 0 0 0 1 ob_0.2.2.2.2.1.2.2 pr ts tr))) := hD
  refine lv_dup hx hb dL_law_532 rfl ?_
  refine lv_iconst (v := (3 : Int32)) hx hb dL_law_533 (by decide) ?_
  refine lv_iconst (v := (1 : Int32)) hx hb dL_law_534 (by decide) ?_
  refine va_iast hx hb hK hP hD hS 0 0 rfl rfl (zk_lit (by decide +kernel)) dL_law_535 (fun H locs hP hD hS => ?_)
  have hP : va_P D vwCl ((qv518, .inl (T 0, 4, .inl (upd (upd (upd (upd (fun _ => (0 : Int32)) (0 : Int32).toNatClampNeg (0 : Int32)) (1 : Int32).toNatClampNeg (0 : Int32)) (2 : Int32).toNatClampNeg (1 : Int32)) (3 : Int32).toNatClampNeg (1 : Int32)))) :: (ow T q (el 1 0 0 0 1 ob_0.2.2.2.2.1.2.2 pr ts tr))) H := hP
  have hD : va_D A ((qv518, .inl (T 0, 4, .inl (upd (upd (upd (upd (fun _ => (0 : Int32)) (0 : Int32).toNatClampNeg (0 : Int32)) (1 : Int32).toNatClampNeg (0 : Int32)) (2 : Int32).toNatClampNeg (1 : Int32)) (3 : Int32).toNatClampNeg (1 : Int32)))) :: (ow T q (el 1 0 0 0 1 ob_0.2.2.2.2.1.2.2 pr ts tr))) := hD
  refine lk_ask (ws' := []) (nL := 2) (rw_ := []) (stk := []) (x := el 1 0 0 0 1 ob_0.2.2.2.2.1.2.2 pr ts tr) (o := ((-2000000002 : Int32), el 1 0 0 0 1 ob_0.2.2.2.2.1.2.2 pr ts tr)) (fun sz => a_L l hst D T 3000 q qv518 sz (el 1 0 0 0 1 ob_0.2.2.2.2.1.2.2 pr ts tr) 4 (upd (upd (upd (upd (fun _ => (0 : Int32)) (0 : Int32).toNatClampNeg (0 : Int32)) (1 : Int32).toNatClampNeg (0 : Int32)) (2 : Int32).toNatClampNeg (1 : Int32)) (3 : Int32).toNatClampNeg (1 : Int32)) ((-2000000002 : Int32), el 1 0 0 0 1 ob_0.2.2.2.2.1.2.2 pr ts tr) (el_25 ob_0.2.2.2.2.1.2.2 pr ts tr)) ⟨hx, hb, hml, hown, hts⟩ (vx_cwSW 3 hts gT_ask rfl rfl rfl (by decide +kernel) ⟨(Nat.le_of_ble_eq_true rfl), (Nat.le_of_ble_eq_true rfl)⟩) hK hN hX hNc hS hA (by rw [List.append_nil]; exact hP) (by rw [List.append_nil]; exact hD) hl.1 (Nat.le_of_ble_eq_true rfl) dL_law_536 ⟨(Nat.le_of_ble_eq_true rfl), (Nat.le_of_ble_eq_true rfl)⟩ (fun H locs hP hD hS => ?_)
  rw [List.append_nil] at hP hD
  have hP : va_P D vwCl (ow T q (el 1 0 0 0 1 ob_0.2.2.2.2.1.2.2 pr ts tr)) H := hP
  have hD : va_D A (ow T q (el 1 0 0 0 1 ob_0.2.2.2.2.1.2.2 pr ts tr)) := hD
  refine W.widen (k := 147) (n := 8565) (Nat.le_of_ble_eq_true rfl) (Nat.le_of_ble_eq_true rfl) ?_
  refine lv_ldc (v := (-2000000002 : Int32)) hx hb hown (hts _ lm_constant_RL_76_2000000002) dL_law_539 ?_
  refine lv_icmp_ne (tgt := 1394) hx hb dL_law_541 (by decide) (fun c9 => absurd rfl c9) (fun _ => ?_)
  refine lv_aload_n hx hb dL_law_544 rfl (lv_at hl 0 rfl) ?_
  refine lv_bipush (v := (76 : Int32)) hx hb dL_law_545 (by decide) ?_
  refine lv_iconst (v := (4 : Int32)) hx hb dL_law_547 (by decide) ?_
  refine lk_new (N' := 4) hx hb (hts _ lm_arrayClass_int) hK hP hD hS hA (by decide) (by decide +kernel) (Nat.le_of_ble_eq_true rfl) (Nat.le_of_ble_eq_true rfl) (Nat.le_of_ble_eq_true rfl) dL_law_548 (fun qv548 H hP hD hS => ?_)
  refine lv_dup hx hb dL_law_550 rfl ?_
  refine lv_iconst (v := (0 : Int32)) hx hb dL_law_551 (by decide) ?_
  refine lv_iconst (v := (0 : Int32)) hx hb dL_law_552 (by decide) ?_
  refine va_iast hx hb hK hP hD hS 0 0 rfl rfl (zk_lit (by decide +kernel)) dL_law_553 (fun H locs hP hD hS => ?_)
  have hP : va_P D vwCl ((qv548, .inl (T 0, 4, .inl (upd (fun _ => (0 : Int32)) (0 : Int32).toNatClampNeg (0 : Int32)))) :: (ow T q (el 1 0 0 0 1 ob_0.2.2.2.2.1.2.2 pr ts tr))) H := hP
  have hD : va_D A ((qv548, .inl (T 0, 4, .inl (upd (fun _ => (0 : Int32)) (0 : Int32).toNatClampNeg (0 : Int32)))) :: (ow T q (el 1 0 0 0 1 ob_0.2.2.2.2.1.2.2 pr ts tr))) := hD
  refine lv_dup hx hb dL_law_554 rfl ?_
  refine lv_iconst (v := (1 : Int32)) hx hb dL_law_555 (by decide) ?_
  refine lv_iconst (v := (1 : Int32)) hx hb dL_law_556 (by decide) ?_
  refine va_iast hx hb hK hP hD hS 0 0 rfl rfl (zk_lit (by decide +kernel)) dL_law_557 (fun H locs hP hD hS => ?_)
  have hP : va_P D vwCl ((qv548, .inl (T 0, 4, .inl (upd (upd (fun _ => (0 : Int32)) (0 : Int32).toNatClampNeg (0 : Int32)) (1 : Int32).toNatClampNeg (1 : Int32)))) :: (ow T q (el 1 0 0 0 1 ob_0.2.2.2.2.1.2.2 pr ts tr))) H := hP
  have hD : va_D A ((qv548, .inl (T 0, 4, .inl (upd (upd (fun _ => (0 : Int32)) (0 : Int32).toNatClampNeg (0 : Int32)) (1 : Int32).toNatClampNeg (1 : Int32)))) :: (ow T q (el 1 0 0 0 1 ob_0.2.2.2.2.1.2.2 pr ts tr))) := hD
  refine lv_dup hx hb dL_law_558 rfl ?_
  refine lv_iconst (v := (2 : Int32)) hx hb dL_law_559 (by decide) ?_
  refine lv_bipush (v := (31 : Int32)) hx hb dL_law_560 (by decide) ?_
  refine va_iast hx hb hK hP hD hS 0 0 rfl rfl (zk_lit (by decide +kernel)) dL_law_562 (fun H locs hP hD hS => ?_)
  have hP : va_P D vwCl ((qv548, .inl (T 0, 4, .inl (upd (upd (upd (fun _ => (0 : Int32)) (0 : Int32).toNatClampNeg (0 : Int32)) (1 : Int32).toNatClampNeg (1 : Int32)) (2 : Int32).toNatClampNeg (31 : Int32)))) :: (ow T q (el 1 0 0 0 1 ob_0.2.2.2.2.1.2.2 pr ts tr))) H := hP
  have hD : va_D A ((qv548, .inl (T 0, 4, .inl (upd (upd (upd (fun _ => (0 : Int32)) (0 : Int32).toNatClampNeg (0 : Int32)) (1 : Int32).toNatClampNeg (1 : Int32)) (2 : Int32).toNatClampNeg (31 : Int32)))) :: (ow T q (el 1 0 0 0 1 ob_0.2.2.2.2.1.2.2 pr ts tr))) := hD
  refine lv_dup hx hb dL_law_563 rfl ?_
  refine lv_iconst (v := (3 : Int32)) hx hb dL_law_564 (by decide) ?_
  refine lv_iconst (v := (1 : Int32)) hx hb dL_law_565 (by decide) ?_
  refine va_iast hx hb hK hP hD hS 0 0 rfl rfl (zk_lit (by decide +kernel)) dL_law_566 (fun H locs hP hD hS => ?_)
  have hP : va_P D vwCl ((qv548, .inl (T 0, 4, .inl (upd (upd (upd (upd (fun _ => (0 : Int32)) (0 : Int32).toNatClampNeg (0 : Int32)) (1 : Int32).toNatClampNeg (1 : Int32)) (2 : Int32).toNatClampNeg (31 : Int32)) (3 : Int32).toNatClampNeg (1 : Int32)))) :: (ow T q (el 1 0 0 0 1 ob_0.2.2.2.2.1.2.2 pr ts tr))) H := hP
  have hD : va_D A ((qv548, .inl (T 0, 4, .inl (upd (upd (upd (upd (fun _ => (0 : Int32)) (0 : Int32).toNatClampNeg (0 : Int32)) (1 : Int32).toNatClampNeg (1 : Int32)) (2 : Int32).toNatClampNeg (31 : Int32)) (3 : Int32).toNatClampNeg (1 : Int32)))) :: (ow T q (el 1 0 0 0 1 ob_0.2.2.2.2.1.2.2 pr ts tr))) := hD
  refine lk_ask (ws' := []) (nL := 2) (rw_ := []) (stk := []) (x := el 1 0 0 0 1 ob_0.2.2.2.2.1.2.2 pr ts tr) (o := ((-2000000002 : Int32), el 1 0 0 0 1 ob_0.2.2.2.2.1.2.2 pr ts tr)) (fun sz => a_L l hst D T 3000 q qv548 sz (el 1 0 0 0 1 ob_0.2.2.2.2.1.2.2 pr ts tr) 4 (upd (upd (upd (upd (fun _ => (0 : Int32)) (0 : Int32).toNatClampNeg (0 : Int32)) (1 : Int32).toNatClampNeg (1 : Int32)) (2 : Int32).toNatClampNeg (31 : Int32)) (3 : Int32).toNatClampNeg (1 : Int32)) ((-2000000002 : Int32), el 1 0 0 0 1 ob_0.2.2.2.2.1.2.2 pr ts tr) (el_26 ob_0.2.2.2.2.1.2.2 pr ts tr)) ⟨hx, hb, hml, hown, hts⟩ (vx_cwSW 3 hts gT_ask rfl rfl rfl (by decide +kernel) ⟨(Nat.le_of_ble_eq_true rfl), (Nat.le_of_ble_eq_true rfl)⟩) hK hN hX hNc hS hA (by rw [List.append_nil]; exact hP) (by rw [List.append_nil]; exact hD) hl.1 (Nat.le_of_ble_eq_true rfl) dL_law_567 ⟨(Nat.le_of_ble_eq_true rfl), (Nat.le_of_ble_eq_true rfl)⟩ (fun H locs hP hD hS => ?_)
  rw [List.append_nil] at hP hD
  have hP : va_P D vwCl (ow T q (el 1 0 0 0 1 ob_0.2.2.2.2.1.2.2 pr ts tr)) H := hP
  have hD : va_D A (ow T q (el 1 0 0 0 1 ob_0.2.2.2.2.1.2.2 pr ts tr)) := hD
  refine W.widen (k := 152) (n := 8593) (Nat.le_of_ble_eq_true rfl) (Nat.le_of_ble_eq_true rfl) ?_
  refine lv_ldc (v := (-2000000002 : Int32)) hx hb hown (hts _ lm_constant_RL_76_2000000002) dL_law_570 ?_
  refine lv_icmp_ne (tgt := 1394) hx hb dL_law_572 (by decide) (fun c9 => absurd rfl c9) (fun _ => ?_)
  refine lv_aload_n hx hb dL_law_575 rfl (lv_at hl 0 rfl) ?_
  refine lv_bipush (v := (76 : Int32)) hx hb dL_law_576 (by decide) ?_
  refine lv_iconst (v := (4 : Int32)) hx hb dL_law_578 (by decide) ?_
  refine lk_new (N' := 4) hx hb (hts _ lm_arrayClass_int) hK hP hD hS hA (by decide) (by decide +kernel) (Nat.le_of_ble_eq_true rfl) (Nat.le_of_ble_eq_true rfl) (Nat.le_of_ble_eq_true rfl) dL_law_579 (fun qv579 H hP hD hS => ?_)
  refine lv_dup hx hb dL_law_581 rfl ?_
  refine lv_iconst (v := (0 : Int32)) hx hb dL_law_582 (by decide) ?_
  refine lv_iconst (v := (0 : Int32)) hx hb dL_law_583 (by decide) ?_
  refine va_iast hx hb hK hP hD hS 0 0 rfl rfl (zk_lit (by decide +kernel)) dL_law_584 (fun H locs hP hD hS => ?_)
  have hP : va_P D vwCl ((qv579, .inl (T 0, 4, .inl (upd (fun _ => (0 : Int32)) (0 : Int32).toNatClampNeg (0 : Int32)))) :: (ow T q (el 1 0 0 0 1 ob_0.2.2.2.2.1.2.2 pr ts tr))) H := hP
  have hD : va_D A ((qv579, .inl (T 0, 4, .inl (upd (fun _ => (0 : Int32)) (0 : Int32).toNatClampNeg (0 : Int32)))) :: (ow T q (el 1 0 0 0 1 ob_0.2.2.2.2.1.2.2 pr ts tr))) := hD
  refine lv_dup hx hb dL_law_585 rfl ?_
  refine lv_iconst (v := (1 : Int32)) hx hb dL_law_586 (by decide) ?_
  refine lv_iconst (v := (1 : Int32)) hx hb dL_law_587 (by decide) ?_
  refine va_iast hx hb hK hP hD hS 0 0 rfl rfl (zk_lit (by decide +kernel)) dL_law_588 (fun H locs hP hD hS => ?_)
  have hP : va_P D vwCl ((qv579, .inl (T 0, 4, .inl (upd (upd (fun _ => (0 : Int32)) (0 : Int32).toNatClampNeg (0 : Int32)) (1 : Int32).toNatClampNeg (1 : Int32)))) :: (ow T q (el 1 0 0 0 1 ob_0.2.2.2.2.1.2.2 pr ts tr))) H := hP
  have hD : va_D A ((qv579, .inl (T 0, 4, .inl (upd (upd (fun _ => (0 : Int32)) (0 : Int32).toNatClampNeg (0 : Int32)) (1 : Int32).toNatClampNeg (1 : Int32)))) :: (ow T q (el 1 0 0 0 1 ob_0.2.2.2.2.1.2.2 pr ts tr))) := hD
  refine lv_dup hx hb dL_law_589 rfl ?_
  refine lv_iconst (v := (2 : Int32)) hx hb dL_law_590 (by decide) ?_
  refine lv_iconst (v := (1 : Int32)) hx hb dL_law_591 (by decide) ?_
  refine va_iast hx hb hK hP hD hS 0 0 rfl rfl (zk_lit (by decide +kernel)) dL_law_592 (fun H locs hP hD hS => ?_)
  have hP : va_P D vwCl ((qv579, .inl (T 0, 4, .inl (upd (upd (upd (fun _ => (0 : Int32)) (0 : Int32).toNatClampNeg (0 : Int32)) (1 : Int32).toNatClampNeg (1 : Int32)) (2 : Int32).toNatClampNeg (1 : Int32)))) :: (ow T q (el 1 0 0 0 1 ob_0.2.2.2.2.1.2.2 pr ts tr))) H := hP
  have hD : va_D A ((qv579, .inl (T 0, 4, .inl (upd (upd (upd (fun _ => (0 : Int32)) (0 : Int32).toNatClampNeg (0 : Int32)) (1 : Int32).toNatClampNeg (1 : Int32)) (2 : Int32).toNatClampNeg (1 : Int32)))) :: (ow T q (el 1 0 0 0 1 ob_0.2.2.2.2.1.2.2 pr ts tr))) := hD
  refine lv_dup hx hb dL_law_593 rfl ?_
  refine lv_iconst (v := (3 : Int32)) hx hb dL_law_594 (by decide) ?_
  refine lv_bipush (v := (10 : Int32)) hx hb dL_law_595 (by decide) ?_
  refine va_iast hx hb hK hP hD hS 0 0 rfl rfl (zk_lit (by decide +kernel)) dL_law_597 (fun H locs hP hD hS => ?_)
  have hP : va_P D vwCl ((qv579, .inl (T 0, 4, .inl (upd (upd (upd (upd (fun _ => (0 : Int32)) (0 : Int32).toNatClampNeg (0 : Int32)) (1 : Int32).toNatClampNeg (1 : Int32)) (2 : Int32).toNatClampNeg (1 : Int32)) (3 : Int32).toNatClampNeg (10 : Int32)))) :: (ow T q (el 1 0 0 0 1 ob_0.2.2.2.2.1.2.2 pr ts tr))) H := hP
  have hD : va_D A ((qv579, .inl (T 0, 4, .inl (upd (upd (upd (upd (fun _ => (0 : Int32)) (0 : Int32).toNatClampNeg (0 : Int32)) (1 : Int32).toNatClampNeg (1 : Int32)) (2 : Int32).toNatClampNeg (1 : Int32)) (3 : Int32).toNatClampNeg (10 : Int32)))) :: (ow T q (el 1 0 0 0 1 ob_0.2.2.2.2.1.2.2 pr ts tr))) := hD
  refine lk_ask (ws' := []) (nL := 2) (rw_ := []) (stk := []) (x := el 1 0 0 0 1 ob_0.2.2.2.2.1.2.2 pr ts tr) (o := ((-2000000002 : Int32), el 1 0 0 0 1 ob_0.2.2.2.2.1.2.2 pr ts tr)) (fun sz => a_L l hst D T 3000 q qv579 sz (el 1 0 0 0 1 ob_0.2.2.2.2.1.2.2 pr ts tr) 4 (upd (upd (upd (upd (fun _ => (0 : Int32)) (0 : Int32).toNatClampNeg (0 : Int32)) (1 : Int32).toNatClampNeg (1 : Int32)) (2 : Int32).toNatClampNeg (1 : Int32)) (3 : Int32).toNatClampNeg (10 : Int32)) ((-2000000002 : Int32), el 1 0 0 0 1 ob_0.2.2.2.2.1.2.2 pr ts tr) (el_27 ob_0.2.2.2.2.1.2.2 pr ts tr)) ⟨hx, hb, hml, hown, hts⟩ (vx_cwSW 3 hts gT_ask rfl rfl rfl (by decide +kernel) ⟨(Nat.le_of_ble_eq_true rfl), (Nat.le_of_ble_eq_true rfl)⟩) hK hN hX hNc hS hA (by rw [List.append_nil]; exact hP) (by rw [List.append_nil]; exact hD) hl.1 (Nat.le_of_ble_eq_true rfl) dL_law_598 ⟨(Nat.le_of_ble_eq_true rfl), (Nat.le_of_ble_eq_true rfl)⟩ (fun H locs hP hD hS => ?_)
  rw [List.append_nil] at hP hD
  have hP : va_P D vwCl (ow T q (el 1 0 0 0 1 ob_0.2.2.2.2.1.2.2 pr ts tr)) H := hP
  have hD : va_D A (ow T q (el 1 0 0 0 1 ob_0.2.2.2.2.1.2.2 pr ts tr)) := hD
  refine W.widen (k := 157) (n := 8621) (Nat.le_of_ble_eq_true rfl) (Nat.le_of_ble_eq_true rfl) ?_
  refine lv_ldc (v := (-2000000002 : Int32)) hx hb hown (hts _ lm_constant_RL_76_2000000002) dL_law_601 ?_
  refine lv_icmp_ne (tgt := 1394) hx hb dL_law_603 (by decide) (fun c9 => absurd rfl c9) (fun _ => ?_)
  refine lv_aload_n hx hb dL_law_606 rfl (lv_at hl 0 rfl) ?_
  refine lv_bipush (v := (67 : Int32)) hx hb dL_law_607 (by decide) ?_
  refine lv_iconst (v := (1 : Int32)) hx hb dL_law_609 (by decide) ?_
  refine lk_new (N' := 1) hx hb (hts _ lm_arrayClass_int) hK hP hD hS hA (by decide) (by decide +kernel) (Nat.le_of_ble_eq_true rfl) (Nat.le_of_ble_eq_true rfl) (Nat.le_of_ble_eq_true rfl) dL_law_610 (fun qv610 H hP hD hS => ?_)
  refine lv_dup hx hb dL_law_612 rfl ?_
  refine lv_iconst (v := (0 : Int32)) hx hb dL_law_613 (by decide) ?_
  refine lv_iconst (v := (0 : Int32)) hx hb dL_law_614 (by decide) ?_
  refine va_iast hx hb hK hP hD hS 0 0 rfl rfl (zk_lit (by decide +kernel)) dL_law_615 (fun H locs hP hD hS => ?_)
  have hP : va_P D vwCl ((qv610, .inl (T 0, 1, .inl (upd (fun _ => (0 : Int32)) (0 : Int32).toNatClampNeg (0 : Int32)))) :: (ow T q (el 1 0 0 0 1 ob_0.2.2.2.2.1.2.2 pr ts tr))) H := hP
  have hD : va_D A ((qv610, .inl (T 0, 1, .inl (upd (fun _ => (0 : Int32)) (0 : Int32).toNatClampNeg (0 : Int32)))) :: (ow T q (el 1 0 0 0 1 ob_0.2.2.2.2.1.2.2 pr ts tr))) := hD
  refine lk_ask (ws' := []) (nL := 2) (rw_ := []) (stk := []) (x := el 1 0 0 0 1 ob_0.2.2.2.2.1.2.2 pr ts tr) (o := ((-2000000001 : Int32), el 1 0 0 0 1 ob_0.2.2.2.2.1.2.2 pr ts tr)) (fun sz => a_C l hst D T 3000 q qv610 sz (el 1 0 0 0 1 ob_0.2.2.2.2.1.2.2 pr ts tr) 1 (upd (fun _ => (0 : Int32)) (0 : Int32).toNatClampNeg (0 : Int32)) ((-2000000001 : Int32), el 1 0 0 0 1 ob_0.2.2.2.2.1.2.2 pr ts tr) (el_28 ob_0.2.2.2.2.1.2.2 pr ts tr)) ⟨hx, hb, hml, hown, hts⟩ (vx_cwSW 3 hts gT_ask rfl rfl rfl (by decide +kernel) ⟨(Nat.le_of_ble_eq_true rfl), (Nat.le_of_ble_eq_true rfl)⟩) hK hN hX hNc hS hA (by rw [List.append_nil]; exact hP) (by rw [List.append_nil]; exact hD) hl.1 (Nat.le_of_ble_eq_true rfl) dL_law_616 ⟨(Nat.le_of_ble_eq_true rfl), (Nat.le_of_ble_eq_true rfl)⟩ (fun H locs hP hD hS => ?_)
  rw [List.append_nil] at hP hD
  have hP : va_P D vwCl (ow T q (el 1 0 0 0 1 ob_0.2.2.2.2.1.2.2 pr ts tr)) H := hP
  have hD : va_D A (ow T q (el 1 0 0 0 1 ob_0.2.2.2.2.1.2.2 pr ts tr)) := hD
  refine W.widen (k := 159) (n := 8628) (Nat.le_of_ble_eq_true rfl) (Nat.le_of_ble_eq_true rfl) ?_
  refine lv_ldc (v := (-2000000001 : Int32)) hx hb hown (hts _ lm_constant_RL_73_2000000001) dL_law_619 ?_
  refine lv_icmp_ne (tgt := 1394) hx hb dL_law_621 (by decide) (fun c9 => absurd rfl c9) (fun _ => ?_)
  refine lv_aload_n hx hb dL_law_624 rfl (lv_at hl 0 rfl) ?_
  refine lv_bipush (v := (78 : Int32)) hx hb dL_law_625 (by decide) ?_
  refine lv_iconst (v := (3 : Int32)) hx hb dL_law_627 (by decide) ?_
  refine lk_new (N' := 3) hx hb (hts _ lm_arrayClass_int) hK hP hD hS hA (by decide) (by decide +kernel) (Nat.le_of_ble_eq_true rfl) (Nat.le_of_ble_eq_true rfl) (Nat.le_of_ble_eq_true rfl) dL_law_628 (fun qv628 H hP hD hS => ?_)
  refine lv_dup hx hb dL_law_630 rfl ?_
  refine lv_iconst (v := (0 : Int32)) hx hb dL_law_631 (by decide) ?_
  refine lv_bipush (v := (120 : Int32)) hx hb dL_law_632 (by decide) ?_
  refine va_iast hx hb hK hP hD hS 0 0 rfl rfl (zk_lit (by decide +kernel)) dL_law_634 (fun H locs hP hD hS => ?_)
  have hP : va_P D vwCl ((qv628, .inl (T 0, 3, .inl (upd (fun _ => (0 : Int32)) (0 : Int32).toNatClampNeg (120 : Int32)))) :: (ow T q (el 1 0 0 0 1 ob_0.2.2.2.2.1.2.2 pr ts tr))) H := hP
  have hD : va_D A ((qv628, .inl (T 0, 3, .inl (upd (fun _ => (0 : Int32)) (0 : Int32).toNatClampNeg (120 : Int32)))) :: (ow T q (el 1 0 0 0 1 ob_0.2.2.2.2.1.2.2 pr ts tr))) := hD
  refine lv_dup hx hb dL_law_635 rfl ?_
  refine lv_iconst (v := (1 : Int32)) hx hb dL_law_636 (by decide) ?_
  refine lv_iconst (v := (1 : Int32)) hx hb dL_law_637 (by decide) ?_
  refine va_iast hx hb hK hP hD hS 0 0 rfl rfl (zk_lit (by decide +kernel)) dL_law_638 (fun H locs hP hD hS => ?_)
  have hP : va_P D vwCl ((qv628, .inl (T 0, 3, .inl (upd (upd (fun _ => (0 : Int32)) (0 : Int32).toNatClampNeg (120 : Int32)) (1 : Int32).toNatClampNeg (1 : Int32)))) :: (ow T q (el 1 0 0 0 1 ob_0.2.2.2.2.1.2.2 pr ts tr))) H := hP
  have hD : va_D A ((qv628, .inl (T 0, 3, .inl (upd (upd (fun _ => (0 : Int32)) (0 : Int32).toNatClampNeg (120 : Int32)) (1 : Int32).toNatClampNeg (1 : Int32)))) :: (ow T q (el 1 0 0 0 1 ob_0.2.2.2.2.1.2.2 pr ts tr))) := hD
  refine lv_dup hx hb dL_law_639 rfl ?_
  refine lv_iconst (v := (2 : Int32)) hx hb dL_law_640 (by decide) ?_
  refine lv_iconst (v := (1 : Int32)) hx hb dL_law_641 (by decide) ?_
  refine va_iast hx hb hK hP hD hS 0 0 rfl rfl (zk_lit (by decide +kernel)) dL_law_642 (fun H locs hP hD hS => ?_)
  have hP : va_P D vwCl ((qv628, .inl (T 0, 3, .inl (upd (upd (upd (fun _ => (0 : Int32)) (0 : Int32).toNatClampNeg (120 : Int32)) (1 : Int32).toNatClampNeg (1 : Int32)) (2 : Int32).toNatClampNeg (1 : Int32)))) :: (ow T q (el 1 0 0 0 1 ob_0.2.2.2.2.1.2.2 pr ts tr))) H := hP
  have hD : va_D A ((qv628, .inl (T 0, 3, .inl (upd (upd (upd (fun _ => (0 : Int32)) (0 : Int32).toNatClampNeg (120 : Int32)) (1 : Int32).toNatClampNeg (1 : Int32)) (2 : Int32).toNatClampNeg (1 : Int32)))) :: (ow T q (el 1 0 0 0 1 ob_0.2.2.2.2.1.2.2 pr ts tr))) := hD
  refine lk_ask (ws' := []) (nL := 2) (rw_ := []) (stk := []) (x := el 1 0 0 0 1 ob_0.2.2.2.2.1.2.2 pr ts tr) (o := ((-2000000002 : Int32), el 1 0 0 0 1 ob_0.2.2.2.2.1.2.2 pr ts tr)) (fun sz => a_N l hst D T 3000 q qv628 sz (el 1 0 0 0 1 ob_0.2.2.2.2.1.2.2 pr ts tr) 3 (upd (upd (upd (fun _ => (0 : Int32)) (0 : Int32).toNatClampNeg (120 : Int32)) (1 : Int32).toNatClampNeg (1 : Int32)) (2 : Int32).toNatClampNeg (1 : Int32)) ((-2000000002 : Int32), el 1 0 0 0 1 ob_0.2.2.2.2.1.2.2 pr ts tr) (el_29 ob_0.2.2.2.2.1.2.2 pr ts tr)) ⟨hx, hb, hml, hown, hts⟩ (vx_cwSW 3 hts gT_ask rfl rfl rfl (by decide +kernel) ⟨(Nat.le_of_ble_eq_true rfl), (Nat.le_of_ble_eq_true rfl)⟩) hK hN hX hNc hS hA (by rw [List.append_nil]; exact hP) (by rw [List.append_nil]; exact hD) hl.1 (Nat.le_of_ble_eq_true rfl) dL_law_643 ⟨(Nat.le_of_ble_eq_true rfl), (Nat.le_of_ble_eq_true rfl)⟩ (fun H locs hP hD hS => ?_)
  rw [List.append_nil] at hP hD
  have hP : va_P D vwCl (ow T q (el 1 0 0 0 1 ob_0.2.2.2.2.1.2.2 pr ts tr)) H := hP
  have hD : va_D A (ow T q (el 1 0 0 0 1 ob_0.2.2.2.2.1.2.2 pr ts tr)) := hD
  refine W.widen (k := 163) (n := 8649) (Nat.le_of_ble_eq_true rfl) (Nat.le_of_ble_eq_true rfl) ?_
  refine lv_ldc (v := (-2000000002 : Int32)) hx hb hown (hts _ lm_constant_RL_76_2000000002) dL_law_646 ?_
  refine lv_icmp_ne (tgt := 1394) hx hb dL_law_648 (by decide) (fun c9 => absurd rfl c9) (fun _ => ?_)
  refine lv_aload_n hx hb dL_law_651 rfl (lv_at hl 0 rfl) ?_
  refine lv_bipush (v := (78 : Int32)) hx hb dL_law_652 (by decide) ?_
  refine lv_iconst (v := (3 : Int32)) hx hb dL_law_654 (by decide) ?_
  refine lk_new (N' := 3) hx hb (hts _ lm_arrayClass_int) hK hP hD hS hA (by decide) (by decide +kernel) (Nat.le_of_ble_eq_true rfl) (Nat.le_of_ble_eq_true rfl) (Nat.le_of_ble_eq_true rfl) dL_law_655 (fun qv655 H hP hD hS => ?_)
  refine lv_dup hx hb dL_law_657 rfl ?_
  refine lv_iconst (v := (0 : Int32)) hx hb dL_law_658 (by decide) ?_
  refine lv_bipush (v := (114 : Int32)) hx hb dL_law_659 (by decide) ?_
  refine va_iast hx hb hK hP hD hS 0 0 rfl rfl (zk_lit (by decide +kernel)) dL_law_661 (fun H locs hP hD hS => ?_)
  have hP : va_P D vwCl ((qv655, .inl (T 0, 3, .inl (upd (fun _ => (0 : Int32)) (0 : Int32).toNatClampNeg (114 : Int32)))) :: (ow T q (el 1 0 0 0 1 ob_0.2.2.2.2.1.2.2 pr ts tr))) H := hP
  have hD : va_D A ((qv655, .inl (T 0, 3, .inl (upd (fun _ => (0 : Int32)) (0 : Int32).toNatClampNeg (114 : Int32)))) :: (ow T q (el 1 0 0 0 1 ob_0.2.2.2.2.1.2.2 pr ts tr))) := hD
  refine lv_dup hx hb dL_law_662 rfl ?_
  refine lv_iconst (v := (1 : Int32)) hx hb dL_law_663 (by decide) ?_
  refine lv_iconst (v := (0 : Int32)) hx hb dL_law_664 (by decide) ?_
  refine va_iast hx hb hK hP hD hS 0 0 rfl rfl (zk_lit (by decide +kernel)) dL_law_665 (fun H locs hP hD hS => ?_)
  have hP : va_P D vwCl ((qv655, .inl (T 0, 3, .inl (upd (upd (fun _ => (0 : Int32)) (0 : Int32).toNatClampNeg (114 : Int32)) (1 : Int32).toNatClampNeg (0 : Int32)))) :: (ow T q (el 1 0 0 0 1 ob_0.2.2.2.2.1.2.2 pr ts tr))) H := hP
  have hD : va_D A ((qv655, .inl (T 0, 3, .inl (upd (upd (fun _ => (0 : Int32)) (0 : Int32).toNatClampNeg (114 : Int32)) (1 : Int32).toNatClampNeg (0 : Int32)))) :: (ow T q (el 1 0 0 0 1 ob_0.2.2.2.2.1.2.2 pr ts tr))) := hD
  refine lv_dup hx hb dL_law_666 rfl ?_
  refine lv_iconst (v := (2 : Int32)) hx hb dL_law_667 (by decide) ?_
  refine lv_iconst (v := (1 : Int32)) hx hb dL_law_668 (by decide) ?_
  refine va_iast hx hb hK hP hD hS 0 0 rfl rfl (zk_lit (by decide +kernel)) dL_law_669 (fun H locs hP hD hS => ?_)
  have hP : va_P D vwCl ((qv655, .inl (T 0, 3, .inl (upd (upd (upd (fun _ => (0 : Int32)) (0 : Int32).toNatClampNeg (114 : Int32)) (1 : Int32).toNatClampNeg (0 : Int32)) (2 : Int32).toNatClampNeg (1 : Int32)))) :: (ow T q (el 1 0 0 0 1 ob_0.2.2.2.2.1.2.2 pr ts tr))) H := hP
  have hD : va_D A ((qv655, .inl (T 0, 3, .inl (upd (upd (upd (fun _ => (0 : Int32)) (0 : Int32).toNatClampNeg (114 : Int32)) (1 : Int32).toNatClampNeg (0 : Int32)) (2 : Int32).toNatClampNeg (1 : Int32)))) :: (ow T q (el 1 0 0 0 1 ob_0.2.2.2.2.1.2.2 pr ts tr))) := hD
  refine lk_ask (ws' := []) (nL := 2) (rw_ := []) (stk := []) (x := el 1 0 0 0 1 ob_0.2.2.2.2.1.2.2 pr ts tr) (o := ((-2000000002 : Int32), el 1 0 0 0 1 ob_0.2.2.2.2.1.2.2 pr ts tr)) (fun sz => a_N l hst D T 3000 q qv655 sz (el 1 0 0 0 1 ob_0.2.2.2.2.1.2.2 pr ts tr) 3 (upd (upd (upd (fun _ => (0 : Int32)) (0 : Int32).toNatClampNeg (114 : Int32)) (1 : Int32).toNatClampNeg (0 : Int32)) (2 : Int32).toNatClampNeg (1 : Int32)) ((-2000000002 : Int32), el 1 0 0 0 1 ob_0.2.2.2.2.1.2.2 pr ts tr) (el_30 ob_0.2.2.2.2.1.2.2 pr ts tr)) ⟨hx, hb, hml, hown, hts⟩ (vx_cwSW 3 hts gT_ask rfl rfl rfl (by decide +kernel) ⟨(Nat.le_of_ble_eq_true rfl), (Nat.le_of_ble_eq_true rfl)⟩) hK hN hX hNc hS hA (by rw [List.append_nil]; exact hP) (by rw [List.append_nil]; exact hD) hl.1 (Nat.le_of_ble_eq_true rfl) dL_law_670 ⟨(Nat.le_of_ble_eq_true rfl), (Nat.le_of_ble_eq_true rfl)⟩ (fun H locs hP hD hS => ?_)
  rw [List.append_nil] at hP hD
  have hP : va_P D vwCl (ow T q (el 1 0 0 0 1 ob_0.2.2.2.2.1.2.2 pr ts tr)) H := hP
  have hD : va_D A (ow T q (el 1 0 0 0 1 ob_0.2.2.2.2.1.2.2 pr ts tr)) := hD
  refine W.widen (k := 167) (n := 8670) (Nat.le_of_ble_eq_true rfl) (Nat.le_of_ble_eq_true rfl) ?_
  refine lv_ldc (v := (-2000000002 : Int32)) hx hb hown (hts _ lm_constant_RL_76_2000000002) dL_law_673 ?_
  refine lv_icmp_ne (tgt := 1394) hx hb dL_law_675 (by decide) (fun c9 => absurd rfl c9) (fun _ => ?_)
  refine lv_aload_n hx hb dL_law_678 rfl (lv_at hl 0 rfl) ?_
  refine lv_bipush (v := (78 : Int32)) hx hb dL_law_679 (by decide) ?_
  refine lv_iconst (v := (3 : Int32)) hx hb dL_law_681 (by decide) ?_
  refine lk_new (N' := 3) hx hb (hts _ lm_arrayClass_int) hK hP hD hS hA (by decide) (by decide +kernel) (Nat.le_of_ble_eq_true rfl) (Nat.le_of_ble_eq_true rfl) (Nat.le_of_ble_eq_true rfl) dL_law_682 (fun qv682 H hP hD hS => ?_)
  refine lv_dup hx hb dL_law_684 rfl ?_
  refine lv_iconst (v := (0 : Int32)) hx hb dL_law_685 (by decide) ?_
  refine lv_bipush (v := (114 : Int32)) hx hb dL_law_686 (by decide) ?_
  refine va_iast hx hb hK hP hD hS 0 0 rfl rfl (zk_lit (by decide +kernel)) dL_law_688 (fun H locs hP hD hS => ?_)
  have hP : va_P D vwCl ((qv682, .inl (T 0, 3, .inl (upd (fun _ => (0 : Int32)) (0 : Int32).toNatClampNeg (114 : Int32)))) :: (ow T q (el 1 0 0 0 1 ob_0.2.2.2.2.1.2.2 pr ts tr))) H := hP
  have hD : va_D A ((qv682, .inl (T 0, 3, .inl (upd (fun _ => (0 : Int32)) (0 : Int32).toNatClampNeg (114 : Int32)))) :: (ow T q (el 1 0 0 0 1 ob_0.2.2.2.2.1.2.2 pr ts tr))) := hD
  refine lv_dup hx hb dL_law_689 rfl ?_
  refine lv_iconst (v := (1 : Int32)) hx hb dL_law_690 (by decide) ?_
  refine lv_iconst (v := (1 : Int32)) hx hb dL_law_691 (by decide) ?_
  refine va_iast hx hb hK hP hD hS 0 0 rfl rfl (zk_lit (by decide +kernel)) dL_law_692 (fun H locs hP hD hS => ?_)
  have hP : va_P D vwCl ((qv682, .inl (T 0, 3, .inl (upd (upd (fun _ => (0 : Int32)) (0 : Int32).toNatClampNeg (114 : Int32)) (1 : Int32).toNatClampNeg (1 : Int32)))) :: (ow T q (el 1 0 0 0 1 ob_0.2.2.2.2.1.2.2 pr ts tr))) H := hP
  have hD : va_D A ((qv682, .inl (T 0, 3, .inl (upd (upd (fun _ => (0 : Int32)) (0 : Int32).toNatClampNeg (114 : Int32)) (1 : Int32).toNatClampNeg (1 : Int32)))) :: (ow T q (el 1 0 0 0 1 ob_0.2.2.2.2.1.2.2 pr ts tr))) := hD
  refine lv_dup hx hb dL_law_693 rfl ?_
  refine lv_iconst (v := (2 : Int32)) hx hb dL_law_694 (by decide) ?_
  refine lv_iconst (v := (1 : Int32)) hx hb dL_law_695 (by decide) ?_
  refine va_iast hx hb hK hP hD hS 0 0 rfl rfl (zk_lit (by decide +kernel)) dL_law_696 (fun H locs hP hD hS => ?_)
  have hP : va_P D vwCl ((qv682, .inl (T 0, 3, .inl (upd (upd (upd (fun _ => (0 : Int32)) (0 : Int32).toNatClampNeg (114 : Int32)) (1 : Int32).toNatClampNeg (1 : Int32)) (2 : Int32).toNatClampNeg (1 : Int32)))) :: (ow T q (el 1 0 0 0 1 ob_0.2.2.2.2.1.2.2 pr ts tr))) H := hP
  have hD : va_D A ((qv682, .inl (T 0, 3, .inl (upd (upd (upd (fun _ => (0 : Int32)) (0 : Int32).toNatClampNeg (114 : Int32)) (1 : Int32).toNatClampNeg (1 : Int32)) (2 : Int32).toNatClampNeg (1 : Int32)))) :: (ow T q (el 1 0 0 0 1 ob_0.2.2.2.2.1.2.2 pr ts tr))) := hD
  refine lk_ask (ws' := []) (nL := 2) (rw_ := []) (stk := []) (x := el 1 0 0 0 1 ob_0.2.2.2.2.1.2.2 pr ts tr) (o := ((-2000000004 : Int32), el 1 0 0 0 1 ob_0.2.2.2.2.1.2.2 pr ts tr)) (fun sz => a_N l hst D T 3000 q qv682 sz (el 1 0 0 0 1 ob_0.2.2.2.2.1.2.2 pr ts tr) 3 (upd (upd (upd (fun _ => (0 : Int32)) (0 : Int32).toNatClampNeg (114 : Int32)) (1 : Int32).toNatClampNeg (1 : Int32)) (2 : Int32).toNatClampNeg (1 : Int32)) ((-2000000004 : Int32), el 1 0 0 0 1 ob_0.2.2.2.2.1.2.2 pr ts tr) (el_31 ob_0.2.2.2.2.1.2.2 pr ts tr)) ⟨hx, hb, hml, hown, hts⟩ (vx_cwSW 3 hts gT_ask rfl rfl rfl (by decide +kernel) ⟨(Nat.le_of_ble_eq_true rfl), (Nat.le_of_ble_eq_true rfl)⟩) hK hN hX hNc hS hA (by rw [List.append_nil]; exact hP) (by rw [List.append_nil]; exact hD) hl.1 (Nat.le_of_ble_eq_true rfl) dL_law_697 ⟨(Nat.le_of_ble_eq_true rfl), (Nat.le_of_ble_eq_true rfl)⟩ (fun H locs hP hD hS => ?_)
  rw [List.append_nil] at hP hD
  have hP : va_P D vwCl (ow T q (el 1 0 0 0 1 ob_0.2.2.2.2.1.2.2 pr ts tr)) H := hP
  have hD : va_D A (ow T q (el 1 0 0 0 1 ob_0.2.2.2.2.1.2.2 pr ts tr)) := hD
  refine W.widen (k := 171) (n := 8691) (Nat.le_of_ble_eq_true rfl) (Nat.le_of_ble_eq_true rfl) ?_
  refine lv_ldc (v := (-2000000004 : Int32)) hx hb hown (hts _ lm_constant_RL_82_2000000004) dL_law_700 ?_
  refine lv_icmp_ne (tgt := 1394) hx hb dL_law_702 (by decide) (fun c9 => absurd rfl c9) (fun _ => ?_)
  refine lv_aload_n hx hb dL_law_705 rfl (lv_at hl 0 rfl) ?_
  refine lv_bipush (v := (82 : Int32)) hx hb dL_law_706 (by decide) ?_
  refine lv_iconst (v := (1 : Int32)) hx hb dL_law_708 (by decide) ?_
  refine lk_new (N' := 1) hx hb (hts _ lm_arrayClass_int) hK hP hD hS hA (by decide) (by decide +kernel) (Nat.le_of_ble_eq_true rfl) (Nat.le_of_ble_eq_true rfl) (Nat.le_of_ble_eq_true rfl) dL_law_709 (fun qv709 H hP hD hS => ?_)
  refine lv_dup hx hb dL_law_711 rfl ?_
  refine lv_iconst (v := (0 : Int32)) hx hb dL_law_712 (by decide) ?_
  refine lv_iconst (v := (0 : Int32)) hx hb dL_law_713 (by decide) ?_
  refine va_iast hx hb hK hP hD hS 0 0 rfl rfl (zk_lit (by decide +kernel)) dL_law_714 (fun H locs hP hD hS => ?_)
  have hP : va_P D vwCl ((qv709, .inl (T 0, 1, .inl (upd (fun _ => (0 : Int32)) (0 : Int32).toNatClampNeg (0 : Int32)))) :: (ow T q (el 1 0 0 0 1 ob_0.2.2.2.2.1.2.2 pr ts tr))) H := hP
  have hD : va_D A ((qv709, .inl (T 0, 1, .inl (upd (fun _ => (0 : Int32)) (0 : Int32).toNatClampNeg (0 : Int32)))) :: (ow T q (el 1 0 0 0 1 ob_0.2.2.2.2.1.2.2 pr ts tr))) := hD
  refine lk_ask (ws' := []) (nL := 2) (rw_ := []) (stk := []) (x := el 1 0 0 0 1 ob_0.2.2.2.2.1.2.2 pr ts tr) (o := ((-2000000002 : Int32), el 1 0 0 0 1 ob_0.2.2.2.2.1.2.2 pr ts tr)) (fun sz => a_R l hst D T 3000 q qv709 sz (el 1 0 0 0 1 ob_0.2.2.2.2.1.2.2 pr ts tr) 1 (upd (fun _ => (0 : Int32)) (0 : Int32).toNatClampNeg (0 : Int32)) ((-2000000002 : Int32), el 1 0 0 0 1 ob_0.2.2.2.2.1.2.2 pr ts tr) (el_32 ob_0.2.2.2.2.1.2.2 pr ts tr)) ⟨hx, hb, hml, hown, hts⟩ (vx_cwSW 3 hts gT_ask rfl rfl rfl (by decide +kernel) ⟨(Nat.le_of_ble_eq_true rfl), (Nat.le_of_ble_eq_true rfl)⟩) hK hN hX hNc hS hA (by rw [List.append_nil]; exact hP) (by rw [List.append_nil]; exact hD) hl.1 (Nat.le_of_ble_eq_true rfl) dL_law_715 ⟨(Nat.le_of_ble_eq_true rfl), (Nat.le_of_ble_eq_true rfl)⟩ (fun H locs hP hD hS => ?_)
  rw [List.append_nil] at hP hD
  have hP : va_P D vwCl (ow T q (el 1 0 0 0 1 ob_0.2.2.2.2.1.2.2 pr ts tr)) H := hP
  have hD : va_D A (ow T q (el 1 0 0 0 1 ob_0.2.2.2.2.1.2.2 pr ts tr)) := hD
  refine W.widen (k := 173) (n := 8698) (Nat.le_of_ble_eq_true rfl) (Nat.le_of_ble_eq_true rfl) ?_
  refine lv_ldc (v := (-2000000002 : Int32)) hx hb hown (hts _ lm_constant_RL_76_2000000002) dL_law_718 ?_
  refine lv_icmp_ne (tgt := 1394) hx hb dL_law_720 (by decide) (fun c9 => absurd rfl c9) (fun _ => ?_)
  exact kk pr ts tr H locs hP hD hS

/-! rows of mine: the law's first calls, in pieces -/
set_option maxHeartbeats 16000000 in
set_option maxRecDepth 100000 in
theorem law_s3 {p : Program} {l : Launch} {e : Env} {s : State} {m : MethodId} {below : List Frame} {meth : Method} {c : Code} {Q : State → Prop} {A : Nat → Prop} {D : va_G} {T : Nat → ClassId} {q : Nat → Nat} {b : Nat} {ls : Array Slot} (hst : l.stackTraces = false) (hx : p.tables.exec = Jvm.exec) (hb : c.code = cL_law) (hml : c.maxLocals = 2) (hown : s.vm.findClass RL = some m.cls) (hts : ∀ w ∈ lw_tbl, w.before #[Value.ref b] s = true) (hA : ∀ q : Nat, s.heap.size ≤ q → A q) (hK : va_K D vwCl (zk_ty T) s) (hN : zk_N s) (hX : zx_K A s s.heap) (hNc : zn_K s) (hl : lv_has ls 2 [(1, .ref (q 0)), (0, .ref b)]) {pr : (Int32 × Int32 × Int32 × (Nat → Int32) × (Nat → Int32) × (Nat → Int32) × (Nat → Int32) × (Nat → Int32) × (Nat → Int32) × (Nat → Int32) × (Nat → Int32))} {ts : (Int32 × (Nat → Int32) × (Nat → Int32))} {tr : (Int32 × Int32 × (Nat → Int32) × (Nat → Int32) × (Int32 × (Nat → Int32) × (Nat → Int32)) × (Int32 × (Nat → Int32) × (Nat → Int32)))} {H : Heap} {locs : List Loc} (hP : va_P D vwCl (ow T q (el 1 0 0 0 1 ob_0.2.2.2.2.1.2.2 pr ts tr)) H) (hD : va_D A (ow T q (el 1 0 0 0 1 ob_0.2.2.2.2.1.2.2 pr ts tr))) (hS : va_S A s.heap H locs) (kk : ∀ (pr : (Int32 × Int32 × Int32 × (Nat → Int32) × (Nat → Int32) × (Nat → Int32) × (Nat → Int32) × (Nat → Int32) × (Nat → Int32) × (Nat → Int32) × (Nat → Int32))) (ts : (Int32 × (Nat → Int32) × (Nat → Int32))) (tr : (Int32 × Int32 × (Nat → Int32) × (Nat → Int32) × (Int32 × (Nat → Int32) × (Nat → Int32)) × (Int32 × (Nat → Int32) × (Nat → Int32)))) (H : Heap) (locs : List Loc), va_P D vwCl (ow T q (el 1 0 0 0 1 ob_0.2.2.2.2.1.2.2 pr ts tr)) H → va_D A (ow T q (el 1 0 0 0 1 ob_0.2.2.2.2.1.2.2 pr ts tr)) → va_S A s.heap H locs → W p l e room_1 s m #[Value.ref b] below meth c H locs 142 8537 Q (F0 m 514 ls [])) : W p l e room_1 s m #[Value.ref b] below meth c H locs 103 8332 Q (F0 m 322 ls []) := by
  refine lv_aload_n hx hb dL_law_322 rfl (lv_at hl 0 rfl) ?_
  refine lv_bipush (v := (112 : Int32)) hx hb dL_law_323 (by decide) ?_
  refine lv_iconst (v := (1 : Int32)) hx hb dL_law_325 (by decide) ?_
  refine lk_new (N' := 1) hx hb (hts _ lm_arrayClass_int) hK hP hD hS hA (by decide) (by decide +kernel) (Nat.le_of_ble_eq_true rfl) (Nat.le_of_ble_eq_true rfl) (Nat.le_of_ble_eq_true rfl) dL_law_326 (fun qv326 H hP hD hS => ?_)
  refine lv_dup hx hb dL_law_328 rfl ?_
  refine lv_iconst (v := (0 : Int32)) hx hb dL_law_329 (by decide) ?_
  refine lv_bipush (v := (20 : Int32)) hx hb dL_law_330 (by decide) ?_
  refine va_iast hx hb hK hP hD hS 0 0 rfl rfl (zk_lit (by decide +kernel)) dL_law_332 (fun H locs hP hD hS => ?_)
  have hP : va_P D vwCl ((qv326, .inl (T 0, 1, .inl (upd (fun _ => (0 : Int32)) (0 : Int32).toNatClampNeg (20 : Int32)))) :: (ow T q (el 1 0 0 0 1 ob_0.2.2.2.2.1.2.2 pr ts tr))) H := hP
  have hD : va_D A ((qv326, .inl (T 0, 1, .inl (upd (fun _ => (0 : Int32)) (0 : Int32).toNatClampNeg (20 : Int32)))) :: (ow T q (el 1 0 0 0 1 ob_0.2.2.2.2.1.2.2 pr ts tr))) := hD
  refine lk_ask (ws' := []) (nL := 2) (rw_ := []) (stk := []) (x := el 1 0 0 0 1 ob_0.2.2.2.2.1.2.2 pr ts tr) (o := ((-2000000001 : Int32), el 1 0 0 0 1 ob_0.2.2.2.2.1.2.2 pr ts tr)) (fun sz => a_p l hst D T 3000 q qv326 sz (el 1 0 0 0 1 ob_0.2.2.2.2.1.2.2 pr ts tr) 1 (upd (fun _ => (0 : Int32)) (0 : Int32).toNatClampNeg (20 : Int32)) ((-2000000001 : Int32), el 1 0 0 0 1 ob_0.2.2.2.2.1.2.2 pr ts tr) (el_17 ob_0.2.2.2.2.1.2.2 pr ts tr)) ⟨hx, hb, hml, hown, hts⟩ (vx_cwSW 3 hts gT_ask rfl rfl rfl (by decide +kernel) ⟨(Nat.le_of_ble_eq_true rfl), (Nat.le_of_ble_eq_true rfl)⟩) hK hN hX hNc hS hA (by rw [List.append_nil]; exact hP) (by rw [List.append_nil]; exact hD) hl.1 (Nat.le_of_ble_eq_true rfl) dL_law_333 ⟨(Nat.le_of_ble_eq_true rfl), (Nat.le_of_ble_eq_true rfl)⟩ (fun H locs hP hD hS => ?_)
  rw [List.append_nil] at hP hD
  have hP : va_P D vwCl (ow T q (el 1 0 0 0 1 ob_0.2.2.2.2.1.2.2 pr ts tr)) H := hP
  have hD : va_D A (ow T q (el 1 0 0 0 1 ob_0.2.2.2.2.1.2.2 pr ts tr)) := hD
  refine W.widen (k := 106) (n := 8345) (Nat.le_of_ble_eq_true rfl) (Nat.le_of_ble_eq_true rfl) ?_
  refine lv_ldc (v := (-2000000001 : Int32)) hx hb hown (hts _ lm_constant_RL_73_2000000001) dL_law_336 ?_
  refine lv_icmp_ne (tgt := 1394) hx hb dL_law_338 (by decide) (fun c9 => absurd rfl c9) (fun _ => ?_)
  refine lv_aload_n hx hb dL_law_341 rfl (lv_at hl 0 rfl) ?_
  refine lv_bipush (v := (112 : Int32)) hx hb dL_law_342 (by decide) ?_
  refine lv_iconst (v := (1 : Int32)) hx hb dL_law_344 (by decide) ?_
  refine lk_new (N' := 1) hx hb (hts _ lm_arrayClass_int) hK hP hD hS hA (by decide) (by decide +kernel) (Nat.le_of_ble_eq_true rfl) (Nat.le_of_ble_eq_true rfl) (Nat.le_of_ble_eq_true rfl) dL_law_345 (fun qv345 H hP hD hS => ?_)
  refine lv_dup hx hb dL_law_347 rfl ?_
  refine lv_iconst (v := (0 : Int32)) hx hb dL_law_348 (by decide) ?_
  refine lv_bipush (v := (16 : Int32)) hx hb dL_law_349 (by decide) ?_
  refine va_iast hx hb hK hP hD hS 0 0 rfl rfl (zk_lit (by decide +kernel)) dL_law_351 (fun H locs hP hD hS => ?_)
  have hP : va_P D vwCl ((qv345, .inl (T 0, 1, .inl (upd (fun _ => (0 : Int32)) (0 : Int32).toNatClampNeg (16 : Int32)))) :: (ow T q (el 1 0 0 0 1 ob_0.2.2.2.2.1.2.2 pr ts tr))) H := hP
  have hD : va_D A ((qv345, .inl (T 0, 1, .inl (upd (fun _ => (0 : Int32)) (0 : Int32).toNatClampNeg (16 : Int32)))) :: (ow T q (el 1 0 0 0 1 ob_0.2.2.2.2.1.2.2 pr ts tr))) := hD
  refine lk_ask (ws' := []) (nL := 2) (rw_ := []) (stk := []) (x := el 1 0 0 0 1 ob_0.2.2.2.2.1.2.2 pr ts tr) (o := ((-2000000005 : Int32), el 1 0 0 0 1 ob_0.2.2.2.2.1.2.2 pr ts tr)) (fun sz => a_p l hst D T 3000 q qv345 sz (el 1 0 0 0 1 ob_0.2.2.2.2.1.2.2 pr ts tr) 1 (upd (fun _ => (0 : Int32)) (0 : Int32).toNatClampNeg (16 : Int32)) ((-2000000005 : Int32), el 1 0 0 0 1 ob_0.2.2.2.2.1.2.2 pr ts tr) (el_18 ob_0.2.2.2.2.1.2.2 pr ts tr)) ⟨hx, hb, hml, hown, hts⟩ (vx_cwSW 3 hts gT_ask rfl rfl rfl (by decide +kernel) ⟨(Nat.le_of_ble_eq_true rfl), (Nat.le_of_ble_eq_true rfl)⟩) hK hN hX hNc hS hA (by rw [List.append_nil]; exact hP) (by rw [List.append_nil]; exact hD) hl.1 (Nat.le_of_ble_eq_true rfl) dL_law_352 ⟨(Nat.le_of_ble_eq_true rfl), (Nat.le_of_ble_eq_true rfl)⟩ (fun H locs hP hD hS => ?_)
  rw [List.append_nil] at hP hD
  have hP : va_P D vwCl (ow T q (el 1 0 0 0 1 ob_0.2.2.2.2.1.2.2 pr ts tr)) H := hP
  have hD : va_D A (ow T q (el 1 0 0 0 1 ob_0.2.2.2.2.1.2.2 pr ts tr)) := hD
  refine W.widen (k := 109) (n := 8358) (Nat.le_of_ble_eq_true rfl) (Nat.le_of_ble_eq_true rfl) ?_
  refine lv_ldc (v := (-2000000005 : Int32)) hx hb hown (hts _ lm_constant_RL_88_2000000005) dL_law_355 ?_
  refine lv_icmp_ne (tgt := 1394) hx hb dL_law_357 (by decide) (fun c9 => absurd rfl c9) (fun _ => ?_)
  refine lv_aload_n hx hb dL_law_360 rfl (lv_at hl 0 rfl) ?_
  refine lv_bipush (v := (80 : Int32)) hx hb dL_law_361 (by decide) ?_
  refine lv_iconst (v := (2 : Int32)) hx hb dL_law_363 (by decide) ?_
  refine lk_new (N' := 2) hx hb (hts _ lm_arrayClass_int) hK hP hD hS hA (by decide) (by decide +kernel) (Nat.le_of_ble_eq_true rfl) (Nat.le_of_ble_eq_true rfl) (Nat.le_of_ble_eq_true rfl) dL_law_364 (fun qv364 H hP hD hS => ?_)
  refine lv_dup hx hb dL_law_366 rfl ?_
  refine lv_iconst (v := (0 : Int32)) hx hb dL_law_367 (by decide) ?_
  refine lv_iconst (v := (0 : Int32)) hx hb dL_law_368 (by decide) ?_
  refine va_iast hx hb hK hP hD hS 0 0 rfl rfl (zk_lit (by decide +kernel)) dL_law_369 (fun H locs hP hD hS => ?_)
  have hP : va_P D vwCl ((qv364, .inl (T 0, 2, .inl (upd (fun _ => (0 : Int32)) (0 : Int32).toNatClampNeg (0 : Int32)))) :: (ow T q (el 1 0 0 0 1 ob_0.2.2.2.2.1.2.2 pr ts tr))) H := hP
  have hD : va_D A ((qv364, .inl (T 0, 2, .inl (upd (fun _ => (0 : Int32)) (0 : Int32).toNatClampNeg (0 : Int32)))) :: (ow T q (el 1 0 0 0 1 ob_0.2.2.2.2.1.2.2 pr ts tr))) := hD
  refine lv_dup hx hb dL_law_370 rfl ?_
  refine lv_iconst (v := (1 : Int32)) hx hb dL_law_371 (by decide) ?_
  refine lv_iconst (v := (1 : Int32)) hx hb dL_law_372 (by decide) ?_
  refine va_iast hx hb hK hP hD hS 0 0 rfl rfl (zk_lit (by decide +kernel)) dL_law_373 (fun H locs hP hD hS => ?_)
  have hP : va_P D vwCl ((qv364, .inl (T 0, 2, .inl (upd (upd (fun _ => (0 : Int32)) (0 : Int32).toNatClampNeg (0 : Int32)) (1 : Int32).toNatClampNeg (1 : Int32)))) :: (ow T q (el 1 0 0 0 1 ob_0.2.2.2.2.1.2.2 pr ts tr))) H := hP
  have hD : va_D A ((qv364, .inl (T 0, 2, .inl (upd (upd (fun _ => (0 : Int32)) (0 : Int32).toNatClampNeg (0 : Int32)) (1 : Int32).toNatClampNeg (1 : Int32)))) :: (ow T q (el 1 0 0 0 1 ob_0.2.2.2.2.1.2.2 pr ts tr))) := hD
  refine lk_ask (ws' := []) (nL := 2) (rw_ := []) (stk := []) (x := el 1 0 0 0 1 ob_0.2.2.2.2.1.2.2 pr ts tr) (o := ((-2000000002 : Int32), el 1 0 0 0 1 ob_0.2.2.2.2.1.2.2 pr ts tr)) (fun sz => a_P l hst D T 3000 q qv364 sz (el 1 0 0 0 1 ob_0.2.2.2.2.1.2.2 pr ts tr) 2 (upd (upd (fun _ => (0 : Int32)) (0 : Int32).toNatClampNeg (0 : Int32)) (1 : Int32).toNatClampNeg (1 : Int32)) ((-2000000002 : Int32), el 1 0 0 0 1 ob_0.2.2.2.2.1.2.2 pr ts tr) (el_19 ob_0.2.2.2.2.1.2.2 pr ts tr)) ⟨hx, hb, hml, hown, hts⟩ (vx_cwSW 3 hts gT_ask rfl rfl rfl (by decide +kernel) ⟨(Nat.le_of_ble_eq_true rfl), (Nat.le_of_ble_eq_true rfl)⟩) hK hN hX hNc hS hA (by rw [List.append_nil]; exact hP) (by rw [List.append_nil]; exact hD) hl.1 (Nat.le_of_ble_eq_true rfl) dL_law_374 ⟨(Nat.le_of_ble_eq_true rfl), (Nat.le_of_ble_eq_true rfl)⟩ (fun H locs hP hD hS => ?_)
  rw [List.append_nil] at hP hD
  have hP : va_P D vwCl (ow T q (el 1 0 0 0 1 ob_0.2.2.2.2.1.2.2 pr ts tr)) H := hP
  have hD : va_D A (ow T q (el 1 0 0 0 1 ob_0.2.2.2.2.1.2.2 pr ts tr)) := hD
  refine W.widen (k := 114) (n := 8384) (Nat.le_of_ble_eq_true rfl) (Nat.le_of_ble_eq_true rfl) ?_
  refine lv_ldc (v := (-2000000002 : Int32)) hx hb hown (hts _ lm_constant_RL_76_2000000002) dL_law_377 ?_
  refine lv_icmp_ne (tgt := 1394) hx hb dL_law_379 (by decide) (fun c9 => absurd rfl c9) (fun _ => ?_)
  refine lv_aload_n hx hb dL_law_382 rfl (lv_at hl 0 rfl) ?_
  refine lv_bipush (v := (80 : Int32)) hx hb dL_law_383 (by decide) ?_
  refine lv_iconst (v := (2 : Int32)) hx hb dL_law_385 (by decide) ?_
  refine lk_new (N' := 2) hx hb (hts _ lm_arrayClass_int) hK hP hD hS hA (by decide) (by decide +kernel) (Nat.le_of_ble_eq_true rfl) (Nat.le_of_ble_eq_true rfl) (Nat.le_of_ble_eq_true rfl) dL_law_386 (fun qv386 H hP hD hS => ?_)
  refine lv_dup hx hb dL_law_388 rfl ?_
  refine lv_iconst (v := (0 : Int32)) hx hb dL_law_389 (by decide) ?_
  refine lv_iconst (v := (0 : Int32)) hx hb dL_law_390 (by decide) ?_
  refine va_iast hx hb hK hP hD hS 0 0 rfl rfl (zk_lit (by decide +kernel)) dL_law_391 (fun H locs hP hD hS => ?_)
  have hP : va_P D vwCl ((qv386, .inl (T 0, 2, .inl (upd (fun _ => (0 : Int32)) (0 : Int32).toNatClampNeg (0 : Int32)))) :: (ow T q (el 1 0 0 0 1 ob_0.2.2.2.2.1.2.2 pr ts tr))) H := hP
  have hD : va_D A ((qv386, .inl (T 0, 2, .inl (upd (fun _ => (0 : Int32)) (0 : Int32).toNatClampNeg (0 : Int32)))) :: (ow T q (el 1 0 0 0 1 ob_0.2.2.2.2.1.2.2 pr ts tr))) := hD
  refine lv_dup hx hb dL_law_392 rfl ?_
  refine lv_iconst (v := (1 : Int32)) hx hb dL_law_393 (by decide) ?_
  refine lv_iconst (v := (2 : Int32)) hx hb dL_law_394 (by decide) ?_
  refine va_iast hx hb hK hP hD hS 0 0 rfl rfl (zk_lit (by decide +kernel)) dL_law_395 (fun H locs hP hD hS => ?_)
  have hP : va_P D vwCl ((qv386, .inl (T 0, 2, .inl (upd (upd (fun _ => (0 : Int32)) (0 : Int32).toNatClampNeg (0 : Int32)) (1 : Int32).toNatClampNeg (2 : Int32)))) :: (ow T q (el 1 0 0 0 1 ob_0.2.2.2.2.1.2.2 pr ts tr))) H := hP
  have hD : va_D A ((qv386, .inl (T 0, 2, .inl (upd (upd (fun _ => (0 : Int32)) (0 : Int32).toNatClampNeg (0 : Int32)) (1 : Int32).toNatClampNeg (2 : Int32)))) :: (ow T q (el 1 0 0 0 1 ob_0.2.2.2.2.1.2.2 pr ts tr))) := hD
  refine lk_ask (ws' := []) (nL := 2) (rw_ := []) (stk := []) (x := el 1 0 0 0 1 ob_0.2.2.2.2.1.2.2 pr ts tr) (o := ((-2000000005 : Int32), el 1 0 0 0 1 ob_0.2.2.2.2.1.2.2 pr ts tr)) (fun sz => a_P l hst D T 3000 q qv386 sz (el 1 0 0 0 1 ob_0.2.2.2.2.1.2.2 pr ts tr) 2 (upd (upd (fun _ => (0 : Int32)) (0 : Int32).toNatClampNeg (0 : Int32)) (1 : Int32).toNatClampNeg (2 : Int32)) ((-2000000005 : Int32), el 1 0 0 0 1 ob_0.2.2.2.2.1.2.2 pr ts tr) (el_20 ob_0.2.2.2.2.1.2.2 pr ts tr)) ⟨hx, hb, hml, hown, hts⟩ (vx_cwSW 3 hts gT_ask rfl rfl rfl (by decide +kernel) ⟨(Nat.le_of_ble_eq_true rfl), (Nat.le_of_ble_eq_true rfl)⟩) hK hN hX hNc hS hA (by rw [List.append_nil]; exact hP) (by rw [List.append_nil]; exact hD) hl.1 (Nat.le_of_ble_eq_true rfl) dL_law_396 ⟨(Nat.le_of_ble_eq_true rfl), (Nat.le_of_ble_eq_true rfl)⟩ (fun H locs hP hD hS => ?_)
  rw [List.append_nil] at hP hD
  have hP : va_P D vwCl (ow T q (el 1 0 0 0 1 ob_0.2.2.2.2.1.2.2 pr ts tr)) H := hP
  have hD : va_D A (ow T q (el 1 0 0 0 1 ob_0.2.2.2.2.1.2.2 pr ts tr)) := hD
  refine W.widen (k := 119) (n := 8410) (Nat.le_of_ble_eq_true rfl) (Nat.le_of_ble_eq_true rfl) ?_
  refine lv_ldc (v := (-2000000005 : Int32)) hx hb hown (hts _ lm_constant_RL_88_2000000005) dL_law_399 ?_
  refine lv_icmp_ne (tgt := 1394) hx hb dL_law_401 (by decide) (fun c9 => absurd rfl c9) (fun _ => ?_)
  refine lv_aload_n hx hb dL_law_404 rfl (lv_at hl 0 rfl) ?_
  refine lv_bipush (v := (65 : Int32)) hx hb dL_law_405 (by decide) ?_
  refine lv_iconst (v := (3 : Int32)) hx hb dL_law_407 (by decide) ?_
  refine lk_new (N' := 3) hx hb (hts _ lm_arrayClass_int) hK hP hD hS hA (by decide) (by decide +kernel) (Nat.le_of_ble_eq_true rfl) (Nat.le_of_ble_eq_true rfl) (Nat.le_of_ble_eq_true rfl) dL_law_408 (fun qv408 H hP hD hS => ?_)
  refine lv_dup hx hb dL_law_410 rfl ?_
  refine lv_iconst (v := (0 : Int32)) hx hb dL_law_411 (by decide) ?_
  refine lv_iconst (v := (0 : Int32)) hx hb dL_law_412 (by decide) ?_
  refine va_iast hx hb hK hP hD hS 0 0 rfl rfl (zk_lit (by decide +kernel)) dL_law_413 (fun H locs hP hD hS => ?_)
  have hP : va_P D vwCl ((qv408, .inl (T 0, 3, .inl (upd (fun _ => (0 : Int32)) (0 : Int32).toNatClampNeg (0 : Int32)))) :: (ow T q (el 1 0 0 0 1 ob_0.2.2.2.2.1.2.2 pr ts tr))) H := hP
  have hD : va_D A ((qv408, .inl (T 0, 3, .inl (upd (fun _ => (0 : Int32)) (0 : Int32).toNatClampNeg (0 : Int32)))) :: (ow T q (el 1 0 0 0 1 ob_0.2.2.2.2.1.2.2 pr ts tr))) := hD
  refine lv_dup hx hb dL_law_414 rfl ?_
  refine lv_iconst (v := (1 : Int32)) hx hb dL_law_415 (by decide) ?_
  refine lv_iconst (v := (4 : Int32)) hx hb dL_law_416 (by decide) ?_
  refine va_iast hx hb hK hP hD hS 0 0 rfl rfl (zk_lit (by decide +kernel)) dL_law_417 (fun H locs hP hD hS => ?_)
  have hP : va_P D vwCl ((qv408, .inl (T 0, 3, .inl (upd (upd (fun _ => (0 : Int32)) (0 : Int32).toNatClampNeg (0 : Int32)) (1 : Int32).toNatClampNeg (4 : Int32)))) :: (ow T q (el 1 0 0 0 1 ob_0.2.2.2.2.1.2.2 pr ts tr))) H := hP
  have hD : va_D A ((qv408, .inl (T 0, 3, .inl (upd (upd (fun _ => (0 : Int32)) (0 : Int32).toNatClampNeg (0 : Int32)) (1 : Int32).toNatClampNeg (4 : Int32)))) :: (ow T q (el 1 0 0 0 1 ob_0.2.2.2.2.1.2.2 pr ts tr))) := hD
  refine lv_dup hx hb dL_law_418 rfl ?_
  refine lv_iconst (v := (2 : Int32)) hx hb dL_law_419 (by decide) ?_
  refine lv_iconst (v := (0 : Int32)) hx hb dL_law_420 (by decide) ?_
  refine va_iast hx hb hK hP hD hS 0 0 rfl rfl (zk_lit (by decide +kernel)) dL_law_421 (fun H locs hP hD hS => ?_)
  have hP : va_P D vwCl ((qv408, .inl (T 0, 3, .inl (upd (upd (upd (fun _ => (0 : Int32)) (0 : Int32).toNatClampNeg (0 : Int32)) (1 : Int32).toNatClampNeg (4 : Int32)) (2 : Int32).toNatClampNeg (0 : Int32)))) :: (ow T q (el 1 0 0 0 1 ob_0.2.2.2.2.1.2.2 pr ts tr))) H := hP
  have hD : va_D A ((qv408, .inl (T 0, 3, .inl (upd (upd (upd (fun _ => (0 : Int32)) (0 : Int32).toNatClampNeg (0 : Int32)) (1 : Int32).toNatClampNeg (4 : Int32)) (2 : Int32).toNatClampNeg (0 : Int32)))) :: (ow T q (el 1 0 0 0 1 ob_0.2.2.2.2.1.2.2 pr ts tr))) := hD
  refine lk_ask (ws' := []) (nL := 2) (rw_ := []) (stk := []) (x := el 1 0 0 0 1 ob_0.2.2.2.2.1.2.2 pr ts tr) (o := ((-2000000002 : Int32), el 1 0 0 0 1 ob_0.2.2.2.2.1.2.2 pr ts tr)) (fun sz => a_A l hst D T 3000 q qv408 sz (el 1 0 0 0 1 ob_0.2.2.2.2.1.2.2 pr ts tr) 3 (upd (upd (upd (fun _ => (0 : Int32)) (0 : Int32).toNatClampNeg (0 : Int32)) (1 : Int32).toNatClampNeg (4 : Int32)) (2 : Int32).toNatClampNeg (0 : Int32)) ((-2000000002 : Int32), el 1 0 0 0 1 ob_0.2.2.2.2.1.2.2 pr ts tr) (el_21 ob_0.2.2.2.2.1.2.2 pr ts tr)) ⟨hx, hb, hml, hown, hts⟩ (vx_cwSW 3 hts gT_ask rfl rfl rfl (by decide +kernel) ⟨(Nat.le_of_ble_eq_true rfl), (Nat.le_of_ble_eq_true rfl)⟩) hK hN hX hNc hS hA (by rw [List.append_nil]; exact hP) (by rw [List.append_nil]; exact hD) hl.1 (Nat.le_of_ble_eq_true rfl) dL_law_422 ⟨(Nat.le_of_ble_eq_true rfl), (Nat.le_of_ble_eq_true rfl)⟩ (fun H locs hP hD hS => ?_)
  rw [List.append_nil] at hP hD
  have hP : va_P D vwCl (ow T q (el 1 0 0 0 1 ob_0.2.2.2.2.1.2.2 pr ts tr)) H := hP
  have hD : va_D A (ow T q (el 1 0 0 0 1 ob_0.2.2.2.2.1.2.2 pr ts tr)) := hD
  refine W.widen (k := 125) (n := 8443) (Nat.le_of_ble_eq_true rfl) (Nat.le_of_ble_eq_true rfl) ?_
  refine lv_ldc (v := (-2000000002 : Int32)) hx hb hown (hts _ lm_constant_RL_76_2000000002) dL_law_425 ?_
  refine lv_icmp_ne (tgt := 1394) hx hb dL_law_427 (by decide) (fun c9 => absurd rfl c9) (fun _ => ?_)
  refine lv_aload_n hx hb dL_law_430 rfl (lv_at hl 0 rfl) ?_
  refine lv_bipush (v := (65 : Int32)) hx hb dL_law_431 (by decide) ?_
  refine lv_iconst (v := (3 : Int32)) hx hb dL_law_433 (by decide) ?_
  refine lk_new (N' := 3) hx hb (hts _ lm_arrayClass_int) hK hP hD hS hA (by decide) (by decide +kernel) (Nat.le_of_ble_eq_true rfl) (Nat.le_of_ble_eq_true rfl) (Nat.le_of_ble_eq_true rfl) dL_law_434 (fun qv434 H hP hD hS => ?_)
  refine lv_dup hx hb dL_law_436 rfl ?_
  refine lv_iconst (v := (0 : Int32)) hx hb dL_law_437 (by decide) ?_
  refine lv_iconst (v := (0 : Int32)) hx hb dL_law_438 (by decide) ?_
  refine va_iast hx hb hK hP hD hS 0 0 rfl rfl (zk_lit (by decide +kernel)) dL_law_439 (fun H locs hP hD hS => ?_)
  have hP : va_P D vwCl ((qv434, .inl (T 0, 3, .inl (upd (fun _ => (0 : Int32)) (0 : Int32).toNatClampNeg (0 : Int32)))) :: (ow T q (el 1 0 0 0 1 ob_0.2.2.2.2.1.2.2 pr ts tr))) H := hP
  have hD : va_D A ((qv434, .inl (T 0, 3, .inl (upd (fun _ => (0 : Int32)) (0 : Int32).toNatClampNeg (0 : Int32)))) :: (ow T q (el 1 0 0 0 1 ob_0.2.2.2.2.1.2.2 pr ts tr))) := hD
  refine lv_dup hx hb dL_law_440 rfl ?_
  refine lv_iconst (v := (1 : Int32)) hx hb dL_law_441 (by decide) ?_
  refine lv_iconst (v := (0 : Int32)) hx hb dL_law_442 (by decide) ?_
  refine va_iast hx hb hK hP hD hS 0 0 rfl rfl (zk_lit (by decide +kernel)) dL_law_443 (fun H locs hP hD hS => ?_)
  have hP : va_P D vwCl ((qv434, .inl (T 0, 3, .inl (upd (upd (fun _ => (0 : Int32)) (0 : Int32).toNatClampNeg (0 : Int32)) (1 : Int32).toNatClampNeg (0 : Int32)))) :: (ow T q (el 1 0 0 0 1 ob_0.2.2.2.2.1.2.2 pr ts tr))) H := hP
  have hD : va_D A ((qv434, .inl (T 0, 3, .inl (upd (upd (fun _ => (0 : Int32)) (0 : Int32).toNatClampNeg (0 : Int32)) (1 : Int32).toNatClampNeg (0 : Int32)))) :: (ow T q (el 1 0 0 0 1 ob_0.2.2.2.2.1.2.2 pr ts tr))) := hD
  refine lv_dup hx hb dL_law_444 rfl ?_
  refine lv_iconst (v := (2 : Int32)) hx hb dL_law_445 (by decide) ?_
  refine lv_bipush (v := (10 : Int32)) hx hb dL_law_446 (by decide) ?_
  refine va_iast hx hb hK hP hD hS 0 0 rfl rfl (zk_lit (by decide +kernel)) dL_law_448 (fun H locs hP hD hS => ?_)
  have hP : va_P D vwCl ((qv434, .inl (T 0, 3, .inl (upd (upd (upd (fun _ => (0 : Int32)) (0 : Int32).toNatClampNeg (0 : Int32)) (1 : Int32).toNatClampNeg (0 : Int32)) (2 : Int32).toNatClampNeg (10 : Int32)))) :: (ow T q (el 1 0 0 0 1 ob_0.2.2.2.2.1.2.2 pr ts tr))) H := hP
  have hD : va_D A ((qv434, .inl (T 0, 3, .inl (upd (upd (upd (fun _ => (0 : Int32)) (0 : Int32).toNatClampNeg (0 : Int32)) (1 : Int32).toNatClampNeg (0 : Int32)) (2 : Int32).toNatClampNeg (10 : Int32)))) :: (ow T q (el 1 0 0 0 1 ob_0.2.2.2.2.1.2.2 pr ts tr))) := hD
  refine lk_ask (ws' := []) (nL := 2) (rw_ := []) (stk := []) (x := el 1 0 0 0 1 ob_0.2.2.2.2.1.2.2 pr ts tr) (o := ((-2000000002 : Int32), el 1 0 0 0 1 ob_0.2.2.2.2.1.2.2 pr ts tr)) (fun sz => a_A l hst D T 3000 q qv434 sz (el 1 0 0 0 1 ob_0.2.2.2.2.1.2.2 pr ts tr) 3 (upd (upd (upd (fun _ => (0 : Int32)) (0 : Int32).toNatClampNeg (0 : Int32)) (1 : Int32).toNatClampNeg (0 : Int32)) (2 : Int32).toNatClampNeg (10 : Int32)) ((-2000000002 : Int32), el 1 0 0 0 1 ob_0.2.2.2.2.1.2.2 pr ts tr) (el_22 ob_0.2.2.2.2.1.2.2 pr ts tr)) ⟨hx, hb, hml, hown, hts⟩ (vx_cwSW 3 hts gT_ask rfl rfl rfl (by decide +kernel) ⟨(Nat.le_of_ble_eq_true rfl), (Nat.le_of_ble_eq_true rfl)⟩) hK hN hX hNc hS hA (by rw [List.append_nil]; exact hP) (by rw [List.append_nil]; exact hD) hl.1 (Nat.le_of_ble_eq_true rfl) dL_law_449 ⟨(Nat.le_of_ble_eq_true rfl), (Nat.le_of_ble_eq_true rfl)⟩ (fun H locs hP hD hS => ?_)
  rw [List.append_nil] at hP hD
  have hP : va_P D vwCl (ow T q (el 1 0 0 0 1 ob_0.2.2.2.2.1.2.2 pr ts tr)) H := hP
  have hD : va_D A (ow T q (el 1 0 0 0 1 ob_0.2.2.2.2.1.2.2 pr ts tr)) := hD
  refine W.widen (k := 131) (n := 8476) (Nat.le_of_ble_eq_true rfl) (Nat.le_of_ble_eq_true rfl) ?_
  refine lv_ldc (v := (-2000000002 : Int32)) hx hb hown (hts _ lm_constant_RL_76_2000000002) dL_law_452 ?_
  refine lv_icmp_ne (tgt := 1394) hx hb dL_law_454 (by decide) (fun c9 => absurd rfl c9) (fun _ => ?_)
  refine lv_aload_n hx hb dL_law_457 rfl (lv_at hl 0 rfl) ?_
  refine lv_bipush (v := (65 : Int32)) hx hb dL_law_458 (by decide) ?_
  refine lv_iconst (v := (3 : Int32)) hx hb dL_law_460 (by decide) ?_
  refine lk_new (N' := 3) hx hb (hts _ lm_arrayClass_int) hK hP hD hS hA (by decide) (by decide +kernel) (Nat.le_of_ble_eq_true rfl) (Nat.le_of_ble_eq_true rfl) (Nat.le_of_ble_eq_true rfl) dL_law_461 (fun qv461 H hP hD hS => ?_)
  refine lv_dup hx hb dL_law_463 rfl ?_
  refine lv_iconst (v := (0 : Int32)) hx hb dL_law_464 (by decide) ?_
  refine lv_iconst (v := (0 : Int32)) hx hb dL_law_465 (by decide) ?_
  refine va_iast hx hb hK hP hD hS 0 0 rfl rfl (zk_lit (by decide +kernel)) dL_law_466 (fun H locs hP hD hS => ?_)
  have hP : va_P D vwCl ((qv461, .inl (T 0, 3, .inl (upd (fun _ => (0 : Int32)) (0 : Int32).toNatClampNeg (0 : Int32)))) :: (ow T q (el 1 0 0 0 1 ob_0.2.2.2.2.1.2.2 pr ts tr))) H := hP
  have hD : va_D A ((qv461, .inl (T 0, 3, .inl (upd (fun _ => (0 : Int32)) (0 : Int32).toNatClampNeg (0 : Int32)))) :: (ow T q (el 1 0 0 0 1 ob_0.2.2.2.2.1.2.2 pr ts tr))) := hD
  refine lv_dup hx hb dL_law_467 rfl ?_
  refine lv_iconst (v := (1 : Int32)) hx hb dL_law_468 (by decide) ?_
  refine lv_iconst (v := (0 : Int32)) hx hb dL_law_469 (by decide) ?_
  refine va_iast hx hb hK hP hD hS 0 0 rfl rfl (zk_lit (by decide +kernel)) dL_law_470 (fun H locs hP hD hS => ?_)
  have hP : va_P D vwCl ((qv461, .inl (T 0, 3, .inl (upd (upd (fun _ => (0 : Int32)) (0 : Int32).toNatClampNeg (0 : Int32)) (1 : Int32).toNatClampNeg (0 : Int32)))) :: (ow T q (el 1 0 0 0 1 ob_0.2.2.2.2.1.2.2 pr ts tr))) H := hP
  have hD : va_D A ((qv461, .inl (T 0, 3, .inl (upd (upd (fun _ => (0 : Int32)) (0 : Int32).toNatClampNeg (0 : Int32)) (1 : Int32).toNatClampNeg (0 : Int32)))) :: (ow T q (el 1 0 0 0 1 ob_0.2.2.2.2.1.2.2 pr ts tr))) := hD
  refine lv_dup hx hb dL_law_471 rfl ?_
  refine lv_iconst (v := (2 : Int32)) hx hb dL_law_472 (by decide) ?_
  refine lv_iconst (v := (0 : Int32)) hx hb dL_law_473 (by decide) ?_
  refine va_iast hx hb hK hP hD hS 0 0 rfl rfl (zk_lit (by decide +kernel)) dL_law_474 (fun H locs hP hD hS => ?_)
  have hP : va_P D vwCl ((qv461, .inl (T 0, 3, .inl (upd (upd (upd (fun _ => (0 : Int32)) (0 : Int32).toNatClampNeg (0 : Int32)) (1 : Int32).toNatClampNeg (0 : Int32)) (2 : Int32).toNatClampNeg (0 : Int32)))) :: (ow T q (el 1 0 0 0 1 ob_0.2.2.2.2.1.2.2 pr ts tr))) H := hP
  have hD : va_D A ((qv461, .inl (T 0, 3, .inl (upd (upd (upd (fun _ => (0 : Int32)) (0 : Int32).toNatClampNeg (0 : Int32)) (1 : Int32).toNatClampNeg (0 : Int32)) (2 : Int32).toNatClampNeg (0 : Int32)))) :: (ow T q (el 1 0 0 0 1 ob_0.2.2.2.2.1.2.2 pr ts tr))) := hD
  refine lk_ask (ws' := []) (nL := 2) (rw_ := []) (stk := []) (x := el 1 0 0 0 1 ob_0.2.2.2.2.1.2.2 pr ts tr) (o := ((-2000000005 : Int32), el 1 0 0 0 1 ob_0.2.2.2.2.1.2.2 pr ts tr)) (fun sz => a_A l hst D T 3000 q qv461 sz (el 1 0 0 0 1 ob_0.2.2.2.2.1.2.2 pr ts tr) 3 (upd (upd (upd (fun _ => (0 : Int32)) (0 : Int32).toNatClampNeg (0 : Int32)) (1 : Int32).toNatClampNeg (0 : Int32)) (2 : Int32).toNatClampNeg (0 : Int32)) ((-2000000005 : Int32), el 1 0 0 0 1 ob_0.2.2.2.2.1.2.2 pr ts tr) (el_23 ob_0.2.2.2.2.1.2.2 pr ts tr)) ⟨hx, hb, hml, hown, hts⟩ (vx_cwSW 3 hts gT_ask rfl rfl rfl (by decide +kernel) ⟨(Nat.le_of_ble_eq_true rfl), (Nat.le_of_ble_eq_true rfl)⟩) hK hN hX hNc hS hA (by rw [List.append_nil]; exact hP) (by rw [List.append_nil]; exact hD) hl.1 (Nat.le_of_ble_eq_true rfl) dL_law_475 ⟨(Nat.le_of_ble_eq_true rfl), (Nat.le_of_ble_eq_true rfl)⟩ (fun H locs hP hD hS => ?_)
  rw [List.append_nil] at hP hD
  have hP : va_P D vwCl (ow T q (el 1 0 0 0 1 ob_0.2.2.2.2.1.2.2 pr ts tr)) H := hP
  have hD : va_D A (ow T q (el 1 0 0 0 1 ob_0.2.2.2.2.1.2.2 pr ts tr)) := hD
  refine W.widen (k := 137) (n := 8509) (Nat.le_of_ble_eq_true rfl) (Nat.le_of_ble_eq_true rfl) ?_
  refine lv_ldc (v := (-2000000005 : Int32)) hx hb hown (hts _ lm_constant_RL_88_2000000005) dL_law_478 ?_
  refine lv_icmp_ne (tgt := 1394) hx hb dL_law_480 (by decide) (fun c9 => absurd rfl c9) (fun _ => ?_)
  refine lv_aload_n hx hb dL_law_483 rfl (lv_at hl 0 rfl) ?_
  refine lv_bipush (v := (76 : Int32)) hx hb dL_law_484 (by decide) ?_
  refine lv_iconst (v := (4 : Int32)) hx hb dL_law_486 (by decide) ?_
  refine lk_new (N' := 4) hx hb (hts _ lm_arrayClass_int) hK hP hD hS hA (by decide) (by decide +kernel) (Nat.le_of_ble_eq_true rfl) (Nat.le_of_ble_eq_true rfl) (Nat.le_of_ble_eq_true rfl) dL_law_487 (fun qv487 H hP hD hS => ?_)
  refine lv_dup hx hb dL_law_489 rfl ?_
  refine lv_iconst (v := (0 : Int32)) hx hb dL_law_490 (by decide) ?_
  refine lv_iconst (v := (0 : Int32)) hx hb dL_law_491 (by decide) ?_
  refine va_iast hx hb hK hP hD hS 0 0 rfl rfl (zk_lit (by decide +kernel)) dL_law_492 (fun H locs hP hD hS => ?_)
  have hP : va_P D vwCl ((qv487, .inl (T 0, 4, .inl (upd (fun _ => (0 : Int32)) (0 : Int32).toNatClampNeg (0 : Int32)))) :: (ow T q (el 1 0 0 0 1 ob_0.2.2.2.2.1.2.2 pr ts tr))) H := hP
  have hD : va_D A ((qv487, .inl (T 0, 4, .inl (upd (fun _ => (0 : Int32)) (0 : Int32).toNatClampNeg (0 : Int32)))) :: (ow T q (el 1 0 0 0 1 ob_0.2.2.2.2.1.2.2 pr ts tr))) := hD
  refine lv_dup hx hb dL_law_493 rfl ?_
  refine lv_iconst (v := (1 : Int32)) hx hb dL_law_494 (by decide) ?_
  refine lv_bipush (v := (16 : Int32)) hx hb dL_law_495 (by decide) ?_
  refine va_iast hx hb hK hP hD hS 0 0 rfl rfl (zk_lit (by decide +kernel)) dL_law_497 (fun H locs hP hD hS => ?_)
  have hP : va_P D vwCl ((qv487, .inl (T 0, 4, .inl (upd (upd (fun _ => (0 : Int32)) (0 : Int32).toNatClampNeg (0 : Int32)) (1 : Int32).toNatClampNeg (16 : Int32)))) :: (ow T q (el 1 0 0 0 1 ob_0.2.2.2.2.1.2.2 pr ts tr))) H := hP
  have hD : va_D A ((qv487, .inl (T 0, 4, .inl (upd (upd (fun _ => (0 : Int32)) (0 : Int32).toNatClampNeg (0 : Int32)) (1 : Int32).toNatClampNeg (16 : Int32)))) :: (ow T q (el 1 0 0 0 1 ob_0.2.2.2.2.1.2.2 pr ts tr))) := hD
  refine lv_dup hx hb dL_law_498 rfl ?_
  refine lv_iconst (v := (2 : Int32)) hx hb dL_law_499 (by decide) ?_
  refine lv_iconst (v := (1 : Int32)) hx hb dL_law_500 (by decide) ?_
  refine va_iast hx hb hK hP hD hS 0 0 rfl rfl (zk_lit (by decide +kernel)) dL_law_501 (fun H locs hP hD hS => ?_)
  have hP : va_P D vwCl ((qv487, .inl (T 0, 4, .inl (upd (upd (upd (fun _ => (0 : Int32)) (0 : Int32).toNatClampNeg (0 : Int32)) (1 : Int32).toNatClampNeg (16 : Int32)) (2 : Int32).toNatClampNeg (1 : Int32)))) :: (ow T q (el 1 0 0 0 1 ob_0.2.2.2.2.1.2.2 pr ts tr))) H := hP
  have hD : va_D A ((qv487, .inl (T 0, 4, .inl (upd (upd (upd (fun _ => (0 : Int32)) (0 : Int32).toNatClampNeg (0 : Int32)) (1 : Int32).toNatClampNeg (16 : Int32)) (2 : Int32).toNatClampNeg (1 : Int32)))) :: (ow T q (el 1 0 0 0 1 ob_0.2.2.2.2.1.2.2 pr ts tr))) := hD
  refine lv_dup hx hb dL_law_502 rfl ?_
  refine lv_iconst (v := (3 : Int32)) hx hb dL_law_503 (by decide) ?_
  refine lv_iconst (v := (1 : Int32)) hx hb dL_law_504 (by decide) ?_
  refine va_iast hx hb hK hP hD hS 0 0 rfl rfl (zk_lit (by decide +kernel)) dL_law_505 (fun H locs hP hD hS => ?_)
  have hP : va_P D vwCl ((qv487, .inl (T 0, 4, .inl (upd (upd (upd (upd (fun _ => (0 : Int32)) (0 : Int32).toNatClampNeg (0 : Int32)) (1 : Int32).toNatClampNeg (16 : Int32)) (2 : Int32).toNatClampNeg (1 : Int32)) (3 : Int32).toNatClampNeg (1 : Int32)))) :: (ow T q (el 1 0 0 0 1 ob_0.2.2.2.2.1.2.2 pr ts tr))) H := hP
  have hD : va_D A ((qv487, .inl (T 0, 4, .inl (upd (upd (upd (upd (fun _ => (0 : Int32)) (0 : Int32).toNatClampNeg (0 : Int32)) (1 : Int32).toNatClampNeg (16 : Int32)) (2 : Int32).toNatClampNeg (1 : Int32)) (3 : Int32).toNatClampNeg (1 : Int32)))) :: (ow T q (el 1 0 0 0 1 ob_0.2.2.2.2.1.2.2 pr ts tr))) := hD
  refine lk_ask (ws' := []) (nL := 2) (rw_ := []) (stk := []) (x := el 1 0 0 0 1 ob_0.2.2.2.2.1.2.2 pr ts tr) (o := ((-2000000001 : Int32), el 1 0 0 0 1 ob_0.2.2.2.2.1.2.2 pr ts tr)) (fun sz => a_L l hst D T 3000 q qv487 sz (el 1 0 0 0 1 ob_0.2.2.2.2.1.2.2 pr ts tr) 4 (upd (upd (upd (upd (fun _ => (0 : Int32)) (0 : Int32).toNatClampNeg (0 : Int32)) (1 : Int32).toNatClampNeg (16 : Int32)) (2 : Int32).toNatClampNeg (1 : Int32)) (3 : Int32).toNatClampNeg (1 : Int32)) ((-2000000001 : Int32), el 1 0 0 0 1 ob_0.2.2.2.2.1.2.2 pr ts tr) (el_24 ob_0.2.2.2.2.1.2.2 pr ts tr)) ⟨hx, hb, hml, hown, hts⟩ (vx_cwSW 3 hts gT_ask rfl rfl rfl (by decide +kernel) ⟨(Nat.le_of_ble_eq_true rfl), (Nat.le_of_ble_eq_true rfl)⟩) hK hN hX hNc hS hA (by rw [List.append_nil]; exact hP) (by rw [List.append_nil]; exact hD) hl.1 (Nat.le_of_ble_eq_true rfl) dL_law_506 ⟨(Nat.le_of_ble_eq_true rfl), (Nat.le_of_ble_eq_true rfl)⟩ (fun H locs hP hD hS => ?_)
  rw [List.append_nil] at hP hD
  have hP : va_P D vwCl (ow T q (el 1 0 0 0 1 ob_0.2.2.2.2.1.2.2 pr ts tr)) H := hP
  have hD : va_D A (ow T q (el 1 0 0 0 1 ob_0.2.2.2.2.1.2.2 pr ts tr)) := hD
  refine W.widen (k := 142) (n := 8537) (Nat.le_of_ble_eq_true rfl) (Nat.le_of_ble_eq_true rfl) ?_
  refine lv_ldc (v := (-2000000001 : Int32)) hx hb hown (hts _ lm_constant_RL_73_2000000001) dL_law_509 ?_
  refine lv_icmp_ne (tgt := 1394) hx hb dL_law_511 (by decide) (fun c9 => absurd rfl c9) (fun _ => ?_)
  exact kk pr ts tr H locs hP hD hS

/-! rows of mine: the law's first calls, in pieces -/
set_option maxHeartbeats 16000000 in
set_option maxRecDepth 100000 in
theorem law_s9 {p : Program} {l : Launch} {e : Env} {s : State} {m : MethodId} {below : List Frame} {meth : Method} {c : Code} {Q : State → Prop} {A : Nat → Prop} {D : va_G} {T : Nat → ClassId} {q : Nat → Nat} {b : Nat} {ls : Array Slot} (hst : l.stackTraces = false) (hx : p.tables.exec = Jvm.exec) (hb : c.code = cL_law) (hml : c.maxLocals = 2) (hown : s.vm.findClass RL = some m.cls) (hts : ∀ w ∈ lw_tbl, w.before #[Value.ref b] s = true) (hA : ∀ q : Nat, s.heap.size ≤ q → A q) (hK : va_K D vwCl (zk_ty T) s) (hN : zk_N s) (hX : zx_K A s s.heap) (hNc : zn_K s) (hl : lv_has ls 2 [(1, .ref (q 0)), (0, .ref b)]) {ah : (Nat → Int32) × (Nat → Int32) × (Int32 × (Nat → Int32) × (Nat → Int32)) × (Int32 × (Nat → Int32) × (Nat → Int32))} {pr : (Int32 × Int32 × Int32 × (Nat → Int32) × (Nat → Int32) × (Nat → Int32) × (Nat → Int32) × (Nat → Int32) × (Nat → Int32) × (Nat → Int32) × (Nat → Int32))} {ts : (Int32 × (Nat → Int32) × (Nat → Int32))} {tr : (Int32 × Int32 × (Nat → Int32) × (Nat → Int32) × (Int32 × (Nat → Int32) × (Nat → Int32)) × (Int32 × (Nat → Int32) × (Nat → Int32)))} {H : Heap} {locs : List Loc} (hP : va_P D vwCl (ow T q (el 5 1 1 0 1 ah pr ts tr)) H) (hD : va_D A (ow T q (el 5 1 1 0 1 ah pr ts tr))) (hS : va_S A s.heap H locs) (kk : ∀ (ah : (Nat → Int32) × (Nat → Int32) × (Int32 × (Nat → Int32) × (Nat → Int32)) × (Int32 × (Nat → Int32) × (Nat → Int32))) (pr : (Int32 × Int32 × Int32 × (Nat → Int32) × (Nat → Int32) × (Nat → Int32) × (Nat → Int32) × (Nat → Int32) × (Nat → Int32) × (Nat → Int32) × (Nat → Int32))) (ts : (Int32 × (Nat → Int32) × (Nat → Int32))) (tr : (Int32 × Int32 × (Nat → Int32) × (Nat → Int32) × (Int32 × (Nat → Int32) × (Nat → Int32)) × (Int32 × (Nat → Int32) × (Nat → Int32)))) (H : Heap) (locs : List Loc), va_P D vwCl (ow T q (el 5 1 1 0 1 ah pr ts tr)) H → va_D A (ow T q (el 5 1 1 0 1 ah pr ts tr)) → va_S A s.heap H locs → W p l e room_1 s m #[Value.ref b] below meth c H locs 333 9493 Q (F0 m 1396 ls [])) : W p l e room_1 s m #[Value.ref b] below meth c H locs 325 9460 Q (F0 m 1341 ls []) := by
  refine lv_aload_n hx hb dL_law_1341 rfl (lv_at hl 0 rfl) ?_
  refine lv_bipush (v := (89 : Int32)) hx hb dL_law_1342 (by decide) ?_
  refine lv_iconst (v := (1 : Int32)) hx hb dL_law_1344 (by decide) ?_
  refine lk_new (N' := 1) hx hb (hts _ lm_arrayClass_int) hK hP hD hS hA (by decide) (by decide +kernel) (Nat.le_of_ble_eq_true rfl) (Nat.le_of_ble_eq_true rfl) (Nat.le_of_ble_eq_true rfl) dL_law_1345 (fun qv1345 H hP hD hS => ?_)
  refine lv_dup hx hb dL_law_1347 rfl ?_
  refine lv_iconst (v := (0 : Int32)) hx hb dL_law_1348 (by decide) ?_
  refine lv_iconst (v := (1 : Int32)) hx hb dL_law_1349 (by decide) ?_
  refine va_iast hx hb hK hP hD hS 0 0 rfl rfl (zk_lit (by decide +kernel)) dL_law_1350 (fun H locs hP hD hS => ?_)
  have hP : va_P D vwCl ((qv1345, .inl (T 0, 1, .inl (upd (fun _ => (0 : Int32)) (0 : Int32).toNatClampNeg (1 : Int32)))) :: (ow T q (el 5 1 1 0 1 ah pr ts tr))) H := hP
  have hD : va_D A ((qv1345, .inl (T 0, 1, .inl (upd (fun _ => (0 : Int32)) (0 : Int32).toNatClampNeg (1 : Int32)))) :: (ow T q (el 5 1 1 0 1 ah pr ts tr))) := hD
  refine lk_ask (ws' := []) (nL := 2) (rw_ := []) (stk := []) (x := el 5 1 1 0 1 ah pr ts tr) (o := ((0 : Int32), el 5 1 1 0 1 ah pr ts tr)) (fun sz => a_Y l hst D T 3000 q qv1345 sz (el 5 1 1 0 1 ah pr ts tr) 1 (upd (fun _ => (0 : Int32)) (0 : Int32).toNatClampNeg (1 : Int32)) ((0 : Int32), el 5 1 1 0 1 ah pr ts tr) (el_65 ah pr ts tr)) ⟨hx, hb, hml, hown, hts⟩ (vx_cwSW 3 hts gT_ask rfl rfl rfl (by decide +kernel) ⟨(Nat.le_of_ble_eq_true rfl), (Nat.le_of_ble_eq_true rfl)⟩) hK hN hX hNc hS hA (by rw [List.append_nil]; exact hP) (by rw [List.append_nil]; exact hD) hl.1 (Nat.le_of_ble_eq_true rfl) dL_law_1351 ⟨(Nat.le_of_ble_eq_true rfl), (Nat.le_of_ble_eq_true rfl)⟩ (fun H locs hP hD hS => ?_)
  rw [List.append_nil] at hP hD
  have hP : va_P D vwCl (ow T q (el 5 1 1 0 1 ah pr ts tr)) H := hP
  have hD : va_D A (ow T q (el 5 1 1 0 1 ah pr ts tr)) := hD
  refine W.widen (k := 327) (n := 9467) (Nat.le_of_ble_eq_true rfl) (Nat.le_of_ble_eq_true rfl) ?_
  refine lv_if_ne (tgt := 1394) hx hb dL_law_1354 (by decide) (fun c9 => absurd rfl c9) (fun _ => ?_)
  refine lv_aload_n hx hb dL_law_1357 rfl (lv_at hl 0 rfl) ?_
  refine lv_bipush (v := (97 : Int32)) hx hb dL_law_1358 (by decide) ?_
  refine lv_iconst (v := (1 : Int32)) hx hb dL_law_1360 (by decide) ?_
  refine lk_new (N' := 1) hx hb (hts _ lm_arrayClass_int) hK hP hD hS hA (by decide) (by decide +kernel) (Nat.le_of_ble_eq_true rfl) (Nat.le_of_ble_eq_true rfl) (Nat.le_of_ble_eq_true rfl) dL_law_1361 (fun qv1361 H hP hD hS => ?_)
  refine lv_dup hx hb dL_law_1363 rfl ?_
  refine lv_iconst (v := (0 : Int32)) hx hb dL_law_1364 (by decide) ?_
  refine lv_iconst (v := (0 : Int32)) hx hb dL_law_1365 (by decide) ?_
  refine va_iast hx hb hK hP hD hS 0 0 rfl rfl (zk_lit (by decide +kernel)) dL_law_1366 (fun H locs hP hD hS => ?_)
  have hP : va_P D vwCl ((qv1361, .inl (T 0, 1, .inl (upd (fun _ => (0 : Int32)) (0 : Int32).toNatClampNeg (0 : Int32)))) :: (ow T q (el 5 1 1 0 1 ah pr ts tr))) H := hP
  have hD : va_D A ((qv1361, .inl (T 0, 1, .inl (upd (fun _ => (0 : Int32)) (0 : Int32).toNatClampNeg (0 : Int32)))) :: (ow T q (el 5 1 1 0 1 ah pr ts tr))) := hD
  refine lk_ask (ws' := []) (nL := 2) (rw_ := []) (stk := []) (x := el 5 1 1 0 1 ah pr ts tr) (o := ((-2000000005 : Int32), el 5 1 1 0 1 ah pr ts tr)) (fun sz => a_a l hst D T 3000 q qv1361 sz (el 5 1 1 0 1 ah pr ts tr) 1 (upd (fun _ => (0 : Int32)) (0 : Int32).toNatClampNeg (0 : Int32)) ((-2000000005 : Int32), el 5 1 1 0 1 ah pr ts tr) (el_66 ah pr ts tr)) ⟨hx, hb, hml, hown, hts⟩ (vx_cwSW 3 hts gT_ask rfl rfl rfl (by decide +kernel) ⟨(Nat.le_of_ble_eq_true rfl), (Nat.le_of_ble_eq_true rfl)⟩) hK hN hX hNc hS hA (by rw [List.append_nil]; exact hP) (by rw [List.append_nil]; exact hD) hl.1 (Nat.le_of_ble_eq_true rfl) dL_law_1367 ⟨(Nat.le_of_ble_eq_true rfl), (Nat.le_of_ble_eq_true rfl)⟩ (fun H locs hP hD hS => ?_)
  rw [List.append_nil] at hP hD
  have hP : va_P D vwCl (ow T q (el 5 1 1 0 1 ah pr ts tr)) H := hP
  have hD : va_D A (ow T q (el 5 1 1 0 1 ah pr ts tr)) := hD
  refine W.widen (k := 330) (n := 9480) (Nat.le_of_ble_eq_true rfl) (Nat.le_of_ble_eq_true rfl) ?_
  refine lv_ldc (v := (-2000000005 : Int32)) hx hb hown (hts _ lm_constant_RL_88_2000000005) dL_law_1370 ?_
  refine lv_icmp_ne (tgt := 1394) hx hb dL_law_1372 (by decide) (fun c9 => absurd rfl c9) (fun _ => ?_)
  refine lv_aload_n hx hb dL_law_1375 rfl (lv_at hl 0 rfl) ?_
  refine lv_bipush (v := (97 : Int32)) hx hb dL_law_1376 (by decide) ?_
  refine lv_iconst (v := (1 : Int32)) hx hb dL_law_1378 (by decide) ?_
  refine lk_new (N' := 1) hx hb (hts _ lm_arrayClass_int) hK hP hD hS hA (by decide) (by decide +kernel) (Nat.le_of_ble_eq_true rfl) (Nat.le_of_ble_eq_true rfl) (Nat.le_of_ble_eq_true rfl) dL_law_1379 (fun qv1379 H hP hD hS => ?_)
  refine lv_dup hx hb dL_law_1381 rfl ?_
  refine lv_iconst (v := (0 : Int32)) hx hb dL_law_1382 (by decide) ?_
  refine lv_bipush (v := (20 : Int32)) hx hb dL_law_1383 (by decide) ?_
  refine va_iast hx hb hK hP hD hS 0 0 rfl rfl (zk_lit (by decide +kernel)) dL_law_1385 (fun H locs hP hD hS => ?_)
  have hP : va_P D vwCl ((qv1379, .inl (T 0, 1, .inl (upd (fun _ => (0 : Int32)) (0 : Int32).toNatClampNeg (20 : Int32)))) :: (ow T q (el 5 1 1 0 1 ah pr ts tr))) H := hP
  have hD : va_D A ((qv1379, .inl (T 0, 1, .inl (upd (fun _ => (0 : Int32)) (0 : Int32).toNatClampNeg (20 : Int32)))) :: (ow T q (el 5 1 1 0 1 ah pr ts tr))) := hD
  refine lk_ask (ws' := []) (nL := 2) (rw_ := []) (stk := []) (x := el 5 1 1 0 1 ah pr ts tr) (o := ((-2000000001 : Int32), el 5 1 1 0 1 ah pr ts tr)) (fun sz => a_a l hst D T 3000 q qv1379 sz (el 5 1 1 0 1 ah pr ts tr) 1 (upd (fun _ => (0 : Int32)) (0 : Int32).toNatClampNeg (20 : Int32)) ((-2000000001 : Int32), el 5 1 1 0 1 ah pr ts tr) (el_67 ah pr ts tr)) ⟨hx, hb, hml, hown, hts⟩ (vx_cwSW 3 hts gT_ask rfl rfl rfl (by decide +kernel) ⟨(Nat.le_of_ble_eq_true rfl), (Nat.le_of_ble_eq_true rfl)⟩) hK hN hX hNc hS hA (by rw [List.append_nil]; exact hP) (by rw [List.append_nil]; exact hD) hl.1 (Nat.le_of_ble_eq_true rfl) dL_law_1386 ⟨(Nat.le_of_ble_eq_true rfl), (Nat.le_of_ble_eq_true rfl)⟩ (fun H locs hP hD hS => ?_)
  rw [List.append_nil] at hP hD
  have hP : va_P D vwCl (ow T q (el 5 1 1 0 1 ah pr ts tr)) H := hP
  have hD : va_D A (ow T q (el 5 1 1 0 1 ah pr ts tr)) := hD
  refine W.widen (k := 333) (n := 9493) (Nat.le_of_ble_eq_true rfl) (Nat.le_of_ble_eq_true rfl) ?_
  refine lv_ldc (v := (-2000000001 : Int32)) hx hb hown (hts _ lm_constant_RL_73_2000000001) dL_law_1389 ?_
  refine lv_icmp_eq (tgt := 1396) hx hb dL_law_1391 (by decide) (fun _ => ?_) (fun c9 => absurd rfl c9)
  exact kk ah pr ts tr H locs hP hD hS

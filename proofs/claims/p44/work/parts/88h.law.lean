/-! rows of mine: the law's first calls, in pieces -/
set_option maxHeartbeats 16000000 in
set_option maxRecDepth 100000 in
theorem law_s8 {p : Program} {l : Launch} {e : Env} {s : State} {m : MethodId} {below : List Frame} {meth : Method} {c : Code} {Q : State → Prop} {A : Nat → Prop} {D : va_G} {T : Nat → ClassId} {q : Nat → Nat} {b : Nat} {ls : Array Slot} (hst : l.stackTraces = false) (hx : p.tables.exec = Jvm.exec) (hb : c.code = cL_law) (hml : c.maxLocals = 2) (hown : s.vm.findClass RL = some m.cls) (hts : ∀ w ∈ lw_tbl, w.before #[Value.ref b] s = true) (hA : ∀ q : Nat, s.heap.size ≤ q → A q) (hK : va_K D vwCl (zk_ty T) s) (hN : zk_N s) (hX : zx_K A s s.heap) (hNc : zn_K s) (hl : lv_has ls 2 [(1, .ref (q 0)), (0, .ref b)]) {ah : (Nat → Int32) × (Nat → Int32) × (Int32 × (Nat → Int32) × (Nat → Int32)) × (Int32 × (Nat → Int32) × (Nat → Int32))} {pr : (Int32 × Int32 × Int32 × (Nat → Int32) × (Nat → Int32) × (Nat → Int32) × (Nat → Int32) × (Nat → Int32) × (Nat → Int32) × (Nat → Int32) × (Nat → Int32))} {ts : (Int32 × (Nat → Int32) × (Nat → Int32))} {tr : (Int32 × Int32 × (Nat → Int32) × (Nat → Int32) × (Int32 × (Nat → Int32) × (Nat → Int32)) × (Int32 × (Nat → Int32) × (Nat → Int32)))} {H : Heap} {locs : List Loc} (hP : va_P D vwCl (ow T q (el 1 1 1 0 1 ah pr ts tr)) H) (hD : va_D A (ow T q (el 1 1 1 0 1 ah pr ts tr))) (hS : va_S A s.heap H locs) (kk : ∀ (ah : (Nat → Int32) × (Nat → Int32) × (Int32 × (Nat → Int32) × (Nat → Int32)) × (Int32 × (Nat → Int32) × (Nat → Int32))) (pr : (Int32 × Int32 × Int32 × (Nat → Int32) × (Nat → Int32) × (Nat → Int32) × (Nat → Int32) × (Nat → Int32) × (Nat → Int32) × (Nat → Int32) × (Nat → Int32))) (ts : (Int32 × (Nat → Int32) × (Nat → Int32))) (tr : (Int32 × Int32 × (Nat → Int32) × (Nat → Int32) × (Int32 × (Nat → Int32) × (Nat → Int32)) × (Int32 × (Nat → Int32) × (Nat → Int32)))) (H : Heap) (locs : List Loc), va_P D vwCl (ow T q (el 5 1 1 0 1 ah pr ts tr)) H → va_D A (ow T q (el 5 1 1 0 1 ah pr ts tr)) → va_S A s.heap H locs → W p l e room_1 s m #[Value.ref b] below meth c H locs 325 9460 Q (F0 m 1341 ls [])) : W p l e room_1 s m #[Value.ref b] below meth c H locs 307 9391 Q (F0 m 1191 ls []) := by
  refine lv_aload_n hx hb dL_law_1191 rfl (lv_at hl 0 rfl) ?_
  refine lv_bipush (v := (122 : Int32)) hx hb dL_law_1192 (by decide) ?_
  refine lv_iconst (v := (1 : Int32)) hx hb dL_law_1194 (by decide) ?_
  refine lk_new (N' := 1) hx hb (hts _ lm_arrayClass_int) hK hP hD hS hA (by decide) (by decide +kernel) (Nat.le_of_ble_eq_true rfl) (Nat.le_of_ble_eq_true rfl) (Nat.le_of_ble_eq_true rfl) dL_law_1195 (fun qv1195 H hP hD hS => ?_)
  refine lv_dup hx hb dL_law_1197 rfl ?_
  refine lv_iconst (v := (0 : Int32)) hx hb dL_law_1198 (by decide) ?_
  refine lv_iconst (v := (0 : Int32)) hx hb dL_law_1199 (by decide) ?_
  refine va_iast hx hb hK hP hD hS 0 0 rfl rfl (zk_lit (by decide +kernel)) dL_law_1200 (fun H locs hP hD hS => ?_)
  have hP : va_P D vwCl ((qv1195, .inl (T 0, 1, .inl (upd (fun _ => (0 : Int32)) (0 : Int32).toNatClampNeg (0 : Int32)))) :: (ow T q (el 1 1 1 0 1 ah pr ts tr))) H := hP
  have hD : va_D A ((qv1195, .inl (T 0, 1, .inl (upd (fun _ => (0 : Int32)) (0 : Int32).toNatClampNeg (0 : Int32)))) :: (ow T q (el 1 1 1 0 1 ah pr ts tr))) := hD
  refine lk_ask (ws' := []) (nL := 2) (rw_ := []) (stk := []) (x := el 1 1 1 0 1 ah pr ts tr) (o := ((-2000000002 : Int32), el 1 1 1 0 1 ah pr ts tr)) (fun sz => a_z l hst D T 3000 q qv1195 sz (el 1 1 1 0 1 ah pr ts tr) 1 (upd (fun _ => (0 : Int32)) (0 : Int32).toNatClampNeg (0 : Int32)) ((-2000000002 : Int32), el 1 1 1 0 1 ah pr ts tr) (el_57 ah pr ts tr)) ⟨hx, hb, hml, hown, hts⟩ (vx_cwSW 3 hts gT_ask rfl rfl rfl (by decide +kernel) ⟨(Nat.le_of_ble_eq_true rfl), (Nat.le_of_ble_eq_true rfl)⟩) hK hN hX hNc hS hA (by rw [List.append_nil]; exact hP) (by rw [List.append_nil]; exact hD) hl.1 (Nat.le_of_ble_eq_true rfl) dL_law_1201 ⟨(Nat.le_of_ble_eq_true rfl), (Nat.le_of_ble_eq_true rfl)⟩ (fun H locs hP hD hS => ?_)
  rw [List.append_nil] at hP hD
  have hP : va_P D vwCl (ow T q (el 1 1 1 0 1 ah pr ts tr)) H := hP
  have hD : va_D A (ow T q (el 1 1 1 0 1 ah pr ts tr)) := hD
  refine W.widen (k := 309) (n := 9398) (Nat.le_of_ble_eq_true rfl) (Nat.le_of_ble_eq_true rfl) ?_
  refine lv_ldc (v := (-2000000002 : Int32)) hx hb hown (hts _ lm_constant_RL_76_2000000002) dL_law_1204 ?_
  refine lv_icmp_ne (tgt := 1394) hx hb dL_law_1206 (by decide) (fun c9 => absurd rfl c9) (fun _ => ?_)
  refine lv_aload_n hx hb dL_law_1209 rfl (lv_at hl 0 rfl) ?_
  refine lv_bipush (v := (122 : Int32)) hx hb dL_law_1210 (by decide) ?_
  refine lv_iconst (v := (1 : Int32)) hx hb dL_law_1212 (by decide) ?_
  refine lk_new (N' := 1) hx hb (hts _ lm_arrayClass_int) hK hP hD hS hA (by decide) (by decide +kernel) (Nat.le_of_ble_eq_true rfl) (Nat.le_of_ble_eq_true rfl) (Nat.le_of_ble_eq_true rfl) dL_law_1213 (fun qv1213 H hP hD hS => ?_)
  refine lv_dup hx hb dL_law_1215 rfl ?_
  refine lv_iconst (v := (0 : Int32)) hx hb dL_law_1216 (by decide) ?_
  refine lv_iconst (v := (5 : Int32)) hx hb dL_law_1217 (by decide) ?_
  refine va_iast hx hb hK hP hD hS 0 0 rfl rfl (zk_lit (by decide +kernel)) dL_law_1218 (fun H locs hP hD hS => ?_)
  have hP : va_P D vwCl ((qv1213, .inl (T 0, 1, .inl (upd (fun _ => (0 : Int32)) (0 : Int32).toNatClampNeg (5 : Int32)))) :: (ow T q (el 1 1 1 0 1 ah pr ts tr))) H := hP
  have hD : va_D A ((qv1213, .inl (T 0, 1, .inl (upd (fun _ => (0 : Int32)) (0 : Int32).toNatClampNeg (5 : Int32)))) :: (ow T q (el 1 1 1 0 1 ah pr ts tr))) := hD
  refine lk_ask (ws' := []) (nL := 2) (rw_ := []) (stk := []) (x := el 1 1 1 0 1 ah pr ts tr) (o := ((1 : Int32), el 5 1 1 0 1 ah pr ts tr)) (fun sz => a_z l hst D T 3000 q qv1213 sz (el 1 1 1 0 1 ah pr ts tr) 1 (upd (fun _ => (0 : Int32)) (0 : Int32).toNatClampNeg (5 : Int32)) ((1 : Int32), el 5 1 1 0 1 ah pr ts tr) (el_58 ah pr ts tr)) ⟨hx, hb, hml, hown, hts⟩ (vx_cwSW 3 hts gT_ask rfl rfl rfl (by decide +kernel) ⟨(Nat.le_of_ble_eq_true rfl), (Nat.le_of_ble_eq_true rfl)⟩) hK hN hX hNc hS hA (by rw [List.append_nil]; exact hP) (by rw [List.append_nil]; exact hD) hl.1 (Nat.le_of_ble_eq_true rfl) dL_law_1219 ⟨(Nat.le_of_ble_eq_true rfl), (Nat.le_of_ble_eq_true rfl)⟩ (fun H locs hP hD hS => ?_)
  rw [List.append_nil] at hP hD
  have hP : va_P D vwCl (ow T q (el 5 1 1 0 1 ah pr ts tr)) H := hP
  have hD : va_D A (ow T q (el 5 1 1 0 1 ah pr ts tr)) := hD
  refine W.widen (k := 311) (n := 9405) (Nat.le_of_ble_eq_true rfl) (Nat.le_of_ble_eq_true rfl) ?_
  refine lv_iconst (v := (1 : Int32)) hx hb dL_law_1222 (by decide) ?_
  refine lv_icmp_ne (tgt := 1394) hx hb dL_law_1223 (by decide) (fun c9 => absurd rfl c9) (fun _ => ?_)
  refine lv_aload_n hx hb dL_law_1226 rfl (lv_at hl 0 rfl) ?_
  refine lv_bipush (v := (77 : Int32)) hx hb dL_law_1227 (by decide) ?_
  refine lv_iconst (v := (1 : Int32)) hx hb dL_law_1229 (by decide) ?_
  refine lk_new (N' := 1) hx hb (hts _ lm_arrayClass_int) hK hP hD hS hA (by decide) (by decide +kernel) (Nat.le_of_ble_eq_true rfl) (Nat.le_of_ble_eq_true rfl) (Nat.le_of_ble_eq_true rfl) dL_law_1230 (fun qv1230 H hP hD hS => ?_)
  refine lv_dup hx hb dL_law_1232 rfl ?_
  refine lv_iconst (v := (0 : Int32)) hx hb dL_law_1233 (by decide) ?_
  refine lv_sipush (v := (10000 : Int32)) hx hb dL_law_1234 (by decide) ?_
  refine va_iast hx hb hK hP hD hS 0 0 rfl rfl (zk_lit (by decide +kernel)) dL_law_1237 (fun H locs hP hD hS => ?_)
  have hP : va_P D vwCl ((qv1230, .inl (T 0, 1, .inl (upd (fun _ => (0 : Int32)) (0 : Int32).toNatClampNeg (10000 : Int32)))) :: (ow T q (el 5 1 1 0 1 ah pr ts tr))) H := hP
  have hD : va_D A ((qv1230, .inl (T 0, 1, .inl (upd (fun _ => (0 : Int32)) (0 : Int32).toNatClampNeg (10000 : Int32)))) :: (ow T q (el 5 1 1 0 1 ah pr ts tr))) := hD
  refine lk_ask (ws' := []) (nL := 2) (rw_ := []) (stk := []) (x := el 5 1 1 0 1 ah pr ts tr) (o := ((-2000000002 : Int32), el 5 1 1 0 1 ah pr ts tr)) (fun sz => a_M l hst D T 3000 q qv1230 sz (el 5 1 1 0 1 ah pr ts tr) 1 (upd (fun _ => (0 : Int32)) (0 : Int32).toNatClampNeg (10000 : Int32)) ((-2000000002 : Int32), el 5 1 1 0 1 ah pr ts tr) (el_59 ah pr ts tr)) ⟨hx, hb, hml, hown, hts⟩ (vx_cwSW 3 hts gT_ask rfl rfl rfl (by decide +kernel) ⟨(Nat.le_of_ble_eq_true rfl), (Nat.le_of_ble_eq_true rfl)⟩) hK hN hX hNc hS hA (by rw [List.append_nil]; exact hP) (by rw [List.append_nil]; exact hD) hl.1 (Nat.le_of_ble_eq_true rfl) dL_law_1238 ⟨(Nat.le_of_ble_eq_true rfl), (Nat.le_of_ble_eq_true rfl)⟩ (fun H locs hP hD hS => ?_)
  rw [List.append_nil] at hP hD
  have hP : va_P D vwCl (ow T q (el 5 1 1 0 1 ah pr ts tr)) H := hP
  have hD : va_D A (ow T q (el 5 1 1 0 1 ah pr ts tr)) := hD
  refine W.widen (k := 314) (n := 9418) (Nat.le_of_ble_eq_true rfl) (Nat.le_of_ble_eq_true rfl) ?_
  refine lv_ldc (v := (-2000000002 : Int32)) hx hb hown (hts _ lm_constant_RL_76_2000000002) dL_law_1241 ?_
  refine lv_icmp_ne (tgt := 1394) hx hb dL_law_1243 (by decide) (fun c9 => absurd rfl c9) (fun _ => ?_)
  refine lv_aload_n hx hb dL_law_1246 rfl (lv_at hl 0 rfl) ?_
  refine lv_bipush (v := (70 : Int32)) hx hb dL_law_1247 (by decide) ?_
  refine lv_iconst (v := (0 : Int32)) hx hb dL_law_1249 (by decide) ?_
  refine lk_new (N' := 0) hx hb (hts _ lm_arrayClass_int) hK hP hD hS hA (by decide) (by decide +kernel) (Nat.le_of_ble_eq_true rfl) (Nat.le_of_ble_eq_true rfl) (Nat.le_of_ble_eq_true rfl) dL_law_1250 (fun qv1250 H hP hD hS => ?_)
  refine lk_ask (ws' := []) (nL := 2) (rw_ := []) (stk := []) (x := el 5 1 1 0 1 ah pr ts tr) (o := ((98 : Int32), el 5 1 1 0 1 ah pr ts tr)) (fun sz => a_F l hst D T 3000 q qv1250 sz (el 5 1 1 0 1 ah pr ts tr) 0 (fun _ => (0 : Int32)) ((98 : Int32), el 5 1 1 0 1 ah pr ts tr) (el_60 ah pr ts tr)) ⟨hx, hb, hml, hown, hts⟩ (vx_cwSW 3 hts gT_ask rfl rfl rfl (by decide +kernel) ⟨(Nat.le_of_ble_eq_true rfl), (Nat.le_of_ble_eq_true rfl)⟩) hK hN hX hNc hS hA (by rw [List.append_nil]; exact hP) (by rw [List.append_nil]; exact hD) hl.1 (Nat.le_of_ble_eq_true rfl) dL_law_1252 ⟨(Nat.le_of_ble_eq_true rfl), (Nat.le_of_ble_eq_true rfl)⟩ (fun H locs hP hD hS => ?_)
  rw [List.append_nil] at hP hD
  have hP : va_P D vwCl (ow T q (el 5 1 1 0 1 ah pr ts tr)) H := hP
  have hD : va_D A (ow T q (el 5 1 1 0 1 ah pr ts tr)) := hD
  refine W.widen (k := 315) (n := 9418) (Nat.le_of_ble_eq_true rfl) (Nat.le_of_ble_eq_true rfl) ?_
  refine lv_bipush (v := (98 : Int32)) hx hb dL_law_1255 (by decide) ?_
  refine lv_icmp_ne (tgt := 1394) hx hb dL_law_1257 (by decide) (fun c9 => absurd rfl c9) (fun _ => ?_)
  refine lv_aload_n hx hb dL_law_1260 rfl (lv_at hl 0 rfl) ?_
  refine lv_bipush (v := (117 : Int32)) hx hb dL_law_1261 (by decide) ?_
  refine lv_iconst (v := (1 : Int32)) hx hb dL_law_1263 (by decide) ?_
  refine lk_new (N' := 1) hx hb (hts _ lm_arrayClass_int) hK hP hD hS hA (by decide) (by decide +kernel) (Nat.le_of_ble_eq_true rfl) (Nat.le_of_ble_eq_true rfl) (Nat.le_of_ble_eq_true rfl) dL_law_1264 (fun qv1264 H hP hD hS => ?_)
  refine lv_dup hx hb dL_law_1266 rfl ?_
  refine lv_iconst (v := (0 : Int32)) hx hb dL_law_1267 (by decide) ?_
  refine lv_iconst (v := (0 : Int32)) hx hb dL_law_1268 (by decide) ?_
  refine va_iast hx hb hK hP hD hS 0 0 rfl rfl (zk_lit (by decide +kernel)) dL_law_1269 (fun H locs hP hD hS => ?_)
  have hP : va_P D vwCl ((qv1264, .inl (T 0, 1, .inl (upd (fun _ => (0 : Int32)) (0 : Int32).toNatClampNeg (0 : Int32)))) :: (ow T q (el 5 1 1 0 1 ah pr ts tr))) H := hP
  have hD : va_D A ((qv1264, .inl (T 0, 1, .inl (upd (fun _ => (0 : Int32)) (0 : Int32).toNatClampNeg (0 : Int32)))) :: (ow T q (el 5 1 1 0 1 ah pr ts tr))) := hD
  refine lk_ask (ws' := []) (nL := 2) (rw_ := []) (stk := []) (x := el 5 1 1 0 1 ah pr ts tr) (o := ((-2000000005 : Int32), el 5 1 1 0 1 ah pr ts tr)) (fun sz => a_u l hst D T 3000 q qv1264 sz (el 5 1 1 0 1 ah pr ts tr) 1 (upd (fun _ => (0 : Int32)) (0 : Int32).toNatClampNeg (0 : Int32)) ((-2000000005 : Int32), el 5 1 1 0 1 ah pr ts tr) (el_61 ah pr ts tr)) ⟨hx, hb, hml, hown, hts⟩ (vx_cwSW 3 hts gT_ask rfl rfl rfl (by decide +kernel) ⟨(Nat.le_of_ble_eq_true rfl), (Nat.le_of_ble_eq_true rfl)⟩) hK hN hX hNc hS hA (by rw [List.append_nil]; exact hP) (by rw [List.append_nil]; exact hD) hl.1 (Nat.le_of_ble_eq_true rfl) dL_law_1270 ⟨(Nat.le_of_ble_eq_true rfl), (Nat.le_of_ble_eq_true rfl)⟩ (fun H locs hP hD hS => ?_)
  rw [List.append_nil] at hP hD
  have hP : va_P D vwCl (ow T q (el 5 1 1 0 1 ah pr ts tr)) H := hP
  have hD : va_D A (ow T q (el 5 1 1 0 1 ah pr ts tr)) := hD
  refine W.widen (k := 317) (n := 9425) (Nat.le_of_ble_eq_true rfl) (Nat.le_of_ble_eq_true rfl) ?_
  refine lv_ldc (v := (-2000000005 : Int32)) hx hb hown (hts _ lm_constant_RL_88_2000000005) dL_law_1273 ?_
  refine lv_icmp_ne (tgt := 1394) hx hb dL_law_1275 (by decide) (fun c9 => absurd rfl c9) (fun _ => ?_)
  refine lv_aload_n hx hb dL_law_1278 rfl (lv_at hl 0 rfl) ?_
  refine lv_bipush (v := (121 : Int32)) hx hb dL_law_1279 (by decide) ?_
  refine lv_iconst (v := (2 : Int32)) hx hb dL_law_1281 (by decide) ?_
  refine lk_new (N' := 2) hx hb (hts _ lm_arrayClass_int) hK hP hD hS hA (by decide) (by decide +kernel) (Nat.le_of_ble_eq_true rfl) (Nat.le_of_ble_eq_true rfl) (Nat.le_of_ble_eq_true rfl) dL_law_1282 (fun qv1282 H hP hD hS => ?_)
  refine lv_dup hx hb dL_law_1284 rfl ?_
  refine lv_iconst (v := (0 : Int32)) hx hb dL_law_1285 (by decide) ?_
  refine lv_iconst (v := (0 : Int32)) hx hb dL_law_1286 (by decide) ?_
  refine va_iast hx hb hK hP hD hS 0 0 rfl rfl (zk_lit (by decide +kernel)) dL_law_1287 (fun H locs hP hD hS => ?_)
  have hP : va_P D vwCl ((qv1282, .inl (T 0, 2, .inl (upd (fun _ => (0 : Int32)) (0 : Int32).toNatClampNeg (0 : Int32)))) :: (ow T q (el 5 1 1 0 1 ah pr ts tr))) H := hP
  have hD : va_D A ((qv1282, .inl (T 0, 2, .inl (upd (fun _ => (0 : Int32)) (0 : Int32).toNatClampNeg (0 : Int32)))) :: (ow T q (el 5 1 1 0 1 ah pr ts tr))) := hD
  refine lv_dup hx hb dL_law_1288 rfl ?_
  refine lv_iconst (v := (1 : Int32)) hx hb dL_law_1289 (by decide) ?_
  refine lv_iconst (v := (0 : Int32)) hx hb dL_law_1290 (by decide) ?_
  refine va_iast hx hb hK hP hD hS 0 0 rfl rfl (zk_lit (by decide +kernel)) dL_law_1291 (fun H locs hP hD hS => ?_)
  have hP : va_P D vwCl ((qv1282, .inl (T 0, 2, .inl (upd (upd (fun _ => (0 : Int32)) (0 : Int32).toNatClampNeg (0 : Int32)) (1 : Int32).toNatClampNeg (0 : Int32)))) :: (ow T q (el 5 1 1 0 1 ah pr ts tr))) H := hP
  have hD : va_D A ((qv1282, .inl (T 0, 2, .inl (upd (upd (fun _ => (0 : Int32)) (0 : Int32).toNatClampNeg (0 : Int32)) (1 : Int32).toNatClampNeg (0 : Int32)))) :: (ow T q (el 5 1 1 0 1 ah pr ts tr))) := hD
  refine lk_ask (ws' := []) (nL := 2) (rw_ := []) (stk := []) (x := el 5 1 1 0 1 ah pr ts tr) (o := ((-2000000002 : Int32), el 5 1 1 0 1 ah pr ts tr)) (fun sz => a_y l hst D T 3000 q qv1282 sz (el 5 1 1 0 1 ah pr ts tr) 2 (upd (upd (fun _ => (0 : Int32)) (0 : Int32).toNatClampNeg (0 : Int32)) (1 : Int32).toNatClampNeg (0 : Int32)) ((-2000000002 : Int32), el 5 1 1 0 1 ah pr ts tr) (el_62 ah pr ts tr)) ⟨hx, hb, hml, hown, hts⟩ (vx_cwSW 3 hts gT_ask rfl rfl rfl (by decide +kernel) ⟨(Nat.le_of_ble_eq_true rfl), (Nat.le_of_ble_eq_true rfl)⟩) hK hN hX hNc hS hA (by rw [List.append_nil]; exact hP) (by rw [List.append_nil]; exact hD) hl.1 (Nat.le_of_ble_eq_true rfl) dL_law_1292 ⟨(Nat.le_of_ble_eq_true rfl), (Nat.le_of_ble_eq_true rfl)⟩ (fun H locs hP hD hS => ?_)
  rw [List.append_nil] at hP hD
  have hP : va_P D vwCl (ow T q (el 5 1 1 0 1 ah pr ts tr)) H := hP
  have hD : va_D A (ow T q (el 5 1 1 0 1 ah pr ts tr)) := hD
  refine W.widen (k := 320) (n := 9439) (Nat.le_of_ble_eq_true rfl) (Nat.le_of_ble_eq_true rfl) ?_
  refine lv_ldc (v := (-2000000002 : Int32)) hx hb hown (hts _ lm_constant_RL_76_2000000002) dL_law_1295 ?_
  refine lv_icmp_ne (tgt := 1394) hx hb dL_law_1297 (by decide) (fun c9 => absurd rfl c9) (fun _ => ?_)
  refine lv_aload_n hx hb dL_law_1300 rfl (lv_at hl 0 rfl) ?_
  refine lv_bipush (v := (121 : Int32)) hx hb dL_law_1301 (by decide) ?_
  refine lv_iconst (v := (2 : Int32)) hx hb dL_law_1303 (by decide) ?_
  refine lk_new (N' := 2) hx hb (hts _ lm_arrayClass_int) hK hP hD hS hA (by decide) (by decide +kernel) (Nat.le_of_ble_eq_true rfl) (Nat.le_of_ble_eq_true rfl) (Nat.le_of_ble_eq_true rfl) dL_law_1304 (fun qv1304 H hP hD hS => ?_)
  refine lv_dup hx hb dL_law_1306 rfl ?_
  refine lv_iconst (v := (0 : Int32)) hx hb dL_law_1307 (by decide) ?_
  refine lv_iconst (v := (1 : Int32)) hx hb dL_law_1308 (by decide) ?_
  refine va_iast hx hb hK hP hD hS 0 0 rfl rfl (zk_lit (by decide +kernel)) dL_law_1309 (fun H locs hP hD hS => ?_)
  have hP : va_P D vwCl ((qv1304, .inl (T 0, 2, .inl (upd (fun _ => (0 : Int32)) (0 : Int32).toNatClampNeg (1 : Int32)))) :: (ow T q (el 5 1 1 0 1 ah pr ts tr))) H := hP
  have hD : va_D A ((qv1304, .inl (T 0, 2, .inl (upd (fun _ => (0 : Int32)) (0 : Int32).toNatClampNeg (1 : Int32)))) :: (ow T q (el 5 1 1 0 1 ah pr ts tr))) := hD
  refine lv_dup hx hb dL_law_1310 rfl ?_
  refine lv_iconst (v := (1 : Int32)) hx hb dL_law_1311 (by decide) ?_
  refine lv_bipush (v := (100 : Int32)) hx hb dL_law_1312 (by decide) ?_
  refine va_iast hx hb hK hP hD hS 0 0 rfl rfl (zk_lit (by decide +kernel)) dL_law_1314 (fun H locs hP hD hS => ?_)
  have hP : va_P D vwCl ((qv1304, .inl (T 0, 2, .inl (upd (upd (fun _ => (0 : Int32)) (0 : Int32).toNatClampNeg (1 : Int32)) (1 : Int32).toNatClampNeg (100 : Int32)))) :: (ow T q (el 5 1 1 0 1 ah pr ts tr))) H := hP
  have hD : va_D A ((qv1304, .inl (T 0, 2, .inl (upd (upd (fun _ => (0 : Int32)) (0 : Int32).toNatClampNeg (1 : Int32)) (1 : Int32).toNatClampNeg (100 : Int32)))) :: (ow T q (el 5 1 1 0 1 ah pr ts tr))) := hD
  refine lk_ask (ws' := []) (nL := 2) (rw_ := []) (stk := []) (x := el 5 1 1 0 1 ah pr ts tr) (o := ((-2000000002 : Int32), el 5 1 1 0 1 ah pr ts tr)) (fun sz => a_y l hst D T 3000 q qv1304 sz (el 5 1 1 0 1 ah pr ts tr) 2 (upd (upd (fun _ => (0 : Int32)) (0 : Int32).toNatClampNeg (1 : Int32)) (1 : Int32).toNatClampNeg (100 : Int32)) ((-2000000002 : Int32), el 5 1 1 0 1 ah pr ts tr) (el_63 ah pr ts tr)) ⟨hx, hb, hml, hown, hts⟩ (vx_cwSW 3 hts gT_ask rfl rfl rfl (by decide +kernel) ⟨(Nat.le_of_ble_eq_true rfl), (Nat.le_of_ble_eq_true rfl)⟩) hK hN hX hNc hS hA (by rw [List.append_nil]; exact hP) (by rw [List.append_nil]; exact hD) hl.1 (Nat.le_of_ble_eq_true rfl) dL_law_1315 ⟨(Nat.le_of_ble_eq_true rfl), (Nat.le_of_ble_eq_true rfl)⟩ (fun H locs hP hD hS => ?_)
  rw [List.append_nil] at hP hD
  have hP : va_P D vwCl (ow T q (el 5 1 1 0 1 ah pr ts tr)) H := hP
  have hD : va_D A (ow T q (el 5 1 1 0 1 ah pr ts tr)) := hD
  refine W.widen (k := 323) (n := 9453) (Nat.le_of_ble_eq_true rfl) (Nat.le_of_ble_eq_true rfl) ?_
  refine lv_ldc (v := (-2000000002 : Int32)) hx hb hown (hts _ lm_constant_RL_76_2000000002) dL_law_1318 ?_
  refine lv_icmp_ne (tgt := 1394) hx hb dL_law_1320 (by decide) (fun c9 => absurd rfl c9) (fun _ => ?_)
  refine lv_aload_n hx hb dL_law_1323 rfl (lv_at hl 0 rfl) ?_
  refine lv_bipush (v := (89 : Int32)) hx hb dL_law_1324 (by decide) ?_
  refine lv_iconst (v := (1 : Int32)) hx hb dL_law_1326 (by decide) ?_
  refine lk_new (N' := 1) hx hb (hts _ lm_arrayClass_int) hK hP hD hS hA (by decide) (by decide +kernel) (Nat.le_of_ble_eq_true rfl) (Nat.le_of_ble_eq_true rfl) (Nat.le_of_ble_eq_true rfl) dL_law_1327 (fun qv1327 H hP hD hS => ?_)
  refine lv_dup hx hb dL_law_1329 rfl ?_
  refine lv_iconst (v := (0 : Int32)) hx hb dL_law_1330 (by decide) ?_
  refine lv_iconst (v := (0 : Int32)) hx hb dL_law_1331 (by decide) ?_
  refine va_iast hx hb hK hP hD hS 0 0 rfl rfl (zk_lit (by decide +kernel)) dL_law_1332 (fun H locs hP hD hS => ?_)
  have hP : va_P D vwCl ((qv1327, .inl (T 0, 1, .inl (upd (fun _ => (0 : Int32)) (0 : Int32).toNatClampNeg (0 : Int32)))) :: (ow T q (el 5 1 1 0 1 ah pr ts tr))) H := hP
  have hD : va_D A ((qv1327, .inl (T 0, 1, .inl (upd (fun _ => (0 : Int32)) (0 : Int32).toNatClampNeg (0 : Int32)))) :: (ow T q (el 5 1 1 0 1 ah pr ts tr))) := hD
  refine lk_ask (ws' := []) (nL := 2) (rw_ := []) (stk := []) (x := el 5 1 1 0 1 ah pr ts tr) (o := ((-2000000002 : Int32), el 5 1 1 0 1 ah pr ts tr)) (fun sz => a_Y l hst D T 3000 q qv1327 sz (el 5 1 1 0 1 ah pr ts tr) 1 (upd (fun _ => (0 : Int32)) (0 : Int32).toNatClampNeg (0 : Int32)) ((-2000000002 : Int32), el 5 1 1 0 1 ah pr ts tr) (el_64 ah pr ts tr)) ⟨hx, hb, hml, hown, hts⟩ (vx_cwSW 3 hts gT_ask rfl rfl rfl (by decide +kernel) ⟨(Nat.le_of_ble_eq_true rfl), (Nat.le_of_ble_eq_true rfl)⟩) hK hN hX hNc hS hA (by rw [List.append_nil]; exact hP) (by rw [List.append_nil]; exact hD) hl.1 (Nat.le_of_ble_eq_true rfl) dL_law_1333 ⟨(Nat.le_of_ble_eq_true rfl), (Nat.le_of_ble_eq_true rfl)⟩ (fun H locs hP hD hS => ?_)
  rw [List.append_nil] at hP hD
  have hP : va_P D vwCl (ow T q (el 5 1 1 0 1 ah pr ts tr)) H := hP
  have hD : va_D A (ow T q (el 5 1 1 0 1 ah pr ts tr)) := hD
  refine W.widen (k := 325) (n := 9460) (Nat.le_of_ble_eq_true rfl) (Nat.le_of_ble_eq_true rfl) ?_
  refine lv_ldc (v := (-2000000002 : Int32)) hx hb hown (hts _ lm_constant_RL_76_2000000002) dL_law_1336 ?_
  refine lv_icmp_ne (tgt := 1394) hx hb dL_law_1338 (by decide) (fun c9 => absurd rfl c9) (fun _ => ?_)
  exact kk ah pr ts tr H locs hP hD hS

/-! rows of mine: the law's first calls, in pieces -/
set_option maxHeartbeats 16000000 in
set_option maxRecDepth 100000 in
theorem law_s7 {p : Program} {l : Launch} {e : Env} {s : State} {m : MethodId} {below : List Frame} {meth : Method} {c : Code} {Q : State → Prop} {A : Nat → Prop} {D : va_G} {T : Nat → ClassId} {q : Nat → Nat} {b : Nat} {ls : Array Slot} (hst : l.stackTraces = false) (hx : p.tables.exec = Jvm.exec) (hb : c.code = cL_law) (hml : c.maxLocals = 2) (hown : s.vm.findClass RL = some m.cls) (hts : ∀ w ∈ lw_tbl, w.before #[Value.ref b] s = true) (hA : ∀ q : Nat, s.heap.size ≤ q → A q) (hK : va_K D vwCl (zk_ty T) s) (hN : zk_N s) (hX : zx_K A s s.heap) (hNc : zn_K s) (hl : lv_has ls 2 [(1, .ref (q 0)), (0, .ref b)]) {ah : (Nat → Int32) × (Nat → Int32) × (Int32 × (Nat → Int32) × (Nat → Int32)) × (Int32 × (Nat → Int32) × (Nat → Int32))} {pr : (Int32 × Int32 × Int32 × (Nat → Int32) × (Nat → Int32) × (Nat → Int32) × (Nat → Int32) × (Nat → Int32) × (Nat → Int32) × (Nat → Int32) × (Nat → Int32))} {ts : (Int32 × (Nat → Int32) × (Nat → Int32))} {tr : (Int32 × Int32 × (Nat → Int32) × (Nat → Int32) × (Int32 × (Nat → Int32) × (Nat → Int32)) × (Int32 × (Nat → Int32) × (Nat → Int32)))} {H : Heap} {locs : List Loc} (hP : va_P D vwCl (ow T q (el 1 1 1 0 1 ah pr ts tr)) H) (hD : va_D A (ow T q (el 1 1 1 0 1 ah pr ts tr))) (hS : va_S A s.heap H locs) (kk : ∀ (ah : (Nat → Int32) × (Nat → Int32) × (Int32 × (Nat → Int32) × (Nat → Int32)) × (Int32 × (Nat → Int32) × (Nat → Int32))) (pr : (Int32 × Int32 × Int32 × (Nat → Int32) × (Nat → Int32) × (Nat → Int32) × (Nat → Int32) × (Nat → Int32) × (Nat → Int32) × (Nat → Int32) × (Nat → Int32))) (ts : (Int32 × (Nat → Int32) × (Nat → Int32))) (tr : (Int32 × Int32 × (Nat → Int32) × (Nat → Int32) × (Int32 × (Nat → Int32) × (Nat → Int32)) × (Int32 × (Nat → Int32) × (Nat → Int32)))) (H : Heap) (locs : List Loc), va_P D vwCl (ow T q (el 1 1 1 0 1 ah pr ts tr)) H → va_D A (ow T q (el 1 1 1 0 1 ah pr ts tr)) → va_S A s.heap H locs → W p l e room_1 s m #[Value.ref b] below meth c H locs 307 9391 Q (F0 m 1191 ls [])) : W p l e room_1 s m #[Value.ref b] below meth c H locs 250 9082 Q (F0 m 1016 ls []) := by
  refine lv_aload_n hx hb dL_law_1016 rfl (lv_at hl 0 rfl) ?_
  refine lv_bipush (v := (107 : Int32)) hx hb dL_law_1017 (by decide) ?_
  refine lv_iconst (v := (3 : Int32)) hx hb dL_law_1019 (by decide) ?_
  refine lk_new (N' := 3) hx hb (hts _ lm_arrayClass_int) hK hP hD hS hA (by decide) (by decide +kernel) (Nat.le_of_ble_eq_true rfl) (Nat.le_of_ble_eq_true rfl) (Nat.le_of_ble_eq_true rfl) dL_law_1020 (fun qv1020 H hP hD hS => ?_)
  refine lv_dup hx hb dL_law_1022 rfl ?_
  refine lv_iconst (v := (0 : Int32)) hx hb dL_law_1023 (by decide) ?_
  refine lv_iconst (v := (0 : Int32)) hx hb dL_law_1024 (by decide) ?_
  refine va_iast hx hb hK hP hD hS 0 0 rfl rfl (zk_lit (by decide +kernel)) dL_law_1025 (fun H locs hP hD hS => ?_)
  have hP : va_P D vwCl ((qv1020, .inl (T 0, 3, .inl (upd (fun _ => (0 : Int32)) (0 : Int32).toNatClampNeg (0 : Int32)))) :: (ow T q (el 1 1 1 0 1 ah pr ts tr))) H := hP
  have hD : va_D A ((qv1020, .inl (T 0, 3, .inl (upd (fun _ => (0 : Int32)) (0 : Int32).toNatClampNeg (0 : Int32)))) :: (ow T q (el 1 1 1 0 1 ah pr ts tr))) := hD
  refine lv_dup hx hb dL_law_1026 rfl ?_
  refine lv_iconst (v := (1 : Int32)) hx hb dL_law_1027 (by decide) ?_
  refine lv_iconst (v := (1 : Int32)) hx hb dL_law_1028 (by decide) ?_
  refine va_iast hx hb hK hP hD hS 0 0 rfl rfl (zk_lit (by decide +kernel)) dL_law_1029 (fun H locs hP hD hS => ?_)
  have hP : va_P D vwCl ((qv1020, .inl (T 0, 3, .inl (upd (upd (fun _ => (0 : Int32)) (0 : Int32).toNatClampNeg (0 : Int32)) (1 : Int32).toNatClampNeg (1 : Int32)))) :: (ow T q (el 1 1 1 0 1 ah pr ts tr))) H := hP
  have hD : va_D A ((qv1020, .inl (T 0, 3, .inl (upd (upd (fun _ => (0 : Int32)) (0 : Int32).toNatClampNeg (0 : Int32)) (1 : Int32).toNatClampNeg (1 : Int32)))) :: (ow T q (el 1 1 1 0 1 ah pr ts tr))) := hD
  refine lv_dup hx hb dL_law_1030 rfl ?_
  refine lv_iconst (v := (2 : Int32)) hx hb dL_law_1031 (by decide) ?_
  refine lv_iconst (v := (1 : Int32)) hx hb dL_law_1032 (by decide) ?_
  refine va_iast hx hb hK hP hD hS 0 0 rfl rfl (zk_lit (by decide +kernel)) dL_law_1033 (fun H locs hP hD hS => ?_)
  have hP : va_P D vwCl ((qv1020, .inl (T 0, 3, .inl (upd (upd (upd (fun _ => (0 : Int32)) (0 : Int32).toNatClampNeg (0 : Int32)) (1 : Int32).toNatClampNeg (1 : Int32)) (2 : Int32).toNatClampNeg (1 : Int32)))) :: (ow T q (el 1 1 1 0 1 ah pr ts tr))) H := hP
  have hD : va_D A ((qv1020, .inl (T 0, 3, .inl (upd (upd (upd (fun _ => (0 : Int32)) (0 : Int32).toNatClampNeg (0 : Int32)) (1 : Int32).toNatClampNeg (1 : Int32)) (2 : Int32).toNatClampNeg (1 : Int32)))) :: (ow T q (el 1 1 1 0 1 ah pr ts tr))) := hD
  refine lk_ask (ws' := []) (nL := 2) (rw_ := []) (stk := []) (x := el 1 1 1 0 1 ah pr ts tr) (o := ((-2000000002 : Int32), el 1 1 1 0 1 ah pr ts tr)) (fun sz => a_k l hst D T 3000 q qv1020 sz (el 1 1 1 0 1 ah pr ts tr) 3 (upd (upd (upd (fun _ => (0 : Int32)) (0 : Int32).toNatClampNeg (0 : Int32)) (1 : Int32).toNatClampNeg (1 : Int32)) (2 : Int32).toNatClampNeg (1 : Int32)) ((-2000000002 : Int32), el 1 1 1 0 1 ah pr ts tr) (el_49 ah pr ts tr)) ⟨hx, hb, hml, hown, hts⟩ (vx_cwSW 3 hts gT_ask rfl rfl rfl (by decide +kernel) ⟨(Nat.le_of_ble_eq_true rfl), (Nat.le_of_ble_eq_true rfl)⟩) hK hN hX hNc hS hA (by rw [List.append_nil]; exact hP) (by rw [List.append_nil]; exact hD) hl.1 (Nat.le_of_ble_eq_true rfl) dL_law_1034 ⟨(Nat.le_of_ble_eq_true rfl), (Nat.le_of_ble_eq_true rfl)⟩ (fun H locs hP hD hS => ?_)
  rw [List.append_nil] at hP hD
  have hP : va_P D vwCl (ow T q (el 1 1 1 0 1 ah pr ts tr)) H := hP
  have hD : va_D A (ow T q (el 1 1 1 0 1 ah pr ts tr)) := hD
  refine W.widen (k := 263) (n := 9157) (Nat.le_of_ble_eq_true rfl) (Nat.le_of_ble_eq_true rfl) ?_
  refine lv_ldc (v := (-2000000002 : Int32)) hx hb hown (hts _ lm_constant_RL_76_2000000002) dL_law_1037 ?_
  refine lv_icmp_ne (tgt := 1394) hx hb dL_law_1039 (by decide) (fun c9 => absurd rfl c9) (fun _ => ?_)
  refine lv_aload_n hx hb dL_law_1042 rfl (lv_at hl 0 rfl) ?_
  refine lv_bipush (v := (107 : Int32)) hx hb dL_law_1043 (by decide) ?_
  refine lv_iconst (v := (3 : Int32)) hx hb dL_law_1045 (by decide) ?_
  refine lk_new (N' := 3) hx hb (hts _ lm_arrayClass_int) hK hP hD hS hA (by decide) (by decide +kernel) (Nat.le_of_ble_eq_true rfl) (Nat.le_of_ble_eq_true rfl) (Nat.le_of_ble_eq_true rfl) dL_law_1046 (fun qv1046 H hP hD hS => ?_)
  refine lv_dup hx hb dL_law_1048 rfl ?_
  refine lv_iconst (v := (0 : Int32)) hx hb dL_law_1049 (by decide) ?_
  refine lv_iconst (v := (0 : Int32)) hx hb dL_law_1050 (by decide) ?_
  refine va_iast hx hb hK hP hD hS 0 0 rfl rfl (zk_lit (by decide +kernel)) dL_law_1051 (fun H locs hP hD hS => ?_)
  have hP : va_P D vwCl ((qv1046, .inl (T 0, 3, .inl (upd (fun _ => (0 : Int32)) (0 : Int32).toNatClampNeg (0 : Int32)))) :: (ow T q (el 1 1 1 0 1 ah pr ts tr))) H := hP
  have hD : va_D A ((qv1046, .inl (T 0, 3, .inl (upd (fun _ => (0 : Int32)) (0 : Int32).toNatClampNeg (0 : Int32)))) :: (ow T q (el 1 1 1 0 1 ah pr ts tr))) := hD
  refine lv_dup hx hb dL_law_1052 rfl ?_
  refine lv_iconst (v := (1 : Int32)) hx hb dL_law_1053 (by decide) ?_
  refine lv_bipush (v := (20 : Int32)) hx hb dL_law_1054 (by decide) ?_
  refine va_iast hx hb hK hP hD hS 0 0 rfl rfl (zk_lit (by decide +kernel)) dL_law_1056 (fun H locs hP hD hS => ?_)
  have hP : va_P D vwCl ((qv1046, .inl (T 0, 3, .inl (upd (upd (fun _ => (0 : Int32)) (0 : Int32).toNatClampNeg (0 : Int32)) (1 : Int32).toNatClampNeg (20 : Int32)))) :: (ow T q (el 1 1 1 0 1 ah pr ts tr))) H := hP
  have hD : va_D A ((qv1046, .inl (T 0, 3, .inl (upd (upd (fun _ => (0 : Int32)) (0 : Int32).toNatClampNeg (0 : Int32)) (1 : Int32).toNatClampNeg (20 : Int32)))) :: (ow T q (el 1 1 1 0 1 ah pr ts tr))) := hD
  refine lv_dup hx hb dL_law_1057 rfl ?_
  refine lv_iconst (v := (2 : Int32)) hx hb dL_law_1058 (by decide) ?_
  refine lv_iconst (v := (1 : Int32)) hx hb dL_law_1059 (by decide) ?_
  refine va_iast hx hb hK hP hD hS 0 0 rfl rfl (zk_lit (by decide +kernel)) dL_law_1060 (fun H locs hP hD hS => ?_)
  have hP : va_P D vwCl ((qv1046, .inl (T 0, 3, .inl (upd (upd (upd (fun _ => (0 : Int32)) (0 : Int32).toNatClampNeg (0 : Int32)) (1 : Int32).toNatClampNeg (20 : Int32)) (2 : Int32).toNatClampNeg (1 : Int32)))) :: (ow T q (el 1 1 1 0 1 ah pr ts tr))) H := hP
  have hD : va_D A ((qv1046, .inl (T 0, 3, .inl (upd (upd (upd (fun _ => (0 : Int32)) (0 : Int32).toNatClampNeg (0 : Int32)) (1 : Int32).toNatClampNeg (20 : Int32)) (2 : Int32).toNatClampNeg (1 : Int32)))) :: (ow T q (el 1 1 1 0 1 ah pr ts tr))) := hD
  refine lk_ask (ws' := []) (nL := 2) (rw_ := []) (stk := []) (x := el 1 1 1 0 1 ah pr ts tr) (o := ((-2000000001 : Int32), el 1 1 1 0 1 ah pr ts tr)) (fun sz => a_k l hst D T 3000 q qv1046 sz (el 1 1 1 0 1 ah pr ts tr) 3 (upd (upd (upd (fun _ => (0 : Int32)) (0 : Int32).toNatClampNeg (0 : Int32)) (1 : Int32).toNatClampNeg (20 : Int32)) (2 : Int32).toNatClampNeg (1 : Int32)) ((-2000000001 : Int32), el 1 1 1 0 1 ah pr ts tr) (el_50 ah pr ts tr)) ⟨hx, hb, hml, hown, hts⟩ (vx_cwSW 3 hts gT_ask rfl rfl rfl (by decide +kernel) ⟨(Nat.le_of_ble_eq_true rfl), (Nat.le_of_ble_eq_true rfl)⟩) hK hN hX hNc hS hA (by rw [List.append_nil]; exact hP) (by rw [List.append_nil]; exact hD) hl.1 (Nat.le_of_ble_eq_true rfl) dL_law_1061 ⟨(Nat.le_of_ble_eq_true rfl), (Nat.le_of_ble_eq_true rfl)⟩ (fun H locs hP hD hS => ?_)
  rw [List.append_nil] at hP hD
  have hP : va_P D vwCl (ow T q (el 1 1 1 0 1 ah pr ts tr)) H := hP
  have hD : va_D A (ow T q (el 1 1 1 0 1 ah pr ts tr)) := hD
  refine W.widen (k := 276) (n := 9232) (Nat.le_of_ble_eq_true rfl) (Nat.le_of_ble_eq_true rfl) ?_
  refine lv_ldc (v := (-2000000001 : Int32)) hx hb hown (hts _ lm_constant_RL_73_2000000001) dL_law_1064 ?_
  refine lv_icmp_ne (tgt := 1394) hx hb dL_law_1066 (by decide) (fun c9 => absurd rfl c9) (fun _ => ?_)
  refine lv_aload_n hx hb dL_law_1069 rfl (lv_at hl 0 rfl) ?_
  refine lv_bipush (v := (116 : Int32)) hx hb dL_law_1070 (by decide) ?_
  refine lv_iconst (v := (2 : Int32)) hx hb dL_law_1072 (by decide) ?_
  refine lk_new (N' := 2) hx hb (hts _ lm_arrayClass_int) hK hP hD hS hA (by decide) (by decide +kernel) (Nat.le_of_ble_eq_true rfl) (Nat.le_of_ble_eq_true rfl) (Nat.le_of_ble_eq_true rfl) dL_law_1073 (fun qv1073 H hP hD hS => ?_)
  refine lv_dup hx hb dL_law_1075 rfl ?_
  refine lv_iconst (v := (0 : Int32)) hx hb dL_law_1076 (by decide) ?_
  refine lv_iconst (v := (0 : Int32)) hx hb dL_law_1077 (by decide) ?_
  refine va_iast hx hb hK hP hD hS 0 0 rfl rfl (zk_lit (by decide +kernel)) dL_law_1078 (fun H locs hP hD hS => ?_)
  have hP : va_P D vwCl ((qv1073, .inl (T 0, 2, .inl (upd (fun _ => (0 : Int32)) (0 : Int32).toNatClampNeg (0 : Int32)))) :: (ow T q (el 1 1 1 0 1 ah pr ts tr))) H := hP
  have hD : va_D A ((qv1073, .inl (T 0, 2, .inl (upd (fun _ => (0 : Int32)) (0 : Int32).toNatClampNeg (0 : Int32)))) :: (ow T q (el 1 1 1 0 1 ah pr ts tr))) := hD
  refine lv_dup hx hb dL_law_1079 rfl ?_
  refine lv_iconst (v := (1 : Int32)) hx hb dL_law_1080 (by decide) ?_
  refine lv_iconst (v := (0 : Int32)) hx hb dL_law_1081 (by decide) ?_
  refine va_iast hx hb hK hP hD hS 0 0 rfl rfl (zk_lit (by decide +kernel)) dL_law_1082 (fun H locs hP hD hS => ?_)
  have hP : va_P D vwCl ((qv1073, .inl (T 0, 2, .inl (upd (upd (fun _ => (0 : Int32)) (0 : Int32).toNatClampNeg (0 : Int32)) (1 : Int32).toNatClampNeg (0 : Int32)))) :: (ow T q (el 1 1 1 0 1 ah pr ts tr))) H := hP
  have hD : va_D A ((qv1073, .inl (T 0, 2, .inl (upd (upd (fun _ => (0 : Int32)) (0 : Int32).toNatClampNeg (0 : Int32)) (1 : Int32).toNatClampNeg (0 : Int32)))) :: (ow T q (el 1 1 1 0 1 ah pr ts tr))) := hD
  refine lk_ask (ws' := []) (nL := 2) (rw_ := []) (stk := []) (x := el 1 1 1 0 1 ah pr ts tr) (o := ((-2000000002 : Int32), el 1 1 1 0 1 ah pr ts tr)) (fun sz => a_t l hst D T 3000 q qv1073 sz (el 1 1 1 0 1 ah pr ts tr) 2 (upd (upd (fun _ => (0 : Int32)) (0 : Int32).toNatClampNeg (0 : Int32)) (1 : Int32).toNatClampNeg (0 : Int32)) ((-2000000002 : Int32), el 1 1 1 0 1 ah pr ts tr) (el_51 ah pr ts tr)) ⟨hx, hb, hml, hown, hts⟩ (vx_cwSW 3 hts gT_ask rfl rfl rfl (by decide +kernel) ⟨(Nat.le_of_ble_eq_true rfl), (Nat.le_of_ble_eq_true rfl)⟩) hK hN hX hNc hS hA (by rw [List.append_nil]; exact hP) (by rw [List.append_nil]; exact hD) hl.1 (Nat.le_of_ble_eq_true rfl) dL_law_1083 ⟨(Nat.le_of_ble_eq_true rfl), (Nat.le_of_ble_eq_true rfl)⟩ (fun H locs hP hD hS => ?_)
  rw [List.append_nil] at hP hD
  have hP : va_P D vwCl (ow T q (el 1 1 1 0 1 ah pr ts tr)) H := hP
  have hD : va_D A (ow T q (el 1 1 1 0 1 ah pr ts tr)) := hD
  refine W.widen (k := 284) (n := 9276) (Nat.le_of_ble_eq_true rfl) (Nat.le_of_ble_eq_true rfl) ?_
  refine lv_ldc (v := (-2000000002 : Int32)) hx hb hown (hts _ lm_constant_RL_76_2000000002) dL_law_1086 ?_
  refine lv_icmp_ne (tgt := 1394) hx hb dL_law_1088 (by decide) (fun c9 => absurd rfl c9) (fun _ => ?_)
  refine lv_aload_n hx hb dL_law_1091 rfl (lv_at hl 0 rfl) ?_
  refine lv_bipush (v := (116 : Int32)) hx hb dL_law_1092 (by decide) ?_
  refine lv_iconst (v := (2 : Int32)) hx hb dL_law_1094 (by decide) ?_
  refine lk_new (N' := 2) hx hb (hts _ lm_arrayClass_int) hK hP hD hS hA (by decide) (by decide +kernel) (Nat.le_of_ble_eq_true rfl) (Nat.le_of_ble_eq_true rfl) (Nat.le_of_ble_eq_true rfl) dL_law_1095 (fun qv1095 H hP hD hS => ?_)
  refine lv_dup hx hb dL_law_1097 rfl ?_
  refine lv_iconst (v := (0 : Int32)) hx hb dL_law_1098 (by decide) ?_
  refine lv_iconst (v := (0 : Int32)) hx hb dL_law_1099 (by decide) ?_
  refine va_iast hx hb hK hP hD hS 0 0 rfl rfl (zk_lit (by decide +kernel)) dL_law_1100 (fun H locs hP hD hS => ?_)
  have hP : va_P D vwCl ((qv1095, .inl (T 0, 2, .inl (upd (fun _ => (0 : Int32)) (0 : Int32).toNatClampNeg (0 : Int32)))) :: (ow T q (el 1 1 1 0 1 ah pr ts tr))) H := hP
  have hD : va_D A ((qv1095, .inl (T 0, 2, .inl (upd (fun _ => (0 : Int32)) (0 : Int32).toNatClampNeg (0 : Int32)))) :: (ow T q (el 1 1 1 0 1 ah pr ts tr))) := hD
  refine lv_dup hx hb dL_law_1101 rfl ?_
  refine lv_iconst (v := (1 : Int32)) hx hb dL_law_1102 (by decide) ?_
  refine lv_iconst (v := (1 : Int32)) hx hb dL_law_1103 (by decide) ?_
  refine va_iast hx hb hK hP hD hS 0 0 rfl rfl (zk_lit (by decide +kernel)) dL_law_1104 (fun H locs hP hD hS => ?_)
  have hP : va_P D vwCl ((qv1095, .inl (T 0, 2, .inl (upd (upd (fun _ => (0 : Int32)) (0 : Int32).toNatClampNeg (0 : Int32)) (1 : Int32).toNatClampNeg (1 : Int32)))) :: (ow T q (el 1 1 1 0 1 ah pr ts tr))) H := hP
  have hD : va_D A ((qv1095, .inl (T 0, 2, .inl (upd (upd (fun _ => (0 : Int32)) (0 : Int32).toNatClampNeg (0 : Int32)) (1 : Int32).toNatClampNeg (1 : Int32)))) :: (ow T q (el 1 1 1 0 1 ah pr ts tr))) := hD
  refine lk_ask (ws' := []) (nL := 2) (rw_ := []) (stk := []) (x := el 1 1 1 0 1 ah pr ts tr) (o := ((-2000000005 : Int32), el 1 1 1 0 1 ah pr ts tr)) (fun sz => a_t l hst D T 3000 q qv1095 sz (el 1 1 1 0 1 ah pr ts tr) 2 (upd (upd (fun _ => (0 : Int32)) (0 : Int32).toNatClampNeg (0 : Int32)) (1 : Int32).toNatClampNeg (1 : Int32)) ((-2000000005 : Int32), el 1 1 1 0 1 ah pr ts tr) (el_52 ah pr ts tr)) ⟨hx, hb, hml, hown, hts⟩ (vx_cwSW 3 hts gT_ask rfl rfl rfl (by decide +kernel) ⟨(Nat.le_of_ble_eq_true rfl), (Nat.le_of_ble_eq_true rfl)⟩) hK hN hX hNc hS hA (by rw [List.append_nil]; exact hP) (by rw [List.append_nil]; exact hD) hl.1 (Nat.le_of_ble_eq_true rfl) dL_law_1105 ⟨(Nat.le_of_ble_eq_true rfl), (Nat.le_of_ble_eq_true rfl)⟩ (fun H locs hP hD hS => ?_)
  rw [List.append_nil] at hP hD
  have hP : va_P D vwCl (ow T q (el 1 1 1 0 1 ah pr ts tr)) H := hP
  have hD : va_D A (ow T q (el 1 1 1 0 1 ah pr ts tr)) := hD
  refine W.widen (k := 292) (n := 9320) (Nat.le_of_ble_eq_true rfl) (Nat.le_of_ble_eq_true rfl) ?_
  refine lv_ldc (v := (-2000000005 : Int32)) hx hb hown (hts _ lm_constant_RL_88_2000000005) dL_law_1108 ?_
  refine lv_icmp_ne (tgt := 1394) hx hb dL_law_1110 (by decide) (fun c9 => absurd rfl c9) (fun _ => ?_)
  refine lv_aload_n hx hb dL_law_1113 rfl (lv_at hl 0 rfl) ?_
  refine lv_bipush (v := (120 : Int32)) hx hb dL_law_1114 (by decide) ?_
  refine lv_iconst (v := (2 : Int32)) hx hb dL_law_1116 (by decide) ?_
  refine lk_new (N' := 2) hx hb (hts _ lm_arrayClass_int) hK hP hD hS hA (by decide) (by decide +kernel) (Nat.le_of_ble_eq_true rfl) (Nat.le_of_ble_eq_true rfl) (Nat.le_of_ble_eq_true rfl) dL_law_1117 (fun qv1117 H hP hD hS => ?_)
  refine lv_dup hx hb dL_law_1119 rfl ?_
  refine lv_iconst (v := (0 : Int32)) hx hb dL_law_1120 (by decide) ?_
  refine lv_iconst (v := (0 : Int32)) hx hb dL_law_1121 (by decide) ?_
  refine va_iast hx hb hK hP hD hS 0 0 rfl rfl (zk_lit (by decide +kernel)) dL_law_1122 (fun H locs hP hD hS => ?_)
  have hP : va_P D vwCl ((qv1117, .inl (T 0, 2, .inl (upd (fun _ => (0 : Int32)) (0 : Int32).toNatClampNeg (0 : Int32)))) :: (ow T q (el 1 1 1 0 1 ah pr ts tr))) H := hP
  have hD : va_D A ((qv1117, .inl (T 0, 2, .inl (upd (fun _ => (0 : Int32)) (0 : Int32).toNatClampNeg (0 : Int32)))) :: (ow T q (el 1 1 1 0 1 ah pr ts tr))) := hD
  refine lv_dup hx hb dL_law_1123 rfl ?_
  refine lv_iconst (v := (1 : Int32)) hx hb dL_law_1124 (by decide) ?_
  refine lv_bipush (v := (100 : Int32)) hx hb dL_law_1125 (by decide) ?_
  refine va_iast hx hb hK hP hD hS 0 0 rfl rfl (zk_lit (by decide +kernel)) dL_law_1127 (fun H locs hP hD hS => ?_)
  have hP : va_P D vwCl ((qv1117, .inl (T 0, 2, .inl (upd (upd (fun _ => (0 : Int32)) (0 : Int32).toNatClampNeg (0 : Int32)) (1 : Int32).toNatClampNeg (100 : Int32)))) :: (ow T q (el 1 1 1 0 1 ah pr ts tr))) H := hP
  have hD : va_D A ((qv1117, .inl (T 0, 2, .inl (upd (upd (fun _ => (0 : Int32)) (0 : Int32).toNatClampNeg (0 : Int32)) (1 : Int32).toNatClampNeg (100 : Int32)))) :: (ow T q (el 1 1 1 0 1 ah pr ts tr))) := hD
  refine lk_ask (ws' := []) (nL := 2) (rw_ := []) (stk := []) (x := el 1 1 1 0 1 ah pr ts tr) (o := ((-2000000002 : Int32), el 1 1 1 0 1 ah pr ts tr)) (fun sz => a_x l hst D T 3000 q qv1117 sz (el 1 1 1 0 1 ah pr ts tr) 2 (upd (upd (fun _ => (0 : Int32)) (0 : Int32).toNatClampNeg (0 : Int32)) (1 : Int32).toNatClampNeg (100 : Int32)) ((-2000000002 : Int32), el 1 1 1 0 1 ah pr ts tr) (el_53 ah pr ts tr)) ⟨hx, hb, hml, hown, hts⟩ (vx_cwSW 3 hts gT_ask rfl rfl rfl (by decide +kernel) ⟨(Nat.le_of_ble_eq_true rfl), (Nat.le_of_ble_eq_true rfl)⟩) hK hN hX hNc hS hA (by rw [List.append_nil]; exact hP) (by rw [List.append_nil]; exact hD) hl.1 (Nat.le_of_ble_eq_true rfl) dL_law_1128 ⟨(Nat.le_of_ble_eq_true rfl), (Nat.le_of_ble_eq_true rfl)⟩ (fun H locs hP hD hS => ?_)
  rw [List.append_nil] at hP hD
  have hP : va_P D vwCl (ow T q (el 1 1 1 0 1 ah pr ts tr)) H := hP
  have hD : va_D A (ow T q (el 1 1 1 0 1 ah pr ts tr)) := hD
  refine W.widen (k := 297) (n := 9346) (Nat.le_of_ble_eq_true rfl) (Nat.le_of_ble_eq_true rfl) ?_
  refine lv_ldc (v := (-2000000002 : Int32)) hx hb hown (hts _ lm_constant_RL_76_2000000002) dL_law_1131 ?_
  refine lv_icmp_ne (tgt := 1394) hx hb dL_law_1133 (by decide) (fun c9 => absurd rfl c9) (fun _ => ?_)
  refine lv_aload_n hx hb dL_law_1136 rfl (lv_at hl 0 rfl) ?_
  refine lv_bipush (v := (120 : Int32)) hx hb dL_law_1137 (by decide) ?_
  refine lv_iconst (v := (2 : Int32)) hx hb dL_law_1139 (by decide) ?_
  refine lk_new (N' := 2) hx hb (hts _ lm_arrayClass_int) hK hP hD hS hA (by decide) (by decide +kernel) (Nat.le_of_ble_eq_true rfl) (Nat.le_of_ble_eq_true rfl) (Nat.le_of_ble_eq_true rfl) dL_law_1140 (fun qv1140 H hP hD hS => ?_)
  refine lv_dup hx hb dL_law_1142 rfl ?_
  refine lv_iconst (v := (0 : Int32)) hx hb dL_law_1143 (by decide) ?_
  refine lv_iconst (v := (0 : Int32)) hx hb dL_law_1144 (by decide) ?_
  refine va_iast hx hb hK hP hD hS 0 0 rfl rfl (zk_lit (by decide +kernel)) dL_law_1145 (fun H locs hP hD hS => ?_)
  have hP : va_P D vwCl ((qv1140, .inl (T 0, 2, .inl (upd (fun _ => (0 : Int32)) (0 : Int32).toNatClampNeg (0 : Int32)))) :: (ow T q (el 1 1 1 0 1 ah pr ts tr))) H := hP
  have hD : va_D A ((qv1140, .inl (T 0, 2, .inl (upd (fun _ => (0 : Int32)) (0 : Int32).toNatClampNeg (0 : Int32)))) :: (ow T q (el 1 1 1 0 1 ah pr ts tr))) := hD
  refine lv_dup hx hb dL_law_1146 rfl ?_
  refine lv_iconst (v := (1 : Int32)) hx hb dL_law_1147 (by decide) ?_
  refine lv_iconst (v := (0 : Int32)) hx hb dL_law_1148 (by decide) ?_
  refine va_iast hx hb hK hP hD hS 0 0 rfl rfl (zk_lit (by decide +kernel)) dL_law_1149 (fun H locs hP hD hS => ?_)
  have hP : va_P D vwCl ((qv1140, .inl (T 0, 2, .inl (upd (upd (fun _ => (0 : Int32)) (0 : Int32).toNatClampNeg (0 : Int32)) (1 : Int32).toNatClampNeg (0 : Int32)))) :: (ow T q (el 1 1 1 0 1 ah pr ts tr))) H := hP
  have hD : va_D A ((qv1140, .inl (T 0, 2, .inl (upd (upd (fun _ => (0 : Int32)) (0 : Int32).toNatClampNeg (0 : Int32)) (1 : Int32).toNatClampNeg (0 : Int32)))) :: (ow T q (el 1 1 1 0 1 ah pr ts tr))) := hD
  refine lk_ask (ws' := []) (nL := 2) (rw_ := []) (stk := []) (x := el 1 1 1 0 1 ah pr ts tr) (o := ((-2000000005 : Int32), el 1 1 1 0 1 ah pr ts tr)) (fun sz => a_x l hst D T 3000 q qv1140 sz (el 1 1 1 0 1 ah pr ts tr) 2 (upd (upd (fun _ => (0 : Int32)) (0 : Int32).toNatClampNeg (0 : Int32)) (1 : Int32).toNatClampNeg (0 : Int32)) ((-2000000005 : Int32), el 1 1 1 0 1 ah pr ts tr) (el_54 ah pr ts tr)) ⟨hx, hb, hml, hown, hts⟩ (vx_cwSW 3 hts gT_ask rfl rfl rfl (by decide +kernel) ⟨(Nat.le_of_ble_eq_true rfl), (Nat.le_of_ble_eq_true rfl)⟩) hK hN hX hNc hS hA (by rw [List.append_nil]; exact hP) (by rw [List.append_nil]; exact hD) hl.1 (Nat.le_of_ble_eq_true rfl) dL_law_1150 ⟨(Nat.le_of_ble_eq_true rfl), (Nat.le_of_ble_eq_true rfl)⟩ (fun H locs hP hD hS => ?_)
  rw [List.append_nil] at hP hD
  have hP : va_P D vwCl (ow T q (el 1 1 1 0 1 ah pr ts tr)) H := hP
  have hD : va_D A (ow T q (el 1 1 1 0 1 ah pr ts tr)) := hD
  refine W.widen (k := 302) (n := 9372) (Nat.le_of_ble_eq_true rfl) (Nat.le_of_ble_eq_true rfl) ?_
  refine lv_ldc (v := (-2000000005 : Int32)) hx hb hown (hts _ lm_constant_RL_88_2000000005) dL_law_1153 ?_
  refine lv_icmp_ne (tgt := 1394) hx hb dL_law_1155 (by decide) (fun c9 => absurd rfl c9) (fun _ => ?_)
  refine lv_aload_n hx hb dL_law_1158 rfl (lv_at hl 0 rfl) ?_
  refine lv_bipush (v := (88 : Int32)) hx hb dL_law_1159 (by decide) ?_
  refine lv_iconst (v := (0 : Int32)) hx hb dL_law_1161 (by decide) ?_
  refine lk_new (N' := 0) hx hb (hts _ lm_arrayClass_int) hK hP hD hS hA (by decide) (by decide +kernel) (Nat.le_of_ble_eq_true rfl) (Nat.le_of_ble_eq_true rfl) (Nat.le_of_ble_eq_true rfl) dL_law_1162 (fun qv1162 H hP hD hS => ?_)
  refine lk_ask (ws' := []) (nL := 2) (rw_ := []) (stk := []) (x := el 1 1 1 0 1 ah pr ts tr) (o := ((-2000000004 : Int32), el 1 1 1 0 1 ah pr ts tr)) (fun sz => a_X l hst D T 3000 q qv1162 sz (el 1 1 1 0 1 ah pr ts tr) 0 (fun _ => (0 : Int32)) ((-2000000004 : Int32), el 1 1 1 0 1 ah pr ts tr) (el_55 ah pr ts tr)) ⟨hx, hb, hml, hown, hts⟩ (vx_cwSW 3 hts gT_ask rfl rfl rfl (by decide +kernel) ⟨(Nat.le_of_ble_eq_true rfl), (Nat.le_of_ble_eq_true rfl)⟩) hK hN hX hNc hS hA (by rw [List.append_nil]; exact hP) (by rw [List.append_nil]; exact hD) hl.1 (Nat.le_of_ble_eq_true rfl) dL_law_1164 ⟨(Nat.le_of_ble_eq_true rfl), (Nat.le_of_ble_eq_true rfl)⟩ (fun H locs hP hD hS => ?_)
  rw [List.append_nil] at hP hD
  have hP : va_P D vwCl (ow T q (el 1 1 1 0 1 ah pr ts tr)) H := hP
  have hD : va_D A (ow T q (el 1 1 1 0 1 ah pr ts tr)) := hD
  refine W.widen (k := 305) (n := 9384) (Nat.le_of_ble_eq_true rfl) (Nat.le_of_ble_eq_true rfl) ?_
  refine lv_ldc (v := (-2000000004 : Int32)) hx hb hown (hts _ lm_constant_RL_82_2000000004) dL_law_1167 ?_
  refine lv_icmp_ne (tgt := 1394) hx hb dL_law_1169 (by decide) (fun c9 => absurd rfl c9) (fun _ => ?_)
  refine lv_aload_n hx hb dL_law_1172 rfl (lv_at hl 0 rfl) ?_
  refine lv_bipush (v := (110 : Int32)) hx hb dL_law_1173 (by decide) ?_
  refine lv_iconst (v := (1 : Int32)) hx hb dL_law_1175 (by decide) ?_
  refine lk_new (N' := 1) hx hb (hts _ lm_arrayClass_int) hK hP hD hS hA (by decide) (by decide +kernel) (Nat.le_of_ble_eq_true rfl) (Nat.le_of_ble_eq_true rfl) (Nat.le_of_ble_eq_true rfl) dL_law_1176 (fun qv1176 H hP hD hS => ?_)
  refine lv_dup hx hb dL_law_1178 rfl ?_
  refine lv_iconst (v := (0 : Int32)) hx hb dL_law_1179 (by decide) ?_
  refine lv_bipush (v := (100 : Int32)) hx hb dL_law_1180 (by decide) ?_
  refine va_iast hx hb hK hP hD hS 0 0 rfl rfl (zk_lit (by decide +kernel)) dL_law_1182 (fun H locs hP hD hS => ?_)
  have hP : va_P D vwCl ((qv1176, .inl (T 0, 1, .inl (upd (fun _ => (0 : Int32)) (0 : Int32).toNatClampNeg (100 : Int32)))) :: (ow T q (el 1 1 1 0 1 ah pr ts tr))) H := hP
  have hD : va_D A ((qv1176, .inl (T 0, 1, .inl (upd (fun _ => (0 : Int32)) (0 : Int32).toNatClampNeg (100 : Int32)))) :: (ow T q (el 1 1 1 0 1 ah pr ts tr))) := hD
  refine lk_ask (ws' := []) (nL := 2) (rw_ := []) (stk := []) (x := el 1 1 1 0 1 ah pr ts tr) (o := ((-2000000002 : Int32), el 1 1 1 0 1 ah pr ts tr)) (fun sz => a_n l hst D T 3000 q qv1176 sz (el 1 1 1 0 1 ah pr ts tr) 1 (upd (fun _ => (0 : Int32)) (0 : Int32).toNatClampNeg (100 : Int32)) ((-2000000002 : Int32), el 1 1 1 0 1 ah pr ts tr) (el_56 ah pr ts tr)) ⟨hx, hb, hml, hown, hts⟩ (vx_cwSW 3 hts gT_ask rfl rfl rfl (by decide +kernel) ⟨(Nat.le_of_ble_eq_true rfl), (Nat.le_of_ble_eq_true rfl)⟩) hK hN hX hNc hS hA (by rw [List.append_nil]; exact hP) (by rw [List.append_nil]; exact hD) hl.1 (Nat.le_of_ble_eq_true rfl) dL_law_1183 ⟨(Nat.le_of_ble_eq_true rfl), (Nat.le_of_ble_eq_true rfl)⟩ (fun H locs hP hD hS => ?_)
  rw [List.append_nil] at hP hD
  have hP : va_P D vwCl (ow T q (el 1 1 1 0 1 ah pr ts tr)) H := hP
  have hD : va_D A (ow T q (el 1 1 1 0 1 ah pr ts tr)) := hD
  refine W.widen (k := 307) (n := 9391) (Nat.le_of_ble_eq_true rfl) (Nat.le_of_ble_eq_true rfl) ?_
  refine lv_ldc (v := (-2000000002 : Int32)) hx hb hown (hts _ lm_constant_RL_76_2000000002) dL_law_1186 ?_
  refine lv_icmp_ne (tgt := 1394) hx hb dL_law_1188 (by decide) (fun c9 => absurd rfl c9) (fun _ => ?_)
  exact kk ah pr ts tr H locs hP hD hS

/-! rows of mine: the law's first calls, in pieces -/
theorem lm_constant_RL_85_2000000006 : Cond.constant RL 85 (-2000000006) ∈ lw_tbl := ((show GoodIn lw_tbl [Cond.constant RL 85 (-2000000006)] from lw_gi [(0, 3)] (by decide +kernel)) _ List.mem_cons_self).1
theorem lm_constantLong_RL_167_217 : Cond.constantLong RL 167 (217) ∈ lw_tbl := ((show GoodIn lw_tbl [Cond.constantLong RL 167 (217)] from lw_gi [(0, 4)] (by decide +kernel)) _ List.mem_cons_self).1
theorem lm_arrayClass_int : Cond.arrayClass .int ∈ lw_tbl := ((show GoodIn lw_tbl [Cond.arrayClass .int] from lw_gi [(0, 5)] (by decide +kernel)) _ List.mem_cons_self).1
theorem lm_constant_RL_73_2000000001 : Cond.constant RL 73 (-2000000001) ∈ lw_tbl := ((show GoodIn lw_tbl [Cond.constant RL 73 (-2000000001)] from lw_gi [(0, 6)] (by decide +kernel)) _ List.mem_cons_self).1
theorem lm_constant_RL_76_2000000002 : Cond.constant RL 76 (-2000000002) ∈ lw_tbl := ((show GoodIn lw_tbl [Cond.constant RL 76 (-2000000002)] from lw_gi [(0, 7)] (by decide +kernel)) _ List.mem_cons_self).1
theorem lm_constant_RL_82_2000000004 : Cond.constant RL 82 (-2000000004) ∈ lw_tbl := ((show GoodIn lw_tbl [Cond.constant RL 82 (-2000000004)] from lw_gi [(0, 8)] (by decide +kernel)) _ List.mem_cons_self).1
theorem lm_constant_RL_88_2000000005 : Cond.constant RL 88 (-2000000005) ∈ lw_tbl := ((show GoodIn lw_tbl [Cond.constant RL 88 (-2000000005)] from lw_gi [(0, 9)] (by decide +kernel)) _ List.mem_cons_self).1
set_option maxHeartbeats 16000000 in
set_option maxRecDepth 100000 in
theorem law_s1 {p : Program} {l : Launch} {e : Env} {s : State} {m : MethodId} {below : List Frame} {meth : Method} {c : Code} {Q : State → Prop} {A : Nat → Prop} {D : va_G} {T : Nat → ClassId} {q : Nat → Nat} {b : Nat} {ls : Array Slot} (hst : l.stackTraces = false) (hx : p.tables.exec = Jvm.exec) (hb : c.code = cL_law) (hml : c.maxLocals = 2) (hown : s.vm.findClass RL = some m.cls) (hts : ∀ w ∈ lw_tbl, w.before #[Value.ref b] s = true) (hA : ∀ q : Nat, s.heap.size ≤ q → A q) (hK : va_K D vwCl (zk_ty T) s) (hN : zk_N s) (hX : zx_K A s s.heap) (hNc : zn_K s) (hl : lv_has ls 2 [(1, .ref (q 0)), (0, .ref b)]) {pr : (Int32 × Int32 × Int32 × (Nat → Int32) × (Nat → Int32) × (Nat → Int32) × (Nat → Int32) × (Nat → Int32) × (Nat → Int32) × (Nat → Int32) × (Nat → Int32))} {ts : (Int32 × (Nat → Int32) × (Nat → Int32))} {tr : (Int32 × Int32 × (Nat → Int32) × (Nat → Int32) × (Int32 × (Nat → Int32) × (Nat → Int32)) × (Int32 × (Nat → Int32) × (Nat → Int32)))} {H : Heap} {locs : List Loc} (hP : va_P D vwCl (ow T q (el 1 0 0 0 1 ob_0.2.2.2.2.1.2.2 pr ts tr)) H) (hD : va_D A (ow T q (el 1 0 0 0 1 ob_0.2.2.2.2.1.2.2 pr ts tr))) (hS : va_S A s.heap H locs) (kk : ∀ (pr : (Int32 × Int32 × Int32 × (Nat → Int32) × (Nat → Int32) × (Nat → Int32) × (Nat → Int32) × (Nat → Int32) × (Nat → Int32) × (Nat → Int32) × (Nat → Int32))) (ts : (Int32 × (Nat → Int32) × (Nat → Int32))) (tr : (Int32 × Int32 × (Nat → Int32) × (Nat → Int32) × (Int32 × (Nat → Int32) × (Nat → Int32)) × (Int32 × (Nat → Int32) × (Nat → Int32)))) (H : Heap) (locs : List Loc), va_P D vwCl (ow T q (el 1 0 0 0 1 ob_0.2.2.2.2.1.2.2 pr ts tr)) H → va_D A (ow T q (el 1 0 0 0 1 ob_0.2.2.2.2.1.2.2 pr ts tr)) → va_S A s.heap H locs → W p l e room_1 s m #[Value.ref b] below meth c H locs 61 8102 Q (F0 m 100 ls [])) : W p l e room_1 s m #[Value.ref b] below meth c H locs 51 8044 Q (F0 m 8 ls []) := by
  refine lv_aload_n hx hb dL_law_8 rfl (lv_at hl 0 rfl) ?_
  refine lv_iconst (v := (1 : Int32)) hx hb dL_law_9 (by decide) ?_
  refine lk_mean (ws' := []) (nL := 2) (stk := []) (x := el 1 0 0 0 1 ob_0.2.2.2.2.1.2.2 pr ts tr) (o := ((-2000000006 : Int32), el 1 0 0 0 1 ob_0.2.2.2.2.1.2.2 pr ts tr)) (fun sz => m_1 l hst D T 3000 q sz (el 1 0 0 0 1 ob_0.2.2.2.2.1.2.2 pr ts tr) _ (el_1 ob_0.2.2.2.2.1.2.2 pr ts tr)) ⟨hx, hb, hml, hown, hts⟩ (vx_cwSW 2 hts gT_mean rfl rfl rfl (by decide +kernel) ⟨(Nat.le_of_ble_eq_true rfl), (Nat.le_of_ble_eq_true rfl)⟩) hK hN hX hNc hS hA hP hD hl.1 (Nat.le_of_ble_eq_true rfl) dL_law_10 ⟨(Nat.le_of_ble_eq_true rfl), (Nat.le_of_ble_eq_true rfl)⟩ (fun H locs hP hD hS => ?_)
  refine W.widen (k := 54) (n := 8062) (Nat.le_of_ble_eq_true rfl) (Nat.le_of_ble_eq_true rfl) ?_
  refine lv_ldc (v := (-2000000006 : Int32)) hx hb hown (hts _ lm_constant_RL_85_2000000006) dL_law_13 ?_
  refine lv_icmp_ne (tgt := 1394) hx hb dL_law_15 (by decide) (fun c9 => absurd rfl c9) (fun _ => ?_)
  refine lv_aload_n hx hb dL_law_18 rfl (lv_at hl 0 rfl) ?_
  refine lv_iconst (v := (0 : Int32)) hx hb dL_law_19 (by decide) ?_
  refine lk_mean (ws' := []) (nL := 2) (stk := []) (x := el 1 0 0 0 1 ob_0.2.2.2.2.1.2.2 pr ts tr) (o := ((-2000000006 : Int32), el 1 0 0 0 1 ob_0.2.2.2.2.1.2.2 pr ts tr)) (fun sz => m_0 l hst D T 3000 q sz (el 1 0 0 0 1 ob_0.2.2.2.2.1.2.2 pr ts tr) _ (el_2 ob_0.2.2.2.2.1.2.2 pr ts tr)) ⟨hx, hb, hml, hown, hts⟩ (vx_cwSW 2 hts gT_mean rfl rfl rfl (by decide +kernel) ⟨(Nat.le_of_ble_eq_true rfl), (Nat.le_of_ble_eq_true rfl)⟩) hK hN hX hNc hS hA hP hD hl.1 (Nat.le_of_ble_eq_true rfl) dL_law_20 ⟨(Nat.le_of_ble_eq_true rfl), (Nat.le_of_ble_eq_true rfl)⟩ (fun H locs hP hD hS => ?_)
  refine W.widen (k := 55) (n := 8068) (Nat.le_of_ble_eq_true rfl) (Nat.le_of_ble_eq_true rfl) ?_
  refine lv_ldc (v := (-2000000006 : Int32)) hx hb hown (hts _ lm_constant_RL_85_2000000006) dL_law_23 ?_
  refine lv_icmp_ne (tgt := 1394) hx hb dL_law_25 (by decide) (fun c9 => absurd rfl c9) (fun _ => ?_)
  refine lv_aload_n hx hb dL_law_28 rfl (lv_at hl 0 rfl) ?_
  refine cd_tick (nL := 2) (N := 3000) (stk := []) (x := el 1 0 0 0 1 ob_0.2.2.2.2.1.2.2 pr ts tr) (o := ((0 : Int32), el 1 0 0 0 1 ob_0.2.2.2.2.1.2.2 pr ts tr)) ⟨hx, hb, hml, hown, hts⟩ gT_tick ⟨(Nat.le_of_ble_eq_true rfl), (Nat.le_of_ble_eq_true rfl)⟩ hK hN hS hA hP hD (el_3 ob_0.2.2.2.2.1.2.2 pr ts tr) hl.1 (Nat.le_of_ble_eq_true rfl) dL_law_29 ⟨(Nat.le_of_ble_eq_true rfl), (Nat.le_of_ble_eq_true rfl)⟩ (fun H locs hP hD hS => ?_)
  refine lv_if_ne (tgt := 1394) hx hb dL_law_32 (by decide) (fun c9 => absurd rfl c9) (fun _ => ?_)
  refine lv_aload_n hx hb dL_law_35 rfl (lv_at hl 0 rfl) ?_
  refine cd_wipe (nL := 2) (N := 3000) (stk := []) (x := el 1 0 0 0 1 ob_0.2.2.2.2.1.2.2 pr ts tr) (o := ((0 : Int32), el 1 0 0 0 1 ob_0.2.2.2.2.1.2.2 pr ts tr)) ⟨hx, hb, hml, hown, hts⟩ gT_wipe ⟨(Nat.le_of_ble_eq_true rfl), (Nat.le_of_ble_eq_true rfl)⟩ hK hN hS hA hP hD (el_4 ob_0.2.2.2.2.1.2.2 pr ts tr) hl.1 (Nat.le_of_ble_eq_true rfl) dL_law_36 ⟨(Nat.le_of_ble_eq_true rfl), (Nat.le_of_ble_eq_true rfl)⟩ (fun H locs hP hD hS => ?_)
  refine lv_if_ne (tgt := 1394) hx hb dL_law_39 (by decide) (fun c9 => absurd rfl c9) (fun _ => ?_)
  refine lv_aload_n hx hb dL_law_42 rfl (lv_at hl 0 rfl) ?_
  refine cd_checksum (nL := 2) (N := 3000) (stk := []) (x := el 1 0 0 0 1 ob_0.2.2.2.2.1.2.2 pr ts tr) (o := ((217 : Int64), el 1 0 0 0 1 ob_0.2.2.2.2.1.2.2 pr ts tr)) ⟨hx, hb, hml, hown, hts⟩ gT_checksum ⟨(Nat.le_of_ble_eq_true rfl), (Nat.le_of_ble_eq_true rfl)⟩ hK hN hS hA hP hD (el_5 ob_0.2.2.2.2.1.2.2 pr ts tr) hl.1 (Nat.le_of_ble_eq_true rfl) dL_law_43 ⟨(Nat.le_of_ble_eq_true rfl), (Nat.le_of_ble_eq_true rfl)⟩ (fun H locs hP hD hS => ?_)
  refine lv_ldc2 (v := (217 : Int64)) hx hb hown (hts _ lm_constantLong_RL_167_217) dL_law_46 ?_
  refine W.lcmp hx hb dL_law_49 ?_
  refine lv_if_ne (tgt := 1394) hx hb dL_law_50 (by decide) (fun c9 => absurd rfl c9) (fun _ => ?_)
  refine lv_aload_n hx hb dL_law_53 rfl (lv_at hl 0 rfl) ?_
  refine cd_energyBits (nL := 2) (N := 3000) (stk := []) (x := el 1 0 0 0 1 ob_0.2.2.2.2.1.2.2 pr ts tr) (o := ((0 : Int64), el 1 0 0 0 1 ob_0.2.2.2.2.1.2.2 pr ts tr)) ⟨hx, hb, hml, hown, hts⟩ gT_energyBits ⟨(Nat.le_of_ble_eq_true rfl), (Nat.le_of_ble_eq_true rfl)⟩ hK hN hS hA hP hD (el_6 ob_0.2.2.2.2.1.2.2 pr ts tr) hl.1 (Nat.le_of_ble_eq_true rfl) dL_law_54 ⟨(Nat.le_of_ble_eq_true rfl), (Nat.le_of_ble_eq_true rfl)⟩ (fun H locs hP hD hS => ?_)
  refine lv_lconst (v := (0 : Int64)) hx hb dL_law_57 (by decide) ?_
  refine W.lcmp hx hb dL_law_58 ?_
  refine lv_if_ne (tgt := 1394) hx hb dL_law_59 (by decide) (fun c9 => absurd rfl c9) (fun _ => ?_)
  refine lv_aload_n hx hb dL_law_62 rfl (lv_at hl 0 rfl) ?_
  obtain ⟨tr7, he7⟩ := el_7 ob_0.2.2.2.2.1.2.2 pr ts tr
  refine cd_isTrue (nL := 2) (N := 3000) (stk := []) (x := el 1 0 0 0 1 ob_0.2.2.2.2.1.2.2 pr ts tr) (o := ((1 : Int32), el 1 0 0 0 1 ob_0.2.2.2.2.1.2.2 pr ts tr7)) ⟨hx, hb, hml, hown, hts⟩ gT_isTrue ⟨(Nat.le_of_ble_eq_true rfl), (Nat.le_of_ble_eq_true rfl)⟩ hK hN hS hA hP hD (he7) hl.1 (Nat.le_of_ble_eq_true rfl) dL_law_63 ⟨(Nat.le_of_ble_eq_true rfl), (Nat.le_of_ble_eq_true rfl)⟩ (fun H locs hP hD hS => ?_)
  refine lv_if_eq (tgt := 1394) hx hb dL_law_66 (by decide) (fun c9 => absurd c9 (show ¬ (1 : Int32) = (0 : Int32) by decide)) (fun _ => ?_)
  refine lv_aload_n hx hb dL_law_69 rfl (lv_at hl 0 rfl) ?_
  refine lv_bipush (v := (66 : Int32)) hx hb dL_law_70 (by decide) ?_
  refine lv_iconst (v := (4 : Int32)) hx hb dL_law_72 (by decide) ?_
  refine lk_new (N' := 4) hx hb (hts _ lm_arrayClass_int) hK hP hD hS hA (by decide) (by decide +kernel) (Nat.le_of_ble_eq_true rfl) (Nat.le_of_ble_eq_true rfl) (Nat.le_of_ble_eq_true rfl) dL_law_73 (fun qv73 H hP hD hS => ?_)
  refine lv_dup hx hb dL_law_75 rfl ?_
  refine lv_iconst (v := (0 : Int32)) hx hb dL_law_76 (by decide) ?_
  refine lv_bipush (v := (20 : Int32)) hx hb dL_law_77 (by decide) ?_
  refine va_iast hx hb hK hP hD hS 0 0 rfl rfl (zk_lit (by decide +kernel)) dL_law_79 (fun H locs hP hD hS => ?_)
  have hP : va_P D vwCl ((qv73, .inl (T 0, 4, .inl (upd (fun _ => (0 : Int32)) (0 : Int32).toNatClampNeg (20 : Int32)))) :: (ow T q (el 1 0 0 0 1 ob_0.2.2.2.2.1.2.2 pr ts tr7))) H := hP
  have hD : va_D A ((qv73, .inl (T 0, 4, .inl (upd (fun _ => (0 : Int32)) (0 : Int32).toNatClampNeg (20 : Int32)))) :: (ow T q (el 1 0 0 0 1 ob_0.2.2.2.2.1.2.2 pr ts tr7))) := hD
  refine lv_dup hx hb dL_law_80 rfl ?_
  refine lv_iconst (v := (1 : Int32)) hx hb dL_law_81 (by decide) ?_
  refine lv_iconst (v := (5 : Int32)) hx hb dL_law_82 (by decide) ?_
  refine va_iast hx hb hK hP hD hS 0 0 rfl rfl (zk_lit (by decide +kernel)) dL_law_83 (fun H locs hP hD hS => ?_)
  have hP : va_P D vwCl ((qv73, .inl (T 0, 4, .inl (upd (upd (fun _ => (0 : Int32)) (0 : Int32).toNatClampNeg (20 : Int32)) (1 : Int32).toNatClampNeg (5 : Int32)))) :: (ow T q (el 1 0 0 0 1 ob_0.2.2.2.2.1.2.2 pr ts tr7))) H := hP
  have hD : va_D A ((qv73, .inl (T 0, 4, .inl (upd (upd (fun _ => (0 : Int32)) (0 : Int32).toNatClampNeg (20 : Int32)) (1 : Int32).toNatClampNeg (5 : Int32)))) :: (ow T q (el 1 0 0 0 1 ob_0.2.2.2.2.1.2.2 pr ts tr7))) := hD
  refine lv_dup hx hb dL_law_84 rfl ?_
  refine lv_iconst (v := (2 : Int32)) hx hb dL_law_85 (by decide) ?_
  refine lv_iconst (v := (0 : Int32)) hx hb dL_law_86 (by decide) ?_
  refine va_iast hx hb hK hP hD hS 0 0 rfl rfl (zk_lit (by decide +kernel)) dL_law_87 (fun H locs hP hD hS => ?_)
  have hP : va_P D vwCl ((qv73, .inl (T 0, 4, .inl (upd (upd (upd (fun _ => (0 : Int32)) (0 : Int32).toNatClampNeg (20 : Int32)) (1 : Int32).toNatClampNeg (5 : Int32)) (2 : Int32).toNatClampNeg (0 : Int32)))) :: (ow T q (el 1 0 0 0 1 ob_0.2.2.2.2.1.2.2 pr ts tr7))) H := hP
  have hD : va_D A ((qv73, .inl (T 0, 4, .inl (upd (upd (upd (fun _ => (0 : Int32)) (0 : Int32).toNatClampNeg (20 : Int32)) (1 : Int32).toNatClampNeg (5 : Int32)) (2 : Int32).toNatClampNeg (0 : Int32)))) :: (ow T q (el 1 0 0 0 1 ob_0.2.2.2.2.1.2.2 pr ts tr7))) := hD
  refine lv_dup hx hb dL_law_88 rfl ?_
  refine lv_iconst (v := (3 : Int32)) hx hb dL_law_89 (by decide) ?_
  refine lv_iconst (v := (0 : Int32)) hx hb dL_law_90 (by decide) ?_
  refine va_iast hx hb hK hP hD hS 0 0 rfl rfl (zk_lit (by decide +kernel)) dL_law_91 (fun H locs hP hD hS => ?_)
  have hP : va_P D vwCl ((qv73, .inl (T 0, 4, .inl (upd (upd (upd (upd (fun _ => (0 : Int32)) (0 : Int32).toNatClampNeg (20 : Int32)) (1 : Int32).toNatClampNeg (5 : Int32)) (2 : Int32).toNatClampNeg (0 : Int32)) (3 : Int32).toNatClampNeg (0 : Int32)))) :: (ow T q (el 1 0 0 0 1 ob_0.2.2.2.2.1.2.2 pr ts tr7))) H := hP
  have hD : va_D A ((qv73, .inl (T 0, 4, .inl (upd (upd (upd (upd (fun _ => (0 : Int32)) (0 : Int32).toNatClampNeg (20 : Int32)) (1 : Int32).toNatClampNeg (5 : Int32)) (2 : Int32).toNatClampNeg (0 : Int32)) (3 : Int32).toNatClampNeg (0 : Int32)))) :: (ow T q (el 1 0 0 0 1 ob_0.2.2.2.2.1.2.2 pr ts tr7))) := hD
  refine lk_ask (ws' := []) (nL := 2) (rw_ := []) (stk := []) (x := el 1 0 0 0 1 ob_0.2.2.2.2.1.2.2 pr ts tr7) (o := ((-2000000001 : Int32), el 1 0 0 0 1 ob_0.2.2.2.2.1.2.2 pr ts tr7)) (fun sz => a_B l hst D T 3000 q qv73 sz (el 1 0 0 0 1 ob_0.2.2.2.2.1.2.2 pr ts tr7) 4 (upd (upd (upd (upd (fun _ => (0 : Int32)) (0 : Int32).toNatClampNeg (20 : Int32)) (1 : Int32).toNatClampNeg (5 : Int32)) (2 : Int32).toNatClampNeg (0 : Int32)) (3 : Int32).toNatClampNeg (0 : Int32)) ((-2000000001 : Int32), el 1 0 0 0 1 ob_0.2.2.2.2.1.2.2 pr ts tr7) (el_8 ob_0.2.2.2.2.1.2.2 pr ts tr7)) ⟨hx, hb, hml, hown, hts⟩ (vx_cwSW 3 hts gT_ask rfl rfl rfl (by decide +kernel) ⟨(Nat.le_of_ble_eq_true rfl), (Nat.le_of_ble_eq_true rfl)⟩) hK hN hX hNc hS hA (by rw [List.append_nil]; exact hP) (by rw [List.append_nil]; exact hD) hl.1 (Nat.le_of_ble_eq_true rfl) dL_law_92 ⟨(Nat.le_of_ble_eq_true rfl), (Nat.le_of_ble_eq_true rfl)⟩ (fun H locs hP hD hS => ?_)
  rw [List.append_nil] at hP hD
  have hP : va_P D vwCl (ow T q (el 1 0 0 0 1 ob_0.2.2.2.2.1.2.2 pr ts tr7)) H := hP
  have hD : va_D A (ow T q (el 1 0 0 0 1 ob_0.2.2.2.2.1.2.2 pr ts tr7)) := hD
  refine W.widen (k := 61) (n := 8102) (Nat.le_of_ble_eq_true rfl) (Nat.le_of_ble_eq_true rfl) ?_
  refine lv_ldc (v := (-2000000001 : Int32)) hx hb hown (hts _ lm_constant_RL_73_2000000001) dL_law_95 ?_
  refine lv_icmp_ne (tgt := 1394) hx hb dL_law_97 (by decide) (fun c9 => absurd rfl c9) (fun _ => ?_)
  exact kk pr ts tr7 H locs hP hD hS

/-! rows of mine: the law's first calls, in pieces -/
set_option maxHeartbeats 16000000 in
set_option maxRecDepth 100000 in
theorem law_s2 {p : Program} {l : Launch} {e : Env} {s : State} {m : MethodId} {below : List Frame} {meth : Method} {c : Code} {Q : State → Prop} {A : Nat → Prop} {D : va_G} {T : Nat → ClassId} {q : Nat → Nat} {b : Nat} {ls : Array Slot} (hst : l.stackTraces = false) (hx : p.tables.exec = Jvm.exec) (hb : c.code = cL_law) (hml : c.maxLocals = 2) (hown : s.vm.findClass RL = some m.cls) (hts : ∀ w ∈ lw_tbl, w.before #[Value.ref b] s = true) (hA : ∀ q : Nat, s.heap.size ≤ q → A q) (hK : va_K D vwCl (zk_ty T) s) (hN : zk_N s) (hX : zx_K A s s.heap) (hNc : zn_K s) (hl : lv_has ls 2 [(1, .ref (q 0)), (0, .ref b)]) {pr : (Int32 × Int32 × Int32 × (Nat → Int32) × (Nat → Int32) × (Nat → Int32) × (Nat → Int32) × (Nat → Int32) × (Nat → Int32) × (Nat → Int32) × (Nat → Int32))} {ts : (Int32 × (Nat → Int32) × (Nat → Int32))} {tr : (Int32 × Int32 × (Nat → Int32) × (Nat → Int32) × (Int32 × (Nat → Int32) × (Nat → Int32)) × (Int32 × (Nat → Int32) × (Nat → Int32)))} {H : Heap} {locs : List Loc} (hP : va_P D vwCl (ow T q (el 1 0 0 0 1 ob_0.2.2.2.2.1.2.2 pr ts tr)) H) (hD : va_D A (ow T q (el 1 0 0 0 1 ob_0.2.2.2.2.1.2.2 pr ts tr))) (hS : va_S A s.heap H locs) (kk : ∀ (pr : (Int32 × Int32 × Int32 × (Nat → Int32) × (Nat → Int32) × (Nat → Int32) × (Nat → Int32) × (Nat → Int32) × (Nat → Int32) × (Nat → Int32) × (Nat → Int32))) (ts : (Int32 × (Nat → Int32) × (Nat → Int32))) (tr : (Int32 × Int32 × (Nat → Int32) × (Nat → Int32) × (Int32 × (Nat → Int32) × (Nat → Int32)) × (Int32 × (Nat → Int32) × (Nat → Int32)))) (H : Heap) (locs : List Loc), va_P D vwCl (ow T q (el 1 0 0 0 1 ob_0.2.2.2.2.1.2.2 pr ts tr)) H → va_D A (ow T q (el 1 0 0 0 1 ob_0.2.2.2.2.1.2.2 pr ts tr)) → va_S A s.heap H locs → W p l e room_1 s m #[Value.ref b] below meth c H locs 103 8332 Q (F0 m 322 ls [])) : W p l e room_1 s m #[Value.ref b] below meth c H locs 61 8102 Q (F0 m 100 ls []) := by
  refine lv_aload_n hx hb dL_law_100 rfl (lv_at hl 0 rfl) ?_
  refine lv_bipush (v := (66 : Int32)) hx hb dL_law_101 (by decide) ?_
  refine lv_iconst (v := (4 : Int32)) hx hb dL_law_103 (by decide) ?_
  refine lk_new (N' := 4) hx hb (hts _ lm_arrayClass_int) hK hP hD hS hA (by decide) (by decide +kernel) (Nat.le_of_ble_eq_true rfl) (Nat.le_of_ble_eq_true rfl) (Nat.le_of_ble_eq_true rfl) dL_law_104 (fun qv104 H hP hD hS => ?_)
  refine lv_dup hx hb dL_law_106 rfl ?_
  refine lv_iconst (v := (0 : Int32)) hx hb dL_law_107 (by decide) ?_
  refine lv_bipush (v := (16 : Int32)) hx hb dL_law_108 (by decide) ?_
  refine va_iast hx hb hK hP hD hS 0 0 rfl rfl (zk_lit (by decide +kernel)) dL_law_110 (fun H locs hP hD hS => ?_)
  have hP : va_P D vwCl ((qv104, .inl (T 0, 4, .inl (upd (fun _ => (0 : Int32)) (0 : Int32).toNatClampNeg (16 : Int32)))) :: (ow T q (el 1 0 0 0 1 ob_0.2.2.2.2.1.2.2 pr ts tr))) H := hP
  have hD : va_D A ((qv104, .inl (T 0, 4, .inl (upd (fun _ => (0 : Int32)) (0 : Int32).toNatClampNeg (16 : Int32)))) :: (ow T q (el 1 0 0 0 1 ob_0.2.2.2.2.1.2.2 pr ts tr))) := hD
  refine lv_dup hx hb dL_law_111 rfl ?_
  refine lv_iconst (v := (1 : Int32)) hx hb dL_law_112 (by decide) ?_
  refine lv_iconst (v := (1 : Int32)) hx hb dL_law_113 (by decide) ?_
  refine va_iast hx hb hK hP hD hS 0 0 rfl rfl (zk_lit (by decide +kernel)) dL_law_114 (fun H locs hP hD hS => ?_)
  have hP : va_P D vwCl ((qv104, .inl (T 0, 4, .inl (upd (upd (fun _ => (0 : Int32)) (0 : Int32).toNatClampNeg (16 : Int32)) (1 : Int32).toNatClampNeg (1 : Int32)))) :: (ow T q (el 1 0 0 0 1 ob_0.2.2.2.2.1.2.2 pr ts tr))) H := hP
  have hD : va_D A ((qv104, .inl (T 0, 4, .inl (upd (upd (fun _ => (0 : Int32)) (0 : Int32).toNatClampNeg (16 : Int32)) (1 : Int32).toNatClampNeg (1 : Int32)))) :: (ow T q (el 1 0 0 0 1 ob_0.2.2.2.2.1.2.2 pr ts tr))) := hD
  refine lv_dup hx hb dL_law_115 rfl ?_
  refine lv_iconst (v := (2 : Int32)) hx hb dL_law_116 (by decide) ?_
  refine lv_iconst (v := (0 : Int32)) hx hb dL_law_117 (by decide) ?_
  refine va_iast hx hb hK hP hD hS 0 0 rfl rfl (zk_lit (by decide +kernel)) dL_law_118 (fun H locs hP hD hS => ?_)
  have hP : va_P D vwCl ((qv104, .inl (T 0, 4, .inl (upd (upd (upd (fun _ => (0 : Int32)) (0 : Int32).toNatClampNeg (16 : Int32)) (1 : Int32).toNatClampNeg (1 : Int32)) (2 : Int32).toNatClampNeg (0 : Int32)))) :: (ow T q (el 1 0 0 0 1 ob_0.2.2.2.2.1.2.2 pr ts tr))) H := hP
  have hD : va_D A ((qv104, .inl (T 0, 4, .inl (upd (upd (upd (fun _ => (0 : Int32)) (0 : Int32).toNatClampNeg (16 : Int32)) (1 : Int32).toNatClampNeg (1 : Int32)) (2 : Int32).toNatClampNeg (0 : Int32)))) :: (ow T q (el 1 0 0 0 1 ob_0.2.2.2.2.1.2.2 pr ts tr))) := hD
  refine lv_dup hx hb dL_law_119 rfl ?_
  refine lv_iconst (v := (3 : Int32)) hx hb dL_law_120 (by decide) ?_
  refine lv_iconst (v := (0 : Int32)) hx hb dL_law_121 (by decide) ?_
  refine va_iast hx hb hK hP hD hS 0 0 rfl rfl (zk_lit (by decide +kernel)) dL_law_122 (fun H locs hP hD hS => ?_)
  have hP : va_P D vwCl ((qv104, .inl (T 0, 4, .inl (upd (upd (upd (upd (fun _ => (0 : Int32)) (0 : Int32).toNatClampNeg (16 : Int32)) (1 : Int32).toNatClampNeg (1 : Int32)) (2 : Int32).toNatClampNeg (0 : Int32)) (3 : Int32).toNatClampNeg (0 : Int32)))) :: (ow T q (el 1 0 0 0 1 ob_0.2.2.2.2.1.2.2 pr ts tr))) H := hP
  have hD : va_D A ((qv104, .inl (T 0, 4, .inl (upd (upd (upd (upd (fun _ => (0 : Int32)) (0 : Int32).toNatClampNeg (16 : Int32)) (1 : Int32).toNatClampNeg (1 : Int32)) (2 : Int32).toNatClampNeg (0 : Int32)) (3 : Int32).toNatClampNeg (0 : Int32)))) :: (ow T q (el 1 0 0 0 1 ob_0.2.2.2.2.1.2.2 pr ts tr))) := hD
  refine lk_ask (ws' := []) (nL := 2) (rw_ := []) (stk := []) (x := el 1 0 0 0 1 ob_0.2.2.2.2.1.2.2 pr ts tr) (o := ((-2000000002 : Int32), el 1 0 0 0 1 ob_0.2.2.2.2.1.2.2 pr ts tr)) (fun sz => a_B l hst D T 3000 q qv104 sz (el 1 0 0 0 1 ob_0.2.2.2.2.1.2.2 pr ts tr) 4 (upd (upd (upd (upd (fun _ => (0 : Int32)) (0 : Int32).toNatClampNeg (16 : Int32)) (1 : Int32).toNatClampNeg (1 : Int32)) (2 : Int32).toNatClampNeg (0 : Int32)) (3 : Int32).toNatClampNeg (0 : Int32)) ((-2000000002 : Int32), el 1 0 0 0 1 ob_0.2.2.2.2.1.2.2 pr ts tr) (el_9 ob_0.2.2.2.2.1.2.2 pr ts tr)) ⟨hx, hb, hml, hown, hts⟩ (vx_cwSW 3 hts gT_ask rfl rfl rfl (by decide +kernel) ⟨(Nat.le_of_ble_eq_true rfl), (Nat.le_of_ble_eq_true rfl)⟩) hK hN hX hNc hS hA (by rw [List.append_nil]; exact hP) (by rw [List.append_nil]; exact hD) hl.1 (Nat.le_of_ble_eq_true rfl) dL_law_123 ⟨(Nat.le_of_ble_eq_true rfl), (Nat.le_of_ble_eq_true rfl)⟩ (fun H locs hP hD hS => ?_)
  rw [List.append_nil] at hP hD
  have hP : va_P D vwCl (ow T q (el 1 0 0 0 1 ob_0.2.2.2.2.1.2.2 pr ts tr)) H := hP
  have hD : va_D A (ow T q (el 1 0 0 0 1 ob_0.2.2.2.2.1.2.2 pr ts tr)) := hD
  refine W.widen (k := 67) (n := 8136) (Nat.le_of_ble_eq_true rfl) (Nat.le_of_ble_eq_true rfl) ?_
  refine lv_ldc (v := (-2000000002 : Int32)) hx hb hown (hts _ lm_constant_RL_76_2000000002) dL_law_126 ?_
  refine lv_icmp_ne (tgt := 1394) hx hb dL_law_128 (by decide) (fun c9 => absurd rfl c9) (fun _ => ?_)
  refine lv_aload_n hx hb dL_law_131 rfl (lv_at hl 0 rfl) ?_
  refine lv_bipush (v := (66 : Int32)) hx hb dL_law_132 (by decide) ?_
  refine lv_iconst (v := (4 : Int32)) hx hb dL_law_134 (by decide) ?_
  refine lk_new (N' := 4) hx hb (hts _ lm_arrayClass_int) hK hP hD hS hA (by decide) (by decide +kernel) (Nat.le_of_ble_eq_true rfl) (Nat.le_of_ble_eq_true rfl) (Nat.le_of_ble_eq_true rfl) dL_law_135 (fun qv135 H hP hD hS => ?_)
  refine lv_dup hx hb dL_law_137 rfl ?_
  refine lv_iconst (v := (0 : Int32)) hx hb dL_law_138 (by decide) ?_
  refine lv_bipush (v := (16 : Int32)) hx hb dL_law_139 (by decide) ?_
  refine va_iast hx hb hK hP hD hS 0 0 rfl rfl (zk_lit (by decide +kernel)) dL_law_141 (fun H locs hP hD hS => ?_)
  have hP : va_P D vwCl ((qv135, .inl (T 0, 4, .inl (upd (fun _ => (0 : Int32)) (0 : Int32).toNatClampNeg (16 : Int32)))) :: (ow T q (el 1 0 0 0 1 ob_0.2.2.2.2.1.2.2 pr ts tr))) H := hP
  have hD : va_D A ((qv135, .inl (T 0, 4, .inl (upd (fun _ => (0 : Int32)) (0 : Int32).toNatClampNeg (16 : Int32)))) :: (ow T q (el 1 0 0 0 1 ob_0.2.2.2.2.1.2.2 pr ts tr))) := hD
  refine lv_dup hx hb dL_law_142 rfl ?_
  refine lv_iconst (v := (1 : Int32)) hx hb dL_law_143 (by decide) ?_
  refine lv_iconst (v := (5 : Int32)) hx hb dL_law_144 (by decide) ?_
  refine va_iast hx hb hK hP hD hS 0 0 rfl rfl (zk_lit (by decide +kernel)) dL_law_145 (fun H locs hP hD hS => ?_)
  have hP : va_P D vwCl ((qv135, .inl (T 0, 4, .inl (upd (upd (fun _ => (0 : Int32)) (0 : Int32).toNatClampNeg (16 : Int32)) (1 : Int32).toNatClampNeg (5 : Int32)))) :: (ow T q (el 1 0 0 0 1 ob_0.2.2.2.2.1.2.2 pr ts tr))) H := hP
  have hD : va_D A ((qv135, .inl (T 0, 4, .inl (upd (upd (fun _ => (0 : Int32)) (0 : Int32).toNatClampNeg (16 : Int32)) (1 : Int32).toNatClampNeg (5 : Int32)))) :: (ow T q (el 1 0 0 0 1 ob_0.2.2.2.2.1.2.2 pr ts tr))) := hD
  refine lv_dup hx hb dL_law_146 rfl ?_
  refine lv_iconst (v := (2 : Int32)) hx hb dL_law_147 (by decide) ?_
  refine lv_iconst (v := (0 : Int32)) hx hb dL_law_148 (by decide) ?_
  refine va_iast hx hb hK hP hD hS 0 0 rfl rfl (zk_lit (by decide +kernel)) dL_law_149 (fun H locs hP hD hS => ?_)
  have hP : va_P D vwCl ((qv135, .inl (T 0, 4, .inl (upd (upd (upd (fun _ => (0 : Int32)) (0 : Int32).toNatClampNeg (16 : Int32)) (1 : Int32).toNatClampNeg (5 : Int32)) (2 : Int32).toNatClampNeg (0 : Int32)))) :: (ow T q (el 1 0 0 0 1 ob_0.2.2.2.2.1.2.2 pr ts tr))) H := hP
  have hD : va_D A ((qv135, .inl (T 0, 4, .inl (upd (upd (upd (fun _ => (0 : Int32)) (0 : Int32).toNatClampNeg (16 : Int32)) (1 : Int32).toNatClampNeg (5 : Int32)) (2 : Int32).toNatClampNeg (0 : Int32)))) :: (ow T q (el 1 0 0 0 1 ob_0.2.2.2.2.1.2.2 pr ts tr))) := hD
  refine lv_dup hx hb dL_law_150 rfl ?_
  refine lv_iconst (v := (3 : Int32)) hx hb dL_law_151 (by decide) ?_
  refine lv_iconst (v := (0 : Int32)) hx hb dL_law_152 (by decide) ?_
  refine va_iast hx hb hK hP hD hS 0 0 rfl rfl (zk_lit (by decide +kernel)) dL_law_153 (fun H locs hP hD hS => ?_)
  have hP : va_P D vwCl ((qv135, .inl (T 0, 4, .inl (upd (upd (upd (upd (fun _ => (0 : Int32)) (0 : Int32).toNatClampNeg (16 : Int32)) (1 : Int32).toNatClampNeg (5 : Int32)) (2 : Int32).toNatClampNeg (0 : Int32)) (3 : Int32).toNatClampNeg (0 : Int32)))) :: (ow T q (el 1 0 0 0 1 ob_0.2.2.2.2.1.2.2 pr ts tr))) H := hP
  have hD : va_D A ((qv135, .inl (T 0, 4, .inl (upd (upd (upd (upd (fun _ => (0 : Int32)) (0 : Int32).toNatClampNeg (16 : Int32)) (1 : Int32).toNatClampNeg (5 : Int32)) (2 : Int32).toNatClampNeg (0 : Int32)) (3 : Int32).toNatClampNeg (0 : Int32)))) :: (ow T q (el 1 0 0 0 1 ob_0.2.2.2.2.1.2.2 pr ts tr))) := hD
  refine lk_ask (ws' := []) (nL := 2) (rw_ := []) (stk := []) (x := el 1 0 0 0 1 ob_0.2.2.2.2.1.2.2 pr ts tr) (o := ((-2000000004 : Int32), el 1 0 0 0 1 ob_0.2.2.2.2.1.2.2 pr ts tr)) (fun sz => a_B l hst D T 3000 q qv135 sz (el 1 0 0 0 1 ob_0.2.2.2.2.1.2.2 pr ts tr) 4 (upd (upd (upd (upd (fun _ => (0 : Int32)) (0 : Int32).toNatClampNeg (16 : Int32)) (1 : Int32).toNatClampNeg (5 : Int32)) (2 : Int32).toNatClampNeg (0 : Int32)) (3 : Int32).toNatClampNeg (0 : Int32)) ((-2000000004 : Int32), el 1 0 0 0 1 ob_0.2.2.2.2.1.2.2 pr ts tr) (el_10 ob_0.2.2.2.2.1.2.2 pr ts tr)) ⟨hx, hb, hml, hown, hts⟩ (vx_cwSW 3 hts gT_ask rfl rfl rfl (by decide +kernel) ⟨(Nat.le_of_ble_eq_true rfl), (Nat.le_of_ble_eq_true rfl)⟩) hK hN hX hNc hS hA (by rw [List.append_nil]; exact hP) (by rw [List.append_nil]; exact hD) hl.1 (Nat.le_of_ble_eq_true rfl) dL_law_154 ⟨(Nat.le_of_ble_eq_true rfl), (Nat.le_of_ble_eq_true rfl)⟩ (fun H locs hP hD hS => ?_)
  rw [List.append_nil] at hP hD
  have hP : va_P D vwCl (ow T q (el 1 0 0 0 1 ob_0.2.2.2.2.1.2.2 pr ts tr)) H := hP
  have hD : va_D A (ow T q (el 1 0 0 0 1 ob_0.2.2.2.2.1.2.2 pr ts tr)) := hD
  refine W.widen (k := 73) (n := 8170) (Nat.le_of_ble_eq_true rfl) (Nat.le_of_ble_eq_true rfl) ?_
  refine lv_ldc (v := (-2000000004 : Int32)) hx hb hown (hts _ lm_constant_RL_82_2000000004) dL_law_157 ?_
  refine lv_icmp_ne (tgt := 1394) hx hb dL_law_159 (by decide) (fun c9 => absurd rfl c9) (fun _ => ?_)
  refine lv_aload_n hx hb dL_law_162 rfl (lv_at hl 0 rfl) ?_
  refine lv_bipush (v := (66 : Int32)) hx hb dL_law_163 (by decide) ?_
  refine lv_iconst (v := (4 : Int32)) hx hb dL_law_165 (by decide) ?_
  refine lk_new (N' := 4) hx hb (hts _ lm_arrayClass_int) hK hP hD hS hA (by decide) (by decide +kernel) (Nat.le_of_ble_eq_true rfl) (Nat.le_of_ble_eq_true rfl) (Nat.le_of_ble_eq_true rfl) dL_law_166 (fun qv166 H hP hD hS => ?_)
  refine lv_dup hx hb dL_law_168 rfl ?_
  refine lv_iconst (v := (0 : Int32)) hx hb dL_law_169 (by decide) ?_
  refine lv_iconst (v := (0 : Int32)) hx hb dL_law_170 (by decide) ?_
  refine va_iast hx hb hK hP hD hS 0 0 rfl rfl (zk_lit (by decide +kernel)) dL_law_171 (fun H locs hP hD hS => ?_)
  have hP : va_P D vwCl ((qv166, .inl (T 0, 4, .inl (upd (fun _ => (0 : Int32)) (0 : Int32).toNatClampNeg (0 : Int32)))) :: (ow T q (el 1 0 0 0 1 ob_0.2.2.2.2.1.2.2 pr ts tr))) H := hP
  have hD : va_D A ((qv166, .inl (T 0, 4, .inl (upd (fun _ => (0 : Int32)) (0 : Int32).toNatClampNeg (0 : Int32)))) :: (ow T q (el 1 0 0 0 1 ob_0.2.2.2.2.1.2.2 pr ts tr))) := hD
  refine lv_dup hx hb dL_law_172 rfl ?_
  refine lv_iconst (v := (1 : Int32)) hx hb dL_law_173 (by decide) ?_
  refine lv_iconst (v := (5 : Int32)) hx hb dL_law_174 (by decide) ?_
  refine va_iast hx hb hK hP hD hS 0 0 rfl rfl (zk_lit (by decide +kernel)) dL_law_175 (fun H locs hP hD hS => ?_)
  have hP : va_P D vwCl ((qv166, .inl (T 0, 4, .inl (upd (upd (fun _ => (0 : Int32)) (0 : Int32).toNatClampNeg (0 : Int32)) (1 : Int32).toNatClampNeg (5 : Int32)))) :: (ow T q (el 1 0 0 0 1 ob_0.2.2.2.2.1.2.2 pr ts tr))) H := hP
  have hD : va_D A ((qv166, .inl (T 0, 4, .inl (upd (upd (fun _ => (0 : Int32)) (0 : Int32).toNatClampNeg (0 : Int32)) (1 : Int32).toNatClampNeg (5 : Int32)))) :: (ow T q (el 1 0 0 0 1 ob_0.2.2.2.2.1.2.2 pr ts tr))) := hD
  refine lv_dup hx hb dL_law_176 rfl ?_
  refine lv_iconst (v := (2 : Int32)) hx hb dL_law_177 (by decide) ?_
  refine lv_iconst (v := (5 : Int32)) hx hb dL_law_178 (by decide) ?_
  refine va_iast hx hb hK hP hD hS 0 0 rfl rfl (zk_lit (by decide +kernel)) dL_law_179 (fun H locs hP hD hS => ?_)
  have hP : va_P D vwCl ((qv166, .inl (T 0, 4, .inl (upd (upd (upd (fun _ => (0 : Int32)) (0 : Int32).toNatClampNeg (0 : Int32)) (1 : Int32).toNatClampNeg (5 : Int32)) (2 : Int32).toNatClampNeg (5 : Int32)))) :: (ow T q (el 1 0 0 0 1 ob_0.2.2.2.2.1.2.2 pr ts tr))) H := hP
  have hD : va_D A ((qv166, .inl (T 0, 4, .inl (upd (upd (upd (fun _ => (0 : Int32)) (0 : Int32).toNatClampNeg (0 : Int32)) (1 : Int32).toNatClampNeg (5 : Int32)) (2 : Int32).toNatClampNeg (5 : Int32)))) :: (ow T q (el 1 0 0 0 1 ob_0.2.2.2.2.1.2.2 pr ts tr))) := hD
  refine lv_dup hx hb dL_law_180 rfl ?_
  refine lv_iconst (v := (3 : Int32)) hx hb dL_law_181 (by decide) ?_
  refine lv_iconst (v := (0 : Int32)) hx hb dL_law_182 (by decide) ?_
  refine va_iast hx hb hK hP hD hS 0 0 rfl rfl (zk_lit (by decide +kernel)) dL_law_183 (fun H locs hP hD hS => ?_)
  have hP : va_P D vwCl ((qv166, .inl (T 0, 4, .inl (upd (upd (upd (upd (fun _ => (0 : Int32)) (0 : Int32).toNatClampNeg (0 : Int32)) (1 : Int32).toNatClampNeg (5 : Int32)) (2 : Int32).toNatClampNeg (5 : Int32)) (3 : Int32).toNatClampNeg (0 : Int32)))) :: (ow T q (el 1 0 0 0 1 ob_0.2.2.2.2.1.2.2 pr ts tr))) H := hP
  have hD : va_D A ((qv166, .inl (T 0, 4, .inl (upd (upd (upd (upd (fun _ => (0 : Int32)) (0 : Int32).toNatClampNeg (0 : Int32)) (1 : Int32).toNatClampNeg (5 : Int32)) (2 : Int32).toNatClampNeg (5 : Int32)) (3 : Int32).toNatClampNeg (0 : Int32)))) :: (ow T q (el 1 0 0 0 1 ob_0.2.2.2.2.1.2.2 pr ts tr))) := hD
  refine lk_ask (ws' := []) (nL := 2) (rw_ := []) (stk := []) (x := el 1 0 0 0 1 ob_0.2.2.2.2.1.2.2 pr ts tr) (o := ((-2000000002 : Int32), el 1 0 0 0 1 ob_0.2.2.2.2.1.2.2 pr ts tr)) (fun sz => a_B l hst D T 3000 q qv166 sz (el 1 0 0 0 1 ob_0.2.2.2.2.1.2.2 pr ts tr) 4 (upd (upd (upd (upd (fun _ => (0 : Int32)) (0 : Int32).toNatClampNeg (0 : Int32)) (1 : Int32).toNatClampNeg (5 : Int32)) (2 : Int32).toNatClampNeg (5 : Int32)) (3 : Int32).toNatClampNeg (0 : Int32)) ((-2000000002 : Int32), el 1 0 0 0 1 ob_0.2.2.2.2.1.2.2 pr ts tr) (el_11 ob_0.2.2.2.2.1.2.2 pr ts tr)) ⟨hx, hb, hml, hown, hts⟩ (vx_cwSW 3 hts gT_ask rfl rfl rfl (by decide +kernel) ⟨(Nat.le_of_ble_eq_true rfl), (Nat.le_of_ble_eq_true rfl)⟩) hK hN hX hNc hS hA (by rw [List.append_nil]; exact hP) (by rw [List.append_nil]; exact hD) hl.1 (Nat.le_of_ble_eq_true rfl) dL_law_184 ⟨(Nat.le_of_ble_eq_true rfl), (Nat.le_of_ble_eq_true rfl)⟩ (fun H locs hP hD hS => ?_)
  rw [List.append_nil] at hP hD
  have hP : va_P D vwCl (ow T q (el 1 0 0 0 1 ob_0.2.2.2.2.1.2.2 pr ts tr)) H := hP
  have hD : va_D A (ow T q (el 1 0 0 0 1 ob_0.2.2.2.2.1.2.2 pr ts tr)) := hD
  refine W.widen (k := 79) (n := 8204) (Nat.le_of_ble_eq_true rfl) (Nat.le_of_ble_eq_true rfl) ?_
  refine lv_ldc (v := (-2000000002 : Int32)) hx hb hown (hts _ lm_constant_RL_76_2000000002) dL_law_187 ?_
  refine lv_icmp_ne (tgt := 1394) hx hb dL_law_189 (by decide) (fun c9 => absurd rfl c9) (fun _ => ?_)
  refine lv_aload_n hx hb dL_law_192 rfl (lv_at hl 0 rfl) ?_
  refine lv_bipush (v := (66 : Int32)) hx hb dL_law_193 (by decide) ?_
  refine lv_iconst (v := (4 : Int32)) hx hb dL_law_195 (by decide) ?_
  refine lk_new (N' := 4) hx hb (hts _ lm_arrayClass_int) hK hP hD hS hA (by decide) (by decide +kernel) (Nat.le_of_ble_eq_true rfl) (Nat.le_of_ble_eq_true rfl) (Nat.le_of_ble_eq_true rfl) dL_law_196 (fun qv196 H hP hD hS => ?_)
  refine lv_dup hx hb dL_law_198 rfl ?_
  refine lv_iconst (v := (0 : Int32)) hx hb dL_law_199 (by decide) ?_
  refine lv_iconst (v := (0 : Int32)) hx hb dL_law_200 (by decide) ?_
  refine va_iast hx hb hK hP hD hS 0 0 rfl rfl (zk_lit (by decide +kernel)) dL_law_201 (fun H locs hP hD hS => ?_)
  have hP : va_P D vwCl ((qv196, .inl (T 0, 4, .inl (upd (fun _ => (0 : Int32)) (0 : Int32).toNatClampNeg (0 : Int32)))) :: (ow T q (el 1 0 0 0 1 ob_0.2.2.2.2.1.2.2 pr ts tr))) H := hP
  have hD : va_D A ((qv196, .inl (T 0, 4, .inl (upd (fun _ => (0 : Int32)) (0 : Int32).toNatClampNeg (0 : Int32)))) :: (ow T q (el 1 0 0 0 1 ob_0.2.2.2.2.1.2.2 pr ts tr))) := hD
  refine lv_dup hx hb dL_law_202 rfl ?_
  refine lv_iconst (v := (1 : Int32)) hx hb dL_law_203 (by decide) ?_
  refine lv_iconst (v := (5 : Int32)) hx hb dL_law_204 (by decide) ?_
  refine va_iast hx hb hK hP hD hS 0 0 rfl rfl (zk_lit (by decide +kernel)) dL_law_205 (fun H locs hP hD hS => ?_)
  have hP : va_P D vwCl ((qv196, .inl (T 0, 4, .inl (upd (upd (fun _ => (0 : Int32)) (0 : Int32).toNatClampNeg (0 : Int32)) (1 : Int32).toNatClampNeg (5 : Int32)))) :: (ow T q (el 1 0 0 0 1 ob_0.2.2.2.2.1.2.2 pr ts tr))) H := hP
  have hD : va_D A ((qv196, .inl (T 0, 4, .inl (upd (upd (fun _ => (0 : Int32)) (0 : Int32).toNatClampNeg (0 : Int32)) (1 : Int32).toNatClampNeg (5 : Int32)))) :: (ow T q (el 1 0 0 0 1 ob_0.2.2.2.2.1.2.2 pr ts tr))) := hD
  refine lv_dup hx hb dL_law_206 rfl ?_
  refine lv_iconst (v := (2 : Int32)) hx hb dL_law_207 (by decide) ?_
  refine lv_iconst (v := (0 : Int32)) hx hb dL_law_208 (by decide) ?_
  refine va_iast hx hb hK hP hD hS 0 0 rfl rfl (zk_lit (by decide +kernel)) dL_law_209 (fun H locs hP hD hS => ?_)
  have hP : va_P D vwCl ((qv196, .inl (T 0, 4, .inl (upd (upd (upd (fun _ => (0 : Int32)) (0 : Int32).toNatClampNeg (0 : Int32)) (1 : Int32).toNatClampNeg (5 : Int32)) (2 : Int32).toNatClampNeg (0 : Int32)))) :: (ow T q (el 1 0 0 0 1 ob_0.2.2.2.2.1.2.2 pr ts tr))) H := hP
  have hD : va_D A ((qv196, .inl (T 0, 4, .inl (upd (upd (upd (fun _ => (0 : Int32)) (0 : Int32).toNatClampNeg (0 : Int32)) (1 : Int32).toNatClampNeg (5 : Int32)) (2 : Int32).toNatClampNeg (0 : Int32)))) :: (ow T q (el 1 0 0 0 1 ob_0.2.2.2.2.1.2.2 pr ts tr))) := hD
  refine lv_dup hx hb dL_law_210 rfl ?_
  refine lv_iconst (v := (3 : Int32)) hx hb dL_law_211 (by decide) ?_
  refine lv_iconst (v := (5 : Int32)) hx hb dL_law_212 (by decide) ?_
  refine va_iast hx hb hK hP hD hS 0 0 rfl rfl (zk_lit (by decide +kernel)) dL_law_213 (fun H locs hP hD hS => ?_)
  have hP : va_P D vwCl ((qv196, .inl (T 0, 4, .inl (upd (upd (upd (upd (fun _ => (0 : Int32)) (0 : Int32).toNatClampNeg (0 : Int32)) (1 : Int32).toNatClampNeg (5 : Int32)) (2 : Int32).toNatClampNeg (0 : Int32)) (3 : Int32).toNatClampNeg (5 : Int32)))) :: (ow T q (el 1 0 0 0 1 ob_0.2.2.2.2.1.2.2 pr ts tr))) H := hP
  have hD : va_D A ((qv196, .inl (T 0, 4, .inl (upd (upd (upd (upd (fun _ => (0 : Int32)) (0 : Int32).toNatClampNeg (0 : Int32)) (1 : Int32).toNatClampNeg (5 : Int32)) (2 : Int32).toNatClampNeg (0 : Int32)) (3 : Int32).toNatClampNeg (5 : Int32)))) :: (ow T q (el 1 0 0 0 1 ob_0.2.2.2.2.1.2.2 pr ts tr))) := hD
  refine lk_ask (ws' := []) (nL := 2) (rw_ := []) (stk := []) (x := el 1 0 0 0 1 ob_0.2.2.2.2.1.2.2 pr ts tr) (o := ((-2000000002 : Int32), el 1 0 0 0 1 ob_0.2.2.2.2.1.2.2 pr ts tr)) (fun sz => a_B l hst D T 3000 q qv196 sz (el 1 0 0 0 1 ob_0.2.2.2.2.1.2.2 pr ts tr) 4 (upd (upd (upd (upd (fun _ => (0 : Int32)) (0 : Int32).toNatClampNeg (0 : Int32)) (1 : Int32).toNatClampNeg (5 : Int32)) (2 : Int32).toNatClampNeg (0 : Int32)) (3 : Int32).toNatClampNeg (5 : Int32)) ((-2000000002 : Int32), el 1 0 0 0 1 ob_0.2.2.2.2.1.2.2 pr ts tr) (el_12 ob_0.2.2.2.2.1.2.2 pr ts tr)) ⟨hx, hb, hml, hown, hts⟩ (vx_cwSW 3 hts gT_ask rfl rfl rfl (by decide +kernel) ⟨(Nat.le_of_ble_eq_true rfl), (Nat.le_of_ble_eq_true rfl)⟩) hK hN hX hNc hS hA (by rw [List.append_nil]; exact hP) (by rw [List.append_nil]; exact hD) hl.1 (Nat.le_of_ble_eq_true rfl) dL_law_214 ⟨(Nat.le_of_ble_eq_true rfl), (Nat.le_of_ble_eq_true rfl)⟩ (fun H locs hP hD hS => ?_)
  rw [List.append_nil] at hP hD
  have hP : va_P D vwCl (ow T q (el 1 0 0 0 1 ob_0.2.2.2.2.1.2.2 pr ts tr)) H := hP
  have hD : va_D A (ow T q (el 1 0 0 0 1 ob_0.2.2.2.2.1.2.2 pr ts tr)) := hD
  refine W.widen (k := 85) (n := 8238) (Nat.le_of_ble_eq_true rfl) (Nat.le_of_ble_eq_true rfl) ?_
  refine lv_ldc (v := (-2000000002 : Int32)) hx hb hown (hts _ lm_constant_RL_76_2000000002) dL_law_217 ?_
  refine lv_icmp_ne (tgt := 1394) hx hb dL_law_219 (by decide) (fun c9 => absurd rfl c9) (fun _ => ?_)
  refine lv_aload_n hx hb dL_law_222 rfl (lv_at hl 0 rfl) ?_
  refine lv_bipush (v := (66 : Int32)) hx hb dL_law_223 (by decide) ?_
  refine lv_iconst (v := (4 : Int32)) hx hb dL_law_225 (by decide) ?_
  refine lk_new (N' := 4) hx hb (hts _ lm_arrayClass_int) hK hP hD hS hA (by decide) (by decide +kernel) (Nat.le_of_ble_eq_true rfl) (Nat.le_of_ble_eq_true rfl) (Nat.le_of_ble_eq_true rfl) dL_law_226 (fun qv226 H hP hD hS => ?_)
  refine lv_dup hx hb dL_law_228 rfl ?_
  refine lv_iconst (v := (0 : Int32)) hx hb dL_law_229 (by decide) ?_
  refine lv_iconst (v := (0 : Int32)) hx hb dL_law_230 (by decide) ?_
  refine va_iast hx hb hK hP hD hS 0 0 rfl rfl (zk_lit (by decide +kernel)) dL_law_231 (fun H locs hP hD hS => ?_)
  have hP : va_P D vwCl ((qv226, .inl (T 0, 4, .inl (upd (fun _ => (0 : Int32)) (0 : Int32).toNatClampNeg (0 : Int32)))) :: (ow T q (el 1 0 0 0 1 ob_0.2.2.2.2.1.2.2 pr ts tr))) H := hP
  have hD : va_D A ((qv226, .inl (T 0, 4, .inl (upd (fun _ => (0 : Int32)) (0 : Int32).toNatClampNeg (0 : Int32)))) :: (ow T q (el 1 0 0 0 1 ob_0.2.2.2.2.1.2.2 pr ts tr))) := hD
  refine lv_dup hx hb dL_law_232 rfl ?_
  refine lv_iconst (v := (1 : Int32)) hx hb dL_law_233 (by decide) ?_
  refine lv_bipush (v := (100 : Int32)) hx hb dL_law_234 (by decide) ?_
  refine va_iast hx hb hK hP hD hS 0 0 rfl rfl (zk_lit (by decide +kernel)) dL_law_236 (fun H locs hP hD hS => ?_)
  have hP : va_P D vwCl ((qv226, .inl (T 0, 4, .inl (upd (upd (fun _ => (0 : Int32)) (0 : Int32).toNatClampNeg (0 : Int32)) (1 : Int32).toNatClampNeg (100 : Int32)))) :: (ow T q (el 1 0 0 0 1 ob_0.2.2.2.2.1.2.2 pr ts tr))) H := hP
  have hD : va_D A ((qv226, .inl (T 0, 4, .inl (upd (upd (fun _ => (0 : Int32)) (0 : Int32).toNatClampNeg (0 : Int32)) (1 : Int32).toNatClampNeg (100 : Int32)))) :: (ow T q (el 1 0 0 0 1 ob_0.2.2.2.2.1.2.2 pr ts tr))) := hD
  refine lv_dup hx hb dL_law_237 rfl ?_
  refine lv_iconst (v := (2 : Int32)) hx hb dL_law_238 (by decide) ?_
  refine lv_iconst (v := (0 : Int32)) hx hb dL_law_239 (by decide) ?_
  refine va_iast hx hb hK hP hD hS 0 0 rfl rfl (zk_lit (by decide +kernel)) dL_law_240 (fun H locs hP hD hS => ?_)
  have hP : va_P D vwCl ((qv226, .inl (T 0, 4, .inl (upd (upd (upd (fun _ => (0 : Int32)) (0 : Int32).toNatClampNeg (0 : Int32)) (1 : Int32).toNatClampNeg (100 : Int32)) (2 : Int32).toNatClampNeg (0 : Int32)))) :: (ow T q (el 1 0 0 0 1 ob_0.2.2.2.2.1.2.2 pr ts tr))) H := hP
  have hD : va_D A ((qv226, .inl (T 0, 4, .inl (upd (upd (upd (fun _ => (0 : Int32)) (0 : Int32).toNatClampNeg (0 : Int32)) (1 : Int32).toNatClampNeg (100 : Int32)) (2 : Int32).toNatClampNeg (0 : Int32)))) :: (ow T q (el 1 0 0 0 1 ob_0.2.2.2.2.1.2.2 pr ts tr))) := hD
  refine lv_dup hx hb dL_law_241 rfl ?_
  refine lv_iconst (v := (3 : Int32)) hx hb dL_law_242 (by decide) ?_
  refine lv_iconst (v := (0 : Int32)) hx hb dL_law_243 (by decide) ?_
  refine va_iast hx hb hK hP hD hS 0 0 rfl rfl (zk_lit (by decide +kernel)) dL_law_244 (fun H locs hP hD hS => ?_)
  have hP : va_P D vwCl ((qv226, .inl (T 0, 4, .inl (upd (upd (upd (upd (fun _ => (0 : Int32)) (0 : Int32).toNatClampNeg (0 : Int32)) (1 : Int32).toNatClampNeg (100 : Int32)) (2 : Int32).toNatClampNeg (0 : Int32)) (3 : Int32).toNatClampNeg (0 : Int32)))) :: (ow T q (el 1 0 0 0 1 ob_0.2.2.2.2.1.2.2 pr ts tr))) H := hP
  have hD : va_D A ((qv226, .inl (T 0, 4, .inl (upd (upd (upd (upd (fun _ => (0 : Int32)) (0 : Int32).toNatClampNeg (0 : Int32)) (1 : Int32).toNatClampNeg (100 : Int32)) (2 : Int32).toNatClampNeg (0 : Int32)) (3 : Int32).toNatClampNeg (0 : Int32)))) :: (ow T q (el 1 0 0 0 1 ob_0.2.2.2.2.1.2.2 pr ts tr))) := hD
  refine lk_ask (ws' := []) (nL := 2) (rw_ := []) (stk := []) (x := el 1 0 0 0 1 ob_0.2.2.2.2.1.2.2 pr ts tr) (o := ((-2000000002 : Int32), el 1 0 0 0 1 ob_0.2.2.2.2.1.2.2 pr ts tr)) (fun sz => a_B l hst D T 3000 q qv226 sz (el 1 0 0 0 1 ob_0.2.2.2.2.1.2.2 pr ts tr) 4 (upd (upd (upd (upd (fun _ => (0 : Int32)) (0 : Int32).toNatClampNeg (0 : Int32)) (1 : Int32).toNatClampNeg (100 : Int32)) (2 : Int32).toNatClampNeg (0 : Int32)) (3 : Int32).toNatClampNeg (0 : Int32)) ((-2000000002 : Int32), el 1 0 0 0 1 ob_0.2.2.2.2.1.2.2 pr ts tr) (el_13 ob_0.2.2.2.2.1.2.2 pr ts tr)) ⟨hx, hb, hml, hown, hts⟩ (vx_cwSW 3 hts gT_ask rfl rfl rfl (by decide +kernel) ⟨(Nat.le_of_ble_eq_true rfl), (Nat.le_of_ble_eq_true rfl)⟩) hK hN hX hNc hS hA (by rw [List.append_nil]; exact hP) (by rw [List.append_nil]; exact hD) hl.1 (Nat.le_of_ble_eq_true rfl) dL_law_245 ⟨(Nat.le_of_ble_eq_true rfl), (Nat.le_of_ble_eq_true rfl)⟩ (fun H locs hP hD hS => ?_)
  rw [List.append_nil] at hP hD
  have hP : va_P D vwCl (ow T q (el 1 0 0 0 1 ob_0.2.2.2.2.1.2.2 pr ts tr)) H := hP
  have hD : va_D A (ow T q (el 1 0 0 0 1 ob_0.2.2.2.2.1.2.2 pr ts tr)) := hD
  refine W.widen (k := 91) (n := 8272) (Nat.le_of_ble_eq_true rfl) (Nat.le_of_ble_eq_true rfl) ?_
  refine lv_ldc (v := (-2000000002 : Int32)) hx hb hown (hts _ lm_constant_RL_76_2000000002) dL_law_248 ?_
  refine lv_icmp_ne (tgt := 1394) hx hb dL_law_250 (by decide) (fun c9 => absurd rfl c9) (fun _ => ?_)
  refine lv_aload_n hx hb dL_law_253 rfl (lv_at hl 0 rfl) ?_
  refine lv_bipush (v := (83 : Int32)) hx hb dL_law_254 (by decide) ?_
  refine lv_iconst (v := (2 : Int32)) hx hb dL_law_256 (by decide) ?_
  refine lk_new (N' := 2) hx hb (hts _ lm_arrayClass_int) hK hP hD hS hA (by decide) (by decide +kernel) (Nat.le_of_ble_eq_true rfl) (Nat.le_of_ble_eq_true rfl) (Nat.le_of_ble_eq_true rfl) dL_law_257 (fun qv257 H hP hD hS => ?_)
  refine lv_dup hx hb dL_law_259 rfl ?_
  refine lv_iconst (v := (0 : Int32)) hx hb dL_law_260 (by decide) ?_
  refine lv_iconst (v := (-1 : Int32)) hx hb dL_law_261 (by decide) ?_
  refine va_iast hx hb hK hP hD hS 0 0 rfl rfl (zk_lit (by decide +kernel)) dL_law_262 (fun H locs hP hD hS => ?_)
  have hP : va_P D vwCl ((qv257, .inl (T 0, 2, .inl (upd (fun _ => (0 : Int32)) (0 : Int32).toNatClampNeg (-1 : Int32)))) :: (ow T q (el 1 0 0 0 1 ob_0.2.2.2.2.1.2.2 pr ts tr))) H := hP
  have hD : va_D A ((qv257, .inl (T 0, 2, .inl (upd (fun _ => (0 : Int32)) (0 : Int32).toNatClampNeg (-1 : Int32)))) :: (ow T q (el 1 0 0 0 1 ob_0.2.2.2.2.1.2.2 pr ts tr))) := hD
  refine lv_dup hx hb dL_law_263 rfl ?_
  refine lv_iconst (v := (1 : Int32)) hx hb dL_law_264 (by decide) ?_
  refine lv_iconst (v := (0 : Int32)) hx hb dL_law_265 (by decide) ?_
  refine va_iast hx hb hK hP hD hS 0 0 rfl rfl (zk_lit (by decide +kernel)) dL_law_266 (fun H locs hP hD hS => ?_)
  have hP : va_P D vwCl ((qv257, .inl (T 0, 2, .inl (upd (upd (fun _ => (0 : Int32)) (0 : Int32).toNatClampNeg (-1 : Int32)) (1 : Int32).toNatClampNeg (0 : Int32)))) :: (ow T q (el 1 0 0 0 1 ob_0.2.2.2.2.1.2.2 pr ts tr))) H := hP
  have hD : va_D A ((qv257, .inl (T 0, 2, .inl (upd (upd (fun _ => (0 : Int32)) (0 : Int32).toNatClampNeg (-1 : Int32)) (1 : Int32).toNatClampNeg (0 : Int32)))) :: (ow T q (el 1 0 0 0 1 ob_0.2.2.2.2.1.2.2 pr ts tr))) := hD
  refine lk_ask (ws' := []) (nL := 2) (rw_ := []) (stk := []) (x := el 1 0 0 0 1 ob_0.2.2.2.2.1.2.2 pr ts tr) (o := ((-2000000001 : Int32), el 1 0 0 0 1 ob_0.2.2.2.2.1.2.2 pr ts tr)) (fun sz => a_S l hst D T 3000 q qv257 sz (el 1 0 0 0 1 ob_0.2.2.2.2.1.2.2 pr ts tr) 2 (upd (upd (fun _ => (0 : Int32)) (0 : Int32).toNatClampNeg (-1 : Int32)) (1 : Int32).toNatClampNeg (0 : Int32)) ((-2000000001 : Int32), el 1 0 0 0 1 ob_0.2.2.2.2.1.2.2 pr ts tr) (el_14 ob_0.2.2.2.2.1.2.2 pr ts tr)) ⟨hx, hb, hml, hown, hts⟩ (vx_cwSW 3 hts gT_ask rfl rfl rfl (by decide +kernel) ⟨(Nat.le_of_ble_eq_true rfl), (Nat.le_of_ble_eq_true rfl)⟩) hK hN hX hNc hS hA (by rw [List.append_nil]; exact hP) (by rw [List.append_nil]; exact hD) hl.1 (Nat.le_of_ble_eq_true rfl) dL_law_267 ⟨(Nat.le_of_ble_eq_true rfl), (Nat.le_of_ble_eq_true rfl)⟩ (fun H locs hP hD hS => ?_)
  rw [List.append_nil] at hP hD
  have hP : va_P D vwCl (ow T q (el 1 0 0 0 1 ob_0.2.2.2.2.1.2.2 pr ts tr)) H := hP
  have hD : va_D A (ow T q (el 1 0 0 0 1 ob_0.2.2.2.2.1.2.2 pr ts tr)) := hD
  refine W.widen (k := 95) (n := 8292) (Nat.le_of_ble_eq_true rfl) (Nat.le_of_ble_eq_true rfl) ?_
  refine lv_ldc (v := (-2000000001 : Int32)) hx hb hown (hts _ lm_constant_RL_73_2000000001) dL_law_270 ?_
  refine lv_icmp_ne (tgt := 1394) hx hb dL_law_272 (by decide) (fun c9 => absurd rfl c9) (fun _ => ?_)
  refine lv_aload_n hx hb dL_law_275 rfl (lv_at hl 0 rfl) ?_
  refine lv_bipush (v := (83 : Int32)) hx hb dL_law_276 (by decide) ?_
  refine lv_iconst (v := (2 : Int32)) hx hb dL_law_278 (by decide) ?_
  refine lk_new (N' := 2) hx hb (hts _ lm_arrayClass_int) hK hP hD hS hA (by decide) (by decide +kernel) (Nat.le_of_ble_eq_true rfl) (Nat.le_of_ble_eq_true rfl) (Nat.le_of_ble_eq_true rfl) dL_law_279 (fun qv279 H hP hD hS => ?_)
  refine lv_dup hx hb dL_law_281 rfl ?_
  refine lv_iconst (v := (0 : Int32)) hx hb dL_law_282 (by decide) ?_
  refine lv_iconst (v := (0 : Int32)) hx hb dL_law_283 (by decide) ?_
  refine va_iast hx hb hK hP hD hS 0 0 rfl rfl (zk_lit (by decide +kernel)) dL_law_284 (fun H locs hP hD hS => ?_)
  have hP : va_P D vwCl ((qv279, .inl (T 0, 2, .inl (upd (fun _ => (0 : Int32)) (0 : Int32).toNatClampNeg (0 : Int32)))) :: (ow T q (el 1 0 0 0 1 ob_0.2.2.2.2.1.2.2 pr ts tr))) H := hP
  have hD : va_D A ((qv279, .inl (T 0, 2, .inl (upd (fun _ => (0 : Int32)) (0 : Int32).toNatClampNeg (0 : Int32)))) :: (ow T q (el 1 0 0 0 1 ob_0.2.2.2.2.1.2.2 pr ts tr))) := hD
  refine lv_dup hx hb dL_law_285 rfl ?_
  refine lv_iconst (v := (1 : Int32)) hx hb dL_law_286 (by decide) ?_
  refine lv_sipush (v := (1001 : Int32)) hx hb dL_law_287 (by decide) ?_
  refine va_iast hx hb hK hP hD hS 0 0 rfl rfl (zk_lit (by decide +kernel)) dL_law_290 (fun H locs hP hD hS => ?_)
  have hP : va_P D vwCl ((qv279, .inl (T 0, 2, .inl (upd (upd (fun _ => (0 : Int32)) (0 : Int32).toNatClampNeg (0 : Int32)) (1 : Int32).toNatClampNeg (1001 : Int32)))) :: (ow T q (el 1 0 0 0 1 ob_0.2.2.2.2.1.2.2 pr ts tr))) H := hP
  have hD : va_D A ((qv279, .inl (T 0, 2, .inl (upd (upd (fun _ => (0 : Int32)) (0 : Int32).toNatClampNeg (0 : Int32)) (1 : Int32).toNatClampNeg (1001 : Int32)))) :: (ow T q (el 1 0 0 0 1 ob_0.2.2.2.2.1.2.2 pr ts tr))) := hD
  refine lk_ask (ws' := []) (nL := 2) (rw_ := []) (stk := []) (x := el 1 0 0 0 1 ob_0.2.2.2.2.1.2.2 pr ts tr) (o := ((-2000000002 : Int32), el 1 0 0 0 1 ob_0.2.2.2.2.1.2.2 pr ts tr)) (fun sz => a_S l hst D T 3000 q qv279 sz (el 1 0 0 0 1 ob_0.2.2.2.2.1.2.2 pr ts tr) 2 (upd (upd (fun _ => (0 : Int32)) (0 : Int32).toNatClampNeg (0 : Int32)) (1 : Int32).toNatClampNeg (1001 : Int32)) ((-2000000002 : Int32), el 1 0 0 0 1 ob_0.2.2.2.2.1.2.2 pr ts tr) (el_15 ob_0.2.2.2.2.1.2.2 pr ts tr)) ⟨hx, hb, hml, hown, hts⟩ (vx_cwSW 3 hts gT_ask rfl rfl rfl (by decide +kernel) ⟨(Nat.le_of_ble_eq_true rfl), (Nat.le_of_ble_eq_true rfl)⟩) hK hN hX hNc hS hA (by rw [List.append_nil]; exact hP) (by rw [List.append_nil]; exact hD) hl.1 (Nat.le_of_ble_eq_true rfl) dL_law_291 ⟨(Nat.le_of_ble_eq_true rfl), (Nat.le_of_ble_eq_true rfl)⟩ (fun H locs hP hD hS => ?_)
  rw [List.append_nil] at hP hD
  have hP : va_P D vwCl (ow T q (el 1 0 0 0 1 ob_0.2.2.2.2.1.2.2 pr ts tr)) H := hP
  have hD : va_D A (ow T q (el 1 0 0 0 1 ob_0.2.2.2.2.1.2.2 pr ts tr)) := hD
  refine W.widen (k := 99) (n := 8312) (Nat.le_of_ble_eq_true rfl) (Nat.le_of_ble_eq_true rfl) ?_
  refine lv_ldc (v := (-2000000002 : Int32)) hx hb hown (hts _ lm_constant_RL_76_2000000002) dL_law_294 ?_
  refine lv_icmp_ne (tgt := 1394) hx hb dL_law_296 (by decide) (fun c9 => absurd rfl c9) (fun _ => ?_)
  refine lv_aload_n hx hb dL_law_299 rfl (lv_at hl 0 rfl) ?_
  refine lv_bipush (v := (83 : Int32)) hx hb dL_law_300 (by decide) ?_
  refine lv_iconst (v := (2 : Int32)) hx hb dL_law_302 (by decide) ?_
  refine lk_new (N' := 2) hx hb (hts _ lm_arrayClass_int) hK hP hD hS hA (by decide) (by decide +kernel) (Nat.le_of_ble_eq_true rfl) (Nat.le_of_ble_eq_true rfl) (Nat.le_of_ble_eq_true rfl) dL_law_303 (fun qv303 H hP hD hS => ?_)
  refine lv_dup hx hb dL_law_305 rfl ?_
  refine lv_iconst (v := (0 : Int32)) hx hb dL_law_306 (by decide) ?_
  refine lv_bipush (v := (15 : Int32)) hx hb dL_law_307 (by decide) ?_
  refine va_iast hx hb hK hP hD hS 0 0 rfl rfl (zk_lit (by decide +kernel)) dL_law_309 (fun H locs hP hD hS => ?_)
  have hP : va_P D vwCl ((qv303, .inl (T 0, 2, .inl (upd (fun _ => (0 : Int32)) (0 : Int32).toNatClampNeg (15 : Int32)))) :: (ow T q (el 1 0 0 0 1 ob_0.2.2.2.2.1.2.2 pr ts tr))) H := hP
  have hD : va_D A ((qv303, .inl (T 0, 2, .inl (upd (fun _ => (0 : Int32)) (0 : Int32).toNatClampNeg (15 : Int32)))) :: (ow T q (el 1 0 0 0 1 ob_0.2.2.2.2.1.2.2 pr ts tr))) := hD
  refine lv_dup hx hb dL_law_310 rfl ?_
  refine lv_iconst (v := (1 : Int32)) hx hb dL_law_311 (by decide) ?_
  refine lv_iconst (v := (0 : Int32)) hx hb dL_law_312 (by decide) ?_
  refine va_iast hx hb hK hP hD hS 0 0 rfl rfl (zk_lit (by decide +kernel)) dL_law_313 (fun H locs hP hD hS => ?_)
  have hP : va_P D vwCl ((qv303, .inl (T 0, 2, .inl (upd (upd (fun _ => (0 : Int32)) (0 : Int32).toNatClampNeg (15 : Int32)) (1 : Int32).toNatClampNeg (0 : Int32)))) :: (ow T q (el 1 0 0 0 1 ob_0.2.2.2.2.1.2.2 pr ts tr))) H := hP
  have hD : va_D A ((qv303, .inl (T 0, 2, .inl (upd (upd (fun _ => (0 : Int32)) (0 : Int32).toNatClampNeg (15 : Int32)) (1 : Int32).toNatClampNeg (0 : Int32)))) :: (ow T q (el 1 0 0 0 1 ob_0.2.2.2.2.1.2.2 pr ts tr))) := hD
  refine lk_ask (ws' := []) (nL := 2) (rw_ := []) (stk := []) (x := el 1 0 0 0 1 ob_0.2.2.2.2.1.2.2 pr ts tr) (o := ((-2000000004 : Int32), el 1 0 0 0 1 ob_0.2.2.2.2.1.2.2 pr ts tr)) (fun sz => a_S l hst D T 3000 q qv303 sz (el 1 0 0 0 1 ob_0.2.2.2.2.1.2.2 pr ts tr) 2 (upd (upd (fun _ => (0 : Int32)) (0 : Int32).toNatClampNeg (15 : Int32)) (1 : Int32).toNatClampNeg (0 : Int32)) ((-2000000004 : Int32), el 1 0 0 0 1 ob_0.2.2.2.2.1.2.2 pr ts tr) (el_16 ob_0.2.2.2.2.1.2.2 pr ts tr)) ⟨hx, hb, hml, hown, hts⟩ (vx_cwSW 3 hts gT_ask rfl rfl rfl (by decide +kernel) ⟨(Nat.le_of_ble_eq_true rfl), (Nat.le_of_ble_eq_true rfl)⟩) hK hN hX hNc hS hA (by rw [List.append_nil]; exact hP) (by rw [List.append_nil]; exact hD) hl.1 (Nat.le_of_ble_eq_true rfl) dL_law_314 ⟨(Nat.le_of_ble_eq_true rfl), (Nat.le_of_ble_eq_true rfl)⟩ (fun H locs hP hD hS => ?_)
  rw [List.append_nil] at hP hD
  have hP : va_P D vwCl (ow T q (el 1 0 0 0 1 ob_0.2.2.2.2.1.2.2 pr ts tr)) H := hP
  have hD : va_D A (ow T q (el 1 0 0 0 1 ob_0.2.2.2.2.1.2.2 pr ts tr)) := hD
  refine W.widen (k := 103) (n := 8332) (Nat.le_of_ble_eq_true rfl) (Nat.le_of_ble_eq_true rfl) ?_
  refine lv_ldc (v := (-2000000004 : Int32)) hx hb hown (hts _ lm_constant_RL_82_2000000004) dL_law_317 ?_
  refine lv_icmp_ne (tgt := 1394) hx hb dL_law_319 (by decide) (fun c9 => absurd rfl c9) (fun _ => ?_)
  exact kk pr ts tr H locs hP hD hS

/-! rows of mine: the law's first calls, in pieces -/
set_option maxHeartbeats 16000000 in
set_option maxRecDepth 100000 in
theorem law_s6 {p : Program} {l : Launch} {e : Env} {s : State} {m : MethodId} {below : List Frame} {meth : Method} {c : Code} {Q : State → Prop} {A : Nat → Prop} {D : va_G} {T : Nat → ClassId} {q : Nat → Nat} {b : Nat} {ls : Array Slot} (hst : l.stackTraces = false) (hx : p.tables.exec = Jvm.exec) (hb : c.code = cL_law) (hml : c.maxLocals = 2) (hown : s.vm.findClass RL = some m.cls) (hts : ∀ w ∈ lw_tbl, w.before #[Value.ref b] s = true) (hA : ∀ q : Nat, s.heap.size ≤ q → A q) (hK : va_K D vwCl (zk_ty T) s) (hN : zk_N s) (hX : zx_K A s s.heap) (hNc : zn_K s) (hl : lv_has ls 2 [(1, .ref (q 0)), (0, .ref b)]) {ah : (Nat → Int32) × (Nat → Int32) × (Int32 × (Nat → Int32) × (Nat → Int32)) × (Int32 × (Nat → Int32) × (Nat → Int32))} {pr : (Int32 × Int32 × Int32 × (Nat → Int32) × (Nat → Int32) × (Nat → Int32) × (Nat → Int32) × (Nat → Int32) × (Nat → Int32) × (Nat → Int32) × (Nat → Int32))} {ts : (Int32 × (Nat → Int32) × (Nat → Int32))} {tr : (Int32 × Int32 × (Nat → Int32) × (Nat → Int32) × (Int32 × (Nat → Int32) × (Nat → Int32)) × (Int32 × (Nat → Int32) × (Nat → Int32)))} {H : Heap} {locs : List Loc} (hP : va_P D vwCl (ow T q (el 1 1 1 0 1 ah pr ts tr)) H) (hD : va_D A (ow T q (el 1 1 1 0 1 ah pr ts tr))) (hS : va_S A s.heap H locs) (kk : ∀ (ah : (Nat → Int32) × (Nat → Int32) × (Int32 × (Nat → Int32) × (Nat → Int32)) × (Int32 × (Nat → Int32) × (Nat → Int32))) (pr : (Int32 × Int32 × Int32 × (Nat → Int32) × (Nat → Int32) × (Nat → Int32) × (Nat → Int32) × (Nat → Int32) × (Nat → Int32) × (Nat → Int32) × (Nat → Int32))) (ts : (Int32 × (Nat → Int32) × (Nat → Int32))) (tr : (Int32 × Int32 × (Nat → Int32) × (Nat → Int32) × (Int32 × (Nat → Int32) × (Nat → Int32)) × (Int32 × (Nat → Int32) × (Nat → Int32)))) (H : Heap) (locs : List Loc), va_P D vwCl (ow T q (el 1 1 1 0 1 ah pr ts tr)) H → va_D A (ow T q (el 1 1 1 0 1 ah pr ts tr)) → va_S A s.heap H locs → W p l e room_1 s m #[Value.ref b] below meth c H locs 250 9082 Q (F0 m 1016 ls [])) : W p l e room_1 s m #[Value.ref b] below meth c H locs 199 8812 Q (F0 m 859 ls []) := by
  refine lv_aload_n hx hb dL_law_859 rfl (lv_at hl 0 rfl) ?_
  refine lv_bipush (v := (105 : Int32)) hx hb dL_law_860 (by decide) ?_
  refine lv_iconst (v := (2 : Int32)) hx hb dL_law_862 (by decide) ?_
  refine lk_new (N' := 2) hx hb (hts _ lm_arrayClass_int) hK hP hD hS hA (by decide) (by decide +kernel) (Nat.le_of_ble_eq_true rfl) (Nat.le_of_ble_eq_true rfl) (Nat.le_of_ble_eq_true rfl) dL_law_863 (fun qv863 H hP hD hS => ?_)
  refine lv_dup hx hb dL_law_865 rfl ?_
  refine lv_iconst (v := (0 : Int32)) hx hb dL_law_866 (by decide) ?_
  refine lv_iconst (v := (0 : Int32)) hx hb dL_law_867 (by decide) ?_
  refine va_iast hx hb hK hP hD hS 0 0 rfl rfl (zk_lit (by decide +kernel)) dL_law_868 (fun H locs hP hD hS => ?_)
  have hP : va_P D vwCl ((qv863, .inl (T 0, 2, .inl (upd (fun _ => (0 : Int32)) (0 : Int32).toNatClampNeg (0 : Int32)))) :: (ow T q (el 1 1 1 0 1 ah pr ts tr))) H := hP
  have hD : va_D A ((qv863, .inl (T 0, 2, .inl (upd (fun _ => (0 : Int32)) (0 : Int32).toNatClampNeg (0 : Int32)))) :: (ow T q (el 1 1 1 0 1 ah pr ts tr))) := hD
  refine lv_dup hx hb dL_law_869 rfl ?_
  refine lv_iconst (v := (1 : Int32)) hx hb dL_law_870 (by decide) ?_
  refine lv_bipush (v := (20 : Int32)) hx hb dL_law_871 (by decide) ?_
  refine va_iast hx hb hK hP hD hS 0 0 rfl rfl (zk_lit (by decide +kernel)) dL_law_873 (fun H locs hP hD hS => ?_)
  have hP : va_P D vwCl ((qv863, .inl (T 0, 2, .inl (upd (upd (fun _ => (0 : Int32)) (0 : Int32).toNatClampNeg (0 : Int32)) (1 : Int32).toNatClampNeg (20 : Int32)))) :: (ow T q (el 1 1 1 0 1 ah pr ts tr))) H := hP
  have hD : va_D A ((qv863, .inl (T 0, 2, .inl (upd (upd (fun _ => (0 : Int32)) (0 : Int32).toNatClampNeg (0 : Int32)) (1 : Int32).toNatClampNeg (20 : Int32)))) :: (ow T q (el 1 1 1 0 1 ah pr ts tr))) := hD
  refine lk_ask (ws' := []) (nL := 2) (rw_ := []) (stk := []) (x := el 1 1 1 0 1 ah pr ts tr) (o := ((-2000000001 : Int32), el 1 1 1 0 1 ah pr ts tr)) (fun sz => a_i l hst D T 3000 q qv863 sz (el 1 1 1 0 1 ah pr ts tr) 2 (upd (upd (fun _ => (0 : Int32)) (0 : Int32).toNatClampNeg (0 : Int32)) (1 : Int32).toNatClampNeg (20 : Int32)) ((-2000000001 : Int32), el 1 1 1 0 1 ah pr ts tr) (el_41 ah pr ts tr)) ⟨hx, hb, hml, hown, hts⟩ (vx_cwSW 3 hts gT_ask rfl rfl rfl (by decide +kernel) ⟨(Nat.le_of_ble_eq_true rfl), (Nat.le_of_ble_eq_true rfl)⟩) hK hN hX hNc hS hA (by rw [List.append_nil]; exact hP) (by rw [List.append_nil]; exact hD) hl.1 (Nat.le_of_ble_eq_true rfl) dL_law_874 ⟨(Nat.le_of_ble_eq_true rfl), (Nat.le_of_ble_eq_true rfl)⟩ (fun H locs hP hD hS => ?_)
  rw [List.append_nil] at hP hD
  have hP : va_P D vwCl (ow T q (el 1 1 1 0 1 ah pr ts tr)) H := hP
  have hD : va_D A (ow T q (el 1 1 1 0 1 ah pr ts tr)) := hD
  refine W.widen (k := 208) (n := 8862) (Nat.le_of_ble_eq_true rfl) (Nat.le_of_ble_eq_true rfl) ?_
  refine lv_ldc (v := (-2000000001 : Int32)) hx hb hown (hts _ lm_constant_RL_73_2000000001) dL_law_877 ?_
  refine lv_icmp_ne (tgt := 1394) hx hb dL_law_879 (by decide) (fun c9 => absurd rfl c9) (fun _ => ?_)
  refine lv_aload_n hx hb dL_law_882 rfl (lv_at hl 0 rfl) ?_
  refine lv_bipush (v := (105 : Int32)) hx hb dL_law_883 (by decide) ?_
  refine lv_iconst (v := (2 : Int32)) hx hb dL_law_885 (by decide) ?_
  refine lk_new (N' := 2) hx hb (hts _ lm_arrayClass_int) hK hP hD hS hA (by decide) (by decide +kernel) (Nat.le_of_ble_eq_true rfl) (Nat.le_of_ble_eq_true rfl) (Nat.le_of_ble_eq_true rfl) dL_law_886 (fun qv886 H hP hD hS => ?_)
  refine lv_dup hx hb dL_law_888 rfl ?_
  refine lv_iconst (v := (0 : Int32)) hx hb dL_law_889 (by decide) ?_
  refine lv_iconst (v := (0 : Int32)) hx hb dL_law_890 (by decide) ?_
  refine va_iast hx hb hK hP hD hS 0 0 rfl rfl (zk_lit (by decide +kernel)) dL_law_891 (fun H locs hP hD hS => ?_)
  have hP : va_P D vwCl ((qv886, .inl (T 0, 2, .inl (upd (fun _ => (0 : Int32)) (0 : Int32).toNatClampNeg (0 : Int32)))) :: (ow T q (el 1 1 1 0 1 ah pr ts tr))) H := hP
  have hD : va_D A ((qv886, .inl (T 0, 2, .inl (upd (fun _ => (0 : Int32)) (0 : Int32).toNatClampNeg (0 : Int32)))) :: (ow T q (el 1 1 1 0 1 ah pr ts tr))) := hD
  refine lv_dup hx hb dL_law_892 rfl ?_
  refine lv_iconst (v := (1 : Int32)) hx hb dL_law_893 (by decide) ?_
  refine lv_iconst (v := (0 : Int32)) hx hb dL_law_894 (by decide) ?_
  refine va_iast hx hb hK hP hD hS 0 0 rfl rfl (zk_lit (by decide +kernel)) dL_law_895 (fun H locs hP hD hS => ?_)
  have hP : va_P D vwCl ((qv886, .inl (T 0, 2, .inl (upd (upd (fun _ => (0 : Int32)) (0 : Int32).toNatClampNeg (0 : Int32)) (1 : Int32).toNatClampNeg (0 : Int32)))) :: (ow T q (el 1 1 1 0 1 ah pr ts tr))) H := hP
  have hD : va_D A ((qv886, .inl (T 0, 2, .inl (upd (upd (fun _ => (0 : Int32)) (0 : Int32).toNatClampNeg (0 : Int32)) (1 : Int32).toNatClampNeg (0 : Int32)))) :: (ow T q (el 1 1 1 0 1 ah pr ts tr))) := hD
  refine lk_ask (ws' := []) (nL := 2) (rw_ := []) (stk := []) (x := el 1 1 1 0 1 ah pr ts tr) (o := ((-2000000005 : Int32), el 1 1 1 0 1 ah pr ts tr)) (fun sz => a_i l hst D T 3000 q qv886 sz (el 1 1 1 0 1 ah pr ts tr) 2 (upd (upd (fun _ => (0 : Int32)) (0 : Int32).toNatClampNeg (0 : Int32)) (1 : Int32).toNatClampNeg (0 : Int32)) ((-2000000005 : Int32), el 1 1 1 0 1 ah pr ts tr) (el_42 ah pr ts tr)) ⟨hx, hb, hml, hown, hts⟩ (vx_cwSW 3 hts gT_ask rfl rfl rfl (by decide +kernel) ⟨(Nat.le_of_ble_eq_true rfl), (Nat.le_of_ble_eq_true rfl)⟩) hK hN hX hNc hS hA (by rw [List.append_nil]; exact hP) (by rw [List.append_nil]; exact hD) hl.1 (Nat.le_of_ble_eq_true rfl) dL_law_896 ⟨(Nat.le_of_ble_eq_true rfl), (Nat.le_of_ble_eq_true rfl)⟩ (fun H locs hP hD hS => ?_)
  rw [List.append_nil] at hP hD
  have hP : va_P D vwCl (ow T q (el 1 1 1 0 1 ah pr ts tr)) H := hP
  have hD : va_D A (ow T q (el 1 1 1 0 1 ah pr ts tr)) := hD
  refine W.widen (k := 217) (n := 8912) (Nat.le_of_ble_eq_true rfl) (Nat.le_of_ble_eq_true rfl) ?_
  refine lv_ldc (v := (-2000000005 : Int32)) hx hb hown (hts _ lm_constant_RL_88_2000000005) dL_law_899 ?_
  refine lv_icmp_ne (tgt := 1394) hx hb dL_law_901 (by decide) (fun c9 => absurd rfl c9) (fun _ => ?_)
  refine lv_aload_n hx hb dL_law_904 rfl (lv_at hl 0 rfl) ?_
  refine lv_bipush (v := (103 : Int32)) hx hb dL_law_905 (by decide) ?_
  refine lv_iconst (v := (0 : Int32)) hx hb dL_law_907 (by decide) ?_
  refine lk_new (N' := 0) hx hb (hts _ lm_arrayClass_int) hK hP hD hS hA (by decide) (by decide +kernel) (Nat.le_of_ble_eq_true rfl) (Nat.le_of_ble_eq_true rfl) (Nat.le_of_ble_eq_true rfl) dL_law_908 (fun qv908 H hP hD hS => ?_)
  refine lk_ask (ws' := []) (nL := 2) (rw_ := []) (stk := []) (x := el 1 1 1 0 1 ah pr ts tr) (o := ((0 : Int32), el 1 1 1 0 1 ah pr ts tr)) (fun sz => a_g l hst D T 3000 q qv908 sz (el 1 1 1 0 1 ah pr ts tr) 0 (fun _ => (0 : Int32)) ((0 : Int32), el 1 1 1 0 1 ah pr ts tr) (el_43 ah pr ts tr)) ⟨hx, hb, hml, hown, hts⟩ (vx_cwSW 3 hts gT_ask rfl rfl rfl (by decide +kernel) ⟨(Nat.le_of_ble_eq_true rfl), (Nat.le_of_ble_eq_true rfl)⟩) hK hN hX hNc hS hA (by rw [List.append_nil]; exact hP) (by rw [List.append_nil]; exact hD) hl.1 (Nat.le_of_ble_eq_true rfl) dL_law_910 ⟨(Nat.le_of_ble_eq_true rfl), (Nat.le_of_ble_eq_true rfl)⟩ (fun H locs hP hD hS => ?_)
  rw [List.append_nil] at hP hD
  have hP : va_P D vwCl (ow T q (el 1 1 1 0 1 ah pr ts tr)) H := hP
  have hD : va_D A (ow T q (el 1 1 1 0 1 ah pr ts tr)) := hD
  refine W.widen (k := 220) (n := 8924) (Nat.le_of_ble_eq_true rfl) (Nat.le_of_ble_eq_true rfl) ?_
  refine lv_if_ne (tgt := 1394) hx hb dL_law_913 (by decide) (fun c9 => absurd rfl c9) (fun _ => ?_)
  refine lv_aload_n hx hb dL_law_916 rfl (lv_at hl 0 rfl) ?_
  refine lv_bipush (v := (71 : Int32)) hx hb dL_law_917 (by decide) ?_
  refine lv_iconst (v := (1 : Int32)) hx hb dL_law_919 (by decide) ?_
  refine lk_new (N' := 1) hx hb (hts _ lm_arrayClass_int) hK hP hD hS hA (by decide) (by decide +kernel) (Nat.le_of_ble_eq_true rfl) (Nat.le_of_ble_eq_true rfl) (Nat.le_of_ble_eq_true rfl) dL_law_920 (fun qv920 H hP hD hS => ?_)
  refine lv_dup hx hb dL_law_922 rfl ?_
  refine lv_iconst (v := (0 : Int32)) hx hb dL_law_923 (by decide) ?_
  refine lv_iconst (v := (0 : Int32)) hx hb dL_law_924 (by decide) ?_
  refine va_iast hx hb hK hP hD hS 0 0 rfl rfl (zk_lit (by decide +kernel)) dL_law_925 (fun H locs hP hD hS => ?_)
  have hP : va_P D vwCl ((qv920, .inl (T 0, 1, .inl (upd (fun _ => (0 : Int32)) (0 : Int32).toNatClampNeg (0 : Int32)))) :: (ow T q (el 1 1 1 0 1 ah pr ts tr))) H := hP
  have hD : va_D A ((qv920, .inl (T 0, 1, .inl (upd (fun _ => (0 : Int32)) (0 : Int32).toNatClampNeg (0 : Int32)))) :: (ow T q (el 1 1 1 0 1 ah pr ts tr))) := hD
  refine lk_ask (ws' := []) (nL := 2) (rw_ := []) (stk := []) (x := el 1 1 1 0 1 ah pr ts tr) (o := ((-2000000005 : Int32), el 1 1 1 0 1 ah pr ts tr)) (fun sz => a_G l hst D T 3000 q qv920 sz (el 1 1 1 0 1 ah pr ts tr) 1 (upd (fun _ => (0 : Int32)) (0 : Int32).toNatClampNeg (0 : Int32)) ((-2000000005 : Int32), el 1 1 1 0 1 ah pr ts tr) (el_44 ah pr ts tr)) ⟨hx, hb, hml, hown, hts⟩ (vx_cwSW 3 hts gT_ask rfl rfl rfl (by decide +kernel) ⟨(Nat.le_of_ble_eq_true rfl), (Nat.le_of_ble_eq_true rfl)⟩) hK hN hX hNc hS hA (by rw [List.append_nil]; exact hP) (by rw [List.append_nil]; exact hD) hl.1 (Nat.le_of_ble_eq_true rfl) dL_law_926 ⟨(Nat.le_of_ble_eq_true rfl), (Nat.le_of_ble_eq_true rfl)⟩ (fun H locs hP hD hS => ?_)
  rw [List.append_nil] at hP hD
  have hP : va_P D vwCl (ow T q (el 1 1 1 0 1 ah pr ts tr)) H := hP
  have hD : va_D A (ow T q (el 1 1 1 0 1 ah pr ts tr)) := hD
  refine W.widen (k := 225) (n := 8949) (Nat.le_of_ble_eq_true rfl) (Nat.le_of_ble_eq_true rfl) ?_
  refine lv_ldc (v := (-2000000005 : Int32)) hx hb hown (hts _ lm_constant_RL_88_2000000005) dL_law_929 ?_
  refine lv_icmp_ne (tgt := 1394) hx hb dL_law_931 (by decide) (fun c9 => absurd rfl c9) (fun _ => ?_)
  refine lv_aload_n hx hb dL_law_934 rfl (lv_at hl 0 rfl) ?_
  refine lv_bipush (v := (73 : Int32)) hx hb dL_law_935 (by decide) ?_
  refine lv_iconst (v := (0 : Int32)) hx hb dL_law_937 (by decide) ?_
  refine lk_new (N' := 0) hx hb (hts _ lm_arrayClass_int) hK hP hD hS hA (by decide) (by decide +kernel) (Nat.le_of_ble_eq_true rfl) (Nat.le_of_ble_eq_true rfl) (Nat.le_of_ble_eq_true rfl) dL_law_938 (fun qv938 H hP hD hS => ?_)
  refine lk_ask (ws' := []) (nL := 2) (rw_ := []) (stk := []) (x := el 1 1 1 0 1 ah pr ts tr) (o := ((0 : Int32), el 1 1 1 0 1 ah pr ts tr)) (fun sz => a_I l hst D T 3000 q qv938 sz (el 1 1 1 0 1 ah pr ts tr) 0 (fun _ => (0 : Int32)) ((0 : Int32), el 1 1 1 0 1 ah pr ts tr) (el_45 ah pr ts tr)) ⟨hx, hb, hml, hown, hts⟩ (vx_cwSW 3 hts gT_ask rfl rfl rfl (by decide +kernel) ⟨(Nat.le_of_ble_eq_true rfl), (Nat.le_of_ble_eq_true rfl)⟩) hK hN hX hNc hS hA (by rw [List.append_nil]; exact hP) (by rw [List.append_nil]; exact hD) hl.1 (Nat.le_of_ble_eq_true rfl) dL_law_940 ⟨(Nat.le_of_ble_eq_true rfl), (Nat.le_of_ble_eq_true rfl)⟩ (fun H locs hP hD hS => ?_)
  rw [List.append_nil] at hP hD
  have hP : va_P D vwCl (ow T q (el 1 1 1 0 1 ah pr ts tr)) H := hP
  have hD : va_D A (ow T q (el 1 1 1 0 1 ah pr ts tr)) := hD
  refine W.widen (k := 228) (n := 8961) (Nat.le_of_ble_eq_true rfl) (Nat.le_of_ble_eq_true rfl) ?_
  refine lv_if_ne (tgt := 1394) hx hb dL_law_943 (by decide) (fun c9 => absurd rfl c9) (fun _ => ?_)
  refine lv_aload_n hx hb dL_law_946 rfl (lv_at hl 0 rfl) ?_
  refine lv_bipush (v := (111 : Int32)) hx hb dL_law_947 (by decide) ?_
  refine lv_iconst (v := (1 : Int32)) hx hb dL_law_949 (by decide) ?_
  refine lk_new (N' := 1) hx hb (hts _ lm_arrayClass_int) hK hP hD hS hA (by decide) (by decide +kernel) (Nat.le_of_ble_eq_true rfl) (Nat.le_of_ble_eq_true rfl) (Nat.le_of_ble_eq_true rfl) dL_law_950 (fun qv950 H hP hD hS => ?_)
  refine lv_dup hx hb dL_law_952 rfl ?_
  refine lv_iconst (v := (0 : Int32)) hx hb dL_law_953 (by decide) ?_
  refine lv_iconst (v := (0 : Int32)) hx hb dL_law_954 (by decide) ?_
  refine va_iast hx hb hK hP hD hS 0 0 rfl rfl (zk_lit (by decide +kernel)) dL_law_955 (fun H locs hP hD hS => ?_)
  have hP : va_P D vwCl ((qv950, .inl (T 0, 1, .inl (upd (fun _ => (0 : Int32)) (0 : Int32).toNatClampNeg (0 : Int32)))) :: (ow T q (el 1 1 1 0 1 ah pr ts tr))) H := hP
  have hD : va_D A ((qv950, .inl (T 0, 1, .inl (upd (fun _ => (0 : Int32)) (0 : Int32).toNatClampNeg (0 : Int32)))) :: (ow T q (el 1 1 1 0 1 ah pr ts tr))) := hD
  refine lk_ask (ws' := []) (nL := 2) (rw_ := []) (stk := []) (x := el 1 1 1 0 1 ah pr ts tr) (o := ((-2000000005 : Int32), el 1 1 1 0 1 ah pr ts tr)) (fun sz => a_o l hst D T 3000 q qv950 sz (el 1 1 1 0 1 ah pr ts tr) 1 (upd (fun _ => (0 : Int32)) (0 : Int32).toNatClampNeg (0 : Int32)) ((-2000000005 : Int32), el 1 1 1 0 1 ah pr ts tr) (el_46 ah pr ts tr)) ⟨hx, hb, hml, hown, hts⟩ (vx_cwSW 3 hts gT_ask rfl rfl rfl (by decide +kernel) ⟨(Nat.le_of_ble_eq_true rfl), (Nat.le_of_ble_eq_true rfl)⟩) hK hN hX hNc hS hA (by rw [List.append_nil]; exact hP) (by rw [List.append_nil]; exact hD) hl.1 (Nat.le_of_ble_eq_true rfl) dL_law_956 ⟨(Nat.le_of_ble_eq_true rfl), (Nat.le_of_ble_eq_true rfl)⟩ (fun H locs hP hD hS => ?_)
  rw [List.append_nil] at hP hD
  have hP : va_P D vwCl (ow T q (el 1 1 1 0 1 ah pr ts tr)) H := hP
  have hD : va_D A (ow T q (el 1 1 1 0 1 ah pr ts tr)) := hD
  refine W.widen (k := 232) (n := 8980) (Nat.le_of_ble_eq_true rfl) (Nat.le_of_ble_eq_true rfl) ?_
  refine lv_ldc (v := (-2000000005 : Int32)) hx hb hown (hts _ lm_constant_RL_88_2000000005) dL_law_959 ?_
  refine lv_icmp_ne (tgt := 1394) hx hb dL_law_961 (by decide) (fun c9 => absurd rfl c9) (fun _ => ?_)
  refine lv_aload_n hx hb dL_law_964 rfl (lv_at hl 0 rfl) ?_
  refine lv_bipush (v := (109 : Int32)) hx hb dL_law_965 (by decide) ?_
  refine lv_iconst (v := (3 : Int32)) hx hb dL_law_967 (by decide) ?_
  refine lk_new (N' := 3) hx hb (hts _ lm_arrayClass_int) hK hP hD hS hA (by decide) (by decide +kernel) (Nat.le_of_ble_eq_true rfl) (Nat.le_of_ble_eq_true rfl) (Nat.le_of_ble_eq_true rfl) dL_law_968 (fun qv968 H hP hD hS => ?_)
  refine lv_dup hx hb dL_law_970 rfl ?_
  refine lv_iconst (v := (0 : Int32)) hx hb dL_law_971 (by decide) ?_
  refine lv_iconst (v := (0 : Int32)) hx hb dL_law_972 (by decide) ?_
  refine va_iast hx hb hK hP hD hS 0 0 rfl rfl (zk_lit (by decide +kernel)) dL_law_973 (fun H locs hP hD hS => ?_)
  have hP : va_P D vwCl ((qv968, .inl (T 0, 3, .inl (upd (fun _ => (0 : Int32)) (0 : Int32).toNatClampNeg (0 : Int32)))) :: (ow T q (el 1 1 1 0 1 ah pr ts tr))) H := hP
  have hD : va_D A ((qv968, .inl (T 0, 3, .inl (upd (fun _ => (0 : Int32)) (0 : Int32).toNatClampNeg (0 : Int32)))) :: (ow T q (el 1 1 1 0 1 ah pr ts tr))) := hD
  refine lv_dup hx hb dL_law_974 rfl ?_
  refine lv_iconst (v := (1 : Int32)) hx hb dL_law_975 (by decide) ?_
  refine lv_iconst (v := (0 : Int32)) hx hb dL_law_976 (by decide) ?_
  refine va_iast hx hb hK hP hD hS 0 0 rfl rfl (zk_lit (by decide +kernel)) dL_law_977 (fun H locs hP hD hS => ?_)
  have hP : va_P D vwCl ((qv968, .inl (T 0, 3, .inl (upd (upd (fun _ => (0 : Int32)) (0 : Int32).toNatClampNeg (0 : Int32)) (1 : Int32).toNatClampNeg (0 : Int32)))) :: (ow T q (el 1 1 1 0 1 ah pr ts tr))) H := hP
  have hD : va_D A ((qv968, .inl (T 0, 3, .inl (upd (upd (fun _ => (0 : Int32)) (0 : Int32).toNatClampNeg (0 : Int32)) (1 : Int32).toNatClampNeg (0 : Int32)))) :: (ow T q (el 1 1 1 0 1 ah pr ts tr))) := hD
  refine lv_dup hx hb dL_law_978 rfl ?_
  refine lv_iconst (v := (2 : Int32)) hx hb dL_law_979 (by decide) ?_
  refine lv_iconst (v := (0 : Int32)) hx hb dL_law_980 (by decide) ?_
  refine va_iast hx hb hK hP hD hS 0 0 rfl rfl (zk_lit (by decide +kernel)) dL_law_981 (fun H locs hP hD hS => ?_)
  have hP : va_P D vwCl ((qv968, .inl (T 0, 3, .inl (upd (upd (upd (fun _ => (0 : Int32)) (0 : Int32).toNatClampNeg (0 : Int32)) (1 : Int32).toNatClampNeg (0 : Int32)) (2 : Int32).toNatClampNeg (0 : Int32)))) :: (ow T q (el 1 1 1 0 1 ah pr ts tr))) H := hP
  have hD : va_D A ((qv968, .inl (T 0, 3, .inl (upd (upd (upd (fun _ => (0 : Int32)) (0 : Int32).toNatClampNeg (0 : Int32)) (1 : Int32).toNatClampNeg (0 : Int32)) (2 : Int32).toNatClampNeg (0 : Int32)))) :: (ow T q (el 1 1 1 0 1 ah pr ts tr))) := hD
  refine lk_ask (ws' := []) (nL := 2) (rw_ := []) (stk := []) (x := el 1 1 1 0 1 ah pr ts tr) (o := ((-2000000002 : Int32), el 1 1 1 0 1 ah pr ts tr)) (fun sz => a_m l hst D T 3000 q qv968 sz (el 1 1 1 0 1 ah pr ts tr) 3 (upd (upd (upd (fun _ => (0 : Int32)) (0 : Int32).toNatClampNeg (0 : Int32)) (1 : Int32).toNatClampNeg (0 : Int32)) (2 : Int32).toNatClampNeg (0 : Int32)) ((-2000000002 : Int32), el 1 1 1 0 1 ah pr ts tr) (el_47 ah pr ts tr)) ⟨hx, hb, hml, hown, hts⟩ (vx_cwSW 3 hts gT_ask rfl rfl rfl (by decide +kernel) ⟨(Nat.le_of_ble_eq_true rfl), (Nat.le_of_ble_eq_true rfl)⟩) hK hN hX hNc hS hA (by rw [List.append_nil]; exact hP) (by rw [List.append_nil]; exact hD) hl.1 (Nat.le_of_ble_eq_true rfl) dL_law_982 ⟨(Nat.le_of_ble_eq_true rfl), (Nat.le_of_ble_eq_true rfl)⟩ (fun H locs hP hD hS => ?_)
  rw [List.append_nil] at hP hD
  have hP : va_P D vwCl (ow T q (el 1 1 1 0 1 ah pr ts tr)) H := hP
  have hD : va_D A (ow T q (el 1 1 1 0 1 ah pr ts tr)) := hD
  refine W.widen (k := 241) (n := 9031) (Nat.le_of_ble_eq_true rfl) (Nat.le_of_ble_eq_true rfl) ?_
  refine lv_ldc (v := (-2000000002 : Int32)) hx hb hown (hts _ lm_constant_RL_76_2000000002) dL_law_985 ?_
  refine lv_icmp_ne (tgt := 1394) hx hb dL_law_987 (by decide) (fun c9 => absurd rfl c9) (fun _ => ?_)
  refine lv_aload_n hx hb dL_law_990 rfl (lv_at hl 0 rfl) ?_
  refine lv_bipush (v := (109 : Int32)) hx hb dL_law_991 (by decide) ?_
  refine lv_iconst (v := (3 : Int32)) hx hb dL_law_993 (by decide) ?_
  refine lk_new (N' := 3) hx hb (hts _ lm_arrayClass_int) hK hP hD hS hA (by decide) (by decide +kernel) (Nat.le_of_ble_eq_true rfl) (Nat.le_of_ble_eq_true rfl) (Nat.le_of_ble_eq_true rfl) dL_law_994 (fun qv994 H hP hD hS => ?_)
  refine lv_dup hx hb dL_law_996 rfl ?_
  refine lv_iconst (v := (0 : Int32)) hx hb dL_law_997 (by decide) ?_
  refine lv_iconst (v := (0 : Int32)) hx hb dL_law_998 (by decide) ?_
  refine va_iast hx hb hK hP hD hS 0 0 rfl rfl (zk_lit (by decide +kernel)) dL_law_999 (fun H locs hP hD hS => ?_)
  have hP : va_P D vwCl ((qv994, .inl (T 0, 3, .inl (upd (fun _ => (0 : Int32)) (0 : Int32).toNatClampNeg (0 : Int32)))) :: (ow T q (el 1 1 1 0 1 ah pr ts tr))) H := hP
  have hD : va_D A ((qv994, .inl (T 0, 3, .inl (upd (fun _ => (0 : Int32)) (0 : Int32).toNatClampNeg (0 : Int32)))) :: (ow T q (el 1 1 1 0 1 ah pr ts tr))) := hD
  refine lv_dup hx hb dL_law_1000 rfl ?_
  refine lv_iconst (v := (1 : Int32)) hx hb dL_law_1001 (by decide) ?_
  refine lv_iconst (v := (1 : Int32)) hx hb dL_law_1002 (by decide) ?_
  refine va_iast hx hb hK hP hD hS 0 0 rfl rfl (zk_lit (by decide +kernel)) dL_law_1003 (fun H locs hP hD hS => ?_)
  have hP : va_P D vwCl ((qv994, .inl (T 0, 3, .inl (upd (upd (fun _ => (0 : Int32)) (0 : Int32).toNatClampNeg (0 : Int32)) (1 : Int32).toNatClampNeg (1 : Int32)))) :: (ow T q (el 1 1 1 0 1 ah pr ts tr))) H := hP
  have hD : va_D A ((qv994, .inl (T 0, 3, .inl (upd (upd (fun _ => (0 : Int32)) (0 : Int32).toNatClampNeg (0 : Int32)) (1 : Int32).toNatClampNeg (1 : Int32)))) :: (ow T q (el 1 1 1 0 1 ah pr ts tr))) := hD
  refine lv_dup hx hb dL_law_1004 rfl ?_
  refine lv_iconst (v := (2 : Int32)) hx hb dL_law_1005 (by decide) ?_
  refine lv_iconst (v := (0 : Int32)) hx hb dL_law_1006 (by decide) ?_
  refine va_iast hx hb hK hP hD hS 0 0 rfl rfl (zk_lit (by decide +kernel)) dL_law_1007 (fun H locs hP hD hS => ?_)
  have hP : va_P D vwCl ((qv994, .inl (T 0, 3, .inl (upd (upd (upd (fun _ => (0 : Int32)) (0 : Int32).toNatClampNeg (0 : Int32)) (1 : Int32).toNatClampNeg (1 : Int32)) (2 : Int32).toNatClampNeg (0 : Int32)))) :: (ow T q (el 1 1 1 0 1 ah pr ts tr))) H := hP
  have hD : va_D A ((qv994, .inl (T 0, 3, .inl (upd (upd (upd (fun _ => (0 : Int32)) (0 : Int32).toNatClampNeg (0 : Int32)) (1 : Int32).toNatClampNeg (1 : Int32)) (2 : Int32).toNatClampNeg (0 : Int32)))) :: (ow T q (el 1 1 1 0 1 ah pr ts tr))) := hD
  refine lk_ask (ws' := []) (nL := 2) (rw_ := []) (stk := []) (x := el 1 1 1 0 1 ah pr ts tr) (o := ((-2000000005 : Int32), el 1 1 1 0 1 ah pr ts tr)) (fun sz => a_m l hst D T 3000 q qv994 sz (el 1 1 1 0 1 ah pr ts tr) 3 (upd (upd (upd (fun _ => (0 : Int32)) (0 : Int32).toNatClampNeg (0 : Int32)) (1 : Int32).toNatClampNeg (1 : Int32)) (2 : Int32).toNatClampNeg (0 : Int32)) ((-2000000005 : Int32), el 1 1 1 0 1 ah pr ts tr) (el_48 ah pr ts tr)) ⟨hx, hb, hml, hown, hts⟩ (vx_cwSW 3 hts gT_ask rfl rfl rfl (by decide +kernel) ⟨(Nat.le_of_ble_eq_true rfl), (Nat.le_of_ble_eq_true rfl)⟩) hK hN hX hNc hS hA (by rw [List.append_nil]; exact hP) (by rw [List.append_nil]; exact hD) hl.1 (Nat.le_of_ble_eq_true rfl) dL_law_1008 ⟨(Nat.le_of_ble_eq_true rfl), (Nat.le_of_ble_eq_true rfl)⟩ (fun H locs hP hD hS => ?_)
  rw [List.append_nil] at hP hD
  have hP : va_P D vwCl (ow T q (el 1 1 1 0 1 ah pr ts tr)) H := hP
  have hD : va_D A (ow T q (el 1 1 1 0 1 ah pr ts tr)) := hD
  refine W.widen (k := 250) (n := 9082) (Nat.le_of_ble_eq_true rfl) (Nat.le_of_ble_eq_true rfl) ?_
  refine lv_ldc (v := (-2000000005 : Int32)) hx hb hown (hts _ lm_constant_RL_88_2000000005) dL_law_1011 ?_
  refine lv_icmp_ne (tgt := 1394) hx hb dL_law_1013 (by decide) (fun c9 => absurd rfl c9) (fun _ => ?_)
  exact kk ah pr ts tr H locs hP hD hS

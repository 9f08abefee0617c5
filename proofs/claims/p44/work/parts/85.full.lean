/-! rows of mine: the law's full -/
set_option maxHeartbeats 8000000 in
set_option maxRecDepth 100000 in
theorem full_1 {p : Program} {l : Launch} {e : Env} {s : State} {m : MethodId} {args : Array Value} {below : List Frame} {meth : Method} {c : Code} {Q : State → Prop} {A : Nat → Prop} {D : va_G} {T : Nat → ClassId} {q : Nat → Nat} (hst : l.stackTraces = false) (hx : p.tables.exec = Jvm.exec) (hb : c.code = cL_full) (hml : c.maxLocals = 2) (hown : s.vm.findClass RL = some m.cls) (hts : ∀ w ∈ ws_full, w.before args s = true) (hA : ∀ q : Nat, s.heap.size ≤ q → A q) (hK : va_K D vwCl (zk_ty T) s) (hN : zk_N s) (hX : zx_K A s s.heap) (hNc : zn_K s) (kk : ∀ (o2 : Ob) (H : Heap) (locs : List Loc) (ls : Array Slot) (cells slots : Nat), FS 60 0 0 o2 → cells ≤ 400 → slots ≤ 10680 → va_P D vwCl (ow T q o2) H → va_D A (ow T q o2) → va_S A s.heap H locs → lv_has ls 2 [(1, .int (nI 60)), (0, .ref (q 0))] → W p l e ({ frames := 14, cells := 5000, slots := 40000, locals := 320 } : Room) s m args below meth c H locs cells slots Q (F0 m 71 ls [])) : ∀ (j n : Nat) (o1 : Ob) (H : Heap) (locs : List Loc) (ls : Array Slot) (cells slots : Nat), n + j = 60 → FS n 0 0 o1 → cells + j * 5 ≤ 400 → slots + j * 28 ≤ 10680 → va_P D vwCl (ow T q o1) H → va_D A (ow T q o1) → va_S A s.heap H locs → lv_has ls 2 [(1, .int (nI n)), (0, .ref (q 0))] → W p l e ({ frames := 14, cells := 5000, slots := 40000, locals := 320 } : Room) s m args below meth c H locs cells slots Q (F0 m 10 ls [])
  | 0, n, o1, H, locs, ls, cells, slots, hn, hF, hc, hs, hP, hD, hS, hl => by
    obtain rfl : n = 60 := by omega
    refine lv_iload_n hx hb dL_full_10 rfl (lv_at hl 0 rfl) ?_
    refine lv_bipush (v := (60 : Int32)) hx hb dL_full_11 (by decide) ?_
    exact lv_icmp_ge (tgt := 71) hx hb dL_full_13 (by decide) (fun _ => kk o1 H locs ls cells slots hF (by omega) (by omega) hP hD hS hl) (fun c9 => absurd (by decide) c9)
  | j + 1, n, o1, H, locs, ls, cells, slots, hn, hF, hc, hs, hP, hD, hS, hl => by
    have hRc : ∀ {x : Nat}, x ≤ 5000 → x ≤ ({ frames := 14, cells := 5000, slots := 40000, locals := 320 } : Room).cells := fun h => h
    have hRs : ∀ {x : Nat}, x ≤ 40000 → x ≤ ({ frames := 14, cells := 5000, slots := 40000, locals := 320 } : Room).slots := fun h => h
    refine lv_iload_n hx hb dL_full_10 rfl (lv_at hl 0 rfl) ?_
    refine lv_bipush (v := (60 : Int32)) hx hb dL_full_11 (by decide) ?_
    refine lv_icmp_ge (tgt := 71) hx hb dL_full_13 (by decide) (fun c9 => absurd c9 (show ¬ (60 : Int32) ≤ nI n from nI_ge (b := 60) (by omega) (by omega))) (fun _ => ?_)
    refine lv_aload_n hx hb dL_full_16 rfl (lv_at hl 1 rfl) ?_
    refine lv_bipush (v := (76 : Int32)) hx hb dL_full_17 (by decide) ?_
    refine lv_iconst (v := (4 : Int32)) hx hb dL_full_19 (by decide) ?_
    refine lk_new (N' := 4) hx hb (hts (.arrayClass .int) (by decide +kernel)) hK hP hD hS hA (by decide) (by decide +kernel) (Nat.le_of_ble_eq_true rfl) (hRc (by omega)) (hRs (by omega)) dL_full_20 (fun qv20 H hP hD hS => ?_)
    refine lv_dup hx hb dL_full_22 rfl ?_
    refine lv_iconst (v := (0 : Int32)) hx hb dL_full_23 (by decide) ?_
    refine lv_iload_n hx hb dL_full_24 rfl (lv_at hl 0 rfl) ?_
    refine lv_bipush (v := (16 : Int32)) hx hb dL_full_25 (by decide) ?_
    refine lv_irem hx hb dL_full_27 (by decide) ?_
    refine va_iast hx hb hK hP hD hS 0 0 rfl rfl (zk_lit (by decide +kernel)) dL_full_28 (fun H locs hP hD hS => ?_)
    have hP : va_P D vwCl ((qv20, .inl (T 0, 4, .inl (upd (fun _ => (0 : Int32)) (0 : Int32).toNatClampNeg ((nI n) - (nI n) / (16 : Int32) * (16 : Int32))))) :: (ow T q o1)) H := hP
    have hD : va_D A ((qv20, .inl (T 0, 4, .inl (upd (fun _ => (0 : Int32)) (0 : Int32).toNatClampNeg ((nI n) - (nI n) / (16 : Int32) * (16 : Int32))))) :: (ow T q o1)) := hD
    refine lv_dup hx hb dL_full_29 rfl ?_
    refine lv_iconst (v := (1 : Int32)) hx hb dL_full_30 (by decide) ?_
    refine lv_iload_n hx hb dL_full_31 rfl (lv_at hl 0 rfl) ?_
    refine lv_iconst (v := (1 : Int32)) hx hb dL_full_32 (by decide) ?_
    refine lv_iadd hx hb dL_full_33 ?_
    refine lv_bipush (v := (16 : Int32)) hx hb dL_full_34 (by decide) ?_
    refine lv_irem hx hb dL_full_36 (by decide) ?_
    refine va_iast hx hb hK hP hD hS 0 0 rfl rfl (zk_lit (by decide +kernel)) dL_full_37 (fun H locs hP hD hS => ?_)
    have hP : va_P D vwCl ((qv20, .inl (T 0, 4, .inl (upd (upd (fun _ => (0 : Int32)) (0 : Int32).toNatClampNeg ((nI n) - (nI n) / (16 : Int32) * (16 : Int32))) (1 : Int32).toNatClampNeg (((nI n) + (1 : Int32)) - ((nI n) + (1 : Int32)) / (16 : Int32) * (16 : Int32))))) :: (ow T q o1)) H := hP
    have hD : va_D A ((qv20, .inl (T 0, 4, .inl (upd (upd (fun _ => (0 : Int32)) (0 : Int32).toNatClampNeg ((nI n) - (nI n) / (16 : Int32) * (16 : Int32))) (1 : Int32).toNatClampNeg (((nI n) + (1 : Int32)) - ((nI n) + (1 : Int32)) / (16 : Int32) * (16 : Int32))))) :: (ow T q o1)) := hD
    refine lv_dup hx hb dL_full_38 rfl ?_
    refine lv_iconst (v := (2 : Int32)) hx hb dL_full_39 (by decide) ?_
    refine lv_iconst (v := (1 : Int32)) hx hb dL_full_40 (by decide) ?_
    refine lv_iload_n hx hb dL_full_41 rfl (lv_at hl 0 rfl) ?_
    refine lv_bipush (v := (30 : Int32)) hx hb dL_full_42 (by decide) ?_
    refine lv_irem hx hb dL_full_44 (by decide) ?_
    refine lv_iadd hx hb dL_full_45 ?_
    refine va_iast hx hb hK hP hD hS 0 0 rfl rfl (zk_lit (by decide +kernel)) dL_full_46 (fun H locs hP hD hS => ?_)
    have hP : va_P D vwCl ((qv20, .inl (T 0, 4, .inl (upd (upd (upd (fun _ => (0 : Int32)) (0 : Int32).toNatClampNeg ((nI n) - (nI n) / (16 : Int32) * (16 : Int32))) (1 : Int32).toNatClampNeg (((nI n) + (1 : Int32)) - ((nI n) + (1 : Int32)) / (16 : Int32) * (16 : Int32))) (2 : Int32).toNatClampNeg ((1 : Int32) + ((nI n) - (nI n) / (30 : Int32) * (30 : Int32)))))) :: (ow T q o1)) H := hP
    have hD : va_D A ((qv20, .inl (T 0, 4, .inl (upd (upd (upd (fun _ => (0 : Int32)) (0 : Int32).toNatClampNeg ((nI n) - (nI n) / (16 : Int32) * (16 : Int32))) (1 : Int32).toNatClampNeg (((nI n) + (1 : Int32)) - ((nI n) + (1 : Int32)) / (16 : Int32) * (16 : Int32))) (2 : Int32).toNatClampNeg ((1 : Int32) + ((nI n) - (nI n) / (30 : Int32) * (30 : Int32)))))) :: (ow T q o1)) := hD
    refine lv_dup hx hb dL_full_47 rfl ?_
    refine lv_iconst (v := (3 : Int32)) hx hb dL_full_48 (by decide) ?_
    refine lv_iconst (v := (1 : Int32)) hx hb dL_full_49 (by decide) ?_
    refine lv_iload_n hx hb dL_full_50 rfl (lv_at hl 0 rfl) ?_
    refine lv_bipush (v := (9 : Int32)) hx hb dL_full_51 (by decide) ?_
    refine lv_irem hx hb dL_full_53 (by decide) ?_
    refine lv_iadd hx hb dL_full_54 ?_
    refine va_iast hx hb hK hP hD hS 0 0 rfl rfl (zk_lit (by decide +kernel)) dL_full_55 (fun H locs hP hD hS => ?_)
    have hP : va_P D vwCl ((qv20, .inl (T 0, 4, .inl (upd (upd (upd (upd (fun _ => (0 : Int32)) (0 : Int32).toNatClampNeg ((nI n) - (nI n) / (16 : Int32) * (16 : Int32))) (1 : Int32).toNatClampNeg (((nI n) + (1 : Int32)) - ((nI n) + (1 : Int32)) / (16 : Int32) * (16 : Int32))) (2 : Int32).toNatClampNeg ((1 : Int32) + ((nI n) - (nI n) / (30 : Int32) * (30 : Int32)))) (3 : Int32).toNatClampNeg ((1 : Int32) + ((nI n) - (nI n) / (9 : Int32) * (9 : Int32)))))) :: (ow T q o1)) H := hP
    have hD : va_D A ((qv20, .inl (T 0, 4, .inl (upd (upd (upd (upd (fun _ => (0 : Int32)) (0 : Int32).toNatClampNeg ((nI n) - (nI n) / (16 : Int32) * (16 : Int32))) (1 : Int32).toNatClampNeg (((nI n) + (1 : Int32)) - ((nI n) + (1 : Int32)) / (16 : Int32) * (16 : Int32))) (2 : Int32).toNatClampNeg ((1 : Int32) + ((nI n) - (nI n) / (30 : Int32) * (30 : Int32)))) (3 : Int32).toNatClampNeg ((1 : Int32) + ((nI n) - (nI n) / (9 : Int32) * (9 : Int32)))))) :: (ow T q o1)) := hD
    obtain ⟨o2, h2, F2⟩ := fs_link hF (by omega) (v := upd (upd (upd (upd (fun _ => (0 : Int32)) (0 : Int32).toNatClampNeg ((nI n) - (nI n) / (16 : Int32) * (16 : Int32))) (1 : Int32).toNatClampNeg (((nI n) + (1 : Int32)) - ((nI n) + (1 : Int32)) / (16 : Int32) * (16 : Int32))) (2 : Int32).toNatClampNeg ((1 : Int32) + ((nI n) - (nI n) / (30 : Int32) * (30 : Int32)))) (3 : Int32).toNatClampNeg ((1 : Int32) + ((nI n) - (nI n) / (9 : Int32) * (9 : Int32)))) rfl rfl rfl rfl
    have h2 : A_L 3000 o1 4 (upd (upd (upd (upd (fun _ => (0 : Int32)) (0 : Int32).toNatClampNeg ((nI n) - (nI n) / (16 : Int32) * (16 : Int32))) (1 : Int32).toNatClampNeg (((nI n) + (1 : Int32)) - ((nI n) + (1 : Int32)) / (16 : Int32) * (16 : Int32))) (2 : Int32).toNatClampNeg ((1 : Int32) + ((nI n) - (nI n) / (30 : Int32) * (30 : Int32)))) (3 : Int32).toNatClampNeg ((1 : Int32) + ((nI n) - (nI n) / (9 : Int32) * (9 : Int32)))) = some (nI n, o2) := h2
    refine lk_ask (ws' := []) (nL := 2) (rw_ := []) (stk := []) (x := o1) (o := (nI n, o2)) (fun sz => a_L l hst D T 3000 q qv20 sz o1 4 (upd (upd (upd (upd (fun _ => (0 : Int32)) (0 : Int32).toNatClampNeg ((nI n) - (nI n) / (16 : Int32) * (16 : Int32))) (1 : Int32).toNatClampNeg (((nI n) + (1 : Int32)) - ((nI n) + (1 : Int32)) / (16 : Int32) * (16 : Int32))) (2 : Int32).toNatClampNeg ((1 : Int32) + ((nI n) - (nI n) / (30 : Int32) * (30 : Int32)))) (3 : Int32).toNatClampNeg ((1 : Int32) + ((nI n) - (nI n) / (9 : Int32) * (9 : Int32)))) (nI n, o2) (h2)) ⟨hx, hb, hml, hown, hts⟩ (vx_cwSW 3 hts (goodIn_up gY_ask) rfl rfl rfl (by decide +kernel) ⟨(Nat.le_of_ble_eq_true rfl), (Nat.le_of_ble_eq_true rfl)⟩) hK hN hX hNc hS hA (by rw [List.append_nil]; exact hP) (by rw [List.append_nil]; exact hD) hl.1 (Nat.le_of_ble_eq_true rfl) dL_full_56 ⟨(hRc (by omega)), (hRs (by omega))⟩ (fun H locs hP hD hS => ?_)
    rw [List.append_nil] at hP hD
    have hP : va_P D vwCl (ow T q o2) H := hP
    have hD : va_D A (ow T q o2) := hD
    refine lv_iload_n hx hb dL_full_59 rfl (lv_at hl 0 rfl) ?_
    refine lv_icmp_eq (tgt := 65) hx hb dL_full_60 (by decide) (fun _ => ?_) (fun c9 => absurd rfl c9)
    refine lv_iinc (v := (nI n) + (1 : Int32)) (lv' := [(1, .int ((nI n) + (1 : Int32))), (0, .ref (q 0))]) hx hb dL_full_65 hl (k := 0) rfl rfl (by decide) rfl (fun ls hl => ?_)
    rw [nI_1] at hl
    refine lv_goto (tgt := 10) hx hb dL_full_68 (by decide) ?_
    exact full_1 hst hx hb hml hown hts hA hK hN hX hNc kk j (n + 1) o2 _ _ _ _ _ (by omega) F2 (by omega) (by omega) hP hD hS hl
set_option maxHeartbeats 8000000 in
set_option maxRecDepth 100000 in
theorem full_2 {p : Program} {l : Launch} {e : Env} {s : State} {m : MethodId} {args : Array Value} {below : List Frame} {meth : Method} {c : Code} {Q : State → Prop} {A : Nat → Prop} {D : va_G} {T : Nat → ClassId} {q : Nat → Nat} (hst : l.stackTraces = false) (hx : p.tables.exec = Jvm.exec) (hb : c.code = cL_full) (hml : c.maxLocals = 2) (hown : s.vm.findClass RL = some m.cls) (hts : ∀ w ∈ ws_full, w.before args s = true) (hA : ∀ q : Nat, s.heap.size ≤ q → A q) (hK : va_K D vwCl (zk_ty T) s) (hN : zk_N s) (hX : zx_K A s s.heap) (hNc : zn_K s) (kk : ∀ (o2 : Ob) (H : Heap) (locs : List Loc) (ls : Array Slot) (cells slots : Nat), FS 60 20 0 o2 → cells ≤ 460 → slots ≤ 10940 → va_P D vwCl (ow T q o2) H → va_D A (ow T q o2) → va_S A s.heap H locs → lv_has ls 2 [(1, .int (nI 20)), (0, .ref (q 0))] → W p l e ({ frames := 14, cells := 5000, slots := 40000, locals := 320 } : Room) s m args below meth c H locs cells slots Q (F0 m 109 ls [])) : ∀ (j n : Nat) (o1 : Ob) (H : Heap) (locs : List Loc) (ls : Array Slot) (cells slots : Nat), n + j = 20 → FS 60 n 0 o1 → cells + j * 3 ≤ 460 → slots + j * 13 ≤ 10940 → va_P D vwCl (ow T q o1) H → va_D A (ow T q o1) → va_S A s.heap H locs → lv_has ls 2 [(1, .int (nI n)), (0, .ref (q 0))] → W p l e ({ frames := 14, cells := 5000, slots := 40000, locals := 320 } : Room) s m args below meth c H locs cells slots Q (F0 m 73 ls [])
  | 0, n, o1, H, locs, ls, cells, slots, hn, hF, hc, hs, hP, hD, hS, hl => by
    obtain rfl : n = 20 := by omega
    refine lv_iload_n hx hb dL_full_73 rfl (lv_at hl 0 rfl) ?_
    refine lv_bipush (v := (20 : Int32)) hx hb dL_full_74 (by decide) ?_
    exact lv_icmp_ge (tgt := 109) hx hb dL_full_76 (by decide) (fun _ => kk o1 H locs ls cells slots hF (by omega) (by omega) hP hD hS hl) (fun c9 => absurd (by decide) c9)
  | j + 1, n, o1, H, locs, ls, cells, slots, hn, hF, hc, hs, hP, hD, hS, hl => by
    have hRc : ∀ {x : Nat}, x ≤ 5000 → x ≤ ({ frames := 14, cells := 5000, slots := 40000, locals := 320 } : Room).cells := fun h => h
    have hRs : ∀ {x : Nat}, x ≤ 40000 → x ≤ ({ frames := 14, cells := 5000, slots := 40000, locals := 320 } : Room).slots := fun h => h
    refine lv_iload_n hx hb dL_full_73 rfl (lv_at hl 0 rfl) ?_
    refine lv_bipush (v := (20 : Int32)) hx hb dL_full_74 (by decide) ?_
    refine lv_icmp_ge (tgt := 109) hx hb dL_full_76 (by decide) (fun c9 => absurd c9 (show ¬ (20 : Int32) ≤ nI n from nI_ge (b := 20) (by omega) (by omega))) (fun _ => ?_)
    refine lv_aload_n hx hb dL_full_79 rfl (lv_at hl 1 rfl) ?_
    refine lv_bipush (v := (77 : Int32)) hx hb dL_full_80 (by decide) ?_
    refine lv_iconst (v := (1 : Int32)) hx hb dL_full_82 (by decide) ?_
    refine lk_new (N' := 1) hx hb (hts (.arrayClass .int) (by decide +kernel)) hK hP hD hS hA (by decide) (by decide +kernel) (Nat.le_of_ble_eq_true rfl) (hRc (by omega)) (hRs (by omega)) dL_full_83 (fun qv83 H hP hD hS => ?_)
    refine lv_dup hx hb dL_full_85 rfl ?_
    refine lv_iconst (v := (0 : Int32)) hx hb dL_full_86 (by decide) ?_
    refine lv_bipush (v := (7 : Int32)) hx hb dL_full_87 (by decide) ?_
    refine lv_iload_n hx hb dL_full_89 rfl (lv_at hl 0 rfl) ?_
    refine lv_imul hx hb dL_full_90 ?_
    refine va_iast hx hb hK hP hD hS 0 0 rfl rfl (zk_lit (by decide +kernel)) dL_full_91 (fun H locs hP hD hS => ?_)
    have hP : va_P D vwCl ((qv83, .inl (T 0, 1, .inl (upd (fun _ => (0 : Int32)) (0 : Int32).toNatClampNeg ((7 : Int32) * (nI n))))) :: (ow T q o1)) H := hP
    have hD : va_D A ((qv83, .inl (T 0, 1, .inl (upd (fun _ => (0 : Int32)) (0 : Int32).toNatClampNeg ((7 : Int32) * (nI n))))) :: (ow T q o1)) := hD
    obtain ⟨o2, h2, F2⟩ := fs_mark hF (by omega) (v := upd (fun _ => (0 : Int32)) (0 : Int32).toNatClampNeg ((7 : Int32) * (nI n))) rfl
    have h2 : A_M 3000 o1 1 (upd (fun _ => (0 : Int32)) (0 : Int32).toNatClampNeg ((7 : Int32) * (nI n))) = some (nI (n + 1), o2) := h2
    refine lk_ask (ws' := []) (nL := 2) (rw_ := []) (stk := []) (x := o1) (o := (nI (n + 1), o2)) (fun sz => a_M l hst D T 3000 q qv83 sz o1 1 (upd (fun _ => (0 : Int32)) (0 : Int32).toNatClampNeg ((7 : Int32) * (nI n))) (nI (n + 1), o2) (h2)) ⟨hx, hb, hml, hown, hts⟩ (vx_cwSW 3 hts (goodIn_up gY_ask) rfl rfl rfl (by decide +kernel) ⟨(Nat.le_of_ble_eq_true rfl), (Nat.le_of_ble_eq_true rfl)⟩) hK hN hX hNc hS hA (by rw [List.append_nil]; exact hP) (by rw [List.append_nil]; exact hD) hl.1 (Nat.le_of_ble_eq_true rfl) dL_full_92 ⟨(hRc (by omega)), (hRs (by omega))⟩ (fun H locs hP hD hS => ?_)
    rw [List.append_nil] at hP hD
    have hP : va_P D vwCl (ow T q o2) H := hP
    have hD : va_D A (ow T q o2) := hD
    refine lv_iload_n hx hb dL_full_95 rfl (lv_at hl 0 rfl) ?_
    refine lv_iconst (v := (1 : Int32)) hx hb dL_full_96 (by decide) ?_
    refine lv_iadd hx hb dL_full_97 ?_
    rw [nI_1]
    refine lv_icmp_eq (tgt := 103) hx hb dL_full_98 (by decide) (fun _ => ?_) (fun c9 => absurd rfl c9)
    refine lv_iinc (v := (nI n) + (1 : Int32)) (lv' := [(1, .int ((nI n) + (1 : Int32))), (0, .ref (q 0))]) hx hb dL_full_103 hl (k := 0) rfl rfl (by decide) rfl (fun ls hl => ?_)
    rw [nI_1] at hl
    refine lv_goto (tgt := 73) hx hb dL_full_106 (by decide) ?_
    exact full_2 hst hx hb hml hown hts hA hK hN hX hNc kk j (n + 1) o2 _ _ _ _ _ (by omega) F2 (by omega) (by omega) hP hD hS hl
set_option maxHeartbeats 8000000 in
set_option maxRecDepth 100000 in
theorem full_3 {p : Program} {l : Launch} {e : Env} {s : State} {m : MethodId} {args : Array Value} {below : List Frame} {meth : Method} {c : Code} {Q : State → Prop} {A : Nat → Prop} {D : va_G} {T : Nat → ClassId} {q : Nat → Nat} (hst : l.stackTraces = false) (hx : p.tables.exec = Jvm.exec) (hb : c.code = cL_full) (hml : c.maxLocals = 2) (hown : s.vm.findClass RL = some m.cls) (hts : ∀ w ∈ ws_full, w.before args s = true) (hA : ∀ q : Nat, s.heap.size ≤ q → A q) (hK : va_K D vwCl (zk_ty T) s) (hN : zk_N s) (hX : zx_K A s s.heap) (hNc : zn_K s) (kk : ∀ (o2 : Ob) (H : Heap) (locs : List Loc) (ls : Array Slot) (cells slots : Nat), FS 60 20 9 o2 → cells ≤ 514 → slots ≤ 11246 → va_P D vwCl (ow T q o2) H → va_D A (ow T q o2) → va_S A s.heap H locs → lv_has ls 2 [(1, .int (nI 9)), (0, .ref (q 0))] → W p l e ({ frames := 14, cells := 5000, slots := 40000, locals := 320 } : Room) s m args below meth c H locs cells slots Q (F0 m 154 ls [])) : ∀ (j n : Nat) (o1 : Ob) (H : Heap) (locs : List Loc) (ls : Array Slot) (cells slots : Nat), n + j = 9 → FS 60 20 n o1 → cells + j * 6 ≤ 514 → slots + j * 34 ≤ 11246 → va_P D vwCl (ow T q o1) H → va_D A (ow T q o1) → va_S A s.heap H locs → lv_has ls 2 [(1, .int (nI n)), (0, .ref (q 0))] → W p l e ({ frames := 14, cells := 5000, slots := 40000, locals := 320 } : Room) s m args below meth c H locs cells slots Q (F0 m 111 ls [])
  | 0, n, o1, H, locs, ls, cells, slots, hn, hF, hc, hs, hP, hD, hS, hl => by
    obtain rfl : n = 9 := by omega
    refine lv_iload_n hx hb dL_full_111 rfl (lv_at hl 0 rfl) ?_
    refine lv_bipush (v := (9 : Int32)) hx hb dL_full_112 (by decide) ?_
    exact lv_icmp_ge (tgt := 154) hx hb dL_full_114 (by decide) (fun _ => kk o1 H locs ls cells slots hF (by omega) (by omega) hP hD hS hl) (fun c9 => absurd (by decide) c9)
  | j + 1, n, o1, H, locs, ls, cells, slots, hn, hF, hc, hs, hP, hD, hS, hl => by
    have hRc : ∀ {x : Nat}, x ≤ 5000 → x ≤ ({ frames := 14, cells := 5000, slots := 40000, locals := 320 } : Room).cells := fun h => h
    have hRs : ∀ {x : Nat}, x ≤ 40000 → x ≤ ({ frames := 14, cells := 5000, slots := 40000, locals := 320 } : Room).slots := fun h => h
    refine lv_iload_n hx hb dL_full_111 rfl (lv_at hl 0 rfl) ?_
    refine lv_bipush (v := (9 : Int32)) hx hb dL_full_112 (by decide) ?_
    refine lv_icmp_ge (tgt := 154) hx hb dL_full_114 (by decide) (fun c9 => absurd c9 (show ¬ (9 : Int32) ≤ nI n from nI_ge (b := 9) (by omega) (by omega))) (fun _ => ?_)
    refine lv_aload_n hx hb dL_full_117 rfl (lv_at hl 1 rfl) ?_
    refine lv_bipush (v := (66 : Int32)) hx hb dL_full_118 (by decide) ?_
    refine lv_iconst (v := (4 : Int32)) hx hb dL_full_120 (by decide) ?_
    refine lk_new (N' := 4) hx hb (hts (.arrayClass .int) (by decide +kernel)) hK hP hD hS hA (by decide) (by decide +kernel) (Nat.le_of_ble_eq_true rfl) (hRc (by omega)) (hRs (by omega)) dL_full_121 (fun qv121 H hP hD hS => ?_)
    refine lv_dup hx hb dL_full_123 rfl ?_
    refine lv_iconst (v := (0 : Int32)) hx hb dL_full_124 (by decide) ?_
    refine lv_iload_n hx hb dL_full_125 rfl (lv_at hl 0 rfl) ?_
    refine va_iast hx hb hK hP hD hS 0 0 rfl rfl (zk_lit (by decide +kernel)) dL_full_126 (fun H locs hP hD hS => ?_)
    have hP : va_P D vwCl ((qv121, .inl (T 0, 4, .inl (upd (fun _ => (0 : Int32)) (0 : Int32).toNatClampNeg (nI n)))) :: (ow T q o1)) H := hP
    have hD : va_D A ((qv121, .inl (T 0, 4, .inl (upd (fun _ => (0 : Int32)) (0 : Int32).toNatClampNeg (nI n)))) :: (ow T q o1)) := hD
    refine lv_dup hx hb dL_full_127 rfl ?_
    refine lv_iconst (v := (1 : Int32)) hx hb dL_full_128 (by decide) ?_
    refine lv_bipush (v := (97 : Int32)) hx hb dL_full_129 (by decide) ?_
    refine va_iast hx hb hK hP hD hS 0 0 rfl rfl (zk_lit (by decide +kernel)) dL_full_131 (fun H locs hP hD hS => ?_)
    have hP : va_P D vwCl ((qv121, .inl (T 0, 4, .inl (upd (upd (fun _ => (0 : Int32)) (0 : Int32).toNatClampNeg (nI n)) (1 : Int32).toNatClampNeg (97 : Int32)))) :: (ow T q o1)) H := hP
    have hD : va_D A ((qv121, .inl (T 0, 4, .inl (upd (upd (fun _ => (0 : Int32)) (0 : Int32).toNatClampNeg (nI n)) (1 : Int32).toNatClampNeg (97 : Int32)))) :: (ow T q o1)) := hD
    refine lv_dup hx hb dL_full_132 rfl ?_
    refine lv_iconst (v := (2 : Int32)) hx hb dL_full_133 (by decide) ?_
    refine lv_iconst (v := (0 : Int32)) hx hb dL_full_134 (by decide) ?_
    refine va_iast hx hb hK hP hD hS 0 0 rfl rfl (zk_lit (by decide +kernel)) dL_full_135 (fun H locs hP hD hS => ?_)
    have hP : va_P D vwCl ((qv121, .inl (T 0, 4, .inl (upd (upd (upd (fun _ => (0 : Int32)) (0 : Int32).toNatClampNeg (nI n)) (1 : Int32).toNatClampNeg (97 : Int32)) (2 : Int32).toNatClampNeg (0 : Int32)))) :: (ow T q o1)) H := hP
    have hD : va_D A ((qv121, .inl (T 0, 4, .inl (upd (upd (upd (fun _ => (0 : Int32)) (0 : Int32).toNatClampNeg (nI n)) (1 : Int32).toNatClampNeg (97 : Int32)) (2 : Int32).toNatClampNeg (0 : Int32)))) :: (ow T q o1)) := hD
    refine lv_dup hx hb dL_full_136 rfl ?_
    refine lv_iconst (v := (3 : Int32)) hx hb dL_full_137 (by decide) ?_
    refine lv_iconst (v := (0 : Int32)) hx hb dL_full_138 (by decide) ?_
    refine va_iast hx hb hK hP hD hS 0 0 rfl rfl (zk_lit (by decide +kernel)) dL_full_139 (fun H locs hP hD hS => ?_)
    have hP : va_P D vwCl ((qv121, .inl (T 0, 4, .inl (upd (upd (upd (upd (fun _ => (0 : Int32)) (0 : Int32).toNatClampNeg (nI n)) (1 : Int32).toNatClampNeg (97 : Int32)) (2 : Int32).toNatClampNeg (0 : Int32)) (3 : Int32).toNatClampNeg (0 : Int32)))) :: (ow T q o1)) H := hP
    have hD : va_D A ((qv121, .inl (T 0, 4, .inl (upd (upd (upd (upd (fun _ => (0 : Int32)) (0 : Int32).toNatClampNeg (nI n)) (1 : Int32).toNatClampNeg (97 : Int32)) (2 : Int32).toNatClampNeg (0 : Int32)) (3 : Int32).toNatClampNeg (0 : Int32)))) :: (ow T q o1)) := hD
    obtain ⟨o2, h2, F2⟩ := fs_beater hF (by omega) (v := upd (upd (upd (upd (fun _ => (0 : Int32)) (0 : Int32).toNatClampNeg (nI n)) (1 : Int32).toNatClampNeg (97 : Int32)) (2 : Int32).toNatClampNeg (0 : Int32)) (3 : Int32).toNatClampNeg (0 : Int32)) rfl rfl rfl rfl
    have h2 : A_B 3000 o1 4 (upd (upd (upd (upd (fun _ => (0 : Int32)) (0 : Int32).toNatClampNeg (nI n)) (1 : Int32).toNatClampNeg (97 : Int32)) (2 : Int32).toNatClampNeg (0 : Int32)) (3 : Int32).toNatClampNeg (0 : Int32)) = some ((0 : Int32), o2) := h2
    refine lk_ask (ws' := []) (nL := 2) (rw_ := []) (stk := []) (x := o1) (o := ((0 : Int32), o2)) (fun sz => a_B l hst D T 3000 q qv121 sz o1 4 (upd (upd (upd (upd (fun _ => (0 : Int32)) (0 : Int32).toNatClampNeg (nI n)) (1 : Int32).toNatClampNeg (97 : Int32)) (2 : Int32).toNatClampNeg (0 : Int32)) (3 : Int32).toNatClampNeg (0 : Int32)) ((0 : Int32), o2) (h2)) ⟨hx, hb, hml, hown, hts⟩ (vx_cwSW 3 hts (goodIn_up gY_ask) rfl rfl rfl (by decide +kernel) ⟨(Nat.le_of_ble_eq_true rfl), (Nat.le_of_ble_eq_true rfl)⟩) hK hN hX hNc hS hA (by rw [List.append_nil]; exact hP) (by rw [List.append_nil]; exact hD) hl.1 (Nat.le_of_ble_eq_true rfl) dL_full_140 ⟨(hRc (by omega)), (hRs (by omega))⟩ (fun H locs hP hD hS => ?_)
    rw [List.append_nil] at hP hD
    have hP : va_P D vwCl (ow T q o2) H := hP
    have hD : va_D A (ow T q o2) := hD
    refine lv_if_eq (tgt := 148) hx hb dL_full_143 (by decide) (fun _ => ?_) (fun c9 => absurd rfl c9)
    refine lv_iinc (v := (nI n) + (1 : Int32)) (lv' := [(1, .int ((nI n) + (1 : Int32))), (0, .ref (q 0))]) hx hb dL_full_148 hl (k := 0) rfl rfl (by decide) rfl (fun ls hl => ?_)
    rw [nI_1] at hl
    refine lv_goto (tgt := 111) hx hb dL_full_151 (by decide) ?_
    exact full_3 hst hx hb hml hown hts hA hK hN hX hNc kk j (n + 1) o2 _ _ _ _ _ (by omega) F2 (by omega) (by omega) hP hD hS hl
set_option maxHeartbeats 8000000 in
set_option maxRecDepth 100000 in
theorem k_L_full (l : Launch) (hst : l.stackTraces = false) (D : va_G) (T : Nat → ClassId) (b L : Nat) (xs : Nat → Int32) (sz : Nat) (hL : L ≤ 260) : Met l yL_full ws_full ({ frames := 14, cells := 5000, slots := 40000, locals := 320 } : Room) (lk_Pc D T [] b L xs sz) (zk_Qi 1 D [] (va_A [] sz) (va_A [] sz)) 5000 40000 (va_A [] sz) := by
  refine Met.ofW (cc := cL_full) (maxL := 2) (ret := (some .boolean)) (by decide) rfl ?_
  intro p e s m args below meth c s₁ B hml hv
  obtain ⟨rfl, hsz, hK, hN, hX, hNc, hXs, hbl⟩ := hv
  have hx := B.exec
  have hb := B.bytes
  have hr := B.returns
  have hts := atoms_spec (ws := ws_full) B.pre
  have hown : s.vm.findClass RL = some m.cls := findClass_of_methodNamed B.named
  have hlocks := B.notSynchronized
  subst hsz
  generalize hAe : va_A [] s.heap.size = A at hX ⊢
  have hA : ∀ q : Nat, s.heap.size ≤ q → A q := fun q h => by rw [← hAe]; exact Or.inr h
  have hbA : ¬ A b := fun h => by
    rw [← hAe] at h
    rcases h with h | h
    · exact absurd h (by simp)
    · omega
  have hS : va_S A s.heap s.heap [] := va_S.rf
  have hP : va_P D vwCl [] s.heap := fun k x hx => absurd hx (by simp)
  have hD : va_D A [] := ⟨fun i j p q h => absurd h (by simp), fun k x hx => absurd hx (by simp)⟩
  have hl := lv_entry (([] : List Value)) (n := 2) (Nat.le_of_ble_eq_true rfl)
  rw [lg_entry_eq]
  generalize (lg_sl (([] : List Value)) ++ List.replicate (2 - (lg_sl (([] : List Value))).length) Slot.unset).toArray = ls at hl ⊢
  have hl : lv_has ls 2 [] := hl
  refine va_new (ci := 7) (fs := [.null, .null, .null, .null, .int 0, .int 0, .int 0, .null, .int 0, .int 0, .null, .null, .null, .null, .null]) (C := RX5) (T := TX5) (N := 15) hx hb hts (fun w h => List.mem_cons_of_mem _ (gY_X50 w h).1) tyX5 tyX5_ok hown (hts (.classLink RL 8 RX5) (by decide +kernel)) (hts (.instantiable RX5 15) (by decide +kernel)) (hts (.initialized RX5) (by decide +kernel)) hK hP hD hS hA rfl (fun j hj => by rcases (show j = 0 ∨ j = 1 ∨ j = 2 ∨ j = 3 ∨ j = 4 ∨ j = 5 ∨ j = 6 ∨ j = 7 ∨ j = 8 ∨ j = 9 ∨ j = 10 ∨ j = 11 ∨ j = 12 ∨ j = 13 ∨ j = 14 by omega) with rfl | rfl | rfl | rfl | rfl | rfl | rfl | rfl | rfl | rfl | rfl | rfl | rfl | rfl | rfl <;> rfl) (Nat.le_of_ble_eq_true rfl) (Nat.le_of_ble_eq_true rfl) dL_full_0 (fun q0 H hP hD hS => ?_)
  have hP : va_P D vwCl [(q0, .inr (7, [.null, .null, .null, .null, .int 0, .int 0, .int 0, .null, .int 0, .int 0, .null, .null, .null, .null, .null]))] H := hP
  have hD : va_D A [(q0, .inr (7, [.null, .null, .null, .null, .int 0, .int 0, .int 0, .null, .int 0, .int 0, .null, .null, .null, .null, .null]))] := hD
  refine lv_dup hx hb dL_full_3 rfl ?_
  refine lk_init (nL := 2) (stk := [.ref q0]) ⟨hx, hb, hml, hown, hts⟩ (goodIn_up gY_init) (hts (.initialized RX5) (by decide +kernel)) (hts (.methodLink RL 152 yX5_init) (by decide +kernel)) (hts (.instanceMethod yX5_init) (by decide +kernel)) ⟨(Nat.le_of_ble_eq_true rfl), (Nat.le_of_ble_eq_true rfl)⟩ hK hN hS hA hP hD hl.1 (Nat.le_of_ble_eq_true rfl) dL_full_4 ⟨(Nat.le_of_ble_eq_true rfl), (Nat.le_of_ble_eq_true rfl)⟩ (fun q H locs hq0 hP2 hD2 hS => ?_)
  subst hq0
  have hP := hP2
  have hD := hD2
  refine lv_astore_n (lv' := [(0, .ref (q 0))]) hx hb dL_full_7 rfl hl (by decide) rfl (fun ls hl => ?_)
  refine lv_iconst (v := (0 : Int32)) hx hb dL_full_8 (by decide) ?_
  refine lv_istore_n (lv' := [(1, .int (0 : Int32)), (0, .ref (q 0))]) hx hb dL_full_9 rfl hl (by decide) rfl (fun ls hl => ?_)
  refine full_1 hst hx hb hml hown hts hA hK hN hX hNc (fun o2 H locs ls cells slots F2 hc2 hs2 hP hD hS hl => ?_) 60 0 ob_0 H _ ls _ _ (by omega) fs_0 (Nat.le_of_ble_eq_true rfl) (Nat.le_of_ble_eq_true rfl) hP hD hS hl
  refine lv_iconst (v := (0 : Int32)) hx hb dL_full_71 (by decide) ?_
  refine lv_istore_n (lv' := [(1, .int (0 : Int32)), (0, .ref (q 0))]) hx hb dL_full_72 rfl hl (by decide) rfl (fun ls hl => ?_)
  refine full_2 hst hx hb hml hown hts hA hK hN hX hNc (fun o3 H locs ls cells3 slots3 F3 hc3 hs3 hP hD hS hl => ?_) 20 0 o2 H _ ls _ _ (by omega) F2 (by omega) (by omega) hP hD hS hl
  refine lv_iconst (v := (0 : Int32)) hx hb dL_full_109 (by decide) ?_
  refine lv_istore_n (lv' := [(1, .int (0 : Int32)), (0, .ref (q 0))]) hx hb dL_full_110 rfl hl (by decide) rfl (fun ls hl => ?_)
  refine full_3 hst hx hb hml hown hts hA hK hN hX hNc (fun o4 H locs ls cells4 slots4 F4 hc4 hs4 hP hD hS hl => ?_) 9 0 o3 H _ ls _ _ (by omega) F3 (by omega) (by omega) hP hD hS hl
  refine W.widen (k := 514) (n := 11246) hc4 hs4 ?_
  refine lv_aload_n hx hb dL_full_154 rfl (lv_at hl 1 rfl) ?_
  refine lv_bipush (v := (76 : Int32)) hx hb dL_full_155 (by decide) ?_
  refine lv_iconst (v := (4 : Int32)) hx hb dL_full_157 (by decide) ?_
  refine lk_new (N' := 4) hx hb (hts (.arrayClass .int) (by decide +kernel)) hK hP hD hS hA (by decide) (by decide +kernel) (Nat.le_of_ble_eq_true rfl) (Nat.le_of_ble_eq_true rfl) (Nat.le_of_ble_eq_true rfl) dL_full_158 (fun qv158 H hP hD hS => ?_)
  refine lv_dup hx hb dL_full_160 rfl ?_
  refine lv_iconst (v := (0 : Int32)) hx hb dL_full_161 (by decide) ?_
  refine lv_iconst (v := (0 : Int32)) hx hb dL_full_162 (by decide) ?_
  refine va_iast hx hb hK hP hD hS 0 0 rfl rfl (zk_lit (by decide +kernel)) dL_full_163 (fun H locs hP hD hS => ?_)
  have hP : va_P D vwCl ((qv158, .inl (T 0, 4, .inl (upd (fun _ => (0 : Int32)) (0 : Int32).toNatClampNeg (0 : Int32)))) :: (ow T q o4)) H := hP
  have hD : va_D A ((qv158, .inl (T 0, 4, .inl (upd (fun _ => (0 : Int32)) (0 : Int32).toNatClampNeg (0 : Int32)))) :: (ow T q o4)) := hD
  refine lv_dup hx hb dL_full_164 rfl ?_
  refine lv_iconst (v := (1 : Int32)) hx hb dL_full_165 (by decide) ?_
  refine lv_iconst (v := (1 : Int32)) hx hb dL_full_166 (by decide) ?_
  refine va_iast hx hb hK hP hD hS 0 0 rfl rfl (zk_lit (by decide +kernel)) dL_full_167 (fun H locs hP hD hS => ?_)
  have hP : va_P D vwCl ((qv158, .inl (T 0, 4, .inl (upd (upd (fun _ => (0 : Int32)) (0 : Int32).toNatClampNeg (0 : Int32)) (1 : Int32).toNatClampNeg (1 : Int32)))) :: (ow T q o4)) H := hP
  have hD : va_D A ((qv158, .inl (T 0, 4, .inl (upd (upd (fun _ => (0 : Int32)) (0 : Int32).toNatClampNeg (0 : Int32)) (1 : Int32).toNatClampNeg (1 : Int32)))) :: (ow T q o4)) := hD
  refine lv_dup hx hb dL_full_168 rfl ?_
  refine lv_iconst (v := (2 : Int32)) hx hb dL_full_169 (by decide) ?_
  refine lv_iconst (v := (1 : Int32)) hx hb dL_full_170 (by decide) ?_
  refine va_iast hx hb hK hP hD hS 0 0 rfl rfl (zk_lit (by decide +kernel)) dL_full_171 (fun H locs hP hD hS => ?_)
  have hP : va_P D vwCl ((qv158, .inl (T 0, 4, .inl (upd (upd (upd (fun _ => (0 : Int32)) (0 : Int32).toNatClampNeg (0 : Int32)) (1 : Int32).toNatClampNeg (1 : Int32)) (2 : Int32).toNatClampNeg (1 : Int32)))) :: (ow T q o4)) H := hP
  have hD : va_D A ((qv158, .inl (T 0, 4, .inl (upd (upd (upd (fun _ => (0 : Int32)) (0 : Int32).toNatClampNeg (0 : Int32)) (1 : Int32).toNatClampNeg (1 : Int32)) (2 : Int32).toNatClampNeg (1 : Int32)))) :: (ow T q o4)) := hD
  refine lv_dup hx hb dL_full_172 rfl ?_
  refine lv_iconst (v := (3 : Int32)) hx hb dL_full_173 (by decide) ?_
  refine lv_iconst (v := (1 : Int32)) hx hb dL_full_174 (by decide) ?_
  refine va_iast hx hb hK hP hD hS 0 0 rfl rfl (zk_lit (by decide +kernel)) dL_full_175 (fun H locs hP hD hS => ?_)
  have hP : va_P D vwCl ((qv158, .inl (T 0, 4, .inl (upd (upd (upd (upd (fun _ => (0 : Int32)) (0 : Int32).toNatClampNeg (0 : Int32)) (1 : Int32).toNatClampNeg (1 : Int32)) (2 : Int32).toNatClampNeg (1 : Int32)) (3 : Int32).toNatClampNeg (1 : Int32)))) :: (ow T q o4)) H := hP
  have hD : va_D A ((qv158, .inl (T 0, 4, .inl (upd (upd (upd (upd (fun _ => (0 : Int32)) (0 : Int32).toNatClampNeg (0 : Int32)) (1 : Int32).toNatClampNeg (1 : Int32)) (2 : Int32).toNatClampNeg (1 : Int32)) (3 : Int32).toNatClampNeg (1 : Int32)))) :: (ow T q o4)) := hD
  refine lk_ask (ws' := []) (nL := 2) (rw_ := []) (stk := []) (x := o4) (o := ((-2000000003 : Int32), o4)) (fun sz => a_L l hst D T 3000 q qv158 sz o4 4 (upd (upd (upd (upd (fun _ => (0 : Int32)) (0 : Int32).toNatClampNeg (0 : Int32)) (1 : Int32).toNatClampNeg (1 : Int32)) (2 : Int32).toNatClampNeg (1 : Int32)) (3 : Int32).toNatClampNeg (1 : Int32)) ((-2000000003 : Int32), o4) (ff_link F4 (v := upd (upd (upd (upd (fun _ => (0 : Int32)) (0 : Int32).toNatClampNeg (0 : Int32)) (1 : Int32).toNatClampNeg (1 : Int32)) (2 : Int32).toNatClampNeg (1 : Int32)) (3 : Int32).toNatClampNeg (1 : Int32)) rfl rfl rfl rfl)) ⟨hx, hb, hml, hown, hts⟩ (vx_cwSW 3 hts (goodIn_up gY_ask) rfl rfl rfl (by decide +kernel) ⟨(Nat.le_of_ble_eq_true rfl), (Nat.le_of_ble_eq_true rfl)⟩) hK hN hX hNc hS hA (by rw [List.append_nil]; exact hP) (by rw [List.append_nil]; exact hD) hl.1 (Nat.le_of_ble_eq_true rfl) dL_full_176 ⟨(Nat.le_of_ble_eq_true rfl), (Nat.le_of_ble_eq_true rfl)⟩ (fun H locs hP hD hS => ?_)
  rw [List.append_nil] at hP hD
  have hP : va_P D vwCl (ow T q o4) H := hP
  have hD : va_D A (ow T q o4) := hD
  refine W.widen (k := 519) (n := 11274) (Nat.le_of_ble_eq_true rfl) (Nat.le_of_ble_eq_true rfl) ?_
  refine lv_ldc (v := (-2000000003 : Int32)) hx hb hown (hts (.constant RL 79 (-2000000003 : Int32)) (by decide +kernel)) dL_full_179 ?_
  refine lv_icmp_ne (tgt := 350) hx hb dL_full_181 (by decide) (fun c9 => absurd (rfl) c9) (fun _ => ?_)
  refine lv_aload_n hx hb dL_full_184 rfl (lv_at hl 1 rfl) ?_
  refine lv_bipush (v := (77 : Int32)) hx hb dL_full_185 (by decide) ?_
  refine lv_iconst (v := (1 : Int32)) hx hb dL_full_187 (by decide) ?_
  refine lk_new (N' := 1) hx hb (hts (.arrayClass .int) (by decide +kernel)) hK hP hD hS hA (by decide) (by decide +kernel) (Nat.le_of_ble_eq_true rfl) (Nat.le_of_ble_eq_true rfl) (Nat.le_of_ble_eq_true rfl) dL_full_188 (fun qv188 H hP hD hS => ?_)
  refine lv_dup hx hb dL_full_190 rfl ?_
  refine lv_iconst (v := (0 : Int32)) hx hb dL_full_191 (by decide) ?_
  refine lv_iconst (v := (0 : Int32)) hx hb dL_full_192 (by decide) ?_
  refine va_iast hx hb hK hP hD hS 0 0 rfl rfl (zk_lit (by decide +kernel)) dL_full_193 (fun H locs hP hD hS => ?_)
  have hP : va_P D vwCl ((qv188, .inl (T 0, 1, .inl (upd (fun _ => (0 : Int32)) (0 : Int32).toNatClampNeg (0 : Int32)))) :: (ow T q o4)) H := hP
  have hD : va_D A ((qv188, .inl (T 0, 1, .inl (upd (fun _ => (0 : Int32)) (0 : Int32).toNatClampNeg (0 : Int32)))) :: (ow T q o4)) := hD
  refine lk_ask (ws' := []) (nL := 2) (rw_ := []) (stk := []) (x := o4) (o := ((-2000000003 : Int32), o4)) (fun sz => a_M l hst D T 3000 q qv188 sz o4 1 (upd (fun _ => (0 : Int32)) (0 : Int32).toNatClampNeg (0 : Int32)) ((-2000000003 : Int32), o4) (ff_mark F4 (v := upd (fun _ => (0 : Int32)) (0 : Int32).toNatClampNeg (0 : Int32)) rfl)) ⟨hx, hb, hml, hown, hts⟩ (vx_cwSW 3 hts (goodIn_up gY_ask) rfl rfl rfl (by decide +kernel) ⟨(Nat.le_of_ble_eq_true rfl), (Nat.le_of_ble_eq_true rfl)⟩) hK hN hX hNc hS hA (by rw [List.append_nil]; exact hP) (by rw [List.append_nil]; exact hD) hl.1 (Nat.le_of_ble_eq_true rfl) dL_full_194 ⟨(Nat.le_of_ble_eq_true rfl), (Nat.le_of_ble_eq_true rfl)⟩ (fun H locs hP hD hS => ?_)
  rw [List.append_nil] at hP hD
  have hP : va_P D vwCl (ow T q o4) H := hP
  have hD : va_D A (ow T q o4) := hD
  refine W.widen (k := 522) (n := 11287) (Nat.le_of_ble_eq_true rfl) (Nat.le_of_ble_eq_true rfl) ?_
  refine lv_ldc (v := (-2000000003 : Int32)) hx hb hown (hts (.constant RL 79 (-2000000003 : Int32)) (by decide +kernel)) dL_full_197 ?_
  refine lv_icmp_ne (tgt := 350) hx hb dL_full_199 (by decide) (fun c9 => absurd (rfl) c9) (fun _ => ?_)
  refine lv_aload_n hx hb dL_full_202 rfl (lv_at hl 1 rfl) ?_
  refine lv_bipush (v := (70 : Int32)) hx hb dL_full_203 (by decide) ?_
  refine lv_iconst (v := (0 : Int32)) hx hb dL_full_205 (by decide) ?_
  refine lk_new (N' := 0) hx hb (hts (.arrayClass .int) (by decide +kernel)) hK hP hD hS hA (by decide) (by decide +kernel) (Nat.le_of_ble_eq_true rfl) (Nat.le_of_ble_eq_true rfl) (Nat.le_of_ble_eq_true rfl) dL_full_206 (fun qv206 H hP hD hS => ?_)
  refine lk_ask (ws' := []) (nL := 2) (rw_ := []) (stk := []) (x := o4) (o := ((1 : Int32), o4)) (fun sz => a_F l hst D T 3000 q qv206 sz o4 0 (fun _ => (0 : Int32)) ((1 : Int32), o4) (ff_F F4 ((fun _ => (0 : Int32))))) ⟨hx, hb, hml, hown, hts⟩ (vx_cwSW 3 hts (goodIn_up gY_ask) rfl rfl rfl (by decide +kernel) ⟨(Nat.le_of_ble_eq_true rfl), (Nat.le_of_ble_eq_true rfl)⟩) hK hN hX hNc hS hA (by rw [List.append_nil]; exact hP) (by rw [List.append_nil]; exact hD) hl.1 (Nat.le_of_ble_eq_true rfl) dL_full_208 ⟨(Nat.le_of_ble_eq_true rfl), (Nat.le_of_ble_eq_true rfl)⟩ (fun H locs hP hD hS => ?_)
  rw [List.append_nil] at hP hD
  have hP : va_P D vwCl (ow T q o4) H := hP
  have hD : va_D A (ow T q o4) := hD
  refine W.widen (k := 523) (n := 11287) (Nat.le_of_ble_eq_true rfl) (Nat.le_of_ble_eq_true rfl) ?_
  refine lv_iconst (v := (1 : Int32)) hx hb dL_full_211 (by decide) ?_
  refine lv_icmp_ne (tgt := 350) hx hb dL_full_212 (by decide) (fun c9 => absurd (rfl) c9) (fun _ => ?_)
  refine lv_aload_n hx hb dL_full_215 rfl (lv_at hl 1 rfl) ?_
  refine lv_bipush (v := (117 : Int32)) hx hb dL_full_216 (by decide) ?_
  refine lv_iconst (v := (1 : Int32)) hx hb dL_full_218 (by decide) ?_
  refine lk_new (N' := 1) hx hb (hts (.arrayClass .int) (by decide +kernel)) hK hP hD hS hA (by decide) (by decide +kernel) (Nat.le_of_ble_eq_true rfl) (Nat.le_of_ble_eq_true rfl) (Nat.le_of_ble_eq_true rfl) dL_full_219 (fun qv219 H hP hD hS => ?_)
  refine lv_dup hx hb dL_full_221 rfl ?_
  refine lv_iconst (v := (0 : Int32)) hx hb dL_full_222 (by decide) ?_
  refine lv_iconst (v := (0 : Int32)) hx hb dL_full_223 (by decide) ?_
  refine va_iast hx hb hK hP hD hS 0 0 rfl rfl (zk_lit (by decide +kernel)) dL_full_224 (fun H locs hP hD hS => ?_)
  have hP : va_P D vwCl ((qv219, .inl (T 0, 1, .inl (upd (fun _ => (0 : Int32)) (0 : Int32).toNatClampNeg (0 : Int32)))) :: (ow T q o4)) H := hP
  have hD : va_D A ((qv219, .inl (T 0, 1, .inl (upd (fun _ => (0 : Int32)) (0 : Int32).toNatClampNeg (0 : Int32)))) :: (ow T q o4)) := hD
  refine lk_ask (ws' := []) (nL := 2) (rw_ := []) (stk := []) (x := o4) (o := ((7 : Int32), o4)) (fun sz => a_u l hst D T 3000 q qv219 sz o4 1 (upd (fun _ => (0 : Int32)) (0 : Int32).toNatClampNeg (0 : Int32)) ((7 : Int32), o4) (ff_u F4 (v := upd (fun _ => (0 : Int32)) (0 : Int32).toNatClampNeg (0 : Int32)) rfl)) ⟨hx, hb, hml, hown, hts⟩ (vx_cwSW 3 hts (goodIn_up gY_ask) rfl rfl rfl (by decide +kernel) ⟨(Nat.le_of_ble_eq_true rfl), (Nat.le_of_ble_eq_true rfl)⟩) hK hN hX hNc hS hA (by rw [List.append_nil]; exact hP) (by rw [List.append_nil]; exact hD) hl.1 (Nat.le_of_ble_eq_true rfl) dL_full_225 ⟨(Nat.le_of_ble_eq_true rfl), (Nat.le_of_ble_eq_true rfl)⟩ (fun H locs hP hD hS => ?_)
  rw [List.append_nil] at hP hD
  have hP : va_P D vwCl (ow T q o4) H := hP
  have hD : va_D A (ow T q o4) := hD
  refine W.widen (k := 525) (n := 11294) (Nat.le_of_ble_eq_true rfl) (Nat.le_of_ble_eq_true rfl) ?_
  refine lv_bipush (v := (7 : Int32)) hx hb dL_full_228 (by decide) ?_
  refine lv_icmp_ne (tgt := 350) hx hb dL_full_230 (by decide) (fun c9 => absurd (rfl) c9) (fun _ => ?_)
  refine lv_aload_n hx hb dL_full_233 rfl (lv_at hl 1 rfl) ?_
  refine lv_bipush (v := (88 : Int32)) hx hb dL_full_234 (by decide) ?_
  refine lv_iconst (v := (0 : Int32)) hx hb dL_full_236 (by decide) ?_
  refine lk_new (N' := 0) hx hb (hts (.arrayClass .int) (by decide +kernel)) hK hP hD hS hA (by decide) (by decide +kernel) (Nat.le_of_ble_eq_true rfl) (Nat.le_of_ble_eq_true rfl) (Nat.le_of_ble_eq_true rfl) dL_full_237 (fun qv237 H hP hD hS => ?_)
  refine lk_ask (ws' := []) (nL := 2) (rw_ := []) (stk := []) (x := o4) (o := ((-2000000004 : Int32), o4)) (fun sz => a_X l hst D T 3000 q qv237 sz o4 0 (fun _ => (0 : Int32)) ((-2000000004 : Int32), o4) (ff_X F4 ((fun _ => (0 : Int32))))) ⟨hx, hb, hml, hown, hts⟩ (vx_cwSW 3 hts (goodIn_up gY_ask) rfl rfl rfl (by decide +kernel) ⟨(Nat.le_of_ble_eq_true rfl), (Nat.le_of_ble_eq_true rfl)⟩) hK hN hX hNc hS hA (by rw [List.append_nil]; exact hP) (by rw [List.append_nil]; exact hD) hl.1 (Nat.le_of_ble_eq_true rfl) dL_full_239 ⟨(Nat.le_of_ble_eq_true rfl), (Nat.le_of_ble_eq_true rfl)⟩ (fun H locs hP hD hS => ?_)
  rw [List.append_nil] at hP hD
  have hP : va_P D vwCl (ow T q o4) H := hP
  have hD : va_D A (ow T q o4) := hD
  refine W.widen (k := 528) (n := 11306) (Nat.le_of_ble_eq_true rfl) (Nat.le_of_ble_eq_true rfl) ?_
  refine lv_ldc (v := (-2000000004 : Int32)) hx hb hown (hts (.constant RL 82 (-2000000004 : Int32)) (by decide +kernel)) dL_full_242 ?_
  refine lv_icmp_ne (tgt := 350) hx hb dL_full_244 (by decide) (fun c9 => absurd (rfl) c9) (fun _ => ?_)
  refine lv_aload_n hx hb dL_full_247 rfl (lv_at hl 1 rfl) ?_
  refine lv_bipush (v := (78 : Int32)) hx hb dL_full_248 (by decide) ?_
  refine lv_iconst (v := (3 : Int32)) hx hb dL_full_250 (by decide) ?_
  refine lk_new (N' := 3) hx hb (hts (.arrayClass .int) (by decide +kernel)) hK hP hD hS hA (by decide) (by decide +kernel) (Nat.le_of_ble_eq_true rfl) (Nat.le_of_ble_eq_true rfl) (Nat.le_of_ble_eq_true rfl) dL_full_251 (fun qv251 H hP hD hS => ?_)
  refine lv_dup hx hb dL_full_253 rfl ?_
  refine lv_iconst (v := (0 : Int32)) hx hb dL_full_254 (by decide) ?_
  refine lv_bipush (v := (97 : Int32)) hx hb dL_full_255 (by decide) ?_
  refine va_iast hx hb hK hP hD hS 0 0 rfl rfl (zk_lit (by decide +kernel)) dL_full_257 (fun H locs hP hD hS => ?_)
  have hP : va_P D vwCl ((qv251, .inl (T 0, 3, .inl (upd (fun _ => (0 : Int32)) (0 : Int32).toNatClampNeg (97 : Int32)))) :: (ow T q o4)) H := hP
  have hD : va_D A ((qv251, .inl (T 0, 3, .inl (upd (fun _ => (0 : Int32)) (0 : Int32).toNatClampNeg (97 : Int32)))) :: (ow T q o4)) := hD
  refine lv_dup hx hb dL_full_258 rfl ?_
  refine lv_iconst (v := (1 : Int32)) hx hb dL_full_259 (by decide) ?_
  refine lv_iconst (v := (1 : Int32)) hx hb dL_full_260 (by decide) ?_
  refine va_iast hx hb hK hP hD hS 0 0 rfl rfl (zk_lit (by decide +kernel)) dL_full_261 (fun H locs hP hD hS => ?_)
  have hP : va_P D vwCl ((qv251, .inl (T 0, 3, .inl (upd (upd (fun _ => (0 : Int32)) (0 : Int32).toNatClampNeg (97 : Int32)) (1 : Int32).toNatClampNeg (1 : Int32)))) :: (ow T q o4)) H := hP
  have hD : va_D A ((qv251, .inl (T 0, 3, .inl (upd (upd (fun _ => (0 : Int32)) (0 : Int32).toNatClampNeg (97 : Int32)) (1 : Int32).toNatClampNeg (1 : Int32)))) :: (ow T q o4)) := hD
  refine lv_dup hx hb dL_full_262 rfl ?_
  refine lv_iconst (v := (2 : Int32)) hx hb dL_full_263 (by decide) ?_
  refine lv_iconst (v := (1 : Int32)) hx hb dL_full_264 (by decide) ?_
  refine va_iast hx hb hK hP hD hS 0 0 rfl rfl (zk_lit (by decide +kernel)) dL_full_265 (fun H locs hP hD hS => ?_)
  have hP : va_P D vwCl ((qv251, .inl (T 0, 3, .inl (upd (upd (upd (fun _ => (0 : Int32)) (0 : Int32).toNatClampNeg (97 : Int32)) (1 : Int32).toNatClampNeg (1 : Int32)) (2 : Int32).toNatClampNeg (1 : Int32)))) :: (ow T q o4)) H := hP
  have hD : va_D A ((qv251, .inl (T 0, 3, .inl (upd (upd (upd (fun _ => (0 : Int32)) (0 : Int32).toNatClampNeg (97 : Int32)) (1 : Int32).toNatClampNeg (1 : Int32)) (2 : Int32).toNatClampNeg (1 : Int32)))) :: (ow T q o4)) := hD
  refine lk_ask (ws' := []) (nL := 2) (rw_ := []) (stk := []) (x := o4) (o := ((-2000000004 : Int32), o4)) (fun sz => a_N l hst D T 3000 q qv251 sz o4 3 (upd (upd (upd (fun _ => (0 : Int32)) (0 : Int32).toNatClampNeg (97 : Int32)) (1 : Int32).toNatClampNeg (1 : Int32)) (2 : Int32).toNatClampNeg (1 : Int32)) ((-2000000004 : Int32), o4) (ff_Na F4 (v := upd (upd (upd (fun _ => (0 : Int32)) (0 : Int32).toNatClampNeg (97 : Int32)) (1 : Int32).toNatClampNeg (1 : Int32)) (2 : Int32).toNatClampNeg (1 : Int32)) rfl rfl rfl)) ⟨hx, hb, hml, hown, hts⟩ (vx_cwSW 3 hts (goodIn_up gY_ask) rfl rfl rfl (by decide +kernel) ⟨(Nat.le_of_ble_eq_true rfl), (Nat.le_of_ble_eq_true rfl)⟩) hK hN hX hNc hS hA (by rw [List.append_nil]; exact hP) (by rw [List.append_nil]; exact hD) hl.1 (Nat.le_of_ble_eq_true rfl) dL_full_266 ⟨(Nat.le_of_ble_eq_true rfl), (Nat.le_of_ble_eq_true rfl)⟩ (fun H locs hP hD hS => ?_)
  rw [List.append_nil] at hP hD
  have hP : va_P D vwCl (ow T q o4) H := hP
  have hD : va_D A (ow T q o4) := hD
  refine W.widen (k := 532) (n := 11327) (Nat.le_of_ble_eq_true rfl) (Nat.le_of_ble_eq_true rfl) ?_
  refine lv_ldc (v := (-2000000004 : Int32)) hx hb hown (hts (.constant RL 82 (-2000000004 : Int32)) (by decide +kernel)) dL_full_269 ?_
  refine lv_icmp_ne (tgt := 350) hx hb dL_full_271 (by decide) (fun c9 => absurd (rfl) c9) (fun _ => ?_)
  refine lv_aload_n hx hb dL_full_274 rfl (lv_at hl 1 rfl) ?_
  refine lv_bipush (v := (67 : Int32)) hx hb dL_full_275 (by decide) ?_
  refine lv_iconst (v := (1 : Int32)) hx hb dL_full_277 (by decide) ?_
  refine lk_new (N' := 1) hx hb (hts (.arrayClass .int) (by decide +kernel)) hK hP hD hS hA (by decide) (by decide +kernel) (Nat.le_of_ble_eq_true rfl) (Nat.le_of_ble_eq_true rfl) (Nat.le_of_ble_eq_true rfl) dL_full_278 (fun qv278 H hP hD hS => ?_)
  refine lv_dup hx hb dL_full_280 rfl ?_
  refine lv_iconst (v := (0 : Int32)) hx hb dL_full_281 (by decide) ?_
  refine lv_bipush (v := (59 : Int32)) hx hb dL_full_282 (by decide) ?_
  refine va_iast hx hb hK hP hD hS 0 0 rfl rfl (zk_lit (by decide +kernel)) dL_full_284 (fun H locs hP hD hS => ?_)
  have hP : va_P D vwCl ((qv278, .inl (T 0, 1, .inl (upd (fun _ => (0 : Int32)) (0 : Int32).toNatClampNeg (59 : Int32)))) :: (ow T q o4)) H := hP
  have hD : va_D A ((qv278, .inl (T 0, 1, .inl (upd (fun _ => (0 : Int32)) (0 : Int32).toNatClampNeg (59 : Int32)))) :: (ow T q o4)) := hD
  obtain ⟨o5, h5, F5⟩ := ff_C F4 (v := upd (fun _ => (0 : Int32)) (0 : Int32).toNatClampNeg (59 : Int32)) rfl
  refine lk_ask (ws' := []) (nL := 2) (rw_ := []) (stk := []) (x := o4) (o := ((59 : Int32), o5)) (fun sz => a_C l hst D T 3000 q qv278 sz o4 1 (upd (fun _ => (0 : Int32)) (0 : Int32).toNatClampNeg (59 : Int32)) ((59 : Int32), o5) (h5)) ⟨hx, hb, hml, hown, hts⟩ (vx_cwSW 3 hts (goodIn_up gY_ask) rfl rfl rfl (by decide +kernel) ⟨(Nat.le_of_ble_eq_true rfl), (Nat.le_of_ble_eq_true rfl)⟩) hK hN hX hNc hS hA (by rw [List.append_nil]; exact hP) (by rw [List.append_nil]; exact hD) hl.1 (Nat.le_of_ble_eq_true rfl) dL_full_285 ⟨(Nat.le_of_ble_eq_true rfl), (Nat.le_of_ble_eq_true rfl)⟩ (fun H locs hP hD hS => ?_)
  rw [List.append_nil] at hP hD
  have hP : va_P D vwCl (ow T q o5) H := hP
  have hD : va_D A (ow T q o5) := hD
  refine W.widen (k := 534) (n := 11334) (Nat.le_of_ble_eq_true rfl) (Nat.le_of_ble_eq_true rfl) ?_
  refine lv_bipush (v := (59 : Int32)) hx hb dL_full_288 (by decide) ?_
  refine lv_icmp_ne (tgt := 350) hx hb dL_full_290 (by decide) (fun c9 => absurd (rfl) c9) (fun _ => ?_)
  refine lv_aload_n hx hb dL_full_293 rfl (lv_at hl 1 rfl) ?_
  refine lv_bipush (v := (78 : Int32)) hx hb dL_full_294 (by decide) ?_
  refine lv_iconst (v := (3 : Int32)) hx hb dL_full_296 (by decide) ?_
  refine lk_new (N' := 3) hx hb (hts (.arrayClass .int) (by decide +kernel)) hK hP hD hS hA (by decide) (by decide +kernel) (Nat.le_of_ble_eq_true rfl) (Nat.le_of_ble_eq_true rfl) (Nat.le_of_ble_eq_true rfl) dL_full_297 (fun qv297 H hP hD hS => ?_)
  refine lv_dup hx hb dL_full_299 rfl ?_
  refine lv_iconst (v := (0 : Int32)) hx hb dL_full_300 (by decide) ?_
  refine lv_bipush (v := (104 : Int32)) hx hb dL_full_301 (by decide) ?_
  refine va_iast hx hb hK hP hD hS 0 0 rfl rfl (zk_lit (by decide +kernel)) dL_full_303 (fun H locs hP hD hS => ?_)
  have hP : va_P D vwCl ((qv297, .inl (T 0, 3, .inl (upd (fun _ => (0 : Int32)) (0 : Int32).toNatClampNeg (104 : Int32)))) :: (ow T q o5)) H := hP
  have hD : va_D A ((qv297, .inl (T 0, 3, .inl (upd (fun _ => (0 : Int32)) (0 : Int32).toNatClampNeg (104 : Int32)))) :: (ow T q o5)) := hD
  refine lv_dup hx hb dL_full_304 rfl ?_
  refine lv_iconst (v := (1 : Int32)) hx hb dL_full_305 (by decide) ?_
  refine lv_iconst (v := (1 : Int32)) hx hb dL_full_306 (by decide) ?_
  refine va_iast hx hb hK hP hD hS 0 0 rfl rfl (zk_lit (by decide +kernel)) dL_full_307 (fun H locs hP hD hS => ?_)
  have hP : va_P D vwCl ((qv297, .inl (T 0, 3, .inl (upd (upd (fun _ => (0 : Int32)) (0 : Int32).toNatClampNeg (104 : Int32)) (1 : Int32).toNatClampNeg (1 : Int32)))) :: (ow T q o5)) H := hP
  have hD : va_D A ((qv297, .inl (T 0, 3, .inl (upd (upd (fun _ => (0 : Int32)) (0 : Int32).toNatClampNeg (104 : Int32)) (1 : Int32).toNatClampNeg (1 : Int32)))) :: (ow T q o5)) := hD
  refine lv_dup hx hb dL_full_308 rfl ?_
  refine lv_iconst (v := (2 : Int32)) hx hb dL_full_309 (by decide) ?_
  refine lv_iconst (v := (1 : Int32)) hx hb dL_full_310 (by decide) ?_
  refine va_iast hx hb hK hP hD hS 0 0 rfl rfl (zk_lit (by decide +kernel)) dL_full_311 (fun H locs hP hD hS => ?_)
  have hP : va_P D vwCl ((qv297, .inl (T 0, 3, .inl (upd (upd (upd (fun _ => (0 : Int32)) (0 : Int32).toNatClampNeg (104 : Int32)) (1 : Int32).toNatClampNeg (1 : Int32)) (2 : Int32).toNatClampNeg (1 : Int32)))) :: (ow T q o5)) H := hP
  have hD : va_D A ((qv297, .inl (T 0, 3, .inl (upd (upd (upd (fun _ => (0 : Int32)) (0 : Int32).toNatClampNeg (104 : Int32)) (1 : Int32).toNatClampNeg (1 : Int32)) (2 : Int32).toNatClampNeg (1 : Int32)))) :: (ow T q o5)) := hD
  obtain ⟨o6, h6, F6⟩ := ff_Nh F5 (v := upd (upd (upd (fun _ => (0 : Int32)) (0 : Int32).toNatClampNeg (104 : Int32)) (1 : Int32).toNatClampNeg (1 : Int32)) (2 : Int32).toNatClampNeg (1 : Int32)) rfl rfl rfl
  refine lk_ask (ws' := []) (nL := 2) (rw_ := []) (stk := []) (x := o5) (o := ((16 : Int32), o6)) (fun sz => a_N l hst D T 3000 q qv297 sz o5 3 (upd (upd (upd (fun _ => (0 : Int32)) (0 : Int32).toNatClampNeg (104 : Int32)) (1 : Int32).toNatClampNeg (1 : Int32)) (2 : Int32).toNatClampNeg (1 : Int32)) ((16 : Int32), o6) (h6)) ⟨hx, hb, hml, hown, hts⟩ (vx_cwSW 3 hts (goodIn_up gY_ask) rfl rfl rfl (by decide +kernel) ⟨(Nat.le_of_ble_eq_true rfl), (Nat.le_of_ble_eq_true rfl)⟩) hK hN hX hNc hS hA (by rw [List.append_nil]; exact hP) (by rw [List.append_nil]; exact hD) hl.1 (Nat.le_of_ble_eq_true rfl) dL_full_312 ⟨(Nat.le_of_ble_eq_true rfl), (Nat.le_of_ble_eq_true rfl)⟩ (fun H locs hP hD hS => ?_)
  rw [List.append_nil] at hP hD
  have hP : va_P D vwCl (ow T q o6) H := hP
  have hD : va_D A (ow T q o6) := hD
  refine W.widen (k := 538) (n := 11355) (Nat.le_of_ble_eq_true rfl) (Nat.le_of_ble_eq_true rfl) ?_
  refine lv_bipush (v := (16 : Int32)) hx hb dL_full_315 (by decide) ?_
  refine lv_icmp_ne (tgt := 350) hx hb dL_full_317 (by decide) (fun c9 => absurd (rfl) c9) (fun _ => ?_)
  refine lv_aload_n hx hb dL_full_320 rfl (lv_at hl 1 rfl) ?_
  refine lv_bipush (v := (67 : Int32)) hx hb dL_full_321 (by decide) ?_
  refine lv_iconst (v := (1 : Int32)) hx hb dL_full_323 (by decide) ?_
  refine lk_new (N' := 1) hx hb (hts (.arrayClass .int) (by decide +kernel)) hK hP hD hS hA (by decide) (by decide +kernel) (Nat.le_of_ble_eq_true rfl) (Nat.le_of_ble_eq_true rfl) (Nat.le_of_ble_eq_true rfl) dL_full_324 (fun qv324 H hP hD hS => ?_)
  refine lv_dup hx hb dL_full_326 rfl ?_
  refine lv_iconst (v := (0 : Int32)) hx hb dL_full_327 (by decide) ?_
  refine lv_bipush (v := (16 : Int32)) hx hb dL_full_328 (by decide) ?_
  refine va_iast hx hb hK hP hD hS 0 0 rfl rfl (zk_lit (by decide +kernel)) dL_full_330 (fun H locs hP hD hS => ?_)
  have hP : va_P D vwCl ((qv324, .inl (T 0, 1, .inl (upd (fun _ => (0 : Int32)) (0 : Int32).toNatClampNeg (16 : Int32)))) :: (ow T q o6)) H := hP
  have hD : va_D A ((qv324, .inl (T 0, 1, .inl (upd (fun _ => (0 : Int32)) (0 : Int32).toNatClampNeg (16 : Int32)))) :: (ow T q o6)) := hD
  refine lk_ask (ws' := []) (nL := 2) (rw_ := []) (stk := []) (x := o6) (o := ((-2000000001 : Int32), o6)) (fun sz => a_C l hst D T 3000 q qv324 sz o6 1 (upd (fun _ => (0 : Int32)) (0 : Int32).toNatClampNeg (16 : Int32)) ((-2000000001 : Int32), o6) (ff_C16 F6 (v := upd (fun _ => (0 : Int32)) (0 : Int32).toNatClampNeg (16 : Int32)) rfl)) ⟨hx, hb, hml, hown, hts⟩ (vx_cwSW 3 hts (goodIn_up gY_ask) rfl rfl rfl (by decide +kernel) ⟨(Nat.le_of_ble_eq_true rfl), (Nat.le_of_ble_eq_true rfl)⟩) hK hN hX hNc hS hA (by rw [List.append_nil]; exact hP) (by rw [List.append_nil]; exact hD) hl.1 (Nat.le_of_ble_eq_true rfl) dL_full_331 ⟨(Nat.le_of_ble_eq_true rfl), (Nat.le_of_ble_eq_true rfl)⟩ (fun H locs hP hD hS => ?_)
  rw [List.append_nil] at hP hD
  have hP : va_P D vwCl (ow T q o6) H := hP
  have hD : va_D A (ow T q o6) := hD
  refine W.widen (k := 540) (n := 11362) (Nat.le_of_ble_eq_true rfl) (Nat.le_of_ble_eq_true rfl) ?_
  refine lv_ldc (v := (-2000000001 : Int32)) hx hb hown (hts (.constant RL 73 (-2000000001 : Int32)) (by decide +kernel)) dL_full_334 ?_
  refine lv_icmp_ne (tgt := 350) hx hb dL_full_336 (by decide) (fun c9 => absurd (rfl) c9) (fun _ => ?_)
  refine lv_aload_n hx hb dL_full_339 rfl (lv_at hl 1 rfl) ?_
  obtain ⟨fr7, to7, de7, S7, J7, -⟩ := F6
  obtain ⟨tr7, h7⟩ := pj_isTrue J7
  refine cd_isTrue (nL := 2) (N := 3000) (stk := []) (x := o6) (o := _) ⟨hx, hb, hml, hown, hts⟩ (goodIn_up gY_isTrue) ⟨(Nat.le_of_ble_eq_true rfl), (Nat.le_of_ble_eq_true rfl)⟩ hK hN hS hA hP hD h7 hl.1 (Nat.le_of_ble_eq_true rfl) dL_full_340 ⟨(Nat.le_of_ble_eq_true rfl), (Nat.le_of_ble_eq_true rfl)⟩ (fun H locs hP hD hS => ?_)
  refine lv_if_eq (tgt := 350) hx hb dL_full_343 (by decide) (fun c9 => absurd c9 (show ¬ (1 : Int32) = 0 by decide)) (fun _ => ?_)
  refine lv_iconst (v := (1 : Int32)) hx hb dL_full_346 (by decide) ?_
  refine lv_goto (tgt := 351) hx hb dL_full_347 (by decide) ?_
  refine W.widen (k := 5000) (n := 40000) (Nat.le_of_ble_eq_true rfl) (Nat.le_of_ble_eq_true rfl) ?_
  exact W.zret (v := (1 : Int32)) hx hb hr rfl (fun t ht hW => ⟨⟨_, (), rfl, rfl, (by rw [ht]; exact fun k x hx => absurd hx (by simp)), (⟨fun i j p q h => absurd h (by simp), fun k x hx => absurd hx (by simp)⟩)⟩, hS.F ht⟩) hS.2.2 dL_full_351

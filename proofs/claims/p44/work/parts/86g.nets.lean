/-! rows of mine: nets: its loops of calls -/
abbrev nwR (T : Nat → ClassId) (q3 mm : Nat) (pl : Nat → Int32) (q7 : Nat) (cA : ClassId) (r : Nat → Nat) (M : Nat → Nat → Int32) : va_W := [(q3, .inl (T 0, mm, .inl pl)), (q7, .inl (cA, mm, .inr (.inr (.inr (.inr (fun i => if i < mm then some (r i) else none))))))] ++ nwP T mm r M
set_option maxHeartbeats 8000000 in
set_option maxRecDepth 100000 in
theorem nets_392 {p : Program} {l : Launch} {e : Env} {s : State} {m : MethodId} {args : Array Value} {below : List Frame} {meth : Method} {c : Code} {Q : State → Prop} {A : Nat → Prop} {D : va_G} {T : Nat → ClassId} {q : Nat → Nat} {b mm cb sb : Nat} {pq : Nat → Nat} (hst : l.stackTraces = false) (hx : p.tables.exec = Jvm.exec) (hb : c.code = cL_nets) (hml : c.maxLocals = 12) (hown : s.vm.findClass RL = some m.cls) (hts : ∀ w ∈ ws_ne, w.before args s = true) (hA : ∀ q : Nat, s.heap.size ≤ q → A q) (hK : va_K D vwCl (zk_ty T) s) (hN : zk_N s) (hX : zx_K A s s.heap) (hNc : zn_K s) (hm2 : 2 ≤ mm) (hm : mm < 9) (hcb : cb ≤ 30000) (hsb : sb ≤ 200000) {K go w who q3 q7 q10 : Nat} {pl : Nat → Int32} {cA : ClassId} {r : Nat → Nat} {M : Nat → Nat → Int32} {cn : Nat} {f : Bool} {bf : Nat → Int32} (hpl : ∀ i, i < mm → pl i = nI (pq i)) (kk : ∀ (o : Ob) (H : Heap) (locs : List Loc) (ls : Array Slot) (cells slots : Nat), NH f mm K w who pq mm false o → cells ≤ cb → slots ≤ sb → va_P D vwCl (ow T q o ++ ((q10, .inl (T 0, mm, .inl bf)) :: nwR T q3 mm pl q7 cA r M)) H → va_D A (ow T q o ++ ((q10, .inl (T 0, mm, .inl bf)) :: nwR T q3 mm pl q7 cA r M)) → va_S A s.heap H locs → lv_has ls 12 [(11, .int (nI mm)), (10, .ref q10), (9, .int (nI who)), (8, .int (nI cn)), (7, .ref q7), (6, .int (nI w)), (5, .int (nI K)), (4, .int (nI go)), (3, .ref q3), (2, .int (nI mm)), (1, .ref (q 0)), (0, .ref b)] → W p l e ({ frames := 14, cells := 30000, slots := 200000, locals := 320 } : Room) s m args below meth c H locs cells slots Q (F0 m 463 ls [])) : ∀ (j k : Nat) (o : Ob) (H : Heap) (locs : List Loc) (ls : Array Slot) (cells slots : Nat), k + j = mm → NH f mm K w who pq k false o → cells + j * 10 ≤ cb → slots + j * 52 ≤ sb → va_P D vwCl (ow T q o ++ ((q10, .inl (T 0, mm, .inl bf)) :: nwR T q3 mm pl q7 cA r M)) H → va_D A (ow T q o ++ ((q10, .inl (T 0, mm, .inl bf)) :: nwR T q3 mm pl q7 cA r M)) → va_S A s.heap H locs → lv_has ls 12 [(11, .int (nI k)), (10, .ref q10), (9, .int (nI who)), (8, .int (nI cn)), (7, .ref q7), (6, .int (nI w)), (5, .int (nI K)), (4, .int (nI go)), (3, .ref q3), (2, .int (nI mm)), (1, .ref (q 0)), (0, .ref b)] → who < mm → W p l e ({ frames := 14, cells := 30000, slots := 200000, locals := 320 } : Room) s m args below meth c H locs cells slots Q (F0 m 392 ls [])
  | 0, k, o, H, locs, ls, cells, slots, hn, hB, hc, hs, hP, hD, hS, hl, hwho => by
    obtain rfl : k = mm := by omega
    refine lv_iload hx hb dL_nets_392 (lv_at hl 0 rfl) ?_
    refine lv_iload_n hx hb dL_nets_394 rfl (lv_at hl 9 rfl) ?_
    exact lv_icmp_ge (tgt := 463) hx hb dL_nets_395 (by decide) (fun _ => kk o H locs ls cells slots hB (by omega) (by omega) hP hD hS hl) (fun c9 => absurd (nI_le (Nat.le_refl _) (by omega)) c9)
  | j + 1, k, o, H, locs, ls, cells, slots, hn, hB, hc, hs, hP, hD, hS, hl, hwho => by
    have hRc : ∀ {x : Nat}, x ≤ 30000 → x ≤ ({ frames := 14, cells := 30000, slots := 200000, locals := 320 } : Room).cells := fun h => h
    have hRs : ∀ {x : Nat}, x ≤ 200000 → x ≤ ({ frames := 14, cells := 30000, slots := 200000, locals := 320 } : Room).slots := fun h => h
    have hk : k < mm := by omega
    refine lv_iload hx hb dL_nets_392 (lv_at hl 0 rfl) ?_
    refine lv_iload_n hx hb dL_nets_394 rfl (lv_at hl 9 rfl) ?_
    refine lv_icmp_ge (tgt := 463) hx hb dL_nets_395 (by decide) (fun c9 => absurd c9 (nI_ge hk (by omega))) (fun _ => ?_)
    refine lv_aload_n hx hb dL_nets_398 rfl (lv_at hl 10 rfl) ?_
    refine lv_bipush (v := (120 : Int32)) hx hb dL_nets_399 (by decide) ?_
    refine lv_iconst (v := (2 : Int32)) hx hb dL_nets_401 (by decide) ?_
    refine lk_new (N' := 2) hx hb (hts _ ge_i) hK hP hD hS hA (by decide) (by decide +kernel) (Nat.le_of_ble_eq_true rfl) (hRc (by omega)) (hRs (by omega)) dL_nets_402 (fun qv402 H hP hD hS => ?_)
    refine lv_dup hx hb dL_nets_404 rfl ?_
    refine lv_iconst (v := (0 : Int32)) hx hb dL_nets_405 (by decide) ?_
    refine lv_aload_n hx hb dL_nets_406 rfl (lv_at hl 8 rfl) ?_
    refine lv_iload hx hb dL_nets_407 (lv_at hl 0 rfl) ?_
    refine va_iald hx hb hK hP 53 0 rfl rfl (vp_in_nI hk (by omega)) dL_nets_409 ?_
    rw [show pl (nI k).toNatClampNeg = nI (pq k) by rw [nI_clamp (by omega)]; exact hpl k hk]
    refine va_iast hx hb hK hP hD hS 0 0 rfl rfl (zk_lit (by decide +kernel)) dL_nets_410 (fun H locs hP hD hS => ?_)
    have hP : va_P D vwCl ((qv402, .inl (T 0, 2, .inl (upd (fun _ => (0 : Int32)) (0 : Int32).toNatClampNeg (nI (pq k))))) :: (ow T q o ++ ((q10, .inl (T 0, mm, .inl bf)) :: nwR T q3 mm pl q7 cA r M))) H := hP
    have hD : va_D A ((qv402, .inl (T 0, 2, .inl (upd (fun _ => (0 : Int32)) (0 : Int32).toNatClampNeg (nI (pq k))))) :: (ow T q o ++ ((q10, .inl (T 0, mm, .inl bf)) :: nwR T q3 mm pl q7 cA r M))) := hD
    refine lv_dup hx hb dL_nets_411 rfl ?_
    refine lv_iconst (v := (1 : Int32)) hx hb dL_nets_412 (by decide) ?_
    refine lv_bipush (v := (-99 : Int32)) hx hb dL_nets_413 (by decide) ?_
    refine va_iast hx hb hK hP hD hS 0 0 rfl rfl (zk_lit (by decide +kernel)) dL_nets_415 (fun H locs hP hD hS => ?_)
    have hP : va_P D vwCl ((qv402, .inl (T 0, 2, .inl (upd (upd (fun _ => (0 : Int32)) (0 : Int32).toNatClampNeg (nI (pq k))) (1 : Int32).toNatClampNeg (-99 : Int32)))) :: (ow T q o ++ ((q10, .inl (T 0, mm, .inl bf)) :: nwR T q3 mm pl q7 cA r M))) H := hP
    have hD : va_D A ((qv402, .inl (T 0, 2, .inl (upd (upd (fun _ => (0 : Int32)) (0 : Int32).toNatClampNeg (nI (pq k))) (1 : Int32).toNatClampNeg (-99 : Int32)))) :: (ow T q o ++ ((q10, .inl (T 0, mm, .inl bf)) :: nwR T q3 mm pl q7 cA r M))) := hD
    obtain ⟨o2, (h2 : A_x 3000 o 2 (upd (upd (fun _ => (0 : Int32)) (0 : Int32).toNatClampNeg (nI (pq k))) (1 : Int32).toNatClampNeg (-99 : Int32)) = some ((0 : Int32), o2)), B2⟩ := nh_push0 hB hk (v := (upd (upd (fun _ => (0 : Int32)) (0 : Int32).toNatClampNeg (nI (pq k))) (1 : Int32).toNatClampNeg (-99 : Int32))) rfl rfl
    refine lk_ask (ws' := []) (nL := 12) (rw_ := ((q10, .inl (T 0, mm, .inl bf)) :: nwR T q3 mm pl q7 cA r M)) (stk := []) (x := o) (o := ((0 : Int32), o2)) (fun sz => a_x l hst D T 3000 q qv402 sz o 2 (upd (upd (fun _ => (0 : Int32)) (0 : Int32).toNatClampNeg (nI (pq k))) (1 : Int32).toNatClampNeg (-99 : Int32)) ((0 : Int32), o2) (h2)) ⟨hx, hb, hml, hown, hts⟩ (vx_cwSW 3 hts (ge_y gY_ask) rfl rfl rfl (by decide +kernel) ⟨(Nat.le_of_ble_eq_true rfl), (Nat.le_of_ble_eq_true rfl)⟩) hK hN hX hNc hS hA hP hD hl.1 (Nat.le_of_ble_eq_true rfl) dL_nets_416 ⟨(hRc (by omega)), (hRs (by omega))⟩ (fun H locs hP hD hS => ?_)
    have hP : va_P D vwCl (ow T q o2 ++ ((q10, .inl (T 0, mm, .inl bf)) :: nwR T q3 mm pl q7 cA r M)) H := hP
    have hD : va_D A (ow T q o2 ++ ((q10, .inl (T 0, mm, .inl bf)) :: nwR T q3 mm pl q7 cA r M)) := hD
    refine lv_if_ne (tgt := 455) hx hb dL_nets_419 (by decide) (fun c9 => absurd rfl c9) (fun _ => ?_)
    refine lv_iload hx hb dL_nets_422 (lv_at hl 0 rfl) ?_
    refine lv_iload hx hb dL_nets_424 (lv_at hl 2 rfl) ?_
    refine lv_icmp_ne (tgt := 457) hx hb dL_nets_426 (by decide) (fun c9 => ?_) (fun c9 => ?_)
    · have hne : k ≠ who := fun w => c9 (by rw [w])
      refine lv_iinc (v := (nI k) + (1 : Int32)) (lv' := [(11, .int ((nI k) + (1 : Int32))), (10, .ref q10), (9, .int (nI who)), (8, .int (nI cn)), (7, .ref q7), (6, .int (nI w)), (5, .int (nI K)), (4, .int (nI go)), (3, .ref q3), (2, .int (nI mm)), (1, .ref (q 0)), (0, .ref b)]) hx hb dL_nets_457 hl (k := 0) rfl rfl (by decide) rfl (fun ls hl => ?_)
      rw [nI_1] at hl
      refine lv_goto (tgt := 392) hx hb dL_nets_460 (by decide) ?_
      exact nets_392 hst hx hb hml hown hts hA hK hN hX hNc hm2 hm hcb hsb hpl kk j (k + 1) o2 _ _ _ _ _ (by omega) (nh_next B2 hne) (by omega) (by omega) hP hD hS hl hwho
    · have hkw : k = who := (nI_eq (by omega) (by omega)).mp c9
      have B3 : NH f mm K w k pq k true o2 := by have h9 := B2; rw [show NH f mm K w who pq = NH f mm K w k pq by rw [hkw]] at h9; exact h9
      refine lv_aload_n hx hb dL_nets_429 rfl (lv_at hl 10 rfl) ?_
      refine lv_bipush (v := (120 : Int32)) hx hb dL_nets_430 (by decide) ?_
      refine lv_iconst (v := (2 : Int32)) hx hb dL_nets_432 (by decide) ?_
      refine lk_new (N' := 2) hx hb (hts _ ge_i) hK hP hD hS hA (by decide) (by decide +kernel) (Nat.le_of_ble_eq_true rfl) (hRc (by omega)) (hRs (by omega)) dL_nets_433 (fun qv433 H hP hD hS => ?_)
      refine lv_dup hx hb dL_nets_435 rfl ?_
      refine lv_iconst (v := (0 : Int32)) hx hb dL_nets_436 (by decide) ?_
      refine lv_aload_n hx hb dL_nets_437 rfl (lv_at hl 8 rfl) ?_
      refine lv_iload hx hb dL_nets_438 (lv_at hl 0 rfl) ?_
      refine va_iald hx hb hK hP 53 0 rfl rfl (vp_in_nI hk (by omega)) dL_nets_440 ?_
      rw [show pl (nI k).toNatClampNeg = nI (pq k) by rw [nI_clamp (by omega)]; exact hpl k hk]
      refine va_iast hx hb hK hP hD hS 0 0 rfl rfl (zk_lit (by decide +kernel)) dL_nets_441 (fun H locs hP hD hS => ?_)
      have hP : va_P D vwCl ((qv433, .inl (T 0, 2, .inl (upd (fun _ => (0 : Int32)) (0 : Int32).toNatClampNeg (nI (pq k))))) :: (ow T q o2 ++ ((q10, .inl (T 0, mm, .inl bf)) :: nwR T q3 mm pl q7 cA r M))) H := hP
      have hD : va_D A ((qv433, .inl (T 0, 2, .inl (upd (fun _ => (0 : Int32)) (0 : Int32).toNatClampNeg (nI (pq k))))) :: (ow T q o2 ++ ((q10, .inl (T 0, mm, .inl bf)) :: nwR T q3 mm pl q7 cA r M))) := hD
      refine lv_dup hx hb dL_nets_442 rfl ?_
      refine lv_iconst (v := (1 : Int32)) hx hb dL_nets_443 (by decide) ?_
      refine lv_bipush (v := (99 : Int32)) hx hb dL_nets_444 (by decide) ?_
      refine va_iast hx hb hK hP hD hS 0 0 rfl rfl (zk_lit (by decide +kernel)) dL_nets_446 (fun H locs hP hD hS => ?_)
      have hP : va_P D vwCl ((qv433, .inl (T 0, 2, .inl (upd (upd (fun _ => (0 : Int32)) (0 : Int32).toNatClampNeg (nI (pq k))) (1 : Int32).toNatClampNeg (99 : Int32)))) :: (ow T q o2 ++ ((q10, .inl (T 0, mm, .inl bf)) :: nwR T q3 mm pl q7 cA r M))) H := hP
      have hD : va_D A ((qv433, .inl (T 0, 2, .inl (upd (upd (fun _ => (0 : Int32)) (0 : Int32).toNatClampNeg (nI (pq k))) (1 : Int32).toNatClampNeg (99 : Int32)))) :: (ow T q o2 ++ ((q10, .inl (T 0, mm, .inl bf)) :: nwR T q3 mm pl q7 cA r M))) := hD
      obtain ⟨o3, (h3 : A_x 3000 o2 2 (upd (upd (fun _ => (0 : Int32)) (0 : Int32).toNatClampNeg (nI (pq k))) (1 : Int32).toNatClampNeg (99 : Int32)) = some ((89 : Int32), o3)), B4⟩ := nh_push1 B3 hk (v := (upd (upd (fun _ => (0 : Int32)) (0 : Int32).toNatClampNeg (nI (pq k))) (1 : Int32).toNatClampNeg (99 : Int32))) rfl rfl
      have B5 : NH f mm K w who pq (k + 1) false o3 := by have h9 := B4; rw [show NH f mm K w k pq = NH f mm K w who pq by rw [hkw]] at h9; exact h9
      refine lk_ask (ws' := []) (nL := 12) (rw_ := ((q10, .inl (T 0, mm, .inl bf)) :: nwR T q3 mm pl q7 cA r M)) (stk := []) (x := o2) (o := ((89 : Int32), o3)) (fun sz => a_x l hst D T 3000 q qv433 sz o2 2 (upd (upd (fun _ => (0 : Int32)) (0 : Int32).toNatClampNeg (nI (pq k))) (1 : Int32).toNatClampNeg (99 : Int32)) ((89 : Int32), o3) (h3)) ⟨hx, hb, hml, hown, hts⟩ (vx_cwSW 3 hts (ge_y gY_ask) rfl rfl rfl (by decide +kernel) ⟨(Nat.le_of_ble_eq_true rfl), (Nat.le_of_ble_eq_true rfl)⟩) hK hN hX hNc hS hA hP hD hl.1 (Nat.le_of_ble_eq_true rfl) dL_nets_447 ⟨(hRc (by omega)), (hRs (by omega))⟩ (fun H locs hP hD hS => ?_)
      have hP : va_P D vwCl (ow T q o3 ++ ((q10, .inl (T 0, mm, .inl bf)) :: nwR T q3 mm pl q7 cA r M)) H := hP
      have hD : va_D A (ow T q o3 ++ ((q10, .inl (T 0, mm, .inl bf)) :: nwR T q3 mm pl q7 cA r M)) := hD
      refine lv_bipush (v := (89 : Int32)) hx hb dL_nets_450 (by decide) ?_
      refine lv_icmp_eq (tgt := 457) hx hb dL_nets_452 (by decide) (fun _ => ?_) (fun c9 => absurd rfl c9)
      refine lv_iinc (v := (nI k) + (1 : Int32)) (lv' := [(11, .int ((nI k) + (1 : Int32))), (10, .ref q10), (9, .int (nI who)), (8, .int (nI cn)), (7, .ref q7), (6, .int (nI w)), (5, .int (nI K)), (4, .int (nI go)), (3, .ref q3), (2, .int (nI mm)), (1, .ref (q 0)), (0, .ref b)]) hx hb dL_nets_457 hl (k := 0) rfl rfl (by decide) rfl (fun ls hl => ?_)
      rw [nI_1] at hl
      refine lv_goto (tgt := 392) hx hb dL_nets_460 (by decide) ?_
      exact nets_392 hst hx hb hml hown hts hA hK hN hX hNc hm2 hm hcb hsb hpl kk j (k + 1) o3 _ _ _ _ _ (by omega) B5 (by omega) (by omega) hP hD hS hl hwho
set_option maxHeartbeats 8000000 in
set_option maxRecDepth 100000 in
theorem nets_466 {p : Program} {l : Launch} {e : Env} {s : State} {m : MethodId} {args : Array Value} {below : List Frame} {meth : Method} {c : Code} {Q : State → Prop} {A : Nat → Prop} {D : va_G} {T : Nat → ClassId} {q : Nat → Nat} {b mm cb sb : Nat} {pq : Nat → Nat} (hst : l.stackTraces = false) (hx : p.tables.exec = Jvm.exec) (hb : c.code = cL_nets) (hml : c.maxLocals = 12) (hown : s.vm.findClass RL = some m.cls) (hts : ∀ w ∈ ws_ne, w.before args s = true) (hA : ∀ q : Nat, s.heap.size ≤ q → A q) (hK : va_K D vwCl (zk_ty T) s) (hN : zk_N s) (hX : zx_K A s s.heap) (hNc : zn_K s) (hm2 : 2 ≤ mm) (hm : mm < 9) (hcb : cb ≤ 30000) (hsb : sb ≤ 200000) {K go w who q3 q7 q10 : Nat} {pl : Nat → Int32} {cA : ClassId} {r : Nat → Nat} {M : Nat → Nat → Int32} {cn : Nat} {f : Bool} {o : Ob} (hpl : ∀ i, i < mm → pl i = nI (pq i)) (hB : NH f mm K w who pq mm false o) (kk : ∀ (H : Heap) (locs : List Loc) (ls : Array Slot) (cells slots : Nat) (bf : Nat → Int32), (f = true → ∀ i, i < mm → bf i = 0) → cells ≤ cb → slots ≤ sb → va_P D vwCl (ow T q o ++ ((q10, .inl (T 0, mm, .inl bf)) :: nwR T q3 mm pl q7 cA r M)) H → va_D A (ow T q o ++ ((q10, .inl (T 0, mm, .inl bf)) :: nwR T q3 mm pl q7 cA r M)) → va_S A s.heap H locs → lv_has ls 12 [(11, .int (nI mm)), (10, .ref q10), (9, .int (nI who)), (8, .int (nI cn)), (7, .ref q7), (6, .int (nI w)), (5, .int (nI K)), (4, .int (nI go)), (3, .ref q3), (2, .int (nI mm)), (1, .ref (q 0)), (0, .ref b)] → W p l e ({ frames := 14, cells := 30000, slots := 200000, locals := 320 } : Room) s m args below meth c H locs cells slots Q (F0 m 499 ls [])) : ∀ (j k : Nat) (H : Heap) (locs : List Loc) (ls : Array Slot) (cells slots : Nat) (bf : Nat → Int32), k + j = mm → (f = true → ∀ i, i < k → bf i = 0) → cells + j * 3 ≤ cb → slots + j * 13 ≤ sb → va_P D vwCl (ow T q o ++ ((q10, .inl (T 0, mm, .inl bf)) :: nwR T q3 mm pl q7 cA r M)) H → va_D A (ow T q o ++ ((q10, .inl (T 0, mm, .inl bf)) :: nwR T q3 mm pl q7 cA r M)) → va_S A s.heap H locs → lv_has ls 12 [(11, .int (nI k)), (10, .ref q10), (9, .int (nI who)), (8, .int (nI cn)), (7, .ref q7), (6, .int (nI w)), (5, .int (nI K)), (4, .int (nI go)), (3, .ref q3), (2, .int (nI mm)), (1, .ref (q 0)), (0, .ref b)] → W p l e ({ frames := 14, cells := 30000, slots := 200000, locals := 320 } : Room) s m args below meth c H locs cells slots Q (F0 m 466 ls [])
  | 0, k, H, locs, ls, cells, slots, bf, hn, hbf, hc, hs, hP, hD, hS, hl => by
    obtain rfl : k = mm := by omega
    refine lv_iload hx hb dL_nets_466 (lv_at hl 0 rfl) ?_
    refine lv_iload_n hx hb dL_nets_468 rfl (lv_at hl 9 rfl) ?_
    exact lv_icmp_ge (tgt := 499) hx hb dL_nets_469 (by decide) (fun _ => kk H locs ls cells slots bf hbf (by omega) (by omega) hP hD hS hl) (fun c9 => absurd (nI_le (Nat.le_refl _) (by omega)) c9)
  | j + 1, k, H, locs, ls, cells, slots, bf, hn, hbf, hc, hs, hP, hD, hS, hl => by
    have hRc : ∀ {x : Nat}, x ≤ 30000 → x ≤ ({ frames := 14, cells := 30000, slots := 200000, locals := 320 } : Room).cells := fun h => h
    have hRs : ∀ {x : Nat}, x ≤ 200000 → x ≤ ({ frames := 14, cells := 30000, slots := 200000, locals := 320 } : Room).slots := fun h => h
    have hk : k < mm := by omega
    refine lv_iload hx hb dL_nets_466 (lv_at hl 0 rfl) ?_
    refine lv_iload_n hx hb dL_nets_468 rfl (lv_at hl 9 rfl) ?_
    refine lv_icmp_ge (tgt := 499) hx hb dL_nets_469 (by decide) (fun c9 => absurd c9 (nI_ge hk (by omega))) (fun _ => ?_)
    refine lv_aload hx hb dL_nets_472 (lv_at hl 1 rfl) ?_
    refine lv_iload hx hb dL_nets_474 (lv_at hl 0 rfl) ?_
    refine lv_aload_n hx hb dL_nets_476 rfl (lv_at hl 10 rfl) ?_
    refine lv_bipush (v := (119 : Int32)) hx hb dL_nets_477 (by decide) ?_
    refine lv_iconst (v := (1 : Int32)) hx hb dL_nets_479 (by decide) ?_
    refine lk_new (N' := 1) hx hb (hts _ ge_i) hK hP hD hS hA (by decide) (by decide +kernel) (Nat.le_of_ble_eq_true rfl) (hRc (by omega)) (hRs (by omega)) dL_nets_480 (fun qv480 H hP hD hS => ?_)
    refine lv_dup hx hb dL_nets_482 rfl ?_
    refine lv_iconst (v := (0 : Int32)) hx hb dL_nets_483 (by decide) ?_
    refine lv_aload_n hx hb dL_nets_484 rfl (lv_at hl 8 rfl) ?_
    refine lv_iload hx hb dL_nets_485 (lv_at hl 0 rfl) ?_
    refine va_iald hx hb hK hP 53 0 rfl rfl (vp_in_nI hk (by omega)) dL_nets_487 ?_
    rw [show pl (nI k).toNatClampNeg = nI (pq k) by rw [nI_clamp (by omega)]; exact hpl k hk]
    refine va_iast hx hb hK hP hD hS 0 0 rfl rfl (zk_lit (by decide +kernel)) dL_nets_488 (fun H locs hP hD hS => ?_)
    have hP : va_P D vwCl ((qv480, .inl (T 0, 1, .inl (upd (fun _ => (0 : Int32)) (0 : Int32).toNatClampNeg (nI (pq k))))) :: (ow T q o ++ ((q10, .inl (T 0, mm, .inl bf)) :: nwR T q3 mm pl q7 cA r M))) H := hP
    have hD : va_D A ((qv480, .inl (T 0, 1, .inl (upd (fun _ => (0 : Int32)) (0 : Int32).toNatClampNeg (nI (pq k))))) :: (ow T q o ++ ((q10, .inl (T 0, mm, .inl bf)) :: nwR T q3 mm pl q7 cA r M))) := hD
    obtain ⟨y, h2, hy⟩ := nh_w hB hk (v := (upd (fun _ => (0 : Int32)) (0 : Int32).toNatClampNeg (nI (pq k)))) rfl
    refine lk_ask (ws' := []) (nL := 12) (rw_ := ((q10, .inl (T 0, mm, .inl bf)) :: nwR T q3 mm pl q7 cA r M)) (stk := [.int (nI k), .ref q10]) (x := o) (o := (y, o)) (fun sz => a_w l hst D T 3000 q qv480 sz o 1 (upd (fun _ => (0 : Int32)) (0 : Int32).toNatClampNeg (nI (pq k))) (y, o) (h2)) ⟨hx, hb, hml, hown, hts⟩ (vx_cwSW 3 hts (ge_y gY_ask) rfl rfl rfl (by decide +kernel) ⟨(Nat.le_of_ble_eq_true rfl), (Nat.le_of_ble_eq_true rfl)⟩) hK hN hX hNc hS hA hP hD hl.1 (Nat.le_of_ble_eq_true rfl) dL_nets_489 ⟨(hRc (by omega)), (hRs (by omega))⟩ (fun H locs hP hD hS => ?_)
    have hP : va_P D vwCl (ow T q o ++ ((q10, .inl (T 0, mm, .inl bf)) :: nwR T q3 mm pl q7 cA r M)) H := hP
    have hD : va_D A (ow T q o ++ ((q10, .inl (T 0, mm, .inl bf)) :: nwR T q3 mm pl q7 cA r M)) := hD
    refine va_iast hx hb hK hP hD hS 51 0 rfl rfl (vp_in_nI hk (by omega)) dL_nets_492 (fun H locs hP hD hS => ?_)
    rw [nI_clamp (by omega)] at hP hD
    have hP : va_P D vwCl (ow T q o ++ ((q10, .inl (T 0, mm, .inl (upd bf k y))) :: nwR T q3 mm pl q7 cA r M)) H := hP
    have hD : va_D A (ow T q o ++ ((q10, .inl (T 0, mm, .inl (upd bf k y))) :: nwR T q3 mm pl q7 cA r M)) := hD
    refine lv_iinc (v := (nI k) + (1 : Int32)) (lv' := [(11, .int ((nI k) + (1 : Int32))), (10, .ref q10), (9, .int (nI who)), (8, .int (nI cn)), (7, .ref q7), (6, .int (nI w)), (5, .int (nI K)), (4, .int (nI go)), (3, .ref q3), (2, .int (nI mm)), (1, .ref (q 0)), (0, .ref b)]) hx hb dL_nets_493 hl (k := 0) rfl rfl (by decide) rfl (fun ls hl => ?_)
    rw [nI_1] at hl
    refine lv_goto (tgt := 466) hx hb dL_nets_496 (by decide) ?_
    exact nets_466 hst hx hb hml hown hts hA hK hN hX hNc hm2 hm hcb hsb hpl hB kk j (k + 1) _ _ _ _ _ (upd bf k y) (by omega) (fun hf i hi => by
      unfold upd
      by_cases w9 : i = k
      · rw [if_pos w9]; exact hy hf
      · rw [if_neg w9]; exact hbf hf i (by omega)) (by omega) (by omega) hP hD hS hl
set_option maxHeartbeats 8000000 in
set_option maxRecDepth 100000 in
theorem nets_565 {p : Program} {l : Launch} {e : Env} {s : State} {m : MethodId} {args : Array Value} {below : List Frame} {meth : Method} {c : Code} {Q : State → Prop} {A : Nat → Prop} {D : va_G} {T : Nat → ClassId} {q : Nat → Nat} {b mm cb sb : Nat} {pq : Nat → Nat} (hst : l.stackTraces = false) (hx : p.tables.exec = Jvm.exec) (hb : c.code = cL_nets) (hml : c.maxLocals = 12) (hown : s.vm.findClass RL = some m.cls) (hts : ∀ w ∈ ws_ne, w.before args s = true) (hA : ∀ q : Nat, s.heap.size ≤ q → A q) (hK : va_K D vwCl (zk_ty T) s) (hN : zk_N s) (hX : zx_K A s s.heap) (hNc : zn_K s) (hm2 : 2 ≤ mm) (hm : mm < 9) (hcb : cb ≤ 30000) (hsb : sb ≤ 200000) {K w who q3 q7 q10 : Nat} {pl : Nat → Int32} {cA : ClassId} {r : Nat → Nat} {M : Nat → Nat → Int32} {cn : Nat} {o : Ob} {bf : Nat → Int32} (hK2 : va_K D vwCl (zk_ty T ++ [(cA, .array .boolean)]) s) (hKs : nKs K) (hwho : who < mm) (hM : MI K mm r mm 0 M) (hbf : ∀ i, i < mm → bf i = 0) (hpl : ∀ i, i < mm → pl i = nI (pq i)) (hB : NR mm K w who pq o) (kk : ∀ (H : Heap) (locs : List Loc) (ls : Array Slot) (cells slots : Nat), cells ≤ cb → slots ≤ sb → va_P D vwCl (ow T q o ++ ((q10, .inl (T 0, mm, .inl bf)) :: nwR T q3 mm pl q7 cA r M)) H → va_D A (ow T q o ++ ((q10, .inl (T 0, mm, .inl bf)) :: nwR T q3 mm pl q7 cA r M)) → va_S A s.heap H locs → lv_has ls 12 [(11, .int (nI mm)), (10, .ref q10), (9, .int (nI who)), (8, .int (nI cn)), (7, .ref q7), (6, .int (nI w)), (5, .int (nI K)), (4, .int (nI 0)), (3, .ref q3), (2, .int (nI mm)), (1, .ref (q 0)), (0, .ref b)] → W p l e ({ frames := 14, cells := 30000, slots := 200000, locals := 320 } : Room) s m args below meth c H locs cells slots Q (F0 m 626 ls [])) : ∀ (j k : Nat) (H : Heap) (locs : List Loc) (ls : Array Slot) (cells slots : Nat), k + j = mm → cells + j * 3 ≤ cb → slots + j * 13 ≤ sb → va_P D vwCl (ow T q o ++ ((q10, .inl (T 0, mm, .inl bf)) :: nwR T q3 mm pl q7 cA r M)) H → va_D A (ow T q o ++ ((q10, .inl (T 0, mm, .inl bf)) :: nwR T q3 mm pl q7 cA r M)) → va_S A s.heap H locs → lv_has ls 12 [(11, .int (nI k)), (10, .ref q10), (9, .int (nI who)), (8, .int (nI cn)), (7, .ref q7), (6, .int (nI w)), (5, .int (nI K)), (4, .int (nI 0)), (3, .ref q3), (2, .int (nI mm)), (1, .ref (q 0)), (0, .ref b)] → W p l e ({ frames := 14, cells := 30000, slots := 200000, locals := 320 } : Room) s m args below meth c H locs cells slots Q (F0 m 565 ls [])
  | 0, k, H, locs, ls, cells, slots, hn, hc, hs, hP, hD, hS, hl => by
    obtain rfl : k = mm := by omega
    refine lv_iload hx hb dL_nets_565 (lv_at hl 0 rfl) ?_
    refine lv_iload_n hx hb dL_nets_567 rfl (lv_at hl 9 rfl) ?_
    exact lv_icmp_ge (tgt := 626) hx hb dL_nets_568 (by decide) (fun _ => kk H locs ls cells slots (by omega) (by omega) hP hD hS hl) (fun c9 => absurd (nI_le (Nat.le_refl _) (by omega)) c9)
  | j + 1, k, H, locs, ls, cells, slots, hn, hc, hs, hP, hD, hS, hl => by
    have hRc : ∀ {x : Nat}, x ≤ 30000 → x ≤ ({ frames := 14, cells := 30000, slots := 200000, locals := 320 } : Room).cells := fun h => h
    have hRs : ∀ {x : Nat}, x ≤ 200000 → x ≤ ({ frames := 14, cells := 30000, slots := 200000, locals := 320 } : Room).slots := fun h => h
    have hk : k < mm := by omega
    have hmem : r who ∈ (List.range mm).map r := List.mem_map.mpr ⟨who, List.mem_range.mpr hwho, rfl⟩
    refine lv_iload hx hb dL_nets_565 (lv_at hl 0 rfl) ?_
    refine lv_iload_n hx hb dL_nets_567 rfl (lv_at hl 9 rfl) ?_
    refine lv_icmp_ge (tgt := 626) hx hb dL_nets_568 (by decide) (fun c9 => absurd c9 (nI_ge hk (by omega))) (fun _ => ?_)
    refine lv_iload hx hb dL_nets_571 (lv_at hl 7 rfl) ?_
    refine lv_if_ne (tgt := 626) hx hb dL_nets_573 (by decide) (fun c9 => absurd rfl c9) (fun _ => ?_)
    refine lv_aload_n hx hb dL_nets_576 rfl (lv_at hl 10 rfl) ?_
    refine lv_bipush (v := (119 : Int32)) hx hb dL_nets_577 (by decide) ?_
    refine lv_iconst (v := (1 : Int32)) hx hb dL_nets_579 (by decide) ?_
    refine lk_new (N' := 1) hx hb (hts _ ge_i) hK hP hD hS hA (by decide) (by decide +kernel) (Nat.le_of_ble_eq_true rfl) (hRc (by omega)) (hRs (by omega)) dL_nets_580 (fun qv580 H hP hD hS => ?_)
    refine lv_dup hx hb dL_nets_582 rfl ?_
    refine lv_iconst (v := (0 : Int32)) hx hb dL_nets_583 (by decide) ?_
    refine lv_aload_n hx hb dL_nets_584 rfl (lv_at hl 8 rfl) ?_
    refine lv_iload hx hb dL_nets_585 (lv_at hl 0 rfl) ?_
    refine va_iald hx hb hK hP 53 0 rfl rfl (vp_in_nI hk (by omega)) dL_nets_587 ?_
    rw [show pl (nI k).toNatClampNeg = nI (pq k) by rw [nI_clamp (by omega)]; exact hpl k hk]
    refine va_iast hx hb hK hP hD hS 0 0 rfl rfl (zk_lit (by decide +kernel)) dL_nets_588 (fun H locs hP hD hS => ?_)
    have hP : va_P D vwCl ((qv580, .inl (T 0, 1, .inl (upd (fun _ => (0 : Int32)) (0 : Int32).toNatClampNeg (nI (pq k))))) :: (ow T q o ++ ((q10, .inl (T 0, mm, .inl bf)) :: nwR T q3 mm pl q7 cA r M))) H := hP
    have hD : va_D A ((qv580, .inl (T 0, 1, .inl (upd (fun _ => (0 : Int32)) (0 : Int32).toNatClampNeg (nI (pq k))))) :: (ow T q o ++ ((q10, .inl (T 0, mm, .inl bf)) :: nwR T q3 mm pl q7 cA r M))) := hD
    have h2 := nr_w hB hk (v := (upd (fun _ => (0 : Int32)) (0 : Int32).toNatClampNeg (nI (pq k)))) rfl
    refine lk_ask (ws' := []) (nL := 12) (rw_ := ((q10, .inl (T 0, mm, .inl bf)) :: nwR T q3 mm pl q7 cA r M)) (stk := []) (x := o) (o := ((if (who, k) ∈ nP K mm then nI w else 0), o)) (fun sz => a_w l hst D T 3000 q qv580 sz o 1 (upd (fun _ => (0 : Int32)) (0 : Int32).toNatClampNeg (nI (pq k))) ((if (who, k) ∈ nP K mm then nI w else 0), o) (h2)) ⟨hx, hb, hml, hown, hts⟩ (vx_cwSW 3 hts (ge_y gY_ask) rfl rfl rfl (by decide +kernel) ⟨(Nat.le_of_ble_eq_true rfl), (Nat.le_of_ble_eq_true rfl)⟩) hK hN hX hNc hS hA hP hD hl.1 (Nat.le_of_ble_eq_true rfl) dL_nets_589 ⟨(hRc (by omega)), (hRs (by omega))⟩ (fun H locs hP hD hS => ?_)
    have hP : va_P D vwCl (ow T q o ++ ((q10, .inl (T 0, mm, .inl bf)) :: nwR T q3 mm pl q7 cA r M)) H := hP
    have hD : va_D A (ow T q o ++ ((q10, .inl (T 0, mm, .inl bf)) :: nwR T q3 mm pl q7 cA r M)) := hD
    refine lv_aload hx hb dL_nets_592 (lv_at hl 1 rfl) ?_
    refine lv_iload hx hb dL_nets_594 (lv_at hl 0 rfl) ?_
    refine va_iald hx hb hK hP 51 0 rfl rfl (vp_in_nI hk (by omega)) dL_nets_596 ?_
    rw [show bf (nI k).toNatClampNeg = 0 by rw [nI_clamp (by omega)]; exact hbf k hk]
    refine lv_isub hx hb dL_nets_597 ?_
    rw [Int32.sub_zero]
    refine lv_aload hx hb dL_nets_598 (lv_at hl 4 rfl) ?_
    refine lv_iload hx hb dL_nets_600 (lv_at hl 2 rfl) ?_
    refine ne_aald hx hb hK2 hP 53 5 rfl rfl (vp_in_nI hwho (by omega)) (r := r who) (by show (if (nI who).toNatClampNeg < mm then some (r (nI who).toNatClampNeg) else none) = _; rw [nI_clamp (by omega), if_pos hwho]) dL_nets_602 ?_
    refine lv_iload hx hb dL_nets_603 (lv_at hl 0 rfl) ?_
    have hP2 : va_P D vwCl ((ow T q o ++ [(q10, .inl (T 0, mm, .inl bf)), (q3, .inl (T 0, mm, .inl pl)), (q7, .inl (cA, mm, .inr (.inr (.inr (.inr (fun i => if i < mm then some (r i) else none))))))]) ++ nwP T mm r M) H := by rw [List.append_assoc]; exact hP
    refine ne_bald hx hb hK hP2 1 hmem rfl (vp_in_nI hk (by omega)) dL_nets_605 ?_
    rw [nI_clamp (by omega), hM.1 who hwho k hk]
    have his := np_is hKs hm2 hm hwho hk
    cases hv : isv K mm who k with
    | false =>
      rw [if_neg (fun w9 => by rw [his.mp w9] at hv; exact absurd hv (by decide)), show bv K mm who k = 0 by unfold bv; rw [hv]; rfl]
      refine lv_if_eq (tgt := 614) hx hb dL_nets_606 (by decide) (fun _ => ?_) (fun c9 => absurd rfl c9)
      refine lv_iconst (v := (0 : Int32)) hx hb dL_nets_614 (by decide) ?_
      refine lv_icmp_eq (tgt := 620) hx hb dL_nets_615 (by decide) (fun _ => ?_) (fun c9 => absurd rfl c9)
      refine lv_iinc (v := (nI k) + (1 : Int32)) (lv' := [(11, .int ((nI k) + (1 : Int32))), (10, .ref q10), (9, .int (nI who)), (8, .int (nI cn)), (7, .ref q7), (6, .int (nI w)), (5, .int (nI K)), (4, .int (nI 0)), (3, .ref q3), (2, .int (nI mm)), (1, .ref (q 0)), (0, .ref b)]) hx hb dL_nets_620 hl (k := 0) rfl rfl (by decide) rfl (fun ls hl => ?_)
      rw [nI_1] at hl
      refine lv_goto (tgt := 565) hx hb dL_nets_623 (by decide) ?_
      exact nets_565 hst hx hb hml hown hts hA hK hN hX hNc hm2 hm hcb hsb hK2 hKs hwho hM hbf hpl hB kk j (k + 1) _ _ _ _ _ (by omega) (by omega) (by omega) hP hD hS hl
    | true =>
      rw [if_pos (his.mpr hv), show bv K mm who k = 1 by unfold bv; rw [hv]; rfl]
      refine lv_if_eq (tgt := 614) hx hb dL_nets_606 (by decide) (fun c9 => absurd c9 (show ¬ (1 : Int32) = 0 by decide)) (fun _ => ?_)
      refine lv_iload hx hb dL_nets_609 (lv_at hl 5 rfl) ?_
      refine lv_goto (tgt := 615) hx hb dL_nets_611 (by decide) ?_
      refine lv_icmp_eq (tgt := 620) hx hb dL_nets_615 (by decide) (fun _ => ?_) (fun c9 => absurd rfl c9)
      refine lv_iinc (v := (nI k) + (1 : Int32)) (lv' := [(11, .int ((nI k) + (1 : Int32))), (10, .ref q10), (9, .int (nI who)), (8, .int (nI cn)), (7, .ref q7), (6, .int (nI w)), (5, .int (nI K)), (4, .int (nI 0)), (3, .ref q3), (2, .int (nI mm)), (1, .ref (q 0)), (0, .ref b)]) hx hb dL_nets_620 hl (k := 0) rfl rfl (by decide) rfl (fun ls hl => ?_)
      rw [nI_1] at hl
      refine lv_goto (tgt := 565) hx hb dL_nets_623 (by decide) ?_
      exact nets_565 hst hx hb hml hown hts hA hK hN hX hNc hm2 hm hcb hsb hK2 hKs hwho hM hbf hpl hB kk j (k + 1) _ _ _ _ _ (by omega) (by omega) (by omega) hP hD hS hl
set_option maxHeartbeats 8000000 in
set_option maxRecDepth 100000 in
theorem nets_499 {p : Program} {l : Launch} {e : Env} {s : State} {m : MethodId} {args : Array Value} {below : List Frame} {meth : Method} {c : Code} {Q : State → Prop} {A : Nat → Prop} {D : va_G} {T : Nat → ClassId} {q : Nat → Nat} {b mm cb sb : Nat} {pq : Nat → Nat} (hst : l.stackTraces = false) (hx : p.tables.exec = Jvm.exec) (hb : c.code = cL_nets) (hml : c.maxLocals = 12) (hown : s.vm.findClass RL = some m.cls) (hts : ∀ w ∈ ws_ne, w.before args s = true) (hA : ∀ q : Nat, s.heap.size ≤ q → A q) (hK : va_K D vwCl (zk_ty T) s) (hN : zk_N s) (hX : zx_K A s s.heap) (hNc : zn_K s) (hm2 : 2 ≤ mm) (hm : mm < 9) (hcb : cb ≤ 30000) (hsb : sb ≤ 200000) {K w who q3 q7 q10 : Nat} {pl : Nat → Int32} {cA : ClassId} {r : Nat → Nat} {M : Nat → Nat → Int32} {cn : Nat} {o : Ob} {bf : Nat → Int32} (hK2 : va_K D vwCl (zk_ty T ++ [(cA, .array .boolean)]) s) (hKs : nKs K) (hwho : who < mm) (hM : MI K mm r mm 0 M) (hbf : ∀ i, i < mm → bf i = 0) (hpl : ∀ i, i < mm → pl i = nI (pq i)) (hB : NH true mm K w who pq mm false o) {H : Heap} {locs : List Loc} {ls : Array Slot} {cells slots : Nat} (hc : cells + 32 ≤ cb) (hs : slots + 137 ≤ sb) (hP : va_P D vwCl (ow T q o ++ ((q10, .inl (T 0, mm, .inl bf)) :: nwR T q3 mm pl q7 cA r M)) H) (hD : va_D A (ow T q o ++ ((q10, .inl (T 0, mm, .inl bf)) :: nwR T q3 mm pl q7 cA r M))) (hS : va_S A s.heap H locs) (hl : lv_has ls 12 [(11, .int (nI mm)), (10, .ref q10), (9, .int (nI who)), (8, .int (nI cn)), (7, .ref q7), (6, .int (nI w)), (5, .int (nI K)), (4, .int (nI 0)), (3, .ref q3), (2, .int (nI mm)), (1, .ref (q 0)), (0, .ref b)]) (kk : ∀ (o : Ob) (H : Heap) (locs : List Loc) (ls : Array Slot) (cells slots : Nat), NG false mm pq o → cells ≤ cb → slots ≤ sb → va_P D vwCl (ow T q o ++ ((q10, .inl (T 0, mm, .inl bf)) :: nwR T q3 mm pl q7 cA r M)) H → va_D A (ow T q o ++ ((q10, .inl (T 0, mm, .inl bf)) :: nwR T q3 mm pl q7 cA r M)) → va_S A s.heap H locs → lv_has ls 12 [(11, .int (nI mm)), (10, .ref q10), (9, .int (nI who)), (8, .int (nI cn)), (7, .ref q7), (6, .int (nI w)), (5, .int (nI K)), (4, .int (nI 0)), (3, .ref q3), (2, .int (nI mm)), (1, .ref (q 0)), (0, .ref b)] → W p l e ({ frames := 14, cells := 30000, slots := 200000, locals := 320 } : Room) s m args below meth c H locs cells slots Q (F0 m 626 ls [])) : W p l e ({ frames := 14, cells := 30000, slots := 200000, locals := 320 } : Room) s m args below meth c H locs cells slots Q (F0 m 499 ls []) := by
  have hRc : ∀ {x : Nat}, x ≤ 30000 → x ≤ ({ frames := 14, cells := 30000, slots := 200000, locals := 320 } : Room).cells := fun h => h
  have hRs : ∀ {x : Nat}, x ≤ 200000 → x ≤ ({ frames := 14, cells := 30000, slots := 200000, locals := 320 } : Room).slots := fun h => h
  refine lv_iload hx hb dL_nets_499 (lv_at hl 7 rfl) ?_
  refine lv_if_ne (tgt := 562) hx hb dL_nets_501 (by decide) (fun c9 => absurd rfl c9) (fun _ => ?_)
  refine lv_aload_n hx hb dL_nets_504 rfl (lv_at hl 10 rfl) ?_
  refine lv_bipush (v := (82 : Int32)) hx hb dL_nets_505 (by decide) ?_
  refine lv_iconst (v := (1 : Int32)) hx hb dL_nets_507 (by decide) ?_
  refine lk_new (N' := 1) hx hb (hts _ ge_i) hK hP hD hS hA (by decide) (by decide +kernel) (Nat.le_of_ble_eq_true rfl) (hRc (by omega)) (hRs (by omega)) dL_nets_508 (fun qv508 H hP hD hS => ?_)
  refine lv_dup hx hb dL_nets_510 rfl ?_
  refine lv_iconst (v := (0 : Int32)) hx hb dL_nets_511 (by decide) ?_
  refine lv_iconst (v := (1 : Int32)) hx hb dL_nets_512 (by decide) ?_
  refine va_iast hx hb hK hP hD hS 0 0 rfl rfl (zk_lit (by decide +kernel)) dL_nets_513 (fun H locs hP hD hS => ?_)
  have hP : va_P D vwCl ((qv508, .inl (T 0, 1, .inl (upd (fun _ => (0 : Int32)) (0 : Int32).toNatClampNeg (1 : Int32)))) :: (ow T q o ++ ((q10, .inl (T 0, mm, .inl bf)) :: nwR T q3 mm pl q7 cA r M))) H := hP
  have hD : va_D A ((qv508, .inl (T 0, 1, .inl (upd (fun _ => (0 : Int32)) (0 : Int32).toNatClampNeg (1 : Int32)))) :: (ow T q o ++ ((q10, .inl (T 0, mm, .inl bf)) :: nwR T q3 mm pl q7 cA r M))) := hD
  obtain ⟨o2, (h2 : A_R 3000 o 1 (upd (fun _ => (0 : Int32)) (0 : Int32).toNatClampNeg (1 : Int32)) = some ((1 : Int32), o2)), B2⟩ := nh_run hB hKs hm hwho (v := (upd (fun _ => (0 : Int32)) (0 : Int32).toNatClampNeg (1 : Int32))) rfl
  refine lk_ask (ws' := []) (nL := 12) (rw_ := ((q10, .inl (T 0, mm, .inl bf)) :: nwR T q3 mm pl q7 cA r M)) (stk := []) (x := o) (o := ((1 : Int32), o2)) (fun sz => a_R l hst D T 3000 q qv508 sz o 1 (upd (fun _ => (0 : Int32)) (0 : Int32).toNatClampNeg (1 : Int32)) ((1 : Int32), o2) (h2)) ⟨hx, hb, hml, hown, hts⟩ (vx_cwSW 3 hts (ge_y gY_ask) rfl rfl rfl (by decide +kernel) ⟨(Nat.le_of_ble_eq_true rfl), (Nat.le_of_ble_eq_true rfl)⟩) hK hN hX hNc hS hA hP hD hl.1 (Nat.le_of_ble_eq_true rfl) dL_nets_514 ⟨(hRc (by omega)), (hRs (by omega))⟩ (fun H locs hP hD hS => ?_)
  have hP : va_P D vwCl (ow T q o2 ++ ((q10, .inl (T 0, mm, .inl bf)) :: nwR T q3 mm pl q7 cA r M)) H := hP
  have hD : va_D A (ow T q o2 ++ ((q10, .inl (T 0, mm, .inl bf)) :: nwR T q3 mm pl q7 cA r M)) := hD
  refine lv_iconst (v := (1 : Int32)) hx hb dL_nets_517 (by decide) ?_
  refine lv_icmp_ne (tgt := 560) hx hb dL_nets_518 (by decide) (fun c9 => absurd rfl c9) (fun _ => ?_)
  refine lv_aload_n hx hb dL_nets_521 rfl (lv_at hl 10 rfl) ?_
  refine lv_bipush (v := (108 : Int32)) hx hb dL_nets_522 (by decide) ?_
  refine lv_iconst (v := (1 : Int32)) hx hb dL_nets_524 (by decide) ?_
  refine lk_new (N' := 1) hx hb (hts _ ge_i) hK hP hD hS hA (by decide) (by decide +kernel) (Nat.le_of_ble_eq_true rfl) (hRc (by omega)) (hRs (by omega)) dL_nets_525 (fun qv525 H hP hD hS => ?_)
  refine lv_dup hx hb dL_nets_527 rfl ?_
  refine lv_iconst (v := (0 : Int32)) hx hb dL_nets_528 (by decide) ?_
  refine lv_aload_n hx hb dL_nets_529 rfl (lv_at hl 8 rfl) ?_
  refine lv_iload hx hb dL_nets_530 (lv_at hl 2 rfl) ?_
  refine va_iald hx hb hK hP 53 0 rfl rfl (vp_in_nI hwho (by omega)) dL_nets_532 ?_
  rw [show pl (nI who).toNatClampNeg = nI (pq who) by rw [nI_clamp (by omega)]; exact hpl who hwho]
  refine va_iast hx hb hK hP hD hS 0 0 rfl rfl (zk_lit (by decide +kernel)) dL_nets_533 (fun H locs hP hD hS => ?_)
  have hP : va_P D vwCl ((qv525, .inl (T 0, 1, .inl (upd (fun _ => (0 : Int32)) (0 : Int32).toNatClampNeg (nI (pq who))))) :: (ow T q o2 ++ ((q10, .inl (T 0, mm, .inl bf)) :: nwR T q3 mm pl q7 cA r M))) H := hP
  have hD : va_D A ((qv525, .inl (T 0, 1, .inl (upd (fun _ => (0 : Int32)) (0 : Int32).toNatClampNeg (nI (pq who))))) :: (ow T q o2 ++ ((q10, .inl (T 0, mm, .inl bf)) :: nwR T q3 mm pl q7 cA r M))) := hD
  have h3 := nr_l B2 hwho (v := (upd (fun _ => (0 : Int32)) (0 : Int32).toNatClampNeg (nI (pq who)))) rfl
  refine lk_ask (ws' := []) (nL := 12) (rw_ := ((q10, .inl (T 0, mm, .inl bf)) :: nwR T q3 mm pl q7 cA r M)) (stk := []) (x := o2) (o := ((1 : Int32), o2)) (fun sz => a_l l hst D T 3000 q qv525 sz o2 1 (upd (fun _ => (0 : Int32)) (0 : Int32).toNatClampNeg (nI (pq who))) ((1 : Int32), o2) (h3)) ⟨hx, hb, hml, hown, hts⟩ (vx_cwSW 3 hts (ge_y gY_ask) rfl rfl rfl (by decide +kernel) ⟨(Nat.le_of_ble_eq_true rfl), (Nat.le_of_ble_eq_true rfl)⟩) hK hN hX hNc hS hA hP hD hl.1 (Nat.le_of_ble_eq_true rfl) dL_nets_534 ⟨(hRc (by omega)), (hRs (by omega))⟩ (fun H locs hP hD hS => ?_)
  have hP : va_P D vwCl (ow T q o2 ++ ((q10, .inl (T 0, mm, .inl bf)) :: nwR T q3 mm pl q7 cA r M)) H := hP
  have hD : va_D A (ow T q o2 ++ ((q10, .inl (T 0, mm, .inl bf)) :: nwR T q3 mm pl q7 cA r M)) := hD
  refine lv_iconst (v := (1 : Int32)) hx hb dL_nets_537 (by decide) ?_
  refine lv_icmp_ne (tgt := 560) hx hb dL_nets_538 (by decide) (fun c9 => absurd rfl c9) (fun _ => ?_)
  refine lv_aload_n hx hb dL_nets_541 rfl (lv_at hl 10 rfl) ?_
  refine lv_bipush (v := (112 : Int32)) hx hb dL_nets_542 (by decide) ?_
  refine lv_iconst (v := (1 : Int32)) hx hb dL_nets_544 (by decide) ?_
  refine lk_new (N' := 1) hx hb (hts _ ge_i) hK hP hD hS hA (by decide) (by decide +kernel) (Nat.le_of_ble_eq_true rfl) (hRc (by omega)) (hRs (by omega)) dL_nets_545 (fun qv545 H hP hD hS => ?_)
  refine lv_dup hx hb dL_nets_547 rfl ?_
  refine lv_iconst (v := (0 : Int32)) hx hb dL_nets_548 (by decide) ?_
  refine lv_aload_n hx hb dL_nets_549 rfl (lv_at hl 8 rfl) ?_
  refine lv_iload hx hb dL_nets_550 (lv_at hl 2 rfl) ?_
  refine va_iald hx hb hK hP 53 0 rfl rfl (vp_in_nI hwho (by omega)) dL_nets_552 ?_
  rw [show pl (nI who).toNatClampNeg = nI (pq who) by rw [nI_clamp (by omega)]; exact hpl who hwho]
  refine va_iast hx hb hK hP hD hS 0 0 rfl rfl (zk_lit (by decide +kernel)) dL_nets_553 (fun H locs hP hD hS => ?_)
  have hP : va_P D vwCl ((qv545, .inl (T 0, 1, .inl (upd (fun _ => (0 : Int32)) (0 : Int32).toNatClampNeg (nI (pq who))))) :: (ow T q o2 ++ ((q10, .inl (T 0, mm, .inl bf)) :: nwR T q3 mm pl q7 cA r M))) H := hP
  have hD : va_D A ((qv545, .inl (T 0, 1, .inl (upd (fun _ => (0 : Int32)) (0 : Int32).toNatClampNeg (nI (pq who))))) :: (ow T q o2 ++ ((q10, .inl (T 0, mm, .inl bf)) :: nwR T q3 mm pl q7 cA r M))) := hD
  have h4 := nr_p B2 hwho (v := (upd (fun _ => (0 : Int32)) (0 : Int32).toNatClampNeg (nI (pq who)))) rfl
  refine lk_ask (ws' := []) (nL := 12) (rw_ := ((q10, .inl (T 0, mm, .inl bf)) :: nwR T q3 mm pl q7 cA r M)) (stk := []) (x := o2) (o := ((0 : Int32), o2)) (fun sz => a_p l hst D T 3000 q qv545 sz o2 1 (upd (fun _ => (0 : Int32)) (0 : Int32).toNatClampNeg (nI (pq who))) ((0 : Int32), o2) (h4)) ⟨hx, hb, hml, hown, hts⟩ (vx_cwSW 3 hts (ge_y gY_ask) rfl rfl rfl (by decide +kernel) ⟨(Nat.le_of_ble_eq_true rfl), (Nat.le_of_ble_eq_true rfl)⟩) hK hN hX hNc hS hA hP hD hl.1 (Nat.le_of_ble_eq_true rfl) dL_nets_554 ⟨(hRc (by omega)), (hRs (by omega))⟩ (fun H locs hP hD hS => ?_)
  have hP : va_P D vwCl (ow T q o2 ++ ((q10, .inl (T 0, mm, .inl bf)) :: nwR T q3 mm pl q7 cA r M)) H := hP
  have hD : va_D A (ow T q o2 ++ ((q10, .inl (T 0, mm, .inl bf)) :: nwR T q3 mm pl q7 cA r M)) := hD
  refine lv_if_eq (tgt := 562) hx hb dL_nets_557 (by decide) (fun _ => ?_) (fun c9 => absurd rfl c9)
  refine lv_iconst (v := nI 0) hx hb dL_nets_562 (by decide) ?_
  refine lv_istore (lv' := [(11, .int (nI 0)), (10, .ref q10), (9, .int (nI who)), (8, .int (nI cn)), (7, .ref q7), (6, .int (nI w)), (5, .int (nI K)), (4, .int (nI 0)), (3, .ref q3), (2, .int (nI mm)), (1, .ref (q 0)), (0, .ref b)]) hx hb dL_nets_563 hl (by decide) rfl (fun ls hl => ?_)
  exact nets_565 hst hx hb hml hown hts hA hK hN hX hNc hm2 hm hcb hsb hK2 hKs hwho hM hbf hpl B2 (fun H locs ls cells slots hc hs hP hD hS hl => kk o2 H locs ls cells slots (nr_ng B2) hc hs hP hD hS hl) mm 0 _ _ _ _ _ (by omega) (by omega) (by omega) hP hD hS hl

/-! rows of mine: nets: its places -/
def sN (v : Int32) (n : Nat) : Nat := (smv v (nI n)).toNatClampNeg
theorem sN_eq {n : Nat} (h1 : 1 ≤ n) (h2 : n < 2 ^ 30) (v : Int32) : smv v (nI n) = nI (sN v n) ∧ sN v n < n := by
  obtain ⟨k, hk, e⟩ := smv_nI h1 h2 v
  have e2 : sN v n = k := by unfold sN; rw [e, nI_clamp (by omega)]
  rw [e2]
  exact ⟨e, hk⟩
/-- the places that the script names -/
def npq (L : Nat) (xs : Nat → Int32) : Nat → Nat
  | 0 => sN (atv L xs (nI 1)) 2
  | k + 1 => npq L xs k + 1 + sN (atv L xs (nI (1 + (k + 1)))) 2 * (if npq L xs k < 6 then 1 else 0)
theorem npq_s {L : Nat} {xs : Nat → Int32} (k : Nat) : npq L xs k + 1 ≤ npq L xs (k + 1) ∧ npq L xs (k + 1) ≤ npq L xs k + 2 := by
  have h := (sN_eq (n := 2) (by omega) (by omega) (atv L xs (nI (1 + (k + 1))))).2
  show npq L xs k + 1 ≤ npq L xs k + 1 + _ ∧ npq L xs k + 1 + _ ≤ _
  generalize sN (atv L xs (nI (1 + (k + 1)))) 2 = z at h
  by_cases w : npq L xs k < 6
  · rw [if_pos w]; omega
  · rw [if_neg w]; omega
theorem npq_le {L : Nat} {xs : Nat → Int32} : ∀ k, npq L xs k ≤ 2 * k + 1
  | 0 => by
    have h := (sN_eq (n := 2) (by omega) (by omega) (atv L xs (nI 1))).2
    show sN _ 2 ≤ _
    omega
  | k + 1 => by
    have := (npq_s (L := L) (xs := xs) k).2
    have := npq_le (L := L) (xs := xs) k
    omega
theorem npq_lt {L : Nat} {xs : Nat → Int32} (i : Nat) : ∀ j, i < j → npq L xs i < npq L xs j
  | 0, h => by omega
  | j + 1, h => by
    have h1 := (npq_s (L := L) (xs := xs) j).1
    by_cases w : i = j
    · rw [w]; omega
    · have := npq_lt (L := L) (xs := xs) i j (by omega)
      omega
set_option maxHeartbeats 8000000 in
set_option maxRecDepth 100000 in
theorem nets_34 {p : Program} {l : Launch} {e : Env} {s : State} {m : MethodId} {args : Array Value} {below : List Frame} {meth : Method} {c : Code} {Q : State → Prop} {A : Nat → Prop} {D : va_G} {T : Nat → ClassId} {q : Nat → Nat} {b mm cb sb : Nat} {pq : Nat → Nat} (hst : l.stackTraces = false) (hx : p.tables.exec = Jvm.exec) (hb : c.code = cL_nets) (hml : c.maxLocals = 12) (hown : s.vm.findClass RL = some m.cls) (hts : ∀ w ∈ ws_ne, w.before args s = true) (hA : ∀ q : Nat, s.heap.size ≤ q → A q) (hK : va_K D vwCl (zk_ty T) s) (hN : zk_N s) (hX : zx_K A s s.heap) (hNc : zn_K s) (hm2 : 2 ≤ mm) (hm : mm < 9) (hcb : cb ≤ 30000) (hsb : sb ≤ 200000) {L : Nat} {xs : Nat → Int32} (hL : L ≤ 260) (hXs : va_X b L xs s s.heap) (hbl : b < s.heap.size) (hbA : ¬ A b) {q3 k : Nat} {pl : Nat → Int32} {o : Ob} (hk : k < mm) (hpl : ∀ i, i < k → pl i = nI (npq L xs i)) {H : Heap} {locs : List Loc} {ls : Array Slot} {cells slots : Nat} (hc : cells ≤ 30000) (hs : slots ≤ 200000) (hP : va_P D vwCl (ow T q o ++ [(q3, .inl (T 0, mm, .inl pl))]) H) (hD : va_D A (ow T q o ++ [(q3, .inl (T 0, mm, .inl pl))])) (hS : va_S A s.heap H locs) (hl : lv_has ls 12 [(4, .int (nI k)), (3, .ref q3), (2, .int (nI mm)), (1, .ref (q 0)), (0, .ref b)]) (kk : ∀ (H : Heap) (locs : List Loc), va_P D vwCl (ow T q o ++ [(q3, .inl (T 0, mm, .inl pl))]) H → va_D A (ow T q o ++ [(q3, .inl (T 0, mm, .inl pl))]) → va_S A s.heap H locs → W p l e ({ frames := 14, cells := 30000, slots := 200000, locals := 320 } : Room) s m args below meth c H locs cells slots Q (F0 m 92 ls [.int (nI (npq L xs k)), .int (nI k), .ref q3])) : W p l e ({ frames := 14, cells := 30000, slots := 200000, locals := 320 } : Room) s m args below meth c H locs cells slots Q (F0 m 34 ls []) := by
  have hRc : ∀ {x : Nat}, x ≤ 30000 → x ≤ ({ frames := 14, cells := 30000, slots := 200000, locals := 320 } : Room).cells := fun h => h
  have hRs : ∀ {x : Nat}, x ≤ 200000 → x ≤ ({ frames := 14, cells := 30000, slots := 200000, locals := 320 } : Room).slots := fun h => h
  refine lv_aload_n hx hb dL_nets_34 rfl (lv_at hl 1 rfl) ?_
  refine lv_iload hx hb dL_nets_35 (lv_at hl 0 rfl) ?_
  refine lv_iload hx hb dL_nets_37 (lv_at hl 0 rfl) ?_
  cases k with
  | zero =>
    refine lv_if_ne (tgt := 54) hx hb dL_nets_39 (by decide) (fun c9 => absurd rfl c9) (fun _ => ?_)
    refine lv_aload_n hx hb dL_nets_42 rfl (lv_at hl 4 rfl) ?_
    refine lv_iconst (v := (1 : Int32)) hx hb dL_nets_43 (by decide) ?_
    refine lk_pure (mc := 0) (ms := 0) (nL := 12) (As := [.ref b, .int (nI 1)]) (stk := [.int (nI 0), .ref q3]) ⟨rfl, rfl⟩ (fun sz => k_L_at l D T b L xs sz (nI 1) (fun h => atv_in hL (show (0 : Int32) ≤ nI 1 by decide) h)) ⟨hx, hb, hml, hown, hts⟩ (va_cwS 2 hts (ge_y gY_at) rfl rfl rfl (by decide +kernel) ⟨(Nat.le_of_ble_eq_true rfl), (Nat.le_of_ble_eq_true rfl)⟩) hK hN hX hNc hS hA hXs hbl hbA hP hD rfl rfl hl.1 (Nat.le_of_ble_eq_true rfl) dL_nets_44 ⟨(hRc (by omega)), (hRs (by omega))⟩ (fun H locs hP hD hS => ?_)
    refine lv_iconst (v := (2 : Int32)) hx hb dL_nets_47 (by decide) ?_
    have es := sN_eq (n := 2) (by omega) (by omega) (atv L xs (nI 1))
    have es : smv (atv L xs (nI 1)) (2 : Int32) = nI (sN (atv L xs (nI 1)) 2) ∧ (sN (atv L xs (nI 1)) 2) < 2 := es
    refine lk_pure (mc := 0) (ms := 0) (nL := 12) (As := [.int (atv L xs (nI 1)), .int (2 : Int32)]) (stk := [.int (nI 0), .ref q3]) ⟨rfl, rfl⟩ (fun sz => k_L_some l D T b L xs sz (atv L xs (nI 1)) (2 : Int32) (by decide)) ⟨hx, hb, hml, hown, hts⟩ (va_cwS 2 hts (ge_y gY_some) rfl rfl rfl (by decide +kernel) ⟨(Nat.le_of_ble_eq_true rfl), (Nat.le_of_ble_eq_true rfl)⟩) hK hN hX hNc hS hA hXs hbl hbA hP hD rfl rfl hl.1 (Nat.le_of_ble_eq_true rfl) dL_nets_48 ⟨(hRc (by omega)), (hRs (by omega))⟩ (fun H locs hP hD hS => ?_)
    rw [es.1]
    refine lv_goto (tgt := 92) hx hb dL_nets_51 (by decide) ?_
    exact kk H locs hP hD hS
  | succ j =>
    refine lv_if_ne (tgt := 54) hx hb dL_nets_39 (by decide) (fun _ => ?_) (fun c9 => absurd ((nI_eq (b := 0) (by omega) (by omega)).mp c9) (by omega))
    have hq9 := npq_le (L := L) (xs := xs) j
    refine lv_aload_n hx hb dL_nets_54 rfl (lv_at hl 1 rfl) ?_
    refine lv_iload hx hb dL_nets_55 (lv_at hl 0 rfl) ?_
    refine lv_iconst (v := (1 : Int32)) hx hb dL_nets_57 (by decide) ?_
    refine lv_isub hx hb dL_nets_58 ?_
    rw [nI_p1 (by omega), show j + 1 - 1 = j from rfl]
    refine va_iald hx hb hK hP 51 0 rfl rfl (vp_in_nI (show j < mm by omega) (by omega)) dL_nets_59 ?_
    rw [show pl (nI j).toNatClampNeg = nI (npq L xs j) by rw [nI_clamp (by omega)]; exact hpl j (by omega)]
    refine lv_iconst (v := (1 : Int32)) hx hb dL_nets_60 (by decide) ?_
    refine lv_iadd hx hb dL_nets_61 ?_
    rw [nI_1]
    refine lv_aload_n hx hb dL_nets_62 rfl (lv_at hl 4 rfl) ?_
    refine lv_iconst (v := (1 : Int32)) hx hb dL_nets_63 (by decide) ?_
    refine lv_iload hx hb dL_nets_64 (lv_at hl 0 rfl) ?_
    refine lv_iadd hx hb dL_nets_66 ?_
    rw [show (1 : Int32) + nI (j + 1) = nI (1 + (j + 1)) by rw [show (1 : Int32) = nI 1 from rfl, nI_add]]
    refine lk_pure (mc := 0) (ms := 0) (nL := 12) (As := [.ref b, .int (nI (1 + (j + 1)))]) (stk := [.int (nI (npq L xs j + 1)), .int (nI (j + 1)), .ref q3]) ⟨rfl, rfl⟩ (fun sz => k_L_at l D T b L xs sz (nI (1 + (j + 1))) (fun h => atv_in hL (nI_le (a := 0) (Nat.zero_le _) (by omega)) h)) ⟨hx, hb, hml, hown, hts⟩ (va_cwS 2 hts (ge_y gY_at) rfl rfl rfl (by decide +kernel) ⟨(Nat.le_of_ble_eq_true rfl), (Nat.le_of_ble_eq_true rfl)⟩) hK hN hX hNc hS hA hXs hbl hbA hP hD rfl rfl hl.1 (Nat.le_of_ble_eq_true rfl) dL_nets_67 ⟨(hRc (by omega)), (hRs (by omega))⟩ (fun H locs hP hD hS => ?_)
    refine lv_iconst (v := (2 : Int32)) hx hb dL_nets_70 (by decide) ?_
    have es := sN_eq (n := 2) (by omega) (by omega) (atv L xs (nI (1 + (j + 1))))
    have es : smv (atv L xs (nI (1 + (j + 1)))) (2 : Int32) = nI (sN (atv L xs (nI (1 + (j + 1)))) 2) ∧ (sN (atv L xs (nI (1 + (j + 1)))) 2) < 2 := es
    refine lk_pure (mc := 0) (ms := 0) (nL := 12) (As := [.int (atv L xs (nI (1 + (j + 1)))), .int (2 : Int32)]) (stk := [.int (nI (npq L xs j + 1)), .int (nI (j + 1)), .ref q3]) ⟨rfl, rfl⟩ (fun sz => k_L_some l D T b L xs sz (atv L xs (nI (1 + (j + 1)))) (2 : Int32) (by decide)) ⟨hx, hb, hml, hown, hts⟩ (va_cwS 2 hts (ge_y gY_some) rfl rfl rfl (by decide +kernel) ⟨(Nat.le_of_ble_eq_true rfl), (Nat.le_of_ble_eq_true rfl)⟩) hK hN hX hNc hS hA hXs hbl hbA hP hD rfl rfl hl.1 (Nat.le_of_ble_eq_true rfl) dL_nets_71 ⟨(hRc (by omega)), (hRs (by omega))⟩ (fun H locs hP hD hS => ?_)
    rw [es.1]
    have hz2 := es.2
    refine lv_aload_n hx hb dL_nets_74 rfl (lv_at hl 1 rfl) ?_
    refine lv_iload hx hb dL_nets_75 (lv_at hl 0 rfl) ?_
    refine lv_iconst (v := (1 : Int32)) hx hb dL_nets_77 (by decide) ?_
    refine lv_isub hx hb dL_nets_78 ?_
    rw [nI_p1 (by omega), show j + 1 - 1 = j from rfl]
    refine va_iald hx hb hK hP 51 0 rfl rfl (vp_in_nI (show j < mm by omega) (by omega)) dL_nets_79 ?_
    rw [show pl (nI j).toNatClampNeg = nI (npq L xs j) by rw [nI_clamp (by omega)]; exact hpl j (by omega)]
    refine lv_bipush (v := (6 : Int32)) hx hb dL_nets_80 (by decide) ?_
    refine lv_icmp_ge (tgt := 89) hx hb dL_nets_82 (by decide) (fun c9 => ?_) (fun c9 => ?_)
    · have w9 : ¬ npq L xs j < 6 := fun w => absurd c9 (nI_ge (b := 6) w (by omega))
      refine lv_iconst (v := (0 : Int32)) hx hb dL_nets_89 (by decide) ?_
      refine lv_imul hx hb dL_nets_90 ?_
      refine lv_iadd hx hb dL_nets_91 ?_
      have e9 : npq L xs (j + 1) = npq L xs j + 1 + sN (atv L xs (nI (1 + (j + 1)))) 2 * 0 := by show npq L xs j + 1 + _ * (if npq L xs j < 6 then 1 else 0) = _; rw [if_neg w9]
      rw [show nI (npq L xs j + 1) + nI (sN (atv L xs (nI (1 + (j + 1)))) 2) * (0 : Int32) = nI (npq L xs (j + 1)) by rw [e9, show (0 : Int32) = nI 0 from rfl, pk_mul, nI_add]]
      exact kk H locs hP hD hS
    · have w9 : npq L xs j < 6 := Nat.lt_of_not_le (fun w => c9 (nI_le (a := 6) w (by omega)))
      refine lv_iconst (v := (1 : Int32)) hx hb dL_nets_85 (by decide) ?_
      refine lv_goto (tgt := 90) hx hb dL_nets_86 (by decide) ?_
      refine lv_imul hx hb dL_nets_90 ?_
      refine lv_iadd hx hb dL_nets_91 ?_
      have e9 : npq L xs (j + 1) = npq L xs j + 1 + sN (atv L xs (nI (1 + (j + 1)))) 2 * 1 := by show npq L xs j + 1 + _ * (if npq L xs j < 6 then 1 else 0) = _; rw [if_pos w9]
      rw [show nI (npq L xs j + 1) + nI (sN (atv L xs (nI (1 + (j + 1)))) 2) * (1 : Int32) = nI (npq L xs (j + 1)) by rw [e9, show (1 : Int32) = nI 1 from rfl, pk_mul, nI_add]]
      exact kk H locs hP hD hS
set_option maxHeartbeats 8000000 in
set_option maxRecDepth 100000 in
theorem nets_28 {p : Program} {l : Launch} {e : Env} {s : State} {m : MethodId} {args : Array Value} {below : List Frame} {meth : Method} {c : Code} {Q : State → Prop} {A : Nat → Prop} {D : va_G} {T : Nat → ClassId} {q : Nat → Nat} {b mm cb sb : Nat} {pq : Nat → Nat} (hst : l.stackTraces = false) (hx : p.tables.exec = Jvm.exec) (hb : c.code = cL_nets) (hml : c.maxLocals = 12) (hown : s.vm.findClass RL = some m.cls) (hts : ∀ w ∈ ws_ne, w.before args s = true) (hA : ∀ q : Nat, s.heap.size ≤ q → A q) (hK : va_K D vwCl (zk_ty T) s) (hN : zk_N s) (hX : zx_K A s s.heap) (hNc : zn_K s) (hm2 : 2 ≤ mm) (hm : mm < 9) (hcb : cb ≤ 30000) (hsb : sb ≤ 200000) {L : Nat} {xs : Nat → Int32} (hL : L ≤ 260) (hXs : va_X b L xs s s.heap) (hbl : b < s.heap.size) (hbA : ¬ A b) {q3 : Nat} (kk : ∀ (o : Ob) (H : Heap) (locs : List Loc) (ls : Array Slot) (cells slots : Nat) (pl : Nat → Int32), (∀ i, i < mm → pl i = nI (npq L xs i)) → NB mm (npq L xs) o → cells ≤ cb → slots ≤ sb → va_P D vwCl (ow T q o ++ [(q3, .inl (T 0, mm, .inl pl))]) H → va_D A (ow T q o ++ [(q3, .inl (T 0, mm, .inl pl))]) → va_S A s.heap H locs → lv_has ls 12 [(4, .int (nI mm)), (3, .ref q3), (2, .int (nI mm)), (1, .ref (q 0)), (0, .ref b)] → W p l e ({ frames := 14, cells := 30000, slots := 200000, locals := 320 } : Room) s m args below meth c H locs cells slots Q (F0 m 133 ls [])) : ∀ (j k : Nat) (o : Ob) (H : Heap) (locs : List Loc) (ls : Array Slot) (cells slots : Nat) (pl : Nat → Int32), k + j = mm → (∀ i, i < k → pl i = nI (npq L xs i)) → NB k (npq L xs) o → cells + j * 6 ≤ cb → slots + j * 34 ≤ sb → va_P D vwCl (ow T q o ++ [(q3, .inl (T 0, mm, .inl pl))]) H → va_D A (ow T q o ++ [(q3, .inl (T 0, mm, .inl pl))]) → va_S A s.heap H locs → lv_has ls 12 [(4, .int (nI k)), (3, .ref q3), (2, .int (nI mm)), (1, .ref (q 0)), (0, .ref b)] → W p l e ({ frames := 14, cells := 30000, slots := 200000, locals := 320 } : Room) s m args below meth c H locs cells slots Q (F0 m 28 ls [])
  | 0, k, o, H, locs, ls, cells, slots, pl, hn, hpl, hB, hc, hs, hP, hD, hS, hl => by
    obtain rfl : k = mm := by omega
    refine lv_iload hx hb dL_nets_28 (lv_at hl 0 rfl) ?_
    refine lv_iload_n hx hb dL_nets_30 rfl (lv_at hl 2 rfl) ?_
    exact lv_icmp_ge (tgt := 133) hx hb dL_nets_31 (by decide) (fun _ => kk o H locs ls cells slots pl hpl hB (by omega) (by omega) hP hD hS hl) (fun c9 => absurd (nI_le (Nat.le_refl _) (by omega)) c9)
  | j + 1, k, o, H, locs, ls, cells, slots, pl, hn, hpl, hB, hc, hs, hP, hD, hS, hl => by
    have hRc : ∀ {x : Nat}, x ≤ 30000 → x ≤ ({ frames := 14, cells := 30000, slots := 200000, locals := 320 } : Room).cells := fun h => h
    have hRs : ∀ {x : Nat}, x ≤ 200000 → x ≤ ({ frames := 14, cells := 30000, slots := 200000, locals := 320 } : Room).slots := fun h => h
    have hk : k < mm := by omega
    refine lv_iload hx hb dL_nets_28 (lv_at hl 0 rfl) ?_
    refine lv_iload_n hx hb dL_nets_30 rfl (lv_at hl 2 rfl) ?_
    refine lv_icmp_ge (tgt := 133) hx hb dL_nets_31 (by decide) (fun c9 => absurd c9 (nI_ge hk (by omega))) (fun _ => ?_)
    refine nets_34 (cb := cb) (sb := sb) (pq := pq) hst hx hb hml hown hts hA hK hN hX hNc hm2 hm hcb hsb hL hXs hbl hbA hk hpl (by omega) (by omega) hP hD hS hl (fun H locs hP hD hS => ?_)
    refine va_iast hx hb hK hP hD hS 51 0 rfl rfl (vp_in_nI hk (by omega)) dL_nets_92 (fun H locs hP hD hS => ?_)
    rw [nI_clamp (by omega)] at hP hD
    have hpl2 : ∀ i, i < k + 1 → upd pl k (nI (npq L xs k)) i = nI (npq L xs i) := fun i hi => by
      unfold upd
      by_cases w9 : i = k
      · rw [if_pos w9, w9]
      · rw [if_neg w9]; exact hpl i (by omega)
    have hP : va_P D vwCl (ow T q o ++ [(q3, .inl (T 0, mm, .inl (upd pl k (nI (npq L xs k)))))]) H := hP
    have hD : va_D A (ow T q o ++ [(q3, .inl (T 0, mm, .inl (upd pl k (nI (npq L xs k)))))]) := hD
    generalize upd pl k (nI (npq L xs k)) = pl at hP hD hpl2
    refine lv_aload_n hx hb dL_nets_93 rfl (lv_at hl 3 rfl) ?_
    refine lv_bipush (v := (66 : Int32)) hx hb dL_nets_94 (by decide) ?_
    refine lv_iconst (v := (4 : Int32)) hx hb dL_nets_96 (by decide) ?_
    refine lk_new (N' := 4) hx hb (hts _ ge_i) hK hP hD hS hA (by decide) (by decide +kernel) (Nat.le_of_ble_eq_true rfl) (hRc (by omega)) (hRs (by omega)) dL_nets_97 (fun qv97 H hP hD hS => ?_)
    refine lv_dup hx hb dL_nets_99 rfl ?_
    refine lv_iconst (v := (0 : Int32)) hx hb dL_nets_100 (by decide) ?_
    refine lv_aload_n hx hb dL_nets_101 rfl (lv_at hl 1 rfl) ?_
    refine lv_iload hx hb dL_nets_102 (lv_at hl 0 rfl) ?_
    refine va_iald hx hb hK hP 52 0 rfl rfl (vp_in_nI hk (by omega)) dL_nets_104 ?_
    rw [show pl (nI k).toNatClampNeg = nI (npq L xs k) by rw [nI_clamp (by omega)]; exact hpl2 k (by omega)]
    refine va_iast hx hb hK hP hD hS 0 0 rfl rfl (zk_lit (by decide +kernel)) dL_nets_105 (fun H locs hP hD hS => ?_)
    have hP : va_P D vwCl ((qv97, .inl (T 0, 4, .inl (upd (fun _ => (0 : Int32)) (0 : Int32).toNatClampNeg (nI (npq L xs k))))) :: (ow T q o ++ [(q3, .inl (T 0, mm, .inl pl))])) H := hP
    have hD : va_D A ((qv97, .inl (T 0, 4, .inl (upd (fun _ => (0 : Int32)) (0 : Int32).toNatClampNeg (nI (npq L xs k))))) :: (ow T q o ++ [(q3, .inl (T 0, mm, .inl pl))])) := hD
    refine lv_dup hx hb dL_nets_106 rfl ?_
    refine lv_iconst (v := (1 : Int32)) hx hb dL_nets_107 (by decide) ?_
    refine lv_bipush (v := (90 : Int32)) hx hb dL_nets_108 (by decide) ?_
    refine va_iast hx hb hK hP hD hS 0 0 rfl rfl (zk_lit (by decide +kernel)) dL_nets_110 (fun H locs hP hD hS => ?_)
    have hP : va_P D vwCl ((qv97, .inl (T 0, 4, .inl (upd (upd (fun _ => (0 : Int32)) (0 : Int32).toNatClampNeg (nI (npq L xs k))) (1 : Int32).toNatClampNeg (90 : Int32)))) :: (ow T q o ++ [(q3, .inl (T 0, mm, .inl pl))])) H := hP
    have hD : va_D A ((qv97, .inl (T 0, 4, .inl (upd (upd (fun _ => (0 : Int32)) (0 : Int32).toNatClampNeg (nI (npq L xs k))) (1 : Int32).toNatClampNeg (90 : Int32)))) :: (ow T q o ++ [(q3, .inl (T 0, mm, .inl pl))])) := hD
    refine lv_dup hx hb dL_nets_111 rfl ?_
    refine lv_iconst (v := (2 : Int32)) hx hb dL_nets_112 (by decide) ?_
    refine lv_iconst (v := (0 : Int32)) hx hb dL_nets_113 (by decide) ?_
    refine va_iast hx hb hK hP hD hS 0 0 rfl rfl (zk_lit (by decide +kernel)) dL_nets_114 (fun H locs hP hD hS => ?_)
    have hP : va_P D vwCl ((qv97, .inl (T 0, 4, .inl (upd (upd (upd (fun _ => (0 : Int32)) (0 : Int32).toNatClampNeg (nI (npq L xs k))) (1 : Int32).toNatClampNeg (90 : Int32)) (2 : Int32).toNatClampNeg (0 : Int32)))) :: (ow T q o ++ [(q3, .inl (T 0, mm, .inl pl))])) H := hP
    have hD : va_D A ((qv97, .inl (T 0, 4, .inl (upd (upd (upd (fun _ => (0 : Int32)) (0 : Int32).toNatClampNeg (nI (npq L xs k))) (1 : Int32).toNatClampNeg (90 : Int32)) (2 : Int32).toNatClampNeg (0 : Int32)))) :: (ow T q o ++ [(q3, .inl (T 0, mm, .inl pl))])) := hD
    refine lv_dup hx hb dL_nets_115 rfl ?_
    refine lv_iconst (v := (3 : Int32)) hx hb dL_nets_116 (by decide) ?_
    refine lv_iconst (v := (0 : Int32)) hx hb dL_nets_117 (by decide) ?_
    refine va_iast hx hb hK hP hD hS 0 0 rfl rfl (zk_lit (by decide +kernel)) dL_nets_118 (fun H locs hP hD hS => ?_)
    have hP : va_P D vwCl ((qv97, .inl (T 0, 4, .inl (upd (upd (upd (upd (fun _ => (0 : Int32)) (0 : Int32).toNatClampNeg (nI (npq L xs k))) (1 : Int32).toNatClampNeg (90 : Int32)) (2 : Int32).toNatClampNeg (0 : Int32)) (3 : Int32).toNatClampNeg (0 : Int32)))) :: (ow T q o ++ [(q3, .inl (T 0, mm, .inl pl))])) H := hP
    have hD : va_D A ((qv97, .inl (T 0, 4, .inl (upd (upd (upd (upd (fun _ => (0 : Int32)) (0 : Int32).toNatClampNeg (nI (npq L xs k))) (1 : Int32).toNatClampNeg (90 : Int32)) (2 : Int32).toNatClampNeg (0 : Int32)) (3 : Int32).toNatClampNeg (0 : Int32)))) :: (ow T q o ++ [(q3, .inl (T 0, mm, .inl pl))])) := hD
    have hqk := npq_le (L := L) (xs := xs) k
    obtain ⟨o2, (h2 : A_B 3000 o 4 (upd (upd (upd (upd (fun _ => (0 : Int32)) (0 : Int32).toNatClampNeg (nI (npq L xs k))) (1 : Int32).toNatClampNeg (90 : Int32)) (2 : Int32).toNatClampNeg (0 : Int32)) (3 : Int32).toNatClampNeg (0 : Int32)) = some ((0 : Int32), o2)), B2⟩ := nb_step hB (fun i hi => npq_lt i k hi) (by omega) (v := (upd (upd (upd (upd (fun _ => (0 : Int32)) (0 : Int32).toNatClampNeg (nI (npq L xs k))) (1 : Int32).toNatClampNeg (90 : Int32)) (2 : Int32).toNatClampNeg (0 : Int32)) (3 : Int32).toNatClampNeg (0 : Int32))) rfl rfl rfl rfl
    refine lk_ask (ws' := []) (nL := 12) (rw_ := [(q3, .inl (T 0, mm, .inl pl))]) (stk := []) (x := o) (o := ((0 : Int32), o2)) (fun sz => a_B l hst D T 3000 q qv97 sz o 4 (upd (upd (upd (upd (fun _ => (0 : Int32)) (0 : Int32).toNatClampNeg (nI (npq L xs k))) (1 : Int32).toNatClampNeg (90 : Int32)) (2 : Int32).toNatClampNeg (0 : Int32)) (3 : Int32).toNatClampNeg (0 : Int32)) ((0 : Int32), o2) (h2)) ⟨hx, hb, hml, hown, hts⟩ (vx_cwSW 3 hts (ge_y gY_ask) rfl rfl rfl (by decide +kernel) ⟨(Nat.le_of_ble_eq_true rfl), (Nat.le_of_ble_eq_true rfl)⟩) hK hN hX hNc hS hA hP hD hl.1 (Nat.le_of_ble_eq_true rfl) dL_nets_119 ⟨(hRc (by omega)), (hRs (by omega))⟩ (fun H locs hP hD hS => ?_)
    have hP : va_P D vwCl (ow T q o2 ++ [(q3, .inl (T 0, mm, .inl pl))]) H := hP
    have hD : va_D A (ow T q o2 ++ [(q3, .inl (T 0, mm, .inl pl))]) := hD
    refine lv_if_eq (tgt := 127) hx hb dL_nets_122 (by decide) (fun _ => ?_) (fun c9 => absurd rfl c9)
    refine lv_iinc (v := (nI k) + (1 : Int32)) (lv' := [(4, .int ((nI k) + (1 : Int32))), (3, .ref q3), (2, .int (nI mm)), (1, .ref (q 0)), (0, .ref b)]) hx hb dL_nets_127 hl (k := 0) rfl rfl (by decide) rfl (fun ls hl => ?_)
    rw [nI_1] at hl
    refine lv_goto (tgt := 28) hx hb dL_nets_130 (by decide) ?_
    exact nets_28 (pq := pq) hst hx hb hml hown hts hA hK hN hX hNc hm2 hm hcb hsb hL hXs hbl hbA kk j (k + 1) o2 _ _ _ _ _ pl (by omega) hpl2 B2 (by omega) (by omega) hP hD hS hl

/-! rows of mine: nets -/
theorem ne_drop {D : va_G} {H : Heap} {a z : va_W} {x y : Nat × va_E} (h : va_P D vwCl (a ++ x :: y :: z) H) : va_P D vwCl (a ++ [y]) H := lk_left (b := x :: z) (lk_perm (by rw [List.append_assoc]; exact (List.Perm.swap y x z).append_left a) h)
theorem ne_dropD {A : Nat → Prop} {a z : va_W} {x y : Nat × va_E} (h : va_D A (a ++ x :: y :: z)) : va_D A (a ++ [y]) := lk_leftD (b := x :: z) (lk_permD (by rw [List.append_assoc]; exact (List.Perm.swap y x z).append_left a) h)
theorem ch_ks {k : Nat} (hk : k < 4) : nKs (chK k) := by
  unfold nKs chK
  rcases (by omega : k = 0 ∨ k = 1 ∨ k = 2 ∨ k = 3) with rfl | rfl | rfl | rfl
  · exact Or.inl rfl
  · exact Or.inr (Or.inl rfl)
  · exact Or.inr (Or.inr (Or.inl rfl))
  · exact Or.inr (Or.inr (Or.inr rfl))
theorem ne_f {E : va_E} {l : List Nat} : vr_up (fun _ => E) l E = fun _ => E := by
  funext a
  unfold vr_up
  exact ite_self _
set_option maxHeartbeats 8000000 in
set_option maxRecDepth 100000 in
theorem nets_136 {p : Program} {l : Launch} {e : Env} {s : State} {m : MethodId} {args : Array Value} {below : List Frame} {meth : Method} {c : Code} {Q : State → Prop} {A : Nat → Prop} {D : va_G} {T : Nat → ClassId} {q : Nat → Nat} {b mm cb sb : Nat} {pq : Nat → Nat} (hst : l.stackTraces = false) (hx : p.tables.exec = Jvm.exec) (hb : c.code = cL_nets) (hml : c.maxLocals = 12) (hown : s.vm.findClass RL = some m.cls) (hts : ∀ w ∈ ws_ne, w.before args s = true) (hA : ∀ q : Nat, s.heap.size ≤ q → A q) (hK : va_K D vwCl (zk_ty T) s) (hN : zk_N s) (hX : zx_K A s s.heap) (hNc : zn_K s) (hm2 : 2 ≤ mm) (hm : mm < 9) (hcb : cb ≤ 30000) (hsb : sb ≤ 200000) {L : Nat} {xs : Nat → Int32} (hL : L ≤ 260) (hXs : va_X b L xs s s.heap) (hbl : b < s.heap.size) (hbA : ¬ A b) {ad vl : Nat} (hZ : ns_K ad vl A s s.heap) (hAO : va_AOA .boolean s) {q3 : Nat} {pl : Nat → Int32} (hpl : ∀ i, i < mm → pl i = nI (pq i)) (kk : ∀ (o : Ob) (H : Heap) (locs : List Loc) (ls : Array Slot) (cells slots : Nat), NG false mm pq o → cells ≤ cb → slots ≤ sb → va_P D vwCl (ow T q o ++ [(q3, .inl (T 0, mm, .inl pl))]) H → va_D A (ow T q o ++ [(q3, .inl (T 0, mm, .inl pl))]) → va_S A s.heap H locs → lv_has ls 12 [(4, .int (nI 5)), (3, .ref q3), (2, .int (nI mm)), (1, .ref (q 0)), (0, .ref b)] → W p l e ({ frames := 14, cells := 30000, slots := 200000, locals := 320 } : Room) s m args below meth c H locs cells slots Q (F0 m 632 ls [])) : ∀ (j go : Nat) (o : Ob) (H : Heap) (locs : List Loc) (ls : Array Slot) (cells slots : Nat), go + j = 5 → NG (decide (go = 0)) mm pq o → cells + j * 150 ≤ cb → slots + j * 758 ≤ sb → va_P D vwCl (ow T q o ++ [(q3, .inl (T 0, mm, .inl pl))]) H → va_D A (ow T q o ++ [(q3, .inl (T 0, mm, .inl pl))]) → va_S A s.heap H locs → lv_has ls 12 [(4, .int (nI go)), (3, .ref q3), (2, .int (nI mm)), (1, .ref (q 0)), (0, .ref b)] → W p l e ({ frames := 14, cells := 30000, slots := 200000, locals := 320 } : Room) s m args below meth c H locs cells slots Q (F0 m 136 ls [])
  | 0, go, o, H, locs, ls, cells, slots, hn, hG, hc, hs, hP, hD, hS, hl => by
    obtain rfl : go = 5 := by omega
    refine lv_iload hx hb dL_nets_136 (lv_at hl 0 rfl) ?_
    refine lv_iconst (v := nI 5) hx hb dL_nets_138 (by decide) ?_
    exact lv_icmp_ge (tgt := 632) hx hb dL_nets_139 (by decide) (fun _ => kk o H locs ls cells slots hG (by omega) (by omega) hP hD hS hl) (fun c9 => absurd (nI_le (Nat.le_refl _) (by omega)) c9)
  | j + 1, go, o, H, locs, ls, cells, slots, hn, hG, hc, hs, hP, hD, hS, hl => by
    have hRc : ∀ {x : Nat}, x ≤ 30000 → x ≤ ({ frames := 14, cells := 30000, slots := 200000, locals := 320 } : Room).cells := fun h => h
    have hRs : ∀ {x : Nat}, x ≤ 200000 → x ≤ ({ frames := 14, cells := 30000, slots := 200000, locals := 320 } : Room).slots := fun h => h
    have hgo : go < 5 := by omega
    refine lv_iload hx hb dL_nets_136 (lv_at hl 0 rfl) ?_
    refine lv_iconst (v := nI 5) hx hb dL_nets_138 (by decide) ?_
    refine lv_icmp_ge (tgt := 632) hx hb dL_nets_139 (by decide) (fun c9 => absurd c9 (nI_ge hgo (by omega))) (fun _ => ?_)
    refine va_ldcS hx hb hown hZ.1 dL_nets_142 ?_
    refine lv_aload_n hx hb dL_nets_144 rfl (lv_at hl 4 rfl) ?_
    refine lv_bipush (v := (10 : Int32)) hx hb dL_nets_145 (by decide) ?_
    refine lv_iload hx hb dL_nets_147 (lv_at hl 0 rfl) ?_
    refine lv_iadd hx hb dL_nets_149 ?_
    rw [show (10 : Int32) + nI go = nI (10 + go) by rw [← nI_add]; rfl]
    refine lk_pure (mc := 0) (ms := 0) (nL := 12) (As := [.ref b, .int (nI (10 + go))]) (stk := [.ref ad]) ⟨rfl, rfl⟩ (fun sz => k_L_at l D T b L xs sz (nI (10 + go)) (fun h => atv_in hL (nI_le (a := 0) (Nat.zero_le _) (by omega)) h)) ⟨hx, hb, hml, hown, hts⟩ (va_cwS 2 hts (ge_y gY_at) rfl rfl rfl (by decide +kernel) ⟨(Nat.le_of_ble_eq_true rfl), (Nat.le_of_ble_eq_true rfl)⟩) hK hN hX hNc hS hA hXs hbl hbA hP hD rfl rfl hl.1 (Nat.le_of_ble_eq_true rfl) dL_nets_150 ⟨(hRc (by omega)), (hRs (by omega))⟩ (fun H locs hP hD hS => ?_)
    refine lv_iconst (v := (4 : Int32)) hx hb dL_nets_153 (by decide) ?_
    obtain ⟨kx, hkx, ekx⟩ := smv_nI (n := 4) (by omega) (by omega) (atv L xs (nI (10 + go)))
    have ekx : smv (atv L xs (nI (10 + go))) (4 : Int32) = nI kx := ekx
    refine lk_pure (mc := 0) (ms := 0) (nL := 12) (As := [.int (atv L xs (nI (10 + go))), .int (4 : Int32)]) (stk := [.ref ad]) ⟨rfl, rfl⟩ (fun sz => k_L_some l D T b L xs sz (atv L xs (nI (10 + go))) (4 : Int32) (by decide)) ⟨hx, hb, hml, hown, hts⟩ (va_cwS 2 hts (ge_y gY_some) rfl rfl rfl (by decide +kernel) ⟨(Nat.le_of_ble_eq_true rfl), (Nat.le_of_ble_eq_true rfl)⟩) hK hN hX hNc hS hA hXs hbl hbA hP hD rfl rfl hl.1 (Nat.le_of_ble_eq_true rfl) dL_nets_154 ⟨(hRc (by omega)), (hRs (by omega))⟩ (fun H locs hP hD hS => ?_)
    rw [ekx]
    obtain ⟨K, hKe, hKs⟩ : ∃ K, chK kx = K ∧ nKs K := ⟨chK kx, rfl, ch_ks hkx⟩
    refine ne_charAt (nL := 12) (stk := []) hkx ⟨hx, hb, hml, hown, hts⟩ (cwV 1 hts ge_ch rfl rfl rfl (by decide +kernel) ⟨(Nat.le_of_ble_eq_true rfl), (Nat.le_of_ble_eq_true rfl)⟩) hZ hS hA hP hD hl.1 (Nat.le_of_ble_eq_true rfl) dL_nets_157 ⟨(hRc (by omega)), (hRs (by omega))⟩ (fun H locs hP hD hS => ?_)
    rw [hKe]
    refine lv_istore (lv' := [(5, .int (nI K)), (4, .int (nI go)), (3, .ref q3), (2, .int (nI mm)), (1, .ref (q 0)), (0, .ref b)]) hx hb dL_nets_160 hl (by decide) rfl (fun ls hl => ?_)
    refine lv_iconst (v := (1 : Int32)) hx hb dL_nets_162 (by decide) ?_
    refine lv_aload_n hx hb dL_nets_163 rfl (lv_at hl 5 rfl) ?_
    refine lv_bipush (v := (15 : Int32)) hx hb dL_nets_164 (by decide) ?_
    refine lv_iload hx hb dL_nets_166 (lv_at hl 1 rfl) ?_
    refine lv_iadd hx hb dL_nets_168 ?_
    rw [show (15 : Int32) + nI go = nI (15 + go) by rw [← nI_add]; rfl]
    refine lk_pure (mc := 0) (ms := 0) (nL := 12) (As := [.ref b, .int (nI (15 + go))]) (stk := [.int (1 : Int32)]) ⟨rfl, rfl⟩ (fun sz => k_L_at l D T b L xs sz (nI (15 + go)) (fun h => atv_in hL (nI_le (a := 0) (Nat.zero_le _) (by omega)) h)) ⟨hx, hb, hml, hown, hts⟩ (va_cwS 2 hts (ge_y gY_at) rfl rfl rfl (by decide +kernel) ⟨(Nat.le_of_ble_eq_true rfl), (Nat.le_of_ble_eq_true rfl)⟩) hK hN hX hNc hS hA hXs hbl hbA hP hD rfl rfl hl.1 (Nat.le_of_ble_eq_true rfl) dL_nets_169 ⟨(hRc (by omega)), (hRs (by omega))⟩ (fun H locs hP hD hS => ?_)
    refine lv_bipush (v := (9 : Int32)) hx hb dL_nets_172 (by decide) ?_
    obtain ⟨w0, hw0, ew0⟩ := smv_nI (n := 9) (by omega) (by omega) (atv L xs (nI (15 + go)))
    have ew0 : smv (atv L xs (nI (15 + go))) (9 : Int32) = nI w0 := ew0
    refine lk_pure (mc := 0) (ms := 0) (nL := 12) (As := [.int (atv L xs (nI (15 + go))), .int (9 : Int32)]) (stk := [.int (1 : Int32)]) ⟨rfl, rfl⟩ (fun sz => k_L_some l D T b L xs sz (atv L xs (nI (15 + go))) (9 : Int32) (by decide)) ⟨hx, hb, hml, hown, hts⟩ (va_cwS 2 hts (ge_y gY_some) rfl rfl rfl (by decide +kernel) ⟨(Nat.le_of_ble_eq_true rfl), (Nat.le_of_ble_eq_true rfl)⟩) hK hN hX hNc hS hA hXs hbl hbA hP hD rfl rfl hl.1 (Nat.le_of_ble_eq_true rfl) dL_nets_174 ⟨(hRc (by omega)), (hRs (by omega))⟩ (fun H locs hP hD hS => ?_)
    rw [ew0]
    obtain ⟨w, hw1, hw9, hwe⟩ : ∃ w : Nat, 1 ≤ w ∧ w ≤ 9 ∧ w = 1 + w0 := ⟨1 + w0, by omega, by omega, rfl⟩
    refine lv_iadd hx hb dL_nets_177 ?_
    rw [show (1 : Int32) + nI w0 = nI w by rw [hwe, ← nI_add]; rfl]
    refine lv_istore (lv' := [(6, .int (nI w)), (5, .int (nI K)), (4, .int (nI go)), (3, .ref q3), (2, .int (nI mm)), (1, .ref (q 0)), (0, .ref b)]) hx hb dL_nets_178 hl (by decide) rfl (fun ls hl => ?_)
    refine lv_iload_n hx hb dL_nets_180 rfl (lv_at hl 4 rfl) ?_
    refine lv_iload_n hx hb dL_nets_181 rfl (lv_at hl 4 rfl) ?_
    have hmq : mm * mm ≤ 64 := Nat.mul_le_mul (show mm ≤ 8 by omega) (show mm ≤ 8 by omega)
    refine va_mna (X := ow T q o ++ [(q3, .inl (T 0, mm, .inl pl))]) (L := []) (f := fun _ => (.inl (T 1, mm, .inl (fun _ => 0)) : va_E)) (own := RL) (index := 204) (ty := .boolean) (cy := T 1) (N' := mm) (K' := mm) (z := (mm, .inl (fun _ => 0))) hx hb hown (hts _ ge_204) hAO (hts _ ge_z) (hK.2 1 _ rfl).2 hK (by rw [show va_pl [] (fun _ => (.inl (T 1, mm, .inl (fun _ => 0)) : va_E)) = [] from rfl, List.append_nil]; exact hP) (by rw [show va_pl [] (fun _ => (.inl (T 1, mm, .inl (fun _ => 0)) : va_E)) = [] from rfl, List.append_nil]; exact hD) hS hA (nI_pos (by omega)) (nI_pos (by omega)) (nI_clamp (by omega)) (nI_clamp (by omega)) (by omega) (by show mm * 1 ≤ _; omega) (by omega) rfl rfl (hRc (by omega)) (hRs (by omega)) (fun c => arrV_new c mm _) dL_nets_182 (fun q7 r cA H hr hnl hK2 hP hD hS => ?_)
    rw [ne_f, List.append_assoc (ow T q o)] at hP hD
    have hP : va_P D vwCl (nwX T q o q3 mm pl q7 cA r ++ nwP T mm r (fun _ _ => 0)) H := hP
    have hD : va_D A (nwX T q o q3 mm pl q7 cA r ++ nwP T mm r (fun _ _ => 0)) := hD
    refine W.widen (k := cells + 9) (n := slots + 72) (by omega) (by omega) ?_
    refine lv_astore (lv' := [(7, .ref q7), (6, .int (nI w)), (5, .int (nI K)), (4, .int (nI go)), (3, .ref q3), (2, .int (nI mm)), (1, .ref (q 0)), (0, .ref b)]) hx hb dL_nets_186 hl (by decide) rfl (fun ls hl => ?_)
    refine lv_iconst (v := nI 0) hx hb dL_nets_188 (by decide) ?_
    refine lv_istore (lv' := [(8, .int (nI 0)), (7, .ref q7), (6, .int (nI w)), (5, .int (nI K)), (4, .int (nI go)), (3, .ref q3), (2, .int (nI mm)), (1, .ref (q 0)), (0, .ref b)]) hx hb dL_nets_189 hl (by decide) rfl (fun ls hl => ?_)
    refine lv_iconst (v := nI 0) hx hb dL_nets_191 (by decide) ?_
    refine lv_istore (lv' := [(9, .int (nI 0)), (8, .int (nI 0)), (7, .ref q7), (6, .int (nI w)), (5, .int (nI K)), (4, .int (nI go)), (3, .ref q3), (2, .int (nI mm)), (1, .ref (q 0)), (0, .ref b)]) hx hb dL_nets_192 hl (by decide) rfl (fun ls hl => ?_)
    have hK9 : K < 200 := by rcases hKs with rfl | rfl | rfl | rfl <;> omega
    refine nets_194 hx hb hK hK2 hm2 hm hK9 hr (fun H locs ls M hM hP hD hS hl => ?_) mm 0 H _ ls (fun _ _ => 0) (by omega) ⟨fun a ha => absurd ha (Nat.not_lt_zero _), fun a ha => absurd ha (Nat.not_lt_zero _)⟩ hP hD hS hl
    rw [List.append_assoc (ow T q o)] at hP hD
    have hP : va_P D vwCl (ow T q o ++ nwR T q3 mm pl q7 cA r M) H := hP
    have hD : va_D A (ow T q o ++ nwR T q3 mm pl q7 cA r M) := hD
    obtain ⟨cn, hcn⟩ : ∃ cn, cn1 K mm mm = cn := ⟨_, rfl⟩
    rw [hcn] at hl
    refine lv_aload_n hx hb dL_nets_338 rfl (lv_at hl 8 rfl) ?_
    refine lv_bipush (v := (78 : Int32)) hx hb dL_nets_339 (by decide) ?_
    refine lv_iconst (v := (3 : Int32)) hx hb dL_nets_341 (by decide) ?_
    refine lk_new (N' := 3) hx hb (hts _ ge_i) hK hP hD hS hA (by decide) (by decide +kernel) (Nat.le_of_ble_eq_true rfl) (hRc (by omega)) (hRs (by omega)) dL_nets_342 (fun qv342 H hP hD hS => ?_)
    refine lv_dup hx hb dL_nets_344 rfl ?_
    refine lv_iconst (v := (0 : Int32)) hx hb dL_nets_345 (by decide) ?_
    refine lv_iload hx hb dL_nets_346 (lv_at hl 4 rfl) ?_
    refine va_iast hx hb hK hP hD hS 0 0 rfl rfl (zk_lit (by decide +kernel)) dL_nets_348 (fun H locs hP hD hS => ?_)
    have hP : va_P D vwCl ((qv342, .inl (T 0, 3, .inl (upd (fun _ => (0 : Int32)) (0 : Int32).toNatClampNeg (nI K)))) :: (ow T q o ++ nwR T q3 mm pl q7 cA r M)) H := hP
    have hD : va_D A ((qv342, .inl (T 0, 3, .inl (upd (fun _ => (0 : Int32)) (0 : Int32).toNatClampNeg (nI K)))) :: (ow T q o ++ nwR T q3 mm pl q7 cA r M)) := hD
    refine lv_dup hx hb dL_nets_349 rfl ?_
    refine lv_iconst (v := (1 : Int32)) hx hb dL_nets_350 (by decide) ?_
    refine lv_bipush (v := (30 : Int32)) hx hb dL_nets_351 (by decide) ?_
    refine va_iast hx hb hK hP hD hS 0 0 rfl rfl (zk_lit (by decide +kernel)) dL_nets_353 (fun H locs hP hD hS => ?_)
    have hP : va_P D vwCl ((qv342, .inl (T 0, 3, .inl (upd (upd (fun _ => (0 : Int32)) (0 : Int32).toNatClampNeg (nI K)) (1 : Int32).toNatClampNeg (30 : Int32)))) :: (ow T q o ++ nwR T q3 mm pl q7 cA r M)) H := hP
    have hD : va_D A ((qv342, .inl (T 0, 3, .inl (upd (upd (fun _ => (0 : Int32)) (0 : Int32).toNatClampNeg (nI K)) (1 : Int32).toNatClampNeg (30 : Int32)))) :: (ow T q o ++ nwR T q3 mm pl q7 cA r M)) := hD
    refine lv_dup hx hb dL_nets_354 rfl ?_
    refine lv_iconst (v := (2 : Int32)) hx hb dL_nets_355 (by decide) ?_
    refine lv_iload hx hb dL_nets_356 (lv_at hl 3 rfl) ?_
    refine va_iast hx hb hK hP hD hS 0 0 rfl rfl (zk_lit (by decide +kernel)) dL_nets_358 (fun H locs hP hD hS => ?_)
    have hP : va_P D vwCl ((qv342, .inl (T 0, 3, .inl (upd (upd (upd (fun _ => (0 : Int32)) (0 : Int32).toNatClampNeg (nI K)) (1 : Int32).toNatClampNeg (30 : Int32)) (2 : Int32).toNatClampNeg (nI w)))) :: (ow T q o ++ nwR T q3 mm pl q7 cA r M)) H := hP
    have hD : va_D A ((qv342, .inl (T 0, 3, .inl (upd (upd (upd (fun _ => (0 : Int32)) (0 : Int32).toNatClampNeg (nI K)) (1 : Int32).toNatClampNeg (30 : Int32)) (2 : Int32).toNatClampNeg (nI w)))) :: (ow T q o ++ nwR T q3 mm pl q7 cA r M)) := hD
    obtain ⟨o2, h2, B2⟩ := ng_net hG hm2 hm hKs hw1 hw9 (v := (upd (upd (upd (fun _ => (0 : Int32)) (0 : Int32).toNatClampNeg (nI K)) (1 : Int32).toNatClampNeg (30 : Int32)) (2 : Int32).toNatClampNeg (nI w))) rfl rfl rfl
    refine lk_ask (ws' := []) (nL := 12) (rw_ := nwR T q3 mm pl q7 cA r M) (stk := []) (x := o) (o := ((nI (nP K mm).length), o2)) (fun sz => a_N l hst D T 3000 q qv342 sz o 3 (upd (upd (upd (fun _ => (0 : Int32)) (0 : Int32).toNatClampNeg (nI K)) (1 : Int32).toNatClampNeg (30 : Int32)) (2 : Int32).toNatClampNeg (nI w)) ((nI (nP K mm).length), o2) (h2)) ⟨hx, hb, hml, hown, hts⟩ (vx_cwSW 3 hts (ge_y gY_ask) rfl rfl rfl (by decide +kernel) ⟨(Nat.le_of_ble_eq_true rfl), (Nat.le_of_ble_eq_true rfl)⟩) hK hN hX hNc hS hA hP hD hl.1 (Nat.le_of_ble_eq_true rfl) dL_nets_359 ⟨(hRc (by omega)), (hRs (by omega))⟩ (fun H locs hP hD hS => ?_)
    have hP : va_P D vwCl (ow T q o2 ++ nwR T q3 mm pl q7 cA r M) H := hP
    have hD : va_D A (ow T q o2 ++ nwR T q3 mm pl q7 cA r M) := hD
    refine lv_iload hx hb dL_nets_362 (lv_at hl 1 rfl) ?_
    refine lv_icmp_eq (tgt := 369) hx hb dL_nets_364 (by decide) (fun _ => ?_) (fun c9 => absurd (by rw [← hcn, np_cn hKs hm2 hm]) c9)
    refine lv_aload_n hx hb dL_nets_369 rfl (lv_at hl 9 rfl) ?_
    refine lv_bipush (v := (20 : Int32)) hx hb dL_nets_370 (by decide) ?_
    refine lv_iload hx hb dL_nets_372 (lv_at hl 5 rfl) ?_
    refine lv_iadd hx hb dL_nets_374 ?_
    rw [show (20 : Int32) + nI go = nI (20 + go) by rw [← nI_add]; rfl]
    refine lk_pure (mc := 0) (ms := 0) (nL := 12) (As := [.ref b, .int (nI (20 + go))]) (stk := []) ⟨rfl, rfl⟩ (fun sz => k_L_at l D T b L xs sz (nI (20 + go)) (fun h => atv_in hL (nI_le (a := 0) (Nat.zero_le _) (by omega)) h)) ⟨hx, hb, hml, hown, hts⟩ (va_cwS 2 hts (ge_y gY_at) rfl rfl rfl (by decide +kernel) ⟨(Nat.le_of_ble_eq_true rfl), (Nat.le_of_ble_eq_true rfl)⟩) hK hN hX hNc hS hA hXs hbl hbA hP hD rfl rfl hl.1 (Nat.le_of_ble_eq_true rfl) dL_nets_375 ⟨(hRc (by omega)), (hRs (by omega))⟩ (fun H locs hP hD hS => ?_)
    refine lv_iload_n hx hb dL_nets_378 rfl (lv_at hl 7 rfl) ?_
    obtain ⟨who, hwho, ewho⟩ := smv_nI (n := mm) (by omega) (by omega) (atv L xs (nI (20 + go)))
    have ewho : smv (atv L xs (nI (20 + go))) (nI mm) = nI who := ewho
    refine lk_pure (mc := 0) (ms := 0) (nL := 12) (As := [.int (atv L xs (nI (20 + go))), .int (nI mm)]) (stk := []) ⟨rfl, rfl⟩ (fun sz => k_L_some l D T b L xs sz (atv L xs (nI (20 + go))) (nI mm) (fun w9 => by have := (nI_eq (b := 0) (by omega) (by omega)).mp w9; omega)) ⟨hx, hb, hml, hown, hts⟩ (va_cwS 2 hts (ge_y gY_some) rfl rfl rfl (by decide +kernel) ⟨(Nat.le_of_ble_eq_true rfl), (Nat.le_of_ble_eq_true rfl)⟩) hK hN hX hNc hS hA hXs hbl hbA hP hD rfl rfl hl.1 (Nat.le_of_ble_eq_true rfl) dL_nets_379 ⟨(hRc (by omega)), (hRs (by omega))⟩ (fun H locs hP hD hS => ?_)
    rw [ewho]
    refine lv_istore (lv' := [(9, .int (nI who)), (8, .int (nI cn)), (7, .ref q7), (6, .int (nI w)), (5, .int (nI K)), (4, .int (nI go)), (3, .ref q3), (2, .int (nI mm)), (1, .ref (q 0)), (0, .ref b)]) hx hb dL_nets_382 hl (by decide) rfl (fun ls hl => ?_)
    refine lv_iload_n hx hb dL_nets_384 rfl (lv_at hl 7 rfl) ?_
    refine lk_new (N' := mm) hx hb (hts _ ge_i) hK hP hD hS hA (nI_pos (by omega)) (nI_clamp (by omega)) (by show mm * 4 ≤ _; omega) (hRc (by omega)) (hRs (by omega)) dL_nets_385 (fun q10 H hP hD hS => ?_)
    have hP : va_P D vwCl (ow T q o2 ++ ((q10, .inl (T 0, mm, .inl (fun _ => (0 : Int32)))) :: nwR T q3 mm pl q7 cA r M)) H := lk_perm (List.perm_middle.symm) hP
    have hD : va_D A (ow T q o2 ++ ((q10, .inl (T 0, mm, .inl (fun _ => (0 : Int32)))) :: nwR T q3 mm pl q7 cA r M)) := lk_permD (List.perm_middle.symm) hD
    refine lv_astore (lv' := [(10, .ref q10), (9, .int (nI who)), (8, .int (nI cn)), (7, .ref q7), (6, .int (nI w)), (5, .int (nI K)), (4, .int (nI go)), (3, .ref q3), (2, .int (nI mm)), (1, .ref (q 0)), (0, .ref b)]) hx hb dL_nets_387 hl (by decide) rfl (fun ls hl => ?_)
    refine lv_iconst (v := nI 0) hx hb dL_nets_389 (by decide) ?_
    refine lv_istore (lv' := [(11, .int (nI 0)), (10, .ref q10), (9, .int (nI who)), (8, .int (nI cn)), (7, .ref q7), (6, .int (nI w)), (5, .int (nI K)), (4, .int (nI go)), (3, .ref q3), (2, .int (nI mm)), (1, .ref (q 0)), (0, .ref b)]) hx hb dL_nets_390 hl (by decide) rfl (fun ls hl => ?_)
    have hwho : who < mm := hwho
    refine nets_392 (cb := cells + 94) (sb := slots + 517) hst hx hb hml hown hts hA hK hN hX hNc hm2 hm (show cells + 94 ≤ 30000 by omega) (show slots + 517 ≤ 200000 by omega) hpl (fun o3 H locs ls cells3 slots3 hB3 hc3 hs3 hP hD hS hl => ?_) mm 0 o2 H _ ls _ _ (by omega) (B2 who) (by omega) (by omega) hP hD hS hl hwho
    refine lv_iconst (v := nI 0) hx hb dL_nets_463 (by decide) ?_
    refine lv_istore (lv' := [(11, .int (nI 0)), (10, .ref q10), (9, .int (nI who)), (8, .int (nI cn)), (7, .ref q7), (6, .int (nI w)), (5, .int (nI K)), (4, .int (nI go)), (3, .ref q3), (2, .int (nI mm)), (1, .ref (q 0)), (0, .ref b)]) hx hb dL_nets_464 hl (by decide) rfl (fun ls hl => ?_)
    refine nets_466 (cb := cells + 118) (sb := slots + 621) hst hx hb hml hown hts hA hK hN hX hNc hm2 hm (show cells + 118 ≤ 30000 by omega) (show slots + 621 ≤ 200000 by omega) hpl hB3 (fun H locs ls cells4 slots4 bf hbf hc4 hs4 hP hD hS hl => ?_) mm 0 H _ ls _ _ _ (by omega) (fun _ i hi => absurd hi (Nat.not_lt_zero _)) (by omega) (by omega) hP hD hS hl
    by_cases hz : go = 0
    · subst hz
      refine nets_499 (cb := cells + 150) (sb := slots + 758) hst hx hb hml hown hts hA hK hN hX hNc hm2 hm (show cells + 150 ≤ 30000 by omega) (show slots + 758 ≤ 200000 by omega) hK2 hKs hwho hM (hbf rfl) hpl hB3 (by omega) (by omega) hP hD hS hl (fun o5 H locs ls cells5 slots5 hG5 hc5 hs5 hP hD hS hl => ?_)
      refine lv_iinc (v := (nI 0) + (1 : Int32)) (lv' := [(4, .int ((nI 0) + (1 : Int32))), (11, .int (nI mm)), (10, .ref q10), (9, .int (nI who)), (8, .int (nI cn)), (7, .ref q7), (6, .int (nI w)), (5, .int (nI K)), (3, .ref q3), (2, .int (nI mm)), (1, .ref (q 0)), (0, .ref b)]) hx hb dL_nets_626 hl (k := 7) rfl rfl (by decide) rfl (fun ls hl => ?_)
      rw [show nI 0 + (1 : Int32) = nI 1 from rfl] at hl
      refine lv_goto (tgt := 136) hx hb dL_nets_629 (by decide) ?_
      have hl : lv_has ls 12 [(4, .int (nI (0 + 1))), (3, .ref q3), (2, .int (nI mm)), (1, .ref (q 0)), (0, .ref b)] := lv_sub hl [0, 8, 9, 10, 11] rfl
      exact nets_136 hst hx hb hml hown hts hA hK hN hX hNc hm2 hm hcb hsb hL hXs hbl hbA hZ hAO hpl kk j (0 + 1) o5 _ _ _ _ _ (by omega) hG5 (by omega) (by omega) (ne_drop hP) (ne_dropD hD) hS hl
    · have hz2 : ¬ nI go = 0 := fun w9 => hz ((nI_eq (b := 0) (by omega) (by omega)).mp w9)
      refine lv_iload hx hb dL_nets_499 (lv_at hl 7 rfl) ?_
      refine lv_if_ne (tgt := 562) hx hb dL_nets_501 (by decide) (fun _ => ?_) (fun c9 => absurd c9 hz2)
      refine lv_iconst (v := nI 0) hx hb dL_nets_562 (by decide) ?_
      refine lv_istore (lv' := [(11, .int (nI 0)), (10, .ref q10), (9, .int (nI who)), (8, .int (nI cn)), (7, .ref q7), (6, .int (nI w)), (5, .int (nI K)), (4, .int (nI go)), (3, .ref q3), (2, .int (nI mm)), (1, .ref (q 0)), (0, .ref b)]) hx hb dL_nets_563 hl (by decide) rfl (fun ls hl => ?_)
      refine lv_iload hx hb dL_nets_565 (lv_at hl 0 rfl) ?_
      refine lv_iload_n hx hb dL_nets_567 rfl (lv_at hl 9 rfl) ?_
      refine lv_icmp_ge (tgt := 626) hx hb dL_nets_568 (by decide) (fun c9 => absurd c9 (nI_ge (a := 0) (by omega) (by omega))) (fun _ => ?_)
      refine lv_iload hx hb dL_nets_571 (lv_at hl 7 rfl) ?_
      refine lv_if_ne (tgt := 626) hx hb dL_nets_573 (by decide) (fun _ => ?_) (fun c9 => absurd c9 hz2)
      have hl : lv_has ls 12 [(11, .int (nI 0)), (10, .ref q10), (9, .int (nI who)), (8, .int (nI cn)), (7, .ref q7), (6, .int (nI w)), (5, .int (nI K)), (4, .int (nI go)), (3, .ref q3), (2, .int (nI mm)), (1, .ref (q 0)), (0, .ref b)] := lv_sub hl [0, 1, 2, 3, 4, 5, 6, 7, 8, 9, 10, 11] rfl
      refine lv_iinc (v := (nI go) + (1 : Int32)) (lv' := [(4, .int ((nI go) + (1 : Int32))), (11, .int (nI 0)), (10, .ref q10), (9, .int (nI who)), (8, .int (nI cn)), (7, .ref q7), (6, .int (nI w)), (5, .int (nI K)), (3, .ref q3), (2, .int (nI mm)), (1, .ref (q 0)), (0, .ref b)]) hx hb dL_nets_626 hl (k := 7) rfl rfl (by decide) rfl (fun ls hl => ?_)
      rw [nI_1] at hl
      refine lv_goto (tgt := 136) hx hb dL_nets_629 (by decide) ?_
      have hl : lv_has ls 12 [(4, .int (nI (go + 1))), (3, .ref q3), (2, .int (nI mm)), (1, .ref (q 0)), (0, .ref b)] := lv_sub hl [0, 8, 9, 10, 11] rfl
      have hGn : NG (decide (go + 1 = 0)) mm pq o3 := by rw [decide_eq_false (by omega)]; exact ng_f (nh_ng hB3)
      exact nets_136 hst hx hb hml hown hts hA hK hN hX hNc hm2 hm hcb hsb hL hXs hbl hbA hZ hAO hpl kk j (go + 1) o3 _ _ _ _ _ (by omega) hGn (by omega) (by omega) (ne_drop hP) (ne_dropD hD) hS hl
set_option maxHeartbeats 8000000 in
set_option maxRecDepth 100000 in
theorem k_L_nets (l : Launch) (hst : l.stackTraces = false) (D : va_G) (T : Nat → ClassId) (b L ad vl : Nat) (xs : Nat → Int32) (sz : Nat) (hL : L ≤ 260) : Met l yL_nets ws_ne ({ frames := 14, cells := 30000, slots := 200000, locals := 320 } : Room) (ne_Pc D T [.ref b] b L ad vl xs sz) (zk_Qi 1 D [] (va_A [] sz) (va_A [] sz)) 30000 200000 (va_A [] sz) := by
  refine Met.ofW (cc := cL_nets) (maxL := 12) (ret := (some .boolean)) (by decide +kernel) rfl ?_
  intro p e s m args below meth c s₁ B hml hv
  obtain ⟨rfl, hsz, hK, hN, hX, hNc, hXs, hbl, hZ, hAO⟩ := hv
  have hx := B.exec
  have hb := B.bytes
  have hr := B.returns
  have hts := atoms_spec (ws := ws_ne) B.pre
  have hown : s.vm.findClass RL = some m.cls := findClass_of_methodNamed B.named
  have hlocks := B.notSynchronized
  subst hsz
  generalize hAe : va_A [] s.heap.size = A at hX hZ ⊢
  have hA : ∀ q : Nat, s.heap.size ≤ q → A q := fun q h => by rw [← hAe]; exact Or.inr h
  have hbA : ¬ A b := fun h => by
    rw [← hAe] at h
    rcases h with h | h
    · exact absurd h (by simp)
    · omega
  have hS : va_S A s.heap s.heap [] := va_S.rf
  have hP : va_P D vwCl [] s.heap := fun k x hx => absurd hx (by simp)
  have hD : va_D A [] := ⟨fun i j p q h => absurd h (by simp), fun k x hx => absurd hx (by simp)⟩
  have hl := lv_entry ([.ref b]) (n := 12) (Nat.le_of_ble_eq_true rfl)
  rw [lg_entry_eq]
  generalize (lg_sl ([.ref b]) ++ List.replicate (12 - (lg_sl ([.ref b])).length) Slot.unset).toArray = ls at hl ⊢
  have hl : lv_has ls 12 [(0, .ref b)] := hl
  refine va_new (ci := 7) (fs := [.null, .null, .null, .null, .int 0, .int 0, .int 0, .null, .int 0, .int 0, .null, .null, .null, .null, .null]) (C := RX5) (T := TX5) (N := 15) hx hb hts (fun w h => (ge_y gY_X50 w h).1) tyX5 tyX5_ok hown (hts (.classLink RL 8 RX5) (by decide +kernel)) (hts (.instantiable RX5 15) (by decide +kernel)) (hts (.initialized RX5) (by decide +kernel)) hK hP hD hS hA rfl (fun j hj => by rcases (show j = 0 ∨ j = 1 ∨ j = 2 ∨ j = 3 ∨ j = 4 ∨ j = 5 ∨ j = 6 ∨ j = 7 ∨ j = 8 ∨ j = 9 ∨ j = 10 ∨ j = 11 ∨ j = 12 ∨ j = 13 ∨ j = 14 by omega) with rfl | rfl | rfl | rfl | rfl | rfl | rfl | rfl | rfl | rfl | rfl | rfl | rfl | rfl | rfl <;> rfl) (Nat.le_of_ble_eq_true rfl) (Nat.le_of_ble_eq_true rfl) dL_nets_0 (fun q0 H hP hD hS => ?_)
  have hP : va_P D vwCl [(q0, .inr (7, [.null, .null, .null, .null, .int 0, .int 0, .int 0, .null, .int 0, .int 0, .null, .null, .null, .null, .null]))] H := hP
  have hD : va_D A [(q0, .inr (7, [.null, .null, .null, .null, .int 0, .int 0, .int 0, .null, .int 0, .int 0, .null, .null, .null, .null, .null]))] := hD
  refine lv_dup hx hb dL_nets_3 rfl ?_
  refine lk_init (nL := 12) (stk := [.ref q0]) ⟨hx, hb, hml, hown, hts⟩ (ge_y gY_init) (hts (.initialized RX5) (by decide +kernel)) (hts (.methodLink RL 152 yX5_init) (by decide +kernel)) (hts (.instanceMethod yX5_init) (by decide +kernel)) ⟨(Nat.le_of_ble_eq_true rfl), (Nat.le_of_ble_eq_true rfl)⟩ hK hN hS hA hP hD hl.1 (Nat.le_of_ble_eq_true rfl) dL_nets_4 ⟨(Nat.le_of_ble_eq_true rfl), (Nat.le_of_ble_eq_true rfl)⟩ (fun q H locs hq0 hP2 hD2 hS => ?_)
  subst hq0
  have hP := hP2
  have hD := hD2
  refine lv_astore_n (lv' := [(1, .ref (q 0)), (0, .ref b)]) hx hb dL_nets_7 rfl hl (by decide) rfl (fun ls hl => ?_)
  refine W.widen (k := 51) (n := 8044) (Nat.le_of_ble_eq_true rfl) (Nat.le_of_ble_eq_true rfl) ?_
  refine lv_iconst (v := (2 : Int32)) hx hb dL_nets_8 (by decide) ?_
  refine lv_aload_n hx hb dL_nets_9 rfl (lv_at hl 1 rfl) ?_
  refine lv_iconst (v := (0 : Int32)) hx hb dL_nets_10 (by decide) ?_
  show W p l e _ s m _ below meth c H locs _ _ _ (F0 m 11 ls [.int (nI 0), .ref b, .int (2 : Int32)])
  refine lk_pure (mc := 0) (ms := 0) (nL := 12) (As := [.ref b, .int (nI 0)]) (stk := [.int (2 : Int32)]) ⟨rfl, rfl⟩ (fun sz => k_L_at l D T b L xs sz (nI 0) (fun h => atv_in hL (show (0 : Int32) ≤ nI 0 by decide) h)) ⟨hx, hb, hml, hown, hts⟩ (va_cwS 2 hts (ge_y gY_at) rfl rfl rfl (by decide +kernel) ⟨(Nat.le_of_ble_eq_true rfl), (Nat.le_of_ble_eq_true rfl)⟩) hK hN hX hNc hS hA hXs hbl hbA hP hD rfl rfl hl.1 (Nat.le_of_ble_eq_true rfl) dL_nets_11 ⟨(Nat.le_of_ble_eq_true rfl), (Nat.le_of_ble_eq_true rfl)⟩ (fun H locs hP hD hS => ?_)
  refine lv_bipush (v := (7 : Int32)) hx hb dL_nets_14 (by decide) ?_
  obtain ⟨k1, hk1, ek1⟩ := smv_nI (n := 7) (by omega) (by omega) (atv L xs (nI 0))
  have ek1 : smv (atv L xs (nI 0)) (7 : Int32) = nI k1 := ek1
  refine lk_pure (mc := 0) (ms := 0) (nL := 12) (As := [.int (atv L xs (nI 0)), .int (7 : Int32)]) (stk := [.int (2 : Int32)]) ⟨rfl, rfl⟩ (fun sz => k_L_some l D T b L xs sz (atv L xs (nI 0)) (7 : Int32) (by decide)) ⟨hx, hb, hml, hown, hts⟩ (va_cwS 2 hts (ge_y gY_some) rfl rfl rfl (by decide +kernel) ⟨(Nat.le_of_ble_eq_true rfl), (Nat.le_of_ble_eq_true rfl)⟩) hK hN hX hNc hS hA hXs hbl hbA hP hD rfl rfl hl.1 (Nat.le_of_ble_eq_true rfl) dL_nets_16 ⟨(Nat.le_of_ble_eq_true rfl), (Nat.le_of_ble_eq_true rfl)⟩ (fun H locs hP hD hS => ?_)
  rw [ek1]
  obtain ⟨mm, hm2, hm, hmk⟩ : ∃ mm : Nat, 2 ≤ mm ∧ mm < 9 ∧ mm = 2 + k1 := ⟨2 + k1, by omega, by omega, rfl⟩
  refine lv_iadd hx hb dL_nets_19 ?_
  rw [show (2 : Int32) + nI k1 = nI mm by rw [hmk, ← nI_add]; rfl]
  refine lv_istore_n (lv' := [(2, .int (nI mm)), (1, .ref (q 0)), (0, .ref b)]) hx hb dL_nets_20 rfl hl (by decide) rfl (fun ls hl => ?_)
  refine lv_iload_n hx hb dL_nets_21 rfl (lv_at hl 0 rfl) ?_
  refine lk_new (N' := mm) hx hb (hts _ ge_i) hK hP hD hS hA (nI_pos (by omega)) (nI_clamp (by omega)) (by show mm * 4 ≤ _; omega) (show 52 ≤ 30000 by omega) (show 8044 + mm ≤ 200000 by omega) dL_nets_22 (fun q3 H hP hD hS => ?_)
  have hP : va_P D vwCl (ow T q ob_0 ++ [(q3, .inl (T 0, mm, .inl (fun _ => 0)))]) H := lk_perm (List.perm_append_comm (l₁ := [(q3, .inl (T 0, mm, .inl (fun _ => 0)))]) (l₂ := ow T q ob_0)) hP
  have hD : va_D A (ow T q ob_0 ++ [(q3, .inl (T 0, mm, .inl (fun _ => 0)))]) := lk_permD (List.perm_append_comm (l₁ := [(q3, .inl (T 0, mm, .inl (fun _ => 0)))]) (l₂ := ow T q ob_0)) hD
  refine lv_astore_n (lv' := [(3, .ref q3), (2, .int (nI mm)), (1, .ref (q 0)), (0, .ref b)]) hx hb dL_nets_24 rfl hl (by decide) rfl (fun ls hl => ?_)
  refine lv_iconst (v := nI 0) hx hb dL_nets_25 (by decide) ?_
  refine lv_istore (lv' := [(4, .int (nI 0)), (3, .ref q3), (2, .int (nI mm)), (1, .ref (q 0)), (0, .ref b)]) hx hb dL_nets_26 hl (by decide) rfl (fun ls hl => ?_)
  refine nets_28 (pq := npq L xs) (mm := mm) (cb := 100) (sb := 8324) hst hx hb hml hown hts hA hK hN hX hNc hm2 hm (Nat.le_of_ble_eq_true rfl) (Nat.le_of_ble_eq_true rfl) hL hXs hbl hbA (fun o2 H locs ls cells2 slots2 pl hpl hB2 hc2 hs2 hP hD hS hl => ?_) mm 0 ob_0 H _ ls _ _ _ (by omega) (fun i hi => absurd hi (Nat.not_lt_zero _)) nb_0 (by omega) (by omega) hP hD hS hl
  refine lv_iconst (v := nI 0) hx hb dL_nets_133 (by decide) ?_
  refine lv_istore (lv' := [(4, .int (nI 0)), (3, .ref q3), (2, .int (nI mm)), (1, .ref (q 0)), (0, .ref b)]) hx hb dL_nets_134 hl (by decide) rfl (fun ls hl => ?_)
  refine nets_136 (pq := npq L xs) (mm := mm) (cb := 850) (sb := 12114) hst hx hb hml hown hts hA hK hN hX hNc hm2 hm (Nat.le_of_ble_eq_true rfl) (Nat.le_of_ble_eq_true rfl) hL hXs hbl hbA hZ hAO hpl (fun o3 H locs ls cells3 slots3 hG3 hc3 hs3 hP hD hS hl => ?_) 5 0 o2 H _ ls _ _ (by omega) (nb_ng hB2) (by omega) (by omega) hP hD hS hl
  have hP := lk_left hP
  have hD := lk_leftD hD
  refine lv_aload_n hx hb dL_nets_632 rfl (lv_at hl 3 rfl) ?_
  obtain ⟨tr, h9⟩ := ng_isTrue hG3
  refine cd_isTrue (nL := 12) (N := 3000) (stk := []) (x := o3) (o := _) ⟨hx, hb, hml, hown, hts⟩ (ge_y gY_isTrue) ⟨(Nat.le_of_ble_eq_true rfl), (Nat.le_of_ble_eq_true rfl)⟩ hK hN hS hA hP hD h9 hl.1 (Nat.le_of_ble_eq_true rfl) dL_nets_633 ⟨by show cells3 + 0 ≤ 30000; omega, by show slots3 + 0 ≤ 200000; omega⟩ (fun H locs hP hD hS => ?_)
  refine W.widen (k := 30000) (n := 200000) (by omega) (by omega) ?_
  exact W.zret (v := (1 : Int32)) hx hb hr rfl (fun t ht hW => ⟨⟨_, (), rfl, rfl, (by rw [ht]; exact fun k x hx => absurd hx (by simp)), (⟨fun i j p q h => absurd h (by simp), fun k x hx => absurd hx (by simp)⟩)⟩, hS.F ht⟩) hS.2.2 dL_nets_636

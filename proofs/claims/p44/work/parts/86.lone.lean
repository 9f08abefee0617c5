/-! rows of mine: the law's lone -/
theorem kp_0 {s s2 : Ob} (h : kp s s2) (k : o_ticksPassed s = 0 ∧ o_flashCounts s 7 = 0 ∧ o_lastFlashes s 7 = 0) : o_ticksPassed s2 = 0 ∧ o_flashCounts s2 7 = 0 ∧ o_lastFlashes s2 7 = 0 := by
  obtain ⟨h1, h2, h3, h4, h5⟩ := h
  exact ⟨h1.trans k.1, by show s2.2.2.2.1.1 7 = 0; rw [h5]; exact k.2.1, by show s2.2.2.2.1.2 7 = 0; rw [h5]; exact k.2.2⟩
section LNS
variable {p : Program} {l : Launch} {e : Env} {R : Room} {s : State} {m : MethodId} {args : Array Value} {below : List Frame} {meth : Method} {c : Code} {H : Heap} {locs : List Loc} {cells slots : Nat} {Q : State → Prop} {ls : Array Slot}
theorem lone_seg {a P T : Nat} (ha : a < P) (hP : P < 100) (hT : T ≤ 500) {lv : List (Nat × Value)} (hx : p.tables.exec = Jvm.exec) (hb : c.code = cL_lone) (hl : lv_has ls 6 ((5, .int (nI ((a + T) / P))) :: (4, .int (nI T)) :: (3, .int (nI a)) :: (2, .int (nI P)) :: lv)) (kk : W p l e R s m args below meth c H locs cells slots Q (F0 m 343 ls [])) : W p l e R s m args below meth c H locs cells slots Q (F0 m 320 ls [.int (if (a + T) / P = 0 then 0 else nI (T - (a + T) % P))]) := by
  have hq : (a + T) / P ≤ a + T := Nat.div_le_self _ _
  refine lv_iload hx hb dL_lone_320 (lv_at hl 0 rfl) ?_
  by_cases hz : (a + T) / P = 0
  · rw [hz, if_pos rfl]
    refine lv_if_ne (tgt := 329) hx hb dL_lone_322 (by decide) (fun c9 => absurd rfl c9) (fun _ => ?_)
    refine lv_iconst (v := (0 : Int32)) hx hb dL_lone_325 (by decide) ?_
    refine lv_goto (tgt := 338) hx hb dL_lone_326 (by decide) ?_
    exact lv_icmp_eq (tgt := 343) hx hb dL_lone_338 (by decide) (fun _ => kk) (fun c9 => absurd rfl c9)
  · rw [if_neg hz]
    refine lv_if_ne (tgt := 329) hx hb dL_lone_322 (by decide) (fun _ => ?_) (fun c9 => absurd ((nI_eq (b := 0) (by omega) (by omega)).mp c9) hz)
    refine lv_iload hx hb dL_lone_329 (lv_at hl 1 rfl) ?_
    refine lv_iload_n hx hb dL_lone_331 rfl (lv_at hl 2 rfl) ?_
    refine lv_iload hx hb dL_lone_332 (lv_at hl 1 rfl) ?_
    refine lv_iadd hx hb dL_lone_334 ?_
    refine lv_iload_n hx hb dL_lone_335 rfl (lv_at hl 3 rfl) ?_
    refine lv_irem hx hb dL_lone_336 (fun w => by have := (nI_eq (b := 0) (by omega) (by omega)).mp w; omega) ?_
    refine lv_isub hx hb dL_lone_337 ?_
    have hle : (a + T) % P ≤ T := by
      have e1 := Nat.div_add_mod (a + T) P
      have h1 : 1 ≤ (a + T) / P := Nat.pos_of_ne_zero hz
      have h2 : P * 1 ≤ P * ((a + T) / P) := Nat.mul_le_mul_left _ h1
      omega
    have e9 : nI T - (nI a + nI T - (nI a + nI T) / nI P * nI P) = nI (T - (a + T) % P) := by
      rw [nI_add, nI_rem (by omega) (by omega) (by omega), nI_subI hle]
    rw [e9]
    exact lv_icmp_eq (tgt := 343) hx hb dL_lone_338 (by decide) (fun _ => kk) (fun c9 => absurd rfl c9)
end LNS
theorem atv_in {L : Nat} (hL : L ≤ 260) {k : Int32} (h0 : 0 ≤ k) (h : k < Int32.ofNat L) : vp_in k L := by
  rcases i32_cases k with hk | ⟨n, hn, rfl⟩
  · exact absurd (Int32.lt_of_lt_of_le hk h0) (Int32.lt_irrefl)
  · have h' : nI n < nI L := h
    have := (nI_ltI hn (by omega)).mp h'
    intro w
    rcases w with w | w
    · exact absurd (Int32.lt_of_lt_of_le w h0) (Int32.lt_irrefl)
    · rw [nI_clamp hn] at w
      omega
set_option maxHeartbeats 8000000 in
set_option maxRecDepth 100000 in
theorem k_L_lone (l : Launch) (hst : l.stackTraces = false) (D : va_G) (T : Nat → ClassId) (b L : Nat) (xs : Nat → Int32) (sz : Nat) (hL : L ≤ 260) : Met l yL_lone ws_lone ({ frames := 14, cells := 2000, slots := 20000, locals := 320 } : Room) (lk_Pc D T [.ref b] b L xs sz) (zk_Qi 1 D [] (va_A [] sz) (va_A [] sz)) 2000 20000 (va_A [] sz) := by
  refine Met.ofW (cc := cL_lone) (maxL := 6) (ret := (some .boolean)) (by decide) rfl ?_
  intro p e s m args below meth c s₁ B hml hv
  obtain ⟨rfl, hsz, hK, hN, hX, hNc, hXs, hbl⟩ := hv
  have hx := B.exec
  have hb := B.bytes
  have hr := B.returns
  have hts := atoms_spec (ws := ws_lone) B.pre
  have hown : s.vm.findClass RL = some m.cls := findClass_of_methodNamed B.named
  have hlocks := B.notSynchronized
  subst hsz
  generalize hAe : va_A [] s.heap.size = A at hX ⊢
  have hA : ∀ q : Nat, s.heap.size ≤ q → A q := fun q h => by rw [← hAe]; exact Or.inr h
  have hbA : ¬ A b := fun h => by
    rw [← hAe] at h
    rcases h with h | h
    · exact absurd h (by simp)
    · omega
  have hS : va_S A s.heap s.heap [] := va_S.rf
  have hP : va_P D vwCl [] s.heap := fun k x hx => absurd hx (by simp)
  have hD : va_D A [] := ⟨fun i j p q h => absurd h (by simp), fun k x hx => absurd hx (by simp)⟩
  have hl := lv_entry ([.ref b]) (n := 6) (Nat.le_of_ble_eq_true rfl)
  rw [lg_entry_eq]
  generalize (lg_sl ([.ref b]) ++ List.replicate (6 - (lg_sl ([.ref b])).length) Slot.unset).toArray = ls at hl ⊢
  have hl : lv_has ls 6 [(0, .ref b)] := hl
  refine va_new (ci := 7) (fs := [.null, .null, .null, .null, .int 0, .int 0, .int 0, .null, .int 0, .int 0, .null, .null, .null, .null, .null]) (C := RX5) (T := TX5) (N := 15) hx hb hts (fun w h => List.mem_cons_of_mem _ (gY_X50 w h).1) tyX5 tyX5_ok hown (hts (.classLink RL 8 RX5) (by decide +kernel)) (hts (.instantiable RX5 15) (by decide +kernel)) (hts (.initialized RX5) (by decide +kernel)) hK hP hD hS hA rfl (fun j hj => by rcases (show j = 0 ∨ j = 1 ∨ j = 2 ∨ j = 3 ∨ j = 4 ∨ j = 5 ∨ j = 6 ∨ j = 7 ∨ j = 8 ∨ j = 9 ∨ j = 10 ∨ j = 11 ∨ j = 12 ∨ j = 13 ∨ j = 14 by omega) with rfl | rfl | rfl | rfl | rfl | rfl | rfl | rfl | rfl | rfl | rfl | rfl | rfl | rfl | rfl <;> rfl) (Nat.le_of_ble_eq_true rfl) (Nat.le_of_ble_eq_true rfl) dL_lone_0 (fun q0 H hP hD hS => ?_)
  have hP : va_P D vwCl [(q0, .inr (7, [.null, .null, .null, .null, .int 0, .int 0, .int 0, .null, .int 0, .int 0, .null, .null, .null, .null, .null]))] H := hP
  have hD : va_D A [(q0, .inr (7, [.null, .null, .null, .null, .int 0, .int 0, .int 0, .null, .int 0, .int 0, .null, .null, .null, .null, .null]))] := hD
  refine lv_dup hx hb dL_lone_3 rfl ?_
  refine lk_init (nL := 6) (stk := [.ref q0]) ⟨hx, hb, hml, hown, hts⟩ (goodIn_up gY_init) (hts (.initialized RX5) (by decide +kernel)) (hts (.methodLink RL 152 yX5_init) (by decide +kernel)) (hts (.instanceMethod yX5_init) (by decide +kernel)) ⟨(Nat.le_of_ble_eq_true rfl), (Nat.le_of_ble_eq_true rfl)⟩ hK hN hS hA hP hD hl.1 (Nat.le_of_ble_eq_true rfl) dL_lone_4 ⟨(Nat.le_of_ble_eq_true rfl), (Nat.le_of_ble_eq_true rfl)⟩ (fun q H locs hq0 hP2 hD2 hS => ?_)
  subst hq0
  have hP := hP2
  have hD := hD2
  refine lv_astore_n (lv' := [(1, .ref (q 0)), (0, .ref b)]) hx hb dL_lone_7 rfl hl (by decide) rfl (fun ls hl => ?_)
  refine W.widen (k := 51) (n := 8044) (Nat.le_of_ble_eq_true rfl) (Nat.le_of_ble_eq_true rfl) ?_
  refine lv_iconst (v := (2 : Int32)) hx hb dL_lone_8 (by decide) ?_
  refine lv_aload_n hx hb dL_lone_9 rfl (lv_at hl 1 rfl) ?_
  refine lv_bipush (v := (30 : Int32)) hx hb dL_lone_10 (by decide) ?_
  refine lk_pure (nL := 6) (As := [.ref b, .int (30 : Int32)]) (stk := [.int (2 : Int32)]) ⟨rfl, rfl⟩ (fun sz => k_L_at l D T b L xs sz (30 : Int32) (fun h => atv_in hL (by decide) h)) ⟨hx, hb, hml, hown, hts⟩ (va_cwS 2 hts (goodIn_up gY_at) rfl rfl rfl (by decide +kernel) ⟨(Nat.le_of_ble_eq_true rfl), (Nat.le_of_ble_eq_true rfl)⟩) hK hN hX hNc hS hA hXs hbl hbA hP hD rfl rfl hl.1 (Nat.le_of_ble_eq_true rfl) dL_lone_12 ⟨(Nat.le_of_ble_eq_true rfl), (Nat.le_of_ble_eq_true rfl)⟩ (fun H locs hP hD hS => ?_)
  refine lv_bipush (v := (98 : Int32)) hx hb dL_lone_15 (by decide) ?_
  obtain ⟨k1, hk1, ek1⟩ := smv_nI (n := 98) (by omega) (by omega) ((atv L xs (30 : Int32)))
  have ek1 : smv ((atv L xs (30 : Int32))) (98 : Int32) = nI k1 := ek1
  refine lk_pure (nL := 6) (As := [.int (atv L xs (30 : Int32)), .int (98 : Int32)]) (stk := [.int (2 : Int32)]) ⟨rfl, rfl⟩ (fun sz => k_L_some l D T b L xs sz (atv L xs (30 : Int32)) (98 : Int32) (by decide)) ⟨hx, hb, hml, hown, hts⟩ (va_cwS 2 hts (goodIn_up gY_some) rfl rfl rfl (by decide +kernel) ⟨(Nat.le_of_ble_eq_true rfl), (Nat.le_of_ble_eq_true rfl)⟩) hK hN hX hNc hS hA hXs hbl hbA hP hD rfl rfl hl.1 (Nat.le_of_ble_eq_true rfl) dL_lone_17 ⟨(Nat.le_of_ble_eq_true rfl), (Nat.le_of_ble_eq_true rfl)⟩ (fun H locs hP hD hS => ?_)
  rw [ek1]
  obtain ⟨P, hP2, hPk⟩ : ∃ P : Nat, 2 ≤ P ∧ P = 2 + k1 := ⟨2 + k1, by omega, rfl⟩
  refine lv_iadd hx hb dL_lone_20 ?_
  rw [show (2 : Int32) + nI k1 = nI P by rw [hPk, ← nI_add]; rfl]
  refine lv_istore_n (lv' := [(2, .int (nI P)), (1, .ref (q 0)), (0, .ref b)]) hx hb dL_lone_21 rfl hl (by decide) rfl (fun ls hl => ?_)
  refine lv_aload_n hx hb dL_lone_22 rfl (lv_at hl 2 rfl) ?_
  refine lv_bipush (v := (31 : Int32)) hx hb dL_lone_23 (by decide) ?_
  refine lk_pure (nL := 6) (As := [.ref b, .int (31 : Int32)]) (stk := []) ⟨rfl, rfl⟩ (fun sz => k_L_at l D T b L xs sz (31 : Int32) (fun h => atv_in hL (by decide) h)) ⟨hx, hb, hml, hown, hts⟩ (va_cwS 2 hts (goodIn_up gY_at) rfl rfl rfl (by decide +kernel) ⟨(Nat.le_of_ble_eq_true rfl), (Nat.le_of_ble_eq_true rfl)⟩) hK hN hX hNc hS hA hXs hbl hbA hP hD rfl rfl hl.1 (Nat.le_of_ble_eq_true rfl) dL_lone_25 ⟨(Nat.le_of_ble_eq_true rfl), (Nat.le_of_ble_eq_true rfl)⟩ (fun H locs hP hD hS => ?_)
  refine lv_iload_n hx hb dL_lone_28 rfl (lv_at hl 0 rfl) ?_
  obtain ⟨a, ha, ea⟩ := smv_nI (n := P) (by omega) (by omega) ((atv L xs (31 : Int32)))
  have ea : smv ((atv L xs (31 : Int32))) (nI P) = nI a := ea
  refine lk_pure (nL := 6) (As := [.int (atv L xs (31 : Int32)), .int (nI P)]) (stk := []) ⟨rfl, rfl⟩ (fun sz => k_L_some l D T b L xs sz (atv L xs (31 : Int32)) (nI P) (fun w => by have := (nI_eq (b := 0) (by omega) (by omega)).mp w; omega)) ⟨hx, hb, hml, hown, hts⟩ (va_cwS 2 hts (goodIn_up gY_some) rfl rfl rfl (by decide +kernel) ⟨(Nat.le_of_ble_eq_true rfl), (Nat.le_of_ble_eq_true rfl)⟩) hK hN hX hNc hS hA hXs hbl hbA hP hD rfl rfl hl.1 (Nat.le_of_ble_eq_true rfl) dL_lone_29 ⟨(Nat.le_of_ble_eq_true rfl), (Nat.le_of_ble_eq_true rfl)⟩ (fun H locs hP hD hS => ?_)
  rw [ea]
  refine lv_istore_n (lv' := [(3, .int (nI a)), (2, .int (nI P)), (1, .ref (q 0)), (0, .ref b)]) hx hb dL_lone_32 rfl hl (by decide) rfl (fun ls hl => ?_)
  refine lv_iconst (v := (1 : Int32)) hx hb dL_lone_33 (by decide) ?_
  refine lv_aload_n hx hb dL_lone_34 rfl (lv_at hl 3 rfl) ?_
  refine lv_bipush (v := (32 : Int32)) hx hb dL_lone_35 (by decide) ?_
  refine lk_pure (nL := 6) (As := [.ref b, .int (32 : Int32)]) (stk := [.int (1 : Int32)]) ⟨rfl, rfl⟩ (fun sz => k_L_at l D T b L xs sz (32 : Int32) (fun h => atv_in hL (by decide) h)) ⟨hx, hb, hml, hown, hts⟩ (va_cwS 2 hts (goodIn_up gY_at) rfl rfl rfl (by decide +kernel) ⟨(Nat.le_of_ble_eq_true rfl), (Nat.le_of_ble_eq_true rfl)⟩) hK hN hX hNc hS hA hXs hbl hbA hP hD rfl rfl hl.1 (Nat.le_of_ble_eq_true rfl) dL_lone_37 ⟨(Nat.le_of_ble_eq_true rfl), (Nat.le_of_ble_eq_true rfl)⟩ (fun H locs hP hD hS => ?_)
  refine lv_sipush (v := (400 : Int32)) hx hb dL_lone_40 (by decide) ?_
  obtain ⟨k3, hk3, ek3⟩ := smv_nI (n := 400) (by omega) (by omega) ((atv L xs (32 : Int32)))
  have ek3 : smv ((atv L xs (32 : Int32))) (400 : Int32) = nI k3 := ek3
  refine lk_pure (nL := 6) (As := [.int (atv L xs (32 : Int32)), .int (400 : Int32)]) (stk := [.int (1 : Int32)]) ⟨rfl, rfl⟩ (fun sz => k_L_some l D T b L xs sz (atv L xs (32 : Int32)) (400 : Int32) (by decide)) ⟨hx, hb, hml, hown, hts⟩ (va_cwS 2 hts (goodIn_up gY_some) rfl rfl rfl (by decide +kernel) ⟨(Nat.le_of_ble_eq_true rfl), (Nat.le_of_ble_eq_true rfl)⟩) hK hN hX hNc hS hA hXs hbl hbA hP hD rfl rfl hl.1 (Nat.le_of_ble_eq_true rfl) dL_lone_43 ⟨(Nat.le_of_ble_eq_true rfl), (Nat.le_of_ble_eq_true rfl)⟩ (fun H locs hP hD hS => ?_)
  rw [ek3]
  obtain ⟨T0, hT1, hTk⟩ : ∃ T0 : Nat, 1 ≤ T0 ∧ T0 = 1 + k3 := ⟨1 + k3, by omega, rfl⟩
  refine lv_iadd hx hb dL_lone_46 ?_
  rw [show (1 : Int32) + nI k3 = nI T0 by rw [hTk, ← nI_add]; rfl]
  refine lv_istore (lv' := [(4, .int (nI T0)), (3, .int (nI a)), (2, .int (nI P)), (1, .ref (q 0)), (0, .ref b)]) hx hb dL_lone_47 hl (by decide) rfl (fun ls hl => ?_)
  refine lv_aload_n hx hb dL_lone_49 rfl (lv_at hl 3 rfl) ?_
  refine lv_bipush (v := (66 : Int32)) hx hb dL_lone_50 (by decide) ?_
  refine lv_iconst (v := (4 : Int32)) hx hb dL_lone_52 (by decide) ?_
  refine lk_new (N' := 4) hx hb (hts (.arrayClass .int) (by decide +kernel)) hK hP hD hS hA (by decide) (by decide +kernel) (Nat.le_of_ble_eq_true rfl) (Nat.le_of_ble_eq_true rfl) (Nat.le_of_ble_eq_true rfl) dL_lone_53 (fun qv53 H hP hD hS => ?_)
  refine lv_dup hx hb dL_lone_55 rfl ?_
  refine lv_iconst (v := (0 : Int32)) hx hb dL_lone_56 (by decide) ?_
  refine lv_bipush (v := (7 : Int32)) hx hb dL_lone_57 (by decide) ?_
  refine va_iast hx hb hK hP hD hS 0 0 rfl rfl (zk_lit (by decide +kernel)) dL_lone_59 (fun H locs hP hD hS => ?_)
  have hP : va_P D vwCl ((qv53, .inl (T 0, 4, .inl (upd (fun _ => (0 : Int32)) (0 : Int32).toNatClampNeg (7 : Int32)))) :: (ow T q ob_0)) H := hP
  have hD : va_D A ((qv53, .inl (T 0, 4, .inl (upd (fun _ => (0 : Int32)) (0 : Int32).toNatClampNeg (7 : Int32)))) :: (ow T q ob_0)) := hD
  refine lv_dup hx hb dL_lone_60 rfl ?_
  refine lv_iconst (v := (1 : Int32)) hx hb dL_lone_61 (by decide) ?_
  refine lv_iload_n hx hb dL_lone_62 rfl (lv_at hl 2 rfl) ?_
  refine va_iast hx hb hK hP hD hS 0 0 rfl rfl (zk_lit (by decide +kernel)) dL_lone_63 (fun H locs hP hD hS => ?_)
  have hP : va_P D vwCl ((qv53, .inl (T 0, 4, .inl (upd (upd (fun _ => (0 : Int32)) (0 : Int32).toNatClampNeg (7 : Int32)) (1 : Int32).toNatClampNeg (nI P)))) :: (ow T q ob_0)) H := hP
  have hD : va_D A ((qv53, .inl (T 0, 4, .inl (upd (upd (fun _ => (0 : Int32)) (0 : Int32).toNatClampNeg (7 : Int32)) (1 : Int32).toNatClampNeg (nI P)))) :: (ow T q ob_0)) := hD
  refine lv_dup hx hb dL_lone_64 rfl ?_
  refine lv_iconst (v := (2 : Int32)) hx hb dL_lone_65 (by decide) ?_
  refine lv_iload_n hx hb dL_lone_66 rfl (lv_at hl 1 rfl) ?_
  refine va_iast hx hb hK hP hD hS 0 0 rfl rfl (zk_lit (by decide +kernel)) dL_lone_67 (fun H locs hP hD hS => ?_)
  have hP : va_P D vwCl ((qv53, .inl (T 0, 4, .inl (upd (upd (upd (fun _ => (0 : Int32)) (0 : Int32).toNatClampNeg (7 : Int32)) (1 : Int32).toNatClampNeg (nI P)) (2 : Int32).toNatClampNeg (nI a)))) :: (ow T q ob_0)) H := hP
  have hD : va_D A ((qv53, .inl (T 0, 4, .inl (upd (upd (upd (fun _ => (0 : Int32)) (0 : Int32).toNatClampNeg (7 : Int32)) (1 : Int32).toNatClampNeg (nI P)) (2 : Int32).toNatClampNeg (nI a)))) :: (ow T q ob_0)) := hD
  refine lv_dup hx hb dL_lone_68 rfl ?_
  refine lv_iconst (v := (3 : Int32)) hx hb dL_lone_69 (by decide) ?_
  refine lv_iconst (v := (0 : Int32)) hx hb dL_lone_70 (by decide) ?_
  refine va_iast hx hb hK hP hD hS 0 0 rfl rfl (zk_lit (by decide +kernel)) dL_lone_71 (fun H locs hP hD hS => ?_)
  have hP : va_P D vwCl ((qv53, .inl (T 0, 4, .inl (upd (upd (upd (upd (fun _ => (0 : Int32)) (0 : Int32).toNatClampNeg (7 : Int32)) (1 : Int32).toNatClampNeg (nI P)) (2 : Int32).toNatClampNeg (nI a)) (3 : Int32).toNatClampNeg (0 : Int32)))) :: (ow T q ob_0)) H := hP
  have hD : va_D A ((qv53, .inl (T 0, 4, .inl (upd (upd (upd (upd (fun _ => (0 : Int32)) (0 : Int32).toNatClampNeg (7 : Int32)) (1 : Int32).toNatClampNeg (nI P)) (2 : Int32).toNatClampNeg (nI a)) (3 : Int32).toNatClampNeg (0 : Int32)))) :: (ow T q ob_0)) := hD
  obtain ⟨s0, (h0 : A_B 3000 ob_0 4 (upd (upd (upd (upd (fun _ => (0 : Int32)) (0 : Int32).toNatClampNeg (7 : Int32)) (1 : Int32).toNatClampNeg (nI P)) (2 : Int32).toNatClampNeg (nI a)) (3 : Int32).toNatClampNeg (0 : Int32)) = some ((0 : Int32), s0)), V0, K0⟩ := l1_start (P := P) (a := a) ha hP2 (by omega) (v := (upd (upd (upd (upd (fun _ => (0 : Int32)) (0 : Int32).toNatClampNeg (7 : Int32)) (1 : Int32).toNatClampNeg (nI P)) (2 : Int32).toNatClampNeg (nI a)) (3 : Int32).toNatClampNeg (0 : Int32))) rfl rfl rfl rfl
  refine lk_ask (ws' := []) (nL := 6) (rw_ := []) (stk := []) (x := ob_0) (o := ((0 : Int32), s0)) (fun sz => a_B l hst D T 3000 q qv53 sz ob_0 4 (upd (upd (upd (upd (fun _ => (0 : Int32)) (0 : Int32).toNatClampNeg (7 : Int32)) (1 : Int32).toNatClampNeg (nI P)) (2 : Int32).toNatClampNeg (nI a)) (3 : Int32).toNatClampNeg (0 : Int32)) ((0 : Int32), s0) (h0)) ⟨hx, hb, hml, hown, hts⟩ (vx_cwSW 3 hts (goodIn_up gY_ask) rfl rfl rfl (by decide +kernel) ⟨(Nat.le_of_ble_eq_true rfl), (Nat.le_of_ble_eq_true rfl)⟩) hK hN hX hNc hS hA (by rw [List.append_nil]; exact hP) (by rw [List.append_nil]; exact hD) hl.1 (Nat.le_of_ble_eq_true rfl) dL_lone_72 ⟨(Nat.le_of_ble_eq_true rfl), (Nat.le_of_ble_eq_true rfl)⟩ (fun H locs hP hD hS => ?_)
  rw [List.append_nil] at hP hD
  have hP : va_P D vwCl (ow T q s0) H := hP
  have hD : va_D A (ow T q s0) := hD
  refine W.widen (k := 57) (n := 8078) (Nat.le_of_ble_eq_true rfl) (Nat.le_of_ble_eq_true rfl) ?_
  refine lv_if_ne (tgt := 235) hx hb dL_lone_75 (by decide) (fun c9 => absurd (rfl) c9) (fun _ => ?_)
  refine lv_aload_n hx hb dL_lone_78 rfl (lv_at hl 3 rfl) ?_
  refine lv_bipush (v := (99 : Int32)) hx hb dL_lone_79 (by decide) ?_
  refine lv_iconst (v := (0 : Int32)) hx hb dL_lone_81 (by decide) ?_
  refine lk_new (N' := 0) hx hb (hts (.arrayClass .int) (by decide +kernel)) hK hP hD hS hA (by decide) (by decide +kernel) (Nat.le_of_ble_eq_true rfl) (Nat.le_of_ble_eq_true rfl) (Nat.le_of_ble_eq_true rfl) dL_lone_82 (fun qv82 H hP hD hS => ?_)
  obtain ⟨s1, (h1 : A_c 3000 s0 0 (fun _ => (0 : Int32)) = some (nI P, s1)), V1, kp1⟩ := l1_c V0 (fun _ => (0 : Int32))
  have K1 := kp_0 kp1 K0
  refine lk_ask (ws' := []) (nL := 6) (rw_ := []) (stk := []) (x := s0) (o := (nI P, s1)) (fun sz => a_c l hst D T 3000 q qv82 sz s0 0 (fun _ => (0 : Int32)) (nI P, s1) (h1)) ⟨hx, hb, hml, hown, hts⟩ (vx_cwSW 3 hts (goodIn_up gY_ask) rfl rfl rfl (by decide +kernel) ⟨(Nat.le_of_ble_eq_true rfl), (Nat.le_of_ble_eq_true rfl)⟩) hK hN hX hNc hS hA (by rw [List.append_nil]; exact hP) (by rw [List.append_nil]; exact hD) hl.1 (Nat.le_of_ble_eq_true rfl) dL_lone_84 ⟨(Nat.le_of_ble_eq_true rfl), (Nat.le_of_ble_eq_true rfl)⟩ (fun H locs hP hD hS => ?_)
  rw [List.append_nil] at hP hD
  have hP : va_P D vwCl (ow T q s1) H := hP
  have hD : va_D A (ow T q s1) := hD
  refine W.widen (k := 60) (n := 8090) (Nat.le_of_ble_eq_true rfl) (Nat.le_of_ble_eq_true rfl) ?_
  refine lv_iload_n hx hb dL_lone_87 rfl (lv_at hl 2 rfl) ?_
  refine lv_icmp_ne (tgt := 235) hx hb dL_lone_88 (by decide) (fun c9 => absurd (rfl) c9) (fun _ => ?_)
  refine lv_aload_n hx hb dL_lone_91 rfl (lv_at hl 3 rfl) ?_
  refine lv_bipush (v := (100 : Int32)) hx hb dL_lone_92 (by decide) ?_
  refine lv_iconst (v := (0 : Int32)) hx hb dL_lone_94 (by decide) ?_
  refine lk_new (N' := 0) hx hb (hts (.arrayClass .int) (by decide +kernel)) hK hP hD hS hA (by decide) (by decide +kernel) (Nat.le_of_ble_eq_true rfl) (Nat.le_of_ble_eq_true rfl) (Nat.le_of_ble_eq_true rfl) dL_lone_95 (fun qv95 H hP hD hS => ?_)
  obtain ⟨s2, (h2 : A_d 3000 s1 0 (fun _ => (0 : Int32)) = some ((0 : Int32), s2)), V2, kp2⟩ := l1_d V1 (fun _ => (0 : Int32))
  have K2 := kp_0 kp2 K1
  refine lk_ask (ws' := []) (nL := 6) (rw_ := []) (stk := []) (x := s1) (o := ((0 : Int32), s2)) (fun sz => a_d l hst D T 3000 q qv95 sz s1 0 (fun _ => (0 : Int32)) ((0 : Int32), s2) (h2)) ⟨hx, hb, hml, hown, hts⟩ (vx_cwSW 3 hts (goodIn_up gY_ask) rfl rfl rfl (by decide +kernel) ⟨(Nat.le_of_ble_eq_true rfl), (Nat.le_of_ble_eq_true rfl)⟩) hK hN hX hNc hS hA (by rw [List.append_nil]; exact hP) (by rw [List.append_nil]; exact hD) hl.1 (Nat.le_of_ble_eq_true rfl) dL_lone_97 ⟨(Nat.le_of_ble_eq_true rfl), (Nat.le_of_ble_eq_true rfl)⟩ (fun H locs hP hD hS => ?_)
  rw [List.append_nil] at hP hD
  have hP : va_P D vwCl (ow T q s2) H := hP
  have hD : va_D A (ow T q s2) := hD
  refine W.widen (k := 63) (n := 8102) (Nat.le_of_ble_eq_true rfl) (Nat.le_of_ble_eq_true rfl) ?_
  refine lv_if_ne (tgt := 235) hx hb dL_lone_100 (by decide) (fun c9 => absurd (rfl) c9) (fun _ => ?_)
  refine lv_aload_n hx hb dL_lone_103 rfl (lv_at hl 3 rfl) ?_
  refine lv_bipush (v := (98 : Int32)) hx hb dL_lone_104 (by decide) ?_
  refine lv_iconst (v := (1 : Int32)) hx hb dL_lone_106 (by decide) ?_
  refine lk_new (N' := 1) hx hb (hts (.arrayClass .int) (by decide +kernel)) hK hP hD hS hA (by decide) (by decide +kernel) (Nat.le_of_ble_eq_true rfl) (Nat.le_of_ble_eq_true rfl) (Nat.le_of_ble_eq_true rfl) dL_lone_107 (fun qv107 H hP hD hS => ?_)
  refine lv_dup hx hb dL_lone_109 rfl ?_
  refine lv_iconst (v := (0 : Int32)) hx hb dL_lone_110 (by decide) ?_
  refine lv_bipush (v := (7 : Int32)) hx hb dL_lone_111 (by decide) ?_
  refine va_iast hx hb hK hP hD hS 0 0 rfl rfl (zk_lit (by decide +kernel)) dL_lone_113 (fun H locs hP hD hS => ?_)
  have hP : va_P D vwCl ((qv107, .inl (T 0, 1, .inl (upd (fun _ => (0 : Int32)) (0 : Int32).toNatClampNeg (7 : Int32)))) :: (ow T q s2)) H := hP
  have hD : va_D A ((qv107, .inl (T 0, 1, .inl (upd (fun _ => (0 : Int32)) (0 : Int32).toNatClampNeg (7 : Int32)))) :: (ow T q s2)) := hD
  obtain ⟨s3, (h3 : A_b 3000 s2 1 (upd (fun _ => (0 : Int32)) (0 : Int32).toNatClampNeg (7 : Int32)) = some ((1 : Int32), s3)), V3, kp3⟩ := l1_b V2 (v := upd (fun _ => (0 : Int32)) (0 : Int32).toNatClampNeg (7 : Int32)) rfl
  have K3 := kp_0 kp3 K2
  refine lk_ask (ws' := []) (nL := 6) (rw_ := []) (stk := []) (x := s2) (o := ((1 : Int32), s3)) (fun sz => a_b l hst D T 3000 q qv107 sz s2 1 (upd (fun _ => (0 : Int32)) (0 : Int32).toNatClampNeg (7 : Int32)) ((1 : Int32), s3) (h3)) ⟨hx, hb, hml, hown, hts⟩ (vx_cwSW 3 hts (goodIn_up gY_ask) rfl rfl rfl (by decide +kernel) ⟨(Nat.le_of_ble_eq_true rfl), (Nat.le_of_ble_eq_true rfl)⟩) hK hN hX hNc hS hA (by rw [List.append_nil]; exact hP) (by rw [List.append_nil]; exact hD) hl.1 (Nat.le_of_ble_eq_true rfl) dL_lone_114 ⟨(Nat.le_of_ble_eq_true rfl), (Nat.le_of_ble_eq_true rfl)⟩ (fun H locs hP hD hS => ?_)
  rw [List.append_nil] at hP hD
  have hP : va_P D vwCl (ow T q s3) H := hP
  have hD : va_D A (ow T q s3) := hD
  refine W.widen (k := 68) (n := 8127) (Nat.le_of_ble_eq_true rfl) (Nat.le_of_ble_eq_true rfl) ?_
  refine lv_iconst (v := (1 : Int32)) hx hb dL_lone_117 (by decide) ?_
  refine lv_icmp_ne (tgt := 235) hx hb dL_lone_118 (by decide) (fun c9 => absurd (rfl) c9) (fun _ => ?_)
  refine lv_aload_n hx hb dL_lone_121 rfl (lv_at hl 3 rfl) ?_
  refine lv_bipush (v := (103 : Int32)) hx hb dL_lone_122 (by decide) ?_
  refine lv_iconst (v := (0 : Int32)) hx hb dL_lone_124 (by decide) ?_
  refine lk_new (N' := 0) hx hb (hts (.arrayClass .int) (by decide +kernel)) hK hP hD hS hA (by decide) (by decide +kernel) (Nat.le_of_ble_eq_true rfl) (Nat.le_of_ble_eq_true rfl) (Nat.le_of_ble_eq_true rfl) dL_lone_125 (fun qv125 H hP hD hS => ?_)
  obtain ⟨s4, (h4 : A_g 3000 s3 0 (fun _ => (0 : Int32)) = some ((1 : Int32), s4)), V4, kp4⟩ := l1_g V3 (fun _ => (0 : Int32))
  have K4 := kp_0 kp4 K3
  refine lk_ask (ws' := []) (nL := 6) (rw_ := []) (stk := []) (x := s3) (o := ((1 : Int32), s4)) (fun sz => a_g l hst D T 3000 q qv125 sz s3 0 (fun _ => (0 : Int32)) ((1 : Int32), s4) (h4)) ⟨hx, hb, hml, hown, hts⟩ (vx_cwSW 3 hts (goodIn_up gY_ask) rfl rfl rfl (by decide +kernel) ⟨(Nat.le_of_ble_eq_true rfl), (Nat.le_of_ble_eq_true rfl)⟩) hK hN hX hNc hS hA (by rw [List.append_nil]; exact hP) (by rw [List.append_nil]; exact hD) hl.1 (Nat.le_of_ble_eq_true rfl) dL_lone_127 ⟨(Nat.le_of_ble_eq_true rfl), (Nat.le_of_ble_eq_true rfl)⟩ (fun H locs hP hD hS => ?_)
  rw [List.append_nil] at hP hD
  have hP : va_P D vwCl (ow T q s4) H := hP
  have hD : va_D A (ow T q s4) := hD
  refine W.widen (k := 71) (n := 8139) (Nat.le_of_ble_eq_true rfl) (Nat.le_of_ble_eq_true rfl) ?_
  refine lv_iconst (v := (1 : Int32)) hx hb dL_lone_130 (by decide) ?_
  refine lv_icmp_ne (tgt := 235) hx hb dL_lone_131 (by decide) (fun c9 => absurd (rfl) c9) (fun _ => ?_)
  refine lv_aload_n hx hb dL_lone_134 rfl (lv_at hl 3 rfl) ?_
  refine lv_bipush (v := (73 : Int32)) hx hb dL_lone_135 (by decide) ?_
  refine lv_iconst (v := (0 : Int32)) hx hb dL_lone_137 (by decide) ?_
  refine lk_new (N' := 0) hx hb (hts (.arrayClass .int) (by decide +kernel)) hK hP hD hS hA (by decide) (by decide +kernel) (Nat.le_of_ble_eq_true rfl) (Nat.le_of_ble_eq_true rfl) (Nat.le_of_ble_eq_true rfl) dL_lone_138 (fun qv138 H hP hD hS => ?_)
  obtain ⟨s5, (h5 : A_I 3000 s4 0 (fun _ => (0 : Int32)) = some ((1 : Int32), s5)), V5, kp5⟩ := l1_I V4 (fun _ => (0 : Int32))
  have K5 := kp_0 kp5 K4
  refine lk_ask (ws' := []) (nL := 6) (rw_ := []) (stk := []) (x := s4) (o := ((1 : Int32), s5)) (fun sz => a_I l hst D T 3000 q qv138 sz s4 0 (fun _ => (0 : Int32)) ((1 : Int32), s5) (h5)) ⟨hx, hb, hml, hown, hts⟩ (vx_cwSW 3 hts (goodIn_up gY_ask) rfl rfl rfl (by decide +kernel) ⟨(Nat.le_of_ble_eq_true rfl), (Nat.le_of_ble_eq_true rfl)⟩) hK hN hX hNc hS hA (by rw [List.append_nil]; exact hP) (by rw [List.append_nil]; exact hD) hl.1 (Nat.le_of_ble_eq_true rfl) dL_lone_140 ⟨(Nat.le_of_ble_eq_true rfl), (Nat.le_of_ble_eq_true rfl)⟩ (fun H locs hP hD hS => ?_)
  rw [List.append_nil] at hP hD
  have hP : va_P D vwCl (ow T q s5) H := hP
  have hD : va_D A (ow T q s5) := hD
  refine W.widen (k := 74) (n := 8151) (Nat.le_of_ble_eq_true rfl) (Nat.le_of_ble_eq_true rfl) ?_
  refine lv_iconst (v := (1 : Int32)) hx hb dL_lone_143 (by decide) ?_
  refine lv_icmp_ne (tgt := 235) hx hb dL_lone_144 (by decide) (fun c9 => absurd (rfl) c9) (fun _ => ?_)
  refine lv_aload_n hx hb dL_lone_147 rfl (lv_at hl 3 rfl) ?_
  refine lv_bipush (v := (105 : Int32)) hx hb dL_lone_148 (by decide) ?_
  refine lv_iconst (v := (2 : Int32)) hx hb dL_lone_150 (by decide) ?_
  refine lk_new (N' := 2) hx hb (hts (.arrayClass .int) (by decide +kernel)) hK hP hD hS hA (by decide) (by decide +kernel) (Nat.le_of_ble_eq_true rfl) (Nat.le_of_ble_eq_true rfl) (Nat.le_of_ble_eq_true rfl) dL_lone_151 (fun qv151 H hP hD hS => ?_)
  refine lv_dup hx hb dL_lone_153 rfl ?_
  refine lv_iconst (v := (0 : Int32)) hx hb dL_lone_154 (by decide) ?_
  refine lv_bipush (v := (7 : Int32)) hx hb dL_lone_155 (by decide) ?_
  refine va_iast hx hb hK hP hD hS 0 0 rfl rfl (zk_lit (by decide +kernel)) dL_lone_157 (fun H locs hP hD hS => ?_)
  have hP : va_P D vwCl ((qv151, .inl (T 0, 2, .inl (upd (fun _ => (0 : Int32)) (0 : Int32).toNatClampNeg (7 : Int32)))) :: (ow T q s5)) H := hP
  have hD : va_D A ((qv151, .inl (T 0, 2, .inl (upd (fun _ => (0 : Int32)) (0 : Int32).toNatClampNeg (7 : Int32)))) :: (ow T q s5)) := hD
  refine lv_dup hx hb dL_lone_158 rfl ?_
  refine lv_iconst (v := (1 : Int32)) hx hb dL_lone_159 (by decide) ?_
  refine lv_bipush (v := (7 : Int32)) hx hb dL_lone_160 (by decide) ?_
  refine va_iast hx hb hK hP hD hS 0 0 rfl rfl (zk_lit (by decide +kernel)) dL_lone_162 (fun H locs hP hD hS => ?_)
  have hP : va_P D vwCl ((qv151, .inl (T 0, 2, .inl (upd (upd (fun _ => (0 : Int32)) (0 : Int32).toNatClampNeg (7 : Int32)) (1 : Int32).toNatClampNeg (7 : Int32)))) :: (ow T q s5)) H := hP
  have hD : va_D A ((qv151, .inl (T 0, 2, .inl (upd (upd (fun _ => (0 : Int32)) (0 : Int32).toNatClampNeg (7 : Int32)) (1 : Int32).toNatClampNeg (7 : Int32)))) :: (ow T q s5)) := hD
  obtain ⟨s6, (h6 : A_i 3000 s5 2 (upd (upd (fun _ => (0 : Int32)) (0 : Int32).toNatClampNeg (7 : Int32)) (1 : Int32).toNatClampNeg (7 : Int32)) = some ((1 : Int32), s6)), V6, kp6⟩ := l1_i V5 (v := upd (upd (fun _ => (0 : Int32)) (0 : Int32).toNatClampNeg (7 : Int32)) (1 : Int32).toNatClampNeg (7 : Int32)) rfl rfl
  have K6 := kp_0 kp6 K5
  refine lk_ask (ws' := []) (nL := 6) (rw_ := []) (stk := []) (x := s5) (o := ((1 : Int32), s6)) (fun sz => a_i l hst D T 3000 q qv151 sz s5 2 (upd (upd (fun _ => (0 : Int32)) (0 : Int32).toNatClampNeg (7 : Int32)) (1 : Int32).toNatClampNeg (7 : Int32)) ((1 : Int32), s6) (h6)) ⟨hx, hb, hml, hown, hts⟩ (vx_cwSW 3 hts (goodIn_up gY_ask) rfl rfl rfl (by decide +kernel) ⟨(Nat.le_of_ble_eq_true rfl), (Nat.le_of_ble_eq_true rfl)⟩) hK hN hX hNc hS hA (by rw [List.append_nil]; exact hP) (by rw [List.append_nil]; exact hD) hl.1 (Nat.le_of_ble_eq_true rfl) dL_lone_163 ⟨(Nat.le_of_ble_eq_true rfl), (Nat.le_of_ble_eq_true rfl)⟩ (fun H locs hP hD hS => ?_)
  rw [List.append_nil] at hP hD
  have hP : va_P D vwCl (ow T q s6) H := hP
  have hD : va_D A (ow T q s6) := hD
  refine W.widen (k := 83) (n := 8201) (Nat.le_of_ble_eq_true rfl) (Nat.le_of_ble_eq_true rfl) ?_
  refine lv_iconst (v := (1 : Int32)) hx hb dL_lone_166 (by decide) ?_
  refine lv_icmp_ne (tgt := 235) hx hb dL_lone_167 (by decide) (fun c9 => absurd (rfl) c9) (fun _ => ?_)
  refine lv_aload_n hx hb dL_lone_170 rfl (lv_at hl 3 rfl) ?_
  refine lv_bipush (v := (71 : Int32)) hx hb dL_lone_171 (by decide) ?_
  refine lv_iconst (v := (1 : Int32)) hx hb dL_lone_173 (by decide) ?_
  refine lk_new (N' := 1) hx hb (hts (.arrayClass .int) (by decide +kernel)) hK hP hD hS hA (by decide) (by decide +kernel) (Nat.le_of_ble_eq_true rfl) (Nat.le_of_ble_eq_true rfl) (Nat.le_of_ble_eq_true rfl) dL_lone_174 (fun qv174 H hP hD hS => ?_)
  refine lv_dup hx hb dL_lone_176 rfl ?_
  refine lv_iconst (v := (0 : Int32)) hx hb dL_lone_177 (by decide) ?_
  refine lv_bipush (v := (7 : Int32)) hx hb dL_lone_178 (by decide) ?_
  refine va_iast hx hb hK hP hD hS 0 0 rfl rfl (zk_lit (by decide +kernel)) dL_lone_180 (fun H locs hP hD hS => ?_)
  have hP : va_P D vwCl ((qv174, .inl (T 0, 1, .inl (upd (fun _ => (0 : Int32)) (0 : Int32).toNatClampNeg (7 : Int32)))) :: (ow T q s6)) H := hP
  have hD : va_D A ((qv174, .inl (T 0, 1, .inl (upd (fun _ => (0 : Int32)) (0 : Int32).toNatClampNeg (7 : Int32)))) :: (ow T q s6)) := hD
  obtain ⟨s7, (h7 : A_G 3000 s6 1 (upd (fun _ => (0 : Int32)) (0 : Int32).toNatClampNeg (7 : Int32)) = some ((0 : Int32), s7)), V7, kp7⟩ := l1_G V6 (v := upd (fun _ => (0 : Int32)) (0 : Int32).toNatClampNeg (7 : Int32)) rfl
  have K7 := kp_0 kp7 K6
  refine lk_ask (ws' := []) (nL := 6) (rw_ := []) (stk := []) (x := s6) (o := ((0 : Int32), s7)) (fun sz => a_G l hst D T 3000 q qv174 sz s6 1 (upd (fun _ => (0 : Int32)) (0 : Int32).toNatClampNeg (7 : Int32)) ((0 : Int32), s7) (h7)) ⟨hx, hb, hml, hown, hts⟩ (vx_cwSW 3 hts (goodIn_up gY_ask) rfl rfl rfl (by decide +kernel) ⟨(Nat.le_of_ble_eq_true rfl), (Nat.le_of_ble_eq_true rfl)⟩) hK hN hX hNc hS hA (by rw [List.append_nil]; exact hP) (by rw [List.append_nil]; exact hD) hl.1 (Nat.le_of_ble_eq_true rfl) dL_lone_181 ⟨(Nat.le_of_ble_eq_true rfl), (Nat.le_of_ble_eq_true rfl)⟩ (fun H locs hP hD hS => ?_)
  rw [List.append_nil] at hP hD
  have hP : va_P D vwCl (ow T q s7) H := hP
  have hD : va_D A (ow T q s7) := hD
  refine W.widen (k := 88) (n := 8226) (Nat.le_of_ble_eq_true rfl) (Nat.le_of_ble_eq_true rfl) ?_
  refine lv_if_ne (tgt := 235) hx hb dL_lone_184 (by decide) (fun c9 => absurd (rfl) c9) (fun _ => ?_)
  refine lv_aload_n hx hb dL_lone_187 rfl (lv_at hl 3 rfl) ?_
  refine lv_bipush (v := (111 : Int32)) hx hb dL_lone_188 (by decide) ?_
  refine lv_iconst (v := (1 : Int32)) hx hb dL_lone_190 (by decide) ?_
  refine lk_new (N' := 1) hx hb (hts (.arrayClass .int) (by decide +kernel)) hK hP hD hS hA (by decide) (by decide +kernel) (Nat.le_of_ble_eq_true rfl) (Nat.le_of_ble_eq_true rfl) (Nat.le_of_ble_eq_true rfl) dL_lone_191 (fun qv191 H hP hD hS => ?_)
  refine lv_dup hx hb dL_lone_193 rfl ?_
  refine lv_iconst (v := (0 : Int32)) hx hb dL_lone_194 (by decide) ?_
  refine lv_iconst (v := (0 : Int32)) hx hb dL_lone_195 (by decide) ?_
  refine va_iast hx hb hK hP hD hS 0 0 rfl rfl (zk_lit (by decide +kernel)) dL_lone_196 (fun H locs hP hD hS => ?_)
  have hP : va_P D vwCl ((qv191, .inl (T 0, 1, .inl (upd (fun _ => (0 : Int32)) (0 : Int32).toNatClampNeg (0 : Int32)))) :: (ow T q s7)) H := hP
  have hD : va_D A ((qv191, .inl (T 0, 1, .inl (upd (fun _ => (0 : Int32)) (0 : Int32).toNatClampNeg (0 : Int32)))) :: (ow T q s7)) := hD
  obtain ⟨s8, (h8 : A_o 3000 s7 1 (upd (fun _ => (0 : Int32)) (0 : Int32).toNatClampNeg (0 : Int32)) = some ((7 : Int32), s8)), V8, kp8⟩ := l1_o V7 (v := upd (fun _ => (0 : Int32)) (0 : Int32).toNatClampNeg (0 : Int32)) (i := 0) (by omega) rfl
  have K8 := kp_0 kp8 K7
  refine lk_ask (ws' := []) (nL := 6) (rw_ := []) (stk := []) (x := s7) (o := ((7 : Int32), s8)) (fun sz => a_o l hst D T 3000 q qv191 sz s7 1 (upd (fun _ => (0 : Int32)) (0 : Int32).toNatClampNeg (0 : Int32)) ((7 : Int32), s8) (h8)) ⟨hx, hb, hml, hown, hts⟩ (vx_cwSW 3 hts (goodIn_up gY_ask) rfl rfl rfl (by decide +kernel) ⟨(Nat.le_of_ble_eq_true rfl), (Nat.le_of_ble_eq_true rfl)⟩) hK hN hX hNc hS hA (by rw [List.append_nil]; exact hP) (by rw [List.append_nil]; exact hD) hl.1 (Nat.le_of_ble_eq_true rfl) dL_lone_197 ⟨(Nat.le_of_ble_eq_true rfl), (Nat.le_of_ble_eq_true rfl)⟩ (fun H locs hP hD hS => ?_)
  rw [List.append_nil] at hP hD
  have hP : va_P D vwCl (ow T q s8) H := hP
  have hD : va_D A (ow T q s8) := hD
  refine W.widen (k := 92) (n := 8245) (Nat.le_of_ble_eq_true rfl) (Nat.le_of_ble_eq_true rfl) ?_
  refine lv_bipush (v := (7 : Int32)) hx hb dL_lone_200 (by decide) ?_
  refine lv_icmp_ne (tgt := 235) hx hb dL_lone_202 (by decide) (fun c9 => absurd (rfl) c9) (fun _ => ?_)
  refine lv_aload_n hx hb dL_lone_205 rfl (lv_at hl 3 rfl) ?_
  refine lv_bipush (v := (111 : Int32)) hx hb dL_lone_206 (by decide) ?_
  refine lv_iconst (v := (1 : Int32)) hx hb dL_lone_208 (by decide) ?_
  refine lk_new (N' := 1) hx hb (hts (.arrayClass .int) (by decide +kernel)) hK hP hD hS hA (by decide) (by decide +kernel) (Nat.le_of_ble_eq_true rfl) (Nat.le_of_ble_eq_true rfl) (Nat.le_of_ble_eq_true rfl) dL_lone_209 (fun qv209 H hP hD hS => ?_)
  refine lv_dup hx hb dL_lone_211 rfl ?_
  refine lv_iconst (v := (0 : Int32)) hx hb dL_lone_212 (by decide) ?_
  refine lv_iconst (v := (1 : Int32)) hx hb dL_lone_213 (by decide) ?_
  refine va_iast hx hb hK hP hD hS 0 0 rfl rfl (zk_lit (by decide +kernel)) dL_lone_214 (fun H locs hP hD hS => ?_)
  have hP : va_P D vwCl ((qv209, .inl (T 0, 1, .inl (upd (fun _ => (0 : Int32)) (0 : Int32).toNatClampNeg (1 : Int32)))) :: (ow T q s8)) H := hP
  have hD : va_D A ((qv209, .inl (T 0, 1, .inl (upd (fun _ => (0 : Int32)) (0 : Int32).toNatClampNeg (1 : Int32)))) :: (ow T q s8)) := hD
  obtain ⟨s9, (h9 : A_o 3000 s8 1 (upd (fun _ => (0 : Int32)) (0 : Int32).toNatClampNeg (1 : Int32)) = some ((-2000000005 : Int32), s9)), V9, kp9⟩ := l1_o V8 (v := upd (fun _ => (0 : Int32)) (0 : Int32).toNatClampNeg (1 : Int32)) (i := 1) (by omega) rfl
  have K9 := kp_0 kp9 K8
  refine lk_ask (ws' := []) (nL := 6) (rw_ := []) (stk := []) (x := s8) (o := ((-2000000005 : Int32), s9)) (fun sz => a_o l hst D T 3000 q qv209 sz s8 1 (upd (fun _ => (0 : Int32)) (0 : Int32).toNatClampNeg (1 : Int32)) ((-2000000005 : Int32), s9) (h9)) ⟨hx, hb, hml, hown, hts⟩ (vx_cwSW 3 hts (goodIn_up gY_ask) rfl rfl rfl (by decide +kernel) ⟨(Nat.le_of_ble_eq_true rfl), (Nat.le_of_ble_eq_true rfl)⟩) hK hN hX hNc hS hA (by rw [List.append_nil]; exact hP) (by rw [List.append_nil]; exact hD) hl.1 (Nat.le_of_ble_eq_true rfl) dL_lone_215 ⟨(Nat.le_of_ble_eq_true rfl), (Nat.le_of_ble_eq_true rfl)⟩ (fun H locs hP hD hS => ?_)
  rw [List.append_nil] at hP hD
  have hP : va_P D vwCl (ow T q s9) H := hP
  have hD : va_D A (ow T q s9) := hD
  refine W.widen (k := 96) (n := 8264) (Nat.le_of_ble_eq_true rfl) (Nat.le_of_ble_eq_true rfl) ?_
  refine lv_ldc (v := (-2000000005 : Int32)) hx hb hown (hts (.constant RL 88 (-2000000005 : Int32)) (by decide +kernel)) dL_lone_218 ?_
  refine lv_icmp_ne (tgt := 235) hx hb dL_lone_220 (by decide) (fun c9 => absurd (rfl) c9) (fun _ => ?_)
  refine lv_aload_n hx hb dL_lone_223 rfl (lv_at hl 3 rfl) ?_
  refine lv_bipush (v := (88 : Int32)) hx hb dL_lone_224 (by decide) ?_
  refine lv_iconst (v := (0 : Int32)) hx hb dL_lone_226 (by decide) ?_
  refine lk_new (N' := 0) hx hb (hts (.arrayClass .int) (by decide +kernel)) hK hP hD hS hA (by decide) (by decide +kernel) (Nat.le_of_ble_eq_true rfl) (Nat.le_of_ble_eq_true rfl) (Nat.le_of_ble_eq_true rfl) dL_lone_227 (fun qv227 H hP hD hS => ?_)
  obtain ⟨s10, (h10 : A_X 3000 s9 0 (fun _ => (0 : Int32)) = some ((0 : Int32), s10)), V10, kp10⟩ := l1_X V9 (fun _ => (0 : Int32))
  have K10 := kp_0 kp10 K9
  refine lk_ask (ws' := []) (nL := 6) (rw_ := []) (stk := []) (x := s9) (o := ((0 : Int32), s10)) (fun sz => a_X l hst D T 3000 q qv227 sz s9 0 (fun _ => (0 : Int32)) ((0 : Int32), s10) (h10)) ⟨hx, hb, hml, hown, hts⟩ (vx_cwSW 3 hts (goodIn_up gY_ask) rfl rfl rfl (by decide +kernel) ⟨(Nat.le_of_ble_eq_true rfl), (Nat.le_of_ble_eq_true rfl)⟩) hK hN hX hNc hS hA (by rw [List.append_nil]; exact hP) (by rw [List.append_nil]; exact hD) hl.1 (Nat.le_of_ble_eq_true rfl) dL_lone_229 ⟨(Nat.le_of_ble_eq_true rfl), (Nat.le_of_ble_eq_true rfl)⟩ (fun H locs hP hD hS => ?_)
  rw [List.append_nil] at hP hD
  have hP : va_P D vwCl (ow T q s10) H := hP
  have hD : va_D A (ow T q s10) := hD
  refine W.widen (k := 99) (n := 8276) (Nat.le_of_ble_eq_true rfl) (Nat.le_of_ble_eq_true rfl) ?_
  refine lv_if_eq (tgt := 237) hx hb dL_lone_232 (by decide) (fun _ => ?_) (fun c9 => absurd (rfl) c9)
  refine lv_iload_n hx hb dL_lone_237 rfl (lv_at hl 1 rfl) ?_
  refine lv_iload hx hb dL_lone_238 (lv_at hl 0 rfl) ?_
  refine lv_iadd hx hb dL_lone_240 ?_
  refine lv_iload_n hx hb dL_lone_241 rfl (lv_at hl 2 rfl) ?_
  refine lv_idiv hx hb dL_lone_242 (fun w => by have := (nI_eq (b := 0) (by omega) (by omega)).mp w; omega) ?_
  rw [show (nI a + nI T0) / nI P = nI ((a + T0) / P) by rw [nI_add, pk_div (by omega) (by omega) (by omega)]]
  refine lv_istore (lv' := [(5, .int (nI ((a + T0) / P))), (4, .int (nI T0)), (3, .int (nI a)), (2, .int (nI P)), (1, .ref (q 0)), (0, .ref b)]) hx hb dL_lone_243 hl (by decide) rfl (fun ls hl => ?_)
  refine lv_aload_n hx hb dL_lone_245 rfl (lv_at hl 4 rfl) ?_
  refine lv_bipush (v := (82 : Int32)) hx hb dL_lone_246 (by decide) ?_
  refine lv_iconst (v := (1 : Int32)) hx hb dL_lone_248 (by decide) ?_
  refine lk_new (N' := 1) hx hb (hts (.arrayClass .int) (by decide +kernel)) hK hP hD hS hA (by decide) (by decide +kernel) (Nat.le_of_ble_eq_true rfl) (Nat.le_of_ble_eq_true rfl) (Nat.le_of_ble_eq_true rfl) dL_lone_249 (fun qv249 H hP hD hS => ?_)
  refine lv_dup hx hb dL_lone_251 rfl ?_
  refine lv_iconst (v := (0 : Int32)) hx hb dL_lone_252 (by decide) ?_
  refine lv_iload hx hb dL_lone_253 (lv_at hl 1 rfl) ?_
  refine va_iast hx hb hK hP hD hS 0 0 rfl rfl (zk_lit (by decide +kernel)) dL_lone_255 (fun H locs hP hD hS => ?_)
  have hP : va_P D vwCl ((qv249, .inl (T 0, 1, .inl (upd (fun _ => (0 : Int32)) (0 : Int32).toNatClampNeg (nI T0)))) :: (ow T q s10)) H := hP
  have hD : va_D A ((qv249, .inl (T 0, 1, .inl (upd (fun _ => (0 : Int32)) (0 : Int32).toNatClampNeg (nI T0)))) :: (ow T q s10)) := hD
  obtain ⟨s11, h11, V11, f11, l11, p11⟩ := l1_R V10 (T := T0) hT1 (by omega) K10.1 K10.2.1 K10.2.2 (v := upd (fun _ => (0 : Int32)) (0 : Int32).toNatClampNeg (nI T0)) rfl
  refine lk_ask (ws' := []) (nL := 6) (rw_ := []) (stk := []) (x := s10) (o := (nI ((a + T0) / P), s11)) (fun sz => a_R l hst D T 3000 q qv249 sz s10 1 (upd (fun _ => (0 : Int32)) (0 : Int32).toNatClampNeg (nI T0)) (nI ((a + T0) / P), s11) (h11)) ⟨hx, hb, hml, hown, hts⟩ (vx_cwSW 3 hts (goodIn_up gY_ask) rfl rfl rfl (by decide +kernel) ⟨(Nat.le_of_ble_eq_true rfl), (Nat.le_of_ble_eq_true rfl)⟩) hK hN hX hNc hS hA (by rw [List.append_nil]; exact hP) (by rw [List.append_nil]; exact hD) hl.1 (Nat.le_of_ble_eq_true rfl) dL_lone_256 ⟨(Nat.le_of_ble_eq_true rfl), (Nat.le_of_ble_eq_true rfl)⟩ (fun H locs hP hD hS => ?_)
  rw [List.append_nil] at hP hD
  have hP : va_P D vwCl (ow T q s11) H := hP
  have hD : va_D A (ow T q s11) := hD
  refine W.widen (k := 101) (n := 8283) (Nat.le_of_ble_eq_true rfl) (Nat.le_of_ble_eq_true rfl) ?_
  refine lv_iload hx hb dL_lone_259 (lv_at hl 0 rfl) ?_
  refine lv_icmp_ne (tgt := 341) hx hb dL_lone_261 (by decide) (fun c9 => absurd (rfl) c9) (fun _ => ?_)
  have m11 : o_setting_mask s11 = x7 := by obtain ⟨_, _, _, _, J, -⟩ := V11; exact J.1
  have b7 : bt x7 7 = true := by rw [bt7]; rfl
  refine lv_aload_n hx hb dL_lone_264 rfl (lv_at hl 4 rfl) ?_
  refine lv_bipush (v := (102 : Int32)) hx hb dL_lone_265 (by decide) ?_
  refine lv_iconst (v := (1 : Int32)) hx hb dL_lone_267 (by decide) ?_
  refine lk_new (N' := 1) hx hb (hts (.arrayClass .int) (by decide +kernel)) hK hP hD hS hA (by decide) (by decide +kernel) (Nat.le_of_ble_eq_true rfl) (Nat.le_of_ble_eq_true rfl) (Nat.le_of_ble_eq_true rfl) dL_lone_268 (fun qv268 H hP hD hS => ?_)
  refine lv_dup hx hb dL_lone_270 rfl ?_
  refine lv_iconst (v := (0 : Int32)) hx hb dL_lone_271 (by decide) ?_
  refine lv_bipush (v := (7 : Int32)) hx hb dL_lone_272 (by decide) ?_
  refine va_iast hx hb hK hP hD hS 0 0 rfl rfl (zk_lit (by decide +kernel)) dL_lone_274 (fun H locs hP hD hS => ?_)
  have hP : va_P D vwCl ((qv268, .inl (T 0, 1, .inl (upd (fun _ => (0 : Int32)) (0 : Int32).toNatClampNeg (7 : Int32)))) :: (ow T q s11)) H := hP
  have hD : va_D A ((qv268, .inl (T 0, 1, .inl (upd (fun _ => (0 : Int32)) (0 : Int32).toNatClampNeg (7 : Int32)))) :: (ow T q s11)) := hD
  have h12 := pj_flashes m11 (p := 7) (by omega) b7 (v := upd (fun _ => (0 : Int32)) (0 : Int32).toNatClampNeg (7 : Int32)) rfl
  rw [f11] at h12
  refine lk_ask (ws' := []) (nL := 6) (rw_ := []) (stk := []) (x := s11) (o := (nI ((a + T0) / P), s11)) (fun sz => a_f l hst D T 3000 q qv268 sz s11 1 (upd (fun _ => (0 : Int32)) (0 : Int32).toNatClampNeg (7 : Int32)) (nI ((a + T0) / P), s11) (h12)) ⟨hx, hb, hml, hown, hts⟩ (vx_cwSW 3 hts (goodIn_up gY_ask) rfl rfl rfl (by decide +kernel) ⟨(Nat.le_of_ble_eq_true rfl), (Nat.le_of_ble_eq_true rfl)⟩) hK hN hX hNc hS hA (by rw [List.append_nil]; exact hP) (by rw [List.append_nil]; exact hD) hl.1 (Nat.le_of_ble_eq_true rfl) dL_lone_275 ⟨(Nat.le_of_ble_eq_true rfl), (Nat.le_of_ble_eq_true rfl)⟩ (fun H locs hP hD hS => ?_)
  rw [List.append_nil] at hP hD
  have hP : va_P D vwCl (ow T q s11) H := hP
  have hD : va_D A (ow T q s11) := hD
  refine W.widen (k := 104) (n := 8296) (Nat.le_of_ble_eq_true rfl) (Nat.le_of_ble_eq_true rfl) ?_
  refine lv_iload hx hb dL_lone_278 (lv_at hl 0 rfl) ?_
  refine lv_icmp_ne (tgt := 341) hx hb dL_lone_280 (by decide) (fun c9 => absurd (rfl) c9) (fun _ => ?_)
  refine lv_aload_n hx hb dL_lone_283 rfl (lv_at hl 4 rfl) ?_
  refine lv_bipush (v := (112 : Int32)) hx hb dL_lone_284 (by decide) ?_
  refine lv_iconst (v := (1 : Int32)) hx hb dL_lone_286 (by decide) ?_
  refine lk_new (N' := 1) hx hb (hts (.arrayClass .int) (by decide +kernel)) hK hP hD hS hA (by decide) (by decide +kernel) (Nat.le_of_ble_eq_true rfl) (Nat.le_of_ble_eq_true rfl) (Nat.le_of_ble_eq_true rfl) dL_lone_287 (fun qv287 H hP hD hS => ?_)
  refine lv_dup hx hb dL_lone_289 rfl ?_
  refine lv_iconst (v := (0 : Int32)) hx hb dL_lone_290 (by decide) ?_
  refine lv_bipush (v := (7 : Int32)) hx hb dL_lone_291 (by decide) ?_
  refine va_iast hx hb hK hP hD hS 0 0 rfl rfl (zk_lit (by decide +kernel)) dL_lone_293 (fun H locs hP hD hS => ?_)
  have hP : va_P D vwCl ((qv287, .inl (T 0, 1, .inl (upd (fun _ => (0 : Int32)) (0 : Int32).toNatClampNeg (7 : Int32)))) :: (ow T q s11)) H := hP
  have hD : va_D A ((qv287, .inl (T 0, 1, .inl (upd (fun _ => (0 : Int32)) (0 : Int32).toNatClampNeg (7 : Int32)))) :: (ow T q s11)) := hD
  have h13 := pj_phase m11 (p := 7) (by omega) b7 (v := upd (fun _ => (0 : Int32)) (0 : Int32).toNatClampNeg (7 : Int32)) rfl
  rw [p11] at h13
  refine lk_ask (ws' := []) (nL := 6) (rw_ := []) (stk := []) (x := s11) (o := (nI ((a + T0) % P), s11)) (fun sz => a_p l hst D T 3000 q qv287 sz s11 1 (upd (fun _ => (0 : Int32)) (0 : Int32).toNatClampNeg (7 : Int32)) (nI ((a + T0) % P), s11) (h13)) ⟨hx, hb, hml, hown, hts⟩ (vx_cwSW 3 hts (goodIn_up gY_ask) rfl rfl rfl (by decide +kernel) ⟨(Nat.le_of_ble_eq_true rfl), (Nat.le_of_ble_eq_true rfl)⟩) hK hN hX hNc hS hA (by rw [List.append_nil]; exact hP) (by rw [List.append_nil]; exact hD) hl.1 (Nat.le_of_ble_eq_true rfl) dL_lone_294 ⟨(Nat.le_of_ble_eq_true rfl), (Nat.le_of_ble_eq_true rfl)⟩ (fun H locs hP hD hS => ?_)
  rw [List.append_nil] at hP hD
  have hP : va_P D vwCl (ow T q s11) H := hP
  have hD : va_D A (ow T q s11) := hD
  refine W.widen (k := 107) (n := 8309) (Nat.le_of_ble_eq_true rfl) (Nat.le_of_ble_eq_true rfl) ?_
  refine lv_iload_n hx hb dL_lone_297 rfl (lv_at hl 2 rfl) ?_
  refine lv_iload hx hb dL_lone_298 (lv_at hl 1 rfl) ?_
  refine lv_iadd hx hb dL_lone_300 ?_
  refine lv_iload_n hx hb dL_lone_301 rfl (lv_at hl 3 rfl) ?_
  refine lv_irem hx hb dL_lone_302 (fun w => by have := (nI_eq (b := 0) (by omega) (by omega)).mp w; omega) ?_
  rw [show nI a + nI T0 - (nI a + nI T0) / nI P * nI P = nI ((a + T0) % P) by rw [nI_add, nI_rem (by omega) (by omega) (by omega)]]
  refine lv_icmp_ne (tgt := 341) hx hb dL_lone_303 (by decide) (fun c9 => absurd (rfl) c9) (fun _ => ?_)
  refine lv_aload_n hx hb dL_lone_306 rfl (lv_at hl 4 rfl) ?_
  refine lv_bipush (v := (108 : Int32)) hx hb dL_lone_307 (by decide) ?_
  refine lv_iconst (v := (1 : Int32)) hx hb dL_lone_309 (by decide) ?_
  refine lk_new (N' := 1) hx hb (hts (.arrayClass .int) (by decide +kernel)) hK hP hD hS hA (by decide) (by decide +kernel) (Nat.le_of_ble_eq_true rfl) (Nat.le_of_ble_eq_true rfl) (Nat.le_of_ble_eq_true rfl) dL_lone_310 (fun qv310 H hP hD hS => ?_)
  refine lv_dup hx hb dL_lone_312 rfl ?_
  refine lv_iconst (v := (0 : Int32)) hx hb dL_lone_313 (by decide) ?_
  refine lv_bipush (v := (7 : Int32)) hx hb dL_lone_314 (by decide) ?_
  refine va_iast hx hb hK hP hD hS 0 0 rfl rfl (zk_lit (by decide +kernel)) dL_lone_316 (fun H locs hP hD hS => ?_)
  have hP : va_P D vwCl ((qv310, .inl (T 0, 1, .inl (upd (fun _ => (0 : Int32)) (0 : Int32).toNatClampNeg (7 : Int32)))) :: (ow T q s11)) H := hP
  have hD : va_D A ((qv310, .inl (T 0, 1, .inl (upd (fun _ => (0 : Int32)) (0 : Int32).toNatClampNeg (7 : Int32)))) :: (ow T q s11)) := hD
  have h14 := pj_last m11 (p := 7) (by omega) b7 (v := upd (fun _ => (0 : Int32)) (0 : Int32).toNatClampNeg (7 : Int32)) rfl
  rw [l11] at h14
  refine lk_ask (ws' := []) (nL := 6) (rw_ := []) (stk := []) (x := s11) (o := (if (a + T0) / P = 0 then 0 else nI (T0 - (a + T0) % P), s11)) (fun sz => a_l l hst D T 3000 q qv310 sz s11 1 (upd (fun _ => (0 : Int32)) (0 : Int32).toNatClampNeg (7 : Int32)) (if (a + T0) / P = 0 then 0 else nI (T0 - (a + T0) % P), s11) (h14)) ⟨hx, hb, hml, hown, hts⟩ (vx_cwSW 3 hts (goodIn_up gY_ask) rfl rfl rfl (by decide +kernel) ⟨(Nat.le_of_ble_eq_true rfl), (Nat.le_of_ble_eq_true rfl)⟩) hK hN hX hNc hS hA (by rw [List.append_nil]; exact hP) (by rw [List.append_nil]; exact hD) hl.1 (Nat.le_of_ble_eq_true rfl) dL_lone_317 ⟨(Nat.le_of_ble_eq_true rfl), (Nat.le_of_ble_eq_true rfl)⟩ (fun H locs hP hD hS => ?_)
  rw [List.append_nil] at hP hD
  have hP : va_P D vwCl (ow T q s11) H := hP
  have hD : va_D A (ow T q s11) := hD
  refine W.widen (k := 110) (n := 8322) (Nat.le_of_ble_eq_true rfl) (Nat.le_of_ble_eq_true rfl) ?_
  have hl : lv_has ls 6 ((5, .int (nI ((a + T0) / P))) :: (4, .int (nI T0)) :: (3, .int (nI a)) :: (2, .int (nI P)) :: [(1, .ref (q 0)), (0, .ref b)]) := hl
  refine lone_seg ha (by omega) (by omega) hx hb hl ?_
  refine lv_aload_n hx hb dL_lone_343 rfl (lv_at hl 4 rfl) ?_
  refine lv_bipush (v := (110 : Int32)) hx hb dL_lone_344 (by decide) ?_
  refine lv_iconst (v := (1 : Int32)) hx hb dL_lone_346 (by decide) ?_
  refine lk_new (N' := 1) hx hb (hts (.arrayClass .int) (by decide +kernel)) hK hP hD hS hA (by decide) (by decide +kernel) (Nat.le_of_ble_eq_true rfl) (Nat.le_of_ble_eq_true rfl) (Nat.le_of_ble_eq_true rfl) dL_lone_347 (fun qv347 H hP hD hS => ?_)
  refine lv_dup hx hb dL_lone_349 rfl ?_
  refine lv_iconst (v := (0 : Int32)) hx hb dL_lone_350 (by decide) ?_
  refine lv_bipush (v := (99 : Int32)) hx hb dL_lone_351 (by decide) ?_
  refine va_iast hx hb hK hP hD hS 0 0 rfl rfl (zk_lit (by decide +kernel)) dL_lone_353 (fun H locs hP hD hS => ?_)
  have hP : va_P D vwCl ((qv347, .inl (T 0, 1, .inl (upd (fun _ => (0 : Int32)) (0 : Int32).toNatClampNeg (99 : Int32)))) :: (ow T q s11)) H := hP
  have hD : va_D A ((qv347, .inl (T 0, 1, .inl (upd (fun _ => (0 : Int32)) (0 : Int32).toNatClampNeg (99 : Int32)))) :: (ow T q s11)) := hD
  obtain ⟨fr, to, de, S0, J11, -⟩ := id V11
  obtain ⟨h15, J15⟩ := pj_noise J11 (a := 99) (by omega) (v := upd (fun _ => (0 : Int32)) (0 : Int32).toNatClampNeg (99 : Int32)) rfl
  refine lk_ask (ws' := []) (nL := 6) (rw_ := []) (stk := []) (x := s11) (o := ((0 : Int32), pN s11 (nI 99))) (fun sz => a_n l hst D T 3000 q qv347 sz s11 1 (upd (fun _ => (0 : Int32)) (0 : Int32).toNatClampNeg (99 : Int32)) ((0 : Int32), pN s11 (nI 99)) (h15)) ⟨hx, hb, hml, hown, hts⟩ (vx_cwSW 3 hts (goodIn_up gY_ask) rfl rfl rfl (by decide +kernel) ⟨(Nat.le_of_ble_eq_true rfl), (Nat.le_of_ble_eq_true rfl)⟩) hK hN hX hNc hS hA (by rw [List.append_nil]; exact hP) (by rw [List.append_nil]; exact hD) hl.1 (Nat.le_of_ble_eq_true rfl) dL_lone_354 ⟨(Nat.le_of_ble_eq_true rfl), (Nat.le_of_ble_eq_true rfl)⟩ (fun H locs hP hD hS => ?_)
  rw [List.append_nil] at hP hD
  have hP : va_P D vwCl (ow T q (pN s11 (nI 99))) H := hP
  have hD : va_D A (ow T q (pN s11 (nI 99))) := hD
  refine W.widen (k := 112) (n := 8329) (Nat.le_of_ble_eq_true rfl) (Nat.le_of_ble_eq_true rfl) ?_
  refine lv_if_ne (tgt := 573) hx hb dL_lone_357 (by decide) (fun c9 => absurd (rfl) c9) (fun _ => ?_)
  refine lv_aload_n hx hb dL_lone_360 rfl (lv_at hl 4 rfl) ?_
  refine lv_bipush (v := (99 : Int32)) hx hb dL_lone_361 (by decide) ?_
  refine lv_iconst (v := (0 : Int32)) hx hb dL_lone_363 (by decide) ?_
  refine lk_new (N' := 0) hx hb (hts (.arrayClass .int) (by decide +kernel)) hK hP hD hS hA (by decide) (by decide +kernel) (Nat.le_of_ble_eq_true rfl) (Nat.le_of_ble_eq_true rfl) (Nat.le_of_ble_eq_true rfl) dL_lone_364 (fun qv364 H hP hD hS => ?_)
  refine lk_ask (ws' := []) (nL := 6) (rw_ := []) (stk := []) (x := pN s11 (nI 99)) (o := ((-2000000004 : Int32), pN s11 (nI 99))) (fun sz => a_c l hst D T 3000 q qv364 sz (pN s11 (nI 99)) 0 (fun _ => (0 : Int32)) ((-2000000004 : Int32), pN s11 (nI 99)) (ln_c (h := 99) (by omega) (by omega) rfl (fun _ => (0 : Int32)))) ⟨hx, hb, hml, hown, hts⟩ (vx_cwSW 3 hts (goodIn_up gY_ask) rfl rfl rfl (by decide +kernel) ⟨(Nat.le_of_ble_eq_true rfl), (Nat.le_of_ble_eq_true rfl)⟩) hK hN hX hNc hS hA (by rw [List.append_nil]; exact hP) (by rw [List.append_nil]; exact hD) hl.1 (Nat.le_of_ble_eq_true rfl) dL_lone_366 ⟨(Nat.le_of_ble_eq_true rfl), (Nat.le_of_ble_eq_true rfl)⟩ (fun H locs hP hD hS => ?_)
  rw [List.append_nil] at hP hD
  have hP : va_P D vwCl (ow T q (pN s11 (nI 99))) H := hP
  have hD : va_D A (ow T q (pN s11 (nI 99))) := hD
  refine W.widen (k := 115) (n := 8341) (Nat.le_of_ble_eq_true rfl) (Nat.le_of_ble_eq_true rfl) ?_
  refine lv_ldc (v := (-2000000004 : Int32)) hx hb hown (hts (.constant RL 82 (-2000000004 : Int32)) (by decide +kernel)) dL_lone_369 ?_
  refine lv_icmp_ne (tgt := 573) hx hb dL_lone_371 (by decide) (fun c9 => absurd (rfl) c9) (fun _ => ?_)
  refine lv_aload_n hx hb dL_lone_374 rfl (lv_at hl 4 rfl) ?_
  refine lv_bipush (v := (88 : Int32)) hx hb dL_lone_375 (by decide) ?_
  refine lv_iconst (v := (0 : Int32)) hx hb dL_lone_377 (by decide) ?_
  refine lk_new (N' := 0) hx hb (hts (.arrayClass .int) (by decide +kernel)) hK hP hD hS hA (by decide) (by decide +kernel) (Nat.le_of_ble_eq_true rfl) (Nat.le_of_ble_eq_true rfl) (Nat.le_of_ble_eq_true rfl) dL_lone_378 (fun qv378 H hP hD hS => ?_)
  refine lk_ask (ws' := []) (nL := 6) (rw_ := []) (stk := []) (x := pN s11 (nI 99)) (o := ((-2000000004 : Int32), pN s11 (nI 99))) (fun sz => a_X l hst D T 3000 q qv378 sz (pN s11 (nI 99)) 0 (fun _ => (0 : Int32)) ((-2000000004 : Int32), pN s11 (nI 99)) (ln_X (h := 99) (by omega) (by omega) rfl (fun _ => (0 : Int32)))) ⟨hx, hb, hml, hown, hts⟩ (vx_cwSW 3 hts (goodIn_up gY_ask) rfl rfl rfl (by decide +kernel) ⟨(Nat.le_of_ble_eq_true rfl), (Nat.le_of_ble_eq_true rfl)⟩) hK hN hX hNc hS hA (by rw [List.append_nil]; exact hP) (by rw [List.append_nil]; exact hD) hl.1 (Nat.le_of_ble_eq_true rfl) dL_lone_380 ⟨(Nat.le_of_ble_eq_true rfl), (Nat.le_of_ble_eq_true rfl)⟩ (fun H locs hP hD hS => ?_)
  rw [List.append_nil] at hP hD
  have hP : va_P D vwCl (ow T q (pN s11 (nI 99))) H := hP
  have hD : va_D A (ow T q (pN s11 (nI 99))) := hD
  refine W.widen (k := 118) (n := 8353) (Nat.le_of_ble_eq_true rfl) (Nat.le_of_ble_eq_true rfl) ?_
  refine lv_ldc (v := (-2000000004 : Int32)) hx hb hown (hts (.constant RL 82 (-2000000004 : Int32)) (by decide +kernel)) dL_lone_383 ?_
  refine lv_icmp_ne (tgt := 573) hx hb dL_lone_385 (by decide) (fun c9 => absurd (rfl) c9) (fun _ => ?_)
  refine lv_aload_n hx hb dL_lone_388 rfl (lv_at hl 4 rfl) ?_
  refine lv_iconst (v := (1 : Int32)) hx hb dL_lone_389 (by decide) ?_
  refine lk_mean (ws' := []) (nL := 6) (stk := []) (x := pN s11 (nI 99)) (o := ((-2000000004 : Int32), pN s11 (nI 99))) (fun sz => m_1 l hst D T 3000 q sz (pN s11 (nI 99)) _ (ln_M (h := 99) (by omega) (by omega) rfl)) ⟨hx, hb, hml, hown, hts⟩ (vx_cwSW 2 hts (goodIn_up gY_mean) rfl rfl rfl (by decide +kernel) ⟨(Nat.le_of_ble_eq_true rfl), (Nat.le_of_ble_eq_true rfl)⟩) hK hN hX hNc hS hA hP hD hl.1 (Nat.le_of_ble_eq_true rfl) dL_lone_390 ⟨(Nat.le_of_ble_eq_true rfl), (Nat.le_of_ble_eq_true rfl)⟩ (fun H locs hP hD hS => ?_)
  refine W.widen (k := 121) (n := 8371) (Nat.le_of_ble_eq_true rfl) (Nat.le_of_ble_eq_true rfl) ?_
  refine lv_ldc (v := (-2000000004 : Int32)) hx hb hown (hts (.constant RL 82 (-2000000004 : Int32)) (by decide +kernel)) dL_lone_393 ?_
  refine lv_icmp_ne (tgt := 573) hx hb dL_lone_395 (by decide) (fun c9 => absurd (rfl) c9) (fun _ => ?_)
  refine lv_aload_n hx hb dL_lone_398 rfl (lv_at hl 4 rfl) ?_
  refine lv_bipush (v := (110 : Int32)) hx hb dL_lone_399 (by decide) ?_
  refine lv_iconst (v := (1 : Int32)) hx hb dL_lone_401 (by decide) ?_
  refine lk_new (N' := 1) hx hb (hts (.arrayClass .int) (by decide +kernel)) hK hP hD hS hA (by decide) (by decide +kernel) (Nat.le_of_ble_eq_true rfl) (Nat.le_of_ble_eq_true rfl) (Nat.le_of_ble_eq_true rfl) dL_lone_402 (fun qv402 H hP hD hS => ?_)
  refine lv_dup hx hb dL_lone_404 rfl ?_
  refine lv_iconst (v := (0 : Int32)) hx hb dL_lone_405 (by decide) ?_
  refine lv_iconst (v := (0 : Int32)) hx hb dL_lone_406 (by decide) ?_
  refine va_iast hx hb hK hP hD hS 0 0 rfl rfl (zk_lit (by decide +kernel)) dL_lone_407 (fun H locs hP hD hS => ?_)
  have hP : va_P D vwCl ((qv402, .inl (T 0, 1, .inl (upd (fun _ => (0 : Int32)) (0 : Int32).toNatClampNeg (0 : Int32)))) :: (ow T q (pN s11 (nI 99)))) H := hP
  have hD : va_D A ((qv402, .inl (T 0, 1, .inl (upd (fun _ => (0 : Int32)) (0 : Int32).toNatClampNeg (0 : Int32)))) :: (ow T q (pN s11 (nI 99)))) := hD
  obtain ⟨h16, J16⟩ := pj_noise J15 (a := 0) (by omega) (v := upd (fun _ => (0 : Int32)) (0 : Int32).toNatClampNeg (0 : Int32)) rfl
  have V16 : L1 P ((a + T0) % P) 0 (pN (pN s11 (nI 99)) (nI 0)) := by
    obtain ⟨fr, to, de, S0, J, B, r1, r2, r3, r4, r5, r6⟩ := V11
    exact ⟨fr, to, de, S0, (pj_noise (pj_noise J (a := 99) (by omega) (v := fun _ => nI 99) rfl).2 (a := 0) (by omega) (v := fun _ => nI 0) rfl).2, B, r1, r2, r3, r4, r5, r6⟩
  refine lk_ask (ws' := []) (nL := 6) (rw_ := []) (stk := []) (x := pN s11 (nI 99)) (o := ((99 : Int32), pN (pN s11 (nI 99)) (nI 0))) (fun sz => a_n l hst D T 3000 q qv402 sz (pN s11 (nI 99)) 1 (upd (fun _ => (0 : Int32)) (0 : Int32).toNatClampNeg (0 : Int32)) ((99 : Int32), pN (pN s11 (nI 99)) (nI 0)) (h16)) ⟨hx, hb, hml, hown, hts⟩ (vx_cwSW 3 hts (goodIn_up gY_ask) rfl rfl rfl (by decide +kernel) ⟨(Nat.le_of_ble_eq_true rfl), (Nat.le_of_ble_eq_true rfl)⟩) hK hN hX hNc hS hA (by rw [List.append_nil]; exact hP) (by rw [List.append_nil]; exact hD) hl.1 (Nat.le_of_ble_eq_true rfl) dL_lone_408 ⟨(Nat.le_of_ble_eq_true rfl), (Nat.le_of_ble_eq_true rfl)⟩ (fun H locs hP hD hS => ?_)
  rw [List.append_nil] at hP hD
  have hP : va_P D vwCl (ow T q (pN (pN s11 (nI 99)) (nI 0))) H := hP
  have hD : va_D A (ow T q (pN (pN s11 (nI 99)) (nI 0))) := hD
  refine W.widen (k := 123) (n := 8378) (Nat.le_of_ble_eq_true rfl) (Nat.le_of_ble_eq_true rfl) ?_
  refine lv_bipush (v := (99 : Int32)) hx hb dL_lone_411 (by decide) ?_
  refine lv_icmp_ne (tgt := 573) hx hb dL_lone_413 (by decide) (fun c9 => absurd (rfl) c9) (fun _ => ?_)
  refine lv_aload_n hx hb dL_lone_416 rfl (lv_at hl 4 rfl) ?_
  refine lv_bipush (v := (80 : Int32)) hx hb dL_lone_417 (by decide) ?_
  refine lv_iconst (v := (2 : Int32)) hx hb dL_lone_419 (by decide) ?_
  refine lk_new (N' := 2) hx hb (hts (.arrayClass .int) (by decide +kernel)) hK hP hD hS hA (by decide) (by decide +kernel) (Nat.le_of_ble_eq_true rfl) (Nat.le_of_ble_eq_true rfl) (Nat.le_of_ble_eq_true rfl) dL_lone_420 (fun qv420 H hP hD hS => ?_)
  refine lv_dup hx hb dL_lone_422 rfl ?_
  refine lv_iconst (v := (0 : Int32)) hx hb dL_lone_423 (by decide) ?_
  refine lv_bipush (v := (7 : Int32)) hx hb dL_lone_424 (by decide) ?_
  refine va_iast hx hb hK hP hD hS 0 0 rfl rfl (zk_lit (by decide +kernel)) dL_lone_426 (fun H locs hP hD hS => ?_)
  have hP : va_P D vwCl ((qv420, .inl (T 0, 2, .inl (upd (fun _ => (0 : Int32)) (0 : Int32).toNatClampNeg (7 : Int32)))) :: (ow T q (pN (pN s11 (nI 99)) (nI 0)))) H := hP
  have hD : va_D A ((qv420, .inl (T 0, 2, .inl (upd (fun _ => (0 : Int32)) (0 : Int32).toNatClampNeg (7 : Int32)))) :: (ow T q (pN (pN s11 (nI 99)) (nI 0)))) := hD
  refine lv_dup hx hb dL_lone_427 rfl ?_
  refine lv_iconst (v := (1 : Int32)) hx hb dL_lone_428 (by decide) ?_
  refine lv_iconst (v := (2 : Int32)) hx hb dL_lone_429 (by decide) ?_
  refine va_iast hx hb hK hP hD hS 0 0 rfl rfl (zk_lit (by decide +kernel)) dL_lone_430 (fun H locs hP hD hS => ?_)
  have hP : va_P D vwCl ((qv420, .inl (T 0, 2, .inl (upd (upd (fun _ => (0 : Int32)) (0 : Int32).toNatClampNeg (7 : Int32)) (1 : Int32).toNatClampNeg (2 : Int32)))) :: (ow T q (pN (pN s11 (nI 99)) (nI 0)))) H := hP
  have hD : va_D A ((qv420, .inl (T 0, 2, .inl (upd (upd (fun _ => (0 : Int32)) (0 : Int32).toNatClampNeg (7 : Int32)) (1 : Int32).toNatClampNeg (2 : Int32)))) :: (ow T q (pN (pN s11 (nI 99)) (nI 0)))) := hD
  obtain ⟨s17, b17, h17, hb17, V17, p17⟩ := l1_P V16 (v := upd (upd (fun _ => (0 : Int32)) (0 : Int32).toNatClampNeg (7 : Int32)) (1 : Int32).toNatClampNeg (2 : Int32)) rfl rfl
  refine lk_ask (ws' := []) (nL := 6) (rw_ := []) (stk := []) (x := pN (pN s11 (nI 99)) (nI 0)) (o := (nI P, s17)) (fun sz => a_P l hst D T 3000 q qv420 sz (pN (pN s11 (nI 99)) (nI 0)) 2 (upd (upd (fun _ => (0 : Int32)) (0 : Int32).toNatClampNeg (7 : Int32)) (1 : Int32).toNatClampNeg (2 : Int32)) (nI P, s17) (h17)) ⟨hx, hb, hml, hown, hts⟩ (vx_cwSW 3 hts (goodIn_up gY_ask) rfl rfl rfl (by decide +kernel) ⟨(Nat.le_of_ble_eq_true rfl), (Nat.le_of_ble_eq_true rfl)⟩) hK hN hX hNc hS hA (by rw [List.append_nil]; exact hP) (by rw [List.append_nil]; exact hD) hl.1 (Nat.le_of_ble_eq_true rfl) dL_lone_431 ⟨(Nat.le_of_ble_eq_true rfl), (Nat.le_of_ble_eq_true rfl)⟩ (fun H locs hP hD hS => ?_)
  rw [List.append_nil] at hP hD
  have hP : va_P D vwCl (ow T q s17) H := hP
  have hD : va_D A (ow T q s17) := hD
  refine W.widen (k := 128) (n := 8404) (Nat.le_of_ble_eq_true rfl) (Nat.le_of_ble_eq_true rfl) ?_
  refine lv_iload_n hx hb dL_lone_434 rfl (lv_at hl 3 rfl) ?_
  refine lv_icmp_ne (tgt := 573) hx hb dL_lone_435 (by decide) (fun c9 => absurd (rfl) c9) (fun _ => ?_)
  have m17 : o_setting_mask s17 = x7 := by obtain ⟨_, _, _, _, J, -⟩ := V17; exact J.1
  refine lv_aload_n hx hb dL_lone_438 rfl (lv_at hl 4 rfl) ?_
  refine lv_bipush (v := (112 : Int32)) hx hb dL_lone_439 (by decide) ?_
  refine lv_iconst (v := (1 : Int32)) hx hb dL_lone_441 (by decide) ?_
  refine lk_new (N' := 1) hx hb (hts (.arrayClass .int) (by decide +kernel)) hK hP hD hS hA (by decide) (by decide +kernel) (Nat.le_of_ble_eq_true rfl) (Nat.le_of_ble_eq_true rfl) (Nat.le_of_ble_eq_true rfl) dL_lone_442 (fun qv442 H hP hD hS => ?_)
  refine lv_dup hx hb dL_lone_444 rfl ?_
  refine lv_iconst (v := (0 : Int32)) hx hb dL_lone_445 (by decide) ?_
  refine lv_bipush (v := (7 : Int32)) hx hb dL_lone_446 (by decide) ?_
  refine va_iast hx hb hK hP hD hS 0 0 rfl rfl (zk_lit (by decide +kernel)) dL_lone_448 (fun H locs hP hD hS => ?_)
  have hP : va_P D vwCl ((qv442, .inl (T 0, 1, .inl (upd (fun _ => (0 : Int32)) (0 : Int32).toNatClampNeg (7 : Int32)))) :: (ow T q s17)) H := hP
  have hD : va_D A ((qv442, .inl (T 0, 1, .inl (upd (fun _ => (0 : Int32)) (0 : Int32).toNatClampNeg (7 : Int32)))) :: (ow T q s17)) := hD
  have h18 := pj_phase m17 (p := 7) (by omega) b7 (v := upd (fun _ => (0 : Int32)) (0 : Int32).toNatClampNeg (7 : Int32)) rfl
  rw [p17] at h18
  refine lk_ask (ws' := []) (nL := 6) (rw_ := []) (stk := []) (x := s17) (o := (nI b17, s17)) (fun sz => a_p l hst D T 3000 q qv442 sz s17 1 (upd (fun _ => (0 : Int32)) (0 : Int32).toNatClampNeg (7 : Int32)) (nI b17, s17) (h18)) ⟨hx, hb, hml, hown, hts⟩ (vx_cwSW 3 hts (goodIn_up gY_ask) rfl rfl rfl (by decide +kernel) ⟨(Nat.le_of_ble_eq_true rfl), (Nat.le_of_ble_eq_true rfl)⟩) hK hN hX hNc hS hA (by rw [List.append_nil]; exact hP) (by rw [List.append_nil]; exact hD) hl.1 (Nat.le_of_ble_eq_true rfl) dL_lone_449 ⟨(Nat.le_of_ble_eq_true rfl), (Nat.le_of_ble_eq_true rfl)⟩ (fun H locs hP hD hS => ?_)
  rw [List.append_nil] at hP hD
  have hP : va_P D vwCl (ow T q s17) H := hP
  have hD : va_D A (ow T q s17) := hD
  refine W.widen (k := 131) (n := 8417) (Nat.le_of_ble_eq_true rfl) (Nat.le_of_ble_eq_true rfl) ?_
  refine lv_iconst (v := (2 : Int32)) hx hb dL_lone_452 (by decide) ?_
  refine lv_icmp_ge (tgt := 573) hx hb dL_lone_453 (by decide) (fun c9 => absurd c9 (nI_ge (a := b17) (b := 2) hb17 (by omega))) (fun _ => ?_)
  refine lv_aload_n hx hb dL_lone_456 rfl (lv_at hl 4 rfl) ?_
  refine lv_bipush (v := (99 : Int32)) hx hb dL_lone_457 (by decide) ?_
  refine lv_iconst (v := (0 : Int32)) hx hb dL_lone_459 (by decide) ?_
  refine lk_new (N' := 0) hx hb (hts (.arrayClass .int) (by decide +kernel)) hK hP hD hS hA (by decide) (by decide +kernel) (Nat.le_of_ble_eq_true rfl) (Nat.le_of_ble_eq_true rfl) (Nat.le_of_ble_eq_true rfl) dL_lone_460 (fun qv460 H hP hD hS => ?_)
  obtain ⟨s19, (h19 : A_c 3000 s17 0 (fun _ => (0 : Int32)) = some (nI 2, s19)), V19, -⟩ := l1_c V17 (fun _ => (0 : Int32))
  refine lk_ask (ws' := []) (nL := 6) (rw_ := []) (stk := []) (x := s17) (o := (nI 2, s19)) (fun sz => a_c l hst D T 3000 q qv460 sz s17 0 (fun _ => (0 : Int32)) (nI 2, s19) (h19)) ⟨hx, hb, hml, hown, hts⟩ (vx_cwSW 3 hts (goodIn_up gY_ask) rfl rfl rfl (by decide +kernel) ⟨(Nat.le_of_ble_eq_true rfl), (Nat.le_of_ble_eq_true rfl)⟩) hK hN hX hNc hS hA (by rw [List.append_nil]; exact hP) (by rw [List.append_nil]; exact hD) hl.1 (Nat.le_of_ble_eq_true rfl) dL_lone_462 ⟨(Nat.le_of_ble_eq_true rfl), (Nat.le_of_ble_eq_true rfl)⟩ (fun H locs hP hD hS => ?_)
  rw [List.append_nil] at hP hD
  have hP : va_P D vwCl (ow T q s19) H := hP
  have hD : va_D A (ow T q s19) := hD
  refine W.widen (k := 134) (n := 8429) (Nat.le_of_ble_eq_true rfl) (Nat.le_of_ble_eq_true rfl) ?_
  refine lv_iconst (v := (2 : Int32)) hx hb dL_lone_465 (by decide) ?_
  refine lv_icmp_ne (tgt := 573) hx hb dL_lone_466 (by decide) (fun c9 => absurd (rfl) c9) (fun _ => ?_)
  refine lv_aload_n hx hb dL_lone_469 rfl (lv_at hl 4 rfl) ?_
  refine lv_bipush (v := (109 : Int32)) hx hb dL_lone_470 (by decide) ?_
  refine lv_iconst (v := (3 : Int32)) hx hb dL_lone_472 (by decide) ?_
  refine lk_new (N' := 3) hx hb (hts (.arrayClass .int) (by decide +kernel)) hK hP hD hS hA (by decide) (by decide +kernel) (Nat.le_of_ble_eq_true rfl) (Nat.le_of_ble_eq_true rfl) (Nat.le_of_ble_eq_true rfl) dL_lone_473 (fun qv473 H hP hD hS => ?_)
  refine lv_dup hx hb dL_lone_475 rfl ?_
  refine lv_iconst (v := (0 : Int32)) hx hb dL_lone_476 (by decide) ?_
  refine lv_bipush (v := (7 : Int32)) hx hb dL_lone_477 (by decide) ?_
  refine va_iast hx hb hK hP hD hS 0 0 rfl rfl (zk_lit (by decide +kernel)) dL_lone_479 (fun H locs hP hD hS => ?_)
  have hP : va_P D vwCl ((qv473, .inl (T 0, 3, .inl (upd (fun _ => (0 : Int32)) (0 : Int32).toNatClampNeg (7 : Int32)))) :: (ow T q s19)) H := hP
  have hD : va_D A ((qv473, .inl (T 0, 3, .inl (upd (fun _ => (0 : Int32)) (0 : Int32).toNatClampNeg (7 : Int32)))) :: (ow T q s19)) := hD
  refine lv_dup hx hb dL_lone_480 rfl ?_
  refine lv_iconst (v := (1 : Int32)) hx hb dL_lone_481 (by decide) ?_
  refine lv_bipush (v := (8 : Int32)) hx hb dL_lone_482 (by decide) ?_
  refine va_iast hx hb hK hP hD hS 0 0 rfl rfl (zk_lit (by decide +kernel)) dL_lone_484 (fun H locs hP hD hS => ?_)
  have hP : va_P D vwCl ((qv473, .inl (T 0, 3, .inl (upd (upd (fun _ => (0 : Int32)) (0 : Int32).toNatClampNeg (7 : Int32)) (1 : Int32).toNatClampNeg (8 : Int32)))) :: (ow T q s19)) H := hP
  have hD : va_D A ((qv473, .inl (T 0, 3, .inl (upd (upd (fun _ => (0 : Int32)) (0 : Int32).toNatClampNeg (7 : Int32)) (1 : Int32).toNatClampNeg (8 : Int32)))) :: (ow T q s19)) := hD
  refine lv_dup hx hb dL_lone_485 rfl ?_
  refine lv_iconst (v := (2 : Int32)) hx hb dL_lone_486 (by decide) ?_
  refine lv_iconst (v := (0 : Int32)) hx hb dL_lone_487 (by decide) ?_
  refine va_iast hx hb hK hP hD hS 0 0 rfl rfl (zk_lit (by decide +kernel)) dL_lone_488 (fun H locs hP hD hS => ?_)
  have hP : va_P D vwCl ((qv473, .inl (T 0, 3, .inl (upd (upd (upd (fun _ => (0 : Int32)) (0 : Int32).toNatClampNeg (7 : Int32)) (1 : Int32).toNatClampNeg (8 : Int32)) (2 : Int32).toNatClampNeg (0 : Int32)))) :: (ow T q s19)) H := hP
  have hD : va_D A ((qv473, .inl (T 0, 3, .inl (upd (upd (upd (fun _ => (0 : Int32)) (0 : Int32).toNatClampNeg (7 : Int32)) (1 : Int32).toNatClampNeg (8 : Int32)) (2 : Int32).toNatClampNeg (0 : Int32)))) :: (ow T q s19)) := hD
  have h20 := l1_m V19 (v := upd (upd (upd (fun _ => (0 : Int32)) (0 : Int32).toNatClampNeg (7 : Int32)) (1 : Int32).toNatClampNeg (8 : Int32)) (2 : Int32).toNatClampNeg (0 : Int32)) rfl rfl
  refine lk_ask (ws' := []) (nL := 6) (rw_ := []) (stk := []) (x := s19) (o := ((-2000000005 : Int32), s19)) (fun sz => a_m l hst D T 3000 q qv473 sz s19 3 (upd (upd (upd (fun _ => (0 : Int32)) (0 : Int32).toNatClampNeg (7 : Int32)) (1 : Int32).toNatClampNeg (8 : Int32)) (2 : Int32).toNatClampNeg (0 : Int32)) ((-2000000005 : Int32), s19) (h20)) ⟨hx, hb, hml, hown, hts⟩ (vx_cwSW 3 hts (goodIn_up gY_ask) rfl rfl rfl (by decide +kernel) ⟨(Nat.le_of_ble_eq_true rfl), (Nat.le_of_ble_eq_true rfl)⟩) hK hN hX hNc hS hA (by rw [List.append_nil]; exact hP) (by rw [List.append_nil]; exact hD) hl.1 (Nat.le_of_ble_eq_true rfl) dL_lone_489 ⟨(Nat.le_of_ble_eq_true rfl), (Nat.le_of_ble_eq_true rfl)⟩ (fun H locs hP hD hS => ?_)
  rw [List.append_nil] at hP hD
  have hP : va_P D vwCl (ow T q s19) H := hP
  have hD : va_D A (ow T q s19) := hD
  refine W.widen (k := 143) (n := 8480) (Nat.le_of_ble_eq_true rfl) (Nat.le_of_ble_eq_true rfl) ?_
  refine lv_ldc (v := (-2000000005 : Int32)) hx hb hown (hts (.constant RL 88 (-2000000005 : Int32)) (by decide +kernel)) dL_lone_492 ?_
  refine lv_icmp_ne (tgt := 573) hx hb dL_lone_494 (by decide) (fun c9 => absurd (rfl) c9) (fun _ => ?_)
  refine lv_aload_n hx hb dL_lone_497 rfl (lv_at hl 4 rfl) ?_
  refine lv_bipush (v := (66 : Int32)) hx hb dL_lone_498 (by decide) ?_
  refine lv_iconst (v := (4 : Int32)) hx hb dL_lone_500 (by decide) ?_
  refine lk_new (N' := 4) hx hb (hts (.arrayClass .int) (by decide +kernel)) hK hP hD hS hA (by decide) (by decide +kernel) (Nat.le_of_ble_eq_true rfl) (Nat.le_of_ble_eq_true rfl) (Nat.le_of_ble_eq_true rfl) dL_lone_501 (fun qv501 H hP hD hS => ?_)
  refine lv_dup hx hb dL_lone_503 rfl ?_
  refine lv_iconst (v := (0 : Int32)) hx hb dL_lone_504 (by decide) ?_
  refine lv_bipush (v := (7 : Int32)) hx hb dL_lone_505 (by decide) ?_
  refine va_iast hx hb hK hP hD hS 0 0 rfl rfl (zk_lit (by decide +kernel)) dL_lone_507 (fun H locs hP hD hS => ?_)
  have hP : va_P D vwCl ((qv501, .inl (T 0, 4, .inl (upd (fun _ => (0 : Int32)) (0 : Int32).toNatClampNeg (7 : Int32)))) :: (ow T q s19)) H := hP
  have hD : va_D A ((qv501, .inl (T 0, 4, .inl (upd (fun _ => (0 : Int32)) (0 : Int32).toNatClampNeg (7 : Int32)))) :: (ow T q s19)) := hD
  refine lv_dup hx hb dL_lone_508 rfl ?_
  refine lv_iconst (v := (1 : Int32)) hx hb dL_lone_509 (by decide) ?_
  refine lv_bipush (v := (9 : Int32)) hx hb dL_lone_510 (by decide) ?_
  refine va_iast hx hb hK hP hD hS 0 0 rfl rfl (zk_lit (by decide +kernel)) dL_lone_512 (fun H locs hP hD hS => ?_)
  have hP : va_P D vwCl ((qv501, .inl (T 0, 4, .inl (upd (upd (fun _ => (0 : Int32)) (0 : Int32).toNatClampNeg (7 : Int32)) (1 : Int32).toNatClampNeg (9 : Int32)))) :: (ow T q s19)) H := hP
  have hD : va_D A ((qv501, .inl (T 0, 4, .inl (upd (upd (fun _ => (0 : Int32)) (0 : Int32).toNatClampNeg (7 : Int32)) (1 : Int32).toNatClampNeg (9 : Int32)))) :: (ow T q s19)) := hD
  refine lv_dup hx hb dL_lone_513 rfl ?_
  refine lv_iconst (v := (2 : Int32)) hx hb dL_lone_514 (by decide) ?_
  refine lv_iconst (v := (4 : Int32)) hx hb dL_lone_515 (by decide) ?_
  refine va_iast hx hb hK hP hD hS 0 0 rfl rfl (zk_lit (by decide +kernel)) dL_lone_516 (fun H locs hP hD hS => ?_)
  have hP : va_P D vwCl ((qv501, .inl (T 0, 4, .inl (upd (upd (upd (fun _ => (0 : Int32)) (0 : Int32).toNatClampNeg (7 : Int32)) (1 : Int32).toNatClampNeg (9 : Int32)) (2 : Int32).toNatClampNeg (4 : Int32)))) :: (ow T q s19)) H := hP
  have hD : va_D A ((qv501, .inl (T 0, 4, .inl (upd (upd (upd (fun _ => (0 : Int32)) (0 : Int32).toNatClampNeg (7 : Int32)) (1 : Int32).toNatClampNeg (9 : Int32)) (2 : Int32).toNatClampNeg (4 : Int32)))) :: (ow T q s19)) := hD
  refine lv_dup hx hb dL_lone_517 rfl ?_
  refine lv_iconst (v := (3 : Int32)) hx hb dL_lone_518 (by decide) ?_
  refine lv_iconst (v := (0 : Int32)) hx hb dL_lone_519 (by decide) ?_
  refine va_iast hx hb hK hP hD hS 0 0 rfl rfl (zk_lit (by decide +kernel)) dL_lone_520 (fun H locs hP hD hS => ?_)
  have hP : va_P D vwCl ((qv501, .inl (T 0, 4, .inl (upd (upd (upd (upd (fun _ => (0 : Int32)) (0 : Int32).toNatClampNeg (7 : Int32)) (1 : Int32).toNatClampNeg (9 : Int32)) (2 : Int32).toNatClampNeg (4 : Int32)) (3 : Int32).toNatClampNeg (0 : Int32)))) :: (ow T q s19)) H := hP
  have hD : va_D A ((qv501, .inl (T 0, 4, .inl (upd (upd (upd (upd (fun _ => (0 : Int32)) (0 : Int32).toNatClampNeg (7 : Int32)) (1 : Int32).toNatClampNeg (9 : Int32)) (2 : Int32).toNatClampNeg (4 : Int32)) (3 : Int32).toNatClampNeg (0 : Int32)))) :: (ow T q s19)) := hD
  obtain ⟨s21, n21, g21, fr21, to21, de21, S21, h21, J21, f21, l21⟩ := l1_again V19 (v := upd (upd (upd (upd (fun _ => (0 : Int32)) (0 : Int32).toNatClampNeg (7 : Int32)) (1 : Int32).toNatClampNeg (9 : Int32)) (2 : Int32).toNatClampNeg (4 : Int32)) (3 : Int32).toNatClampNeg (0 : Int32)) rfl rfl rfl rfl
  refine lk_ask (ws' := []) (nL := 6) (rw_ := []) (stk := []) (x := s19) (o := ((1 : Int32), s21)) (fun sz => a_B l hst D T 3000 q qv501 sz s19 4 (upd (upd (upd (upd (fun _ => (0 : Int32)) (0 : Int32).toNatClampNeg (7 : Int32)) (1 : Int32).toNatClampNeg (9 : Int32)) (2 : Int32).toNatClampNeg (4 : Int32)) (3 : Int32).toNatClampNeg (0 : Int32)) ((1 : Int32), s21) (h21)) ⟨hx, hb, hml, hown, hts⟩ (vx_cwSW 3 hts (goodIn_up gY_ask) rfl rfl rfl (by decide +kernel) ⟨(Nat.le_of_ble_eq_true rfl), (Nat.le_of_ble_eq_true rfl)⟩) hK hN hX hNc hS hA (by rw [List.append_nil]; exact hP) (by rw [List.append_nil]; exact hD) hl.1 (Nat.le_of_ble_eq_true rfl) dL_lone_521 ⟨(Nat.le_of_ble_eq_true rfl), (Nat.le_of_ble_eq_true rfl)⟩ (fun H locs hP hD hS => ?_)
  rw [List.append_nil] at hP hD
  have hP : va_P D vwCl (ow T q s21) H := hP
  have hD : va_D A (ow T q s21) := hD
  refine W.widen (k := 149) (n := 8514) (Nat.le_of_ble_eq_true rfl) (Nat.le_of_ble_eq_true rfl) ?_
  refine lv_iconst (v := (1 : Int32)) hx hb dL_lone_524 (by decide) ?_
  refine lv_icmp_ne (tgt := 573) hx hb dL_lone_525 (by decide) (fun c9 => absurd (rfl) c9) (fun _ => ?_)
  refine lv_aload_n hx hb dL_lone_528 rfl (lv_at hl 4 rfl) ?_
  refine lv_bipush (v := (102 : Int32)) hx hb dL_lone_529 (by decide) ?_
  refine lv_iconst (v := (1 : Int32)) hx hb dL_lone_531 (by decide) ?_
  refine lk_new (N' := 1) hx hb (hts (.arrayClass .int) (by decide +kernel)) hK hP hD hS hA (by decide) (by decide +kernel) (Nat.le_of_ble_eq_true rfl) (Nat.le_of_ble_eq_true rfl) (Nat.le_of_ble_eq_true rfl) dL_lone_532 (fun qv532 H hP hD hS => ?_)
  refine lv_dup hx hb dL_lone_534 rfl ?_
  refine lv_iconst (v := (0 : Int32)) hx hb dL_lone_535 (by decide) ?_
  refine lv_bipush (v := (7 : Int32)) hx hb dL_lone_536 (by decide) ?_
  refine va_iast hx hb hK hP hD hS 0 0 rfl rfl (zk_lit (by decide +kernel)) dL_lone_538 (fun H locs hP hD hS => ?_)
  have hP : va_P D vwCl ((qv532, .inl (T 0, 1, .inl (upd (fun _ => (0 : Int32)) (0 : Int32).toNatClampNeg (7 : Int32)))) :: (ow T q s21)) H := hP
  have hD : va_D A ((qv532, .inl (T 0, 1, .inl (upd (fun _ => (0 : Int32)) (0 : Int32).toNatClampNeg (7 : Int32)))) :: (ow T q s21)) := hD
  have h22 := pj_flashes J21.1 (p := 7) (by omega) b7 (v := upd (fun _ => (0 : Int32)) (0 : Int32).toNatClampNeg (7 : Int32)) rfl
  rw [f21] at h22
  refine lk_ask (ws' := []) (nL := 6) (rw_ := []) (stk := []) (x := s21) (o := ((0 : Int32), s21)) (fun sz => a_f l hst D T 3000 q qv532 sz s21 1 (upd (fun _ => (0 : Int32)) (0 : Int32).toNatClampNeg (7 : Int32)) ((0 : Int32), s21) (h22)) ⟨hx, hb, hml, hown, hts⟩ (vx_cwSW 3 hts (goodIn_up gY_ask) rfl rfl rfl (by decide +kernel) ⟨(Nat.le_of_ble_eq_true rfl), (Nat.le_of_ble_eq_true rfl)⟩) hK hN hX hNc hS hA (by rw [List.append_nil]; exact hP) (by rw [List.append_nil]; exact hD) hl.1 (Nat.le_of_ble_eq_true rfl) dL_lone_539 ⟨(Nat.le_of_ble_eq_true rfl), (Nat.le_of_ble_eq_true rfl)⟩ (fun H locs hP hD hS => ?_)
  rw [List.append_nil] at hP hD
  have hP : va_P D vwCl (ow T q s21) H := hP
  have hD : va_D A (ow T q s21) := hD
  refine W.widen (k := 152) (n := 8527) (Nat.le_of_ble_eq_true rfl) (Nat.le_of_ble_eq_true rfl) ?_
  refine lv_if_ne (tgt := 573) hx hb dL_lone_542 (by decide) (fun c9 => absurd (rfl) c9) (fun _ => ?_)
  refine lv_aload_n hx hb dL_lone_545 rfl (lv_at hl 4 rfl) ?_
  refine lv_bipush (v := (108 : Int32)) hx hb dL_lone_546 (by decide) ?_
  refine lv_iconst (v := (1 : Int32)) hx hb dL_lone_548 (by decide) ?_
  refine lk_new (N' := 1) hx hb (hts (.arrayClass .int) (by decide +kernel)) hK hP hD hS hA (by decide) (by decide +kernel) (Nat.le_of_ble_eq_true rfl) (Nat.le_of_ble_eq_true rfl) (Nat.le_of_ble_eq_true rfl) dL_lone_549 (fun qv549 H hP hD hS => ?_)
  refine lv_dup hx hb dL_lone_551 rfl ?_
  refine lv_iconst (v := (0 : Int32)) hx hb dL_lone_552 (by decide) ?_
  refine lv_bipush (v := (7 : Int32)) hx hb dL_lone_553 (by decide) ?_
  refine va_iast hx hb hK hP hD hS 0 0 rfl rfl (zk_lit (by decide +kernel)) dL_lone_555 (fun H locs hP hD hS => ?_)
  have hP : va_P D vwCl ((qv549, .inl (T 0, 1, .inl (upd (fun _ => (0 : Int32)) (0 : Int32).toNatClampNeg (7 : Int32)))) :: (ow T q s21)) H := hP
  have hD : va_D A ((qv549, .inl (T 0, 1, .inl (upd (fun _ => (0 : Int32)) (0 : Int32).toNatClampNeg (7 : Int32)))) :: (ow T q s21)) := hD
  have h23 := pj_last J21.1 (p := 7) (by omega) b7 (v := upd (fun _ => (0 : Int32)) (0 : Int32).toNatClampNeg (7 : Int32)) rfl
  rw [l21] at h23
  refine lk_ask (ws' := []) (nL := 6) (rw_ := []) (stk := []) (x := s21) (o := ((0 : Int32), s21)) (fun sz => a_l l hst D T 3000 q qv549 sz s21 1 (upd (fun _ => (0 : Int32)) (0 : Int32).toNatClampNeg (7 : Int32)) ((0 : Int32), s21) (h23)) ⟨hx, hb, hml, hown, hts⟩ (vx_cwSW 3 hts (goodIn_up gY_ask) rfl rfl rfl (by decide +kernel) ⟨(Nat.le_of_ble_eq_true rfl), (Nat.le_of_ble_eq_true rfl)⟩) hK hN hX hNc hS hA (by rw [List.append_nil]; exact hP) (by rw [List.append_nil]; exact hD) hl.1 (Nat.le_of_ble_eq_true rfl) dL_lone_556 ⟨(Nat.le_of_ble_eq_true rfl), (Nat.le_of_ble_eq_true rfl)⟩ (fun H locs hP hD hS => ?_)
  rw [List.append_nil] at hP hD
  have hP : va_P D vwCl (ow T q s21) H := hP
  have hD : va_D A (ow T q s21) := hD
  refine W.widen (k := 155) (n := 8540) (Nat.le_of_ble_eq_true rfl) (Nat.le_of_ble_eq_true rfl) ?_
  refine lv_if_ne (tgt := 573) hx hb dL_lone_559 (by decide) (fun c9 => absurd (rfl) c9) (fun _ => ?_)
  refine lv_aload_n hx hb dL_lone_562 rfl (lv_at hl 4 rfl) ?_
  obtain ⟨tr24, h24⟩ := pj_isTrue J21
  refine cd_isTrue (nL := 6) (N := 3000) (stk := []) (x := s21) (o := _) ⟨hx, hb, hml, hown, hts⟩ (goodIn_up gY_isTrue) ⟨(Nat.le_of_ble_eq_true rfl), (Nat.le_of_ble_eq_true rfl)⟩ hK hN hS hA hP hD h24 hl.1 (Nat.le_of_ble_eq_true rfl) dL_lone_563 ⟨(Nat.le_of_ble_eq_true rfl), (Nat.le_of_ble_eq_true rfl)⟩ (fun H locs hP hD hS => ?_)
  refine lv_if_eq (tgt := 573) hx hb dL_lone_566 (by decide) (fun c9 => absurd c9 (show ¬ (1 : Int32) = 0 by decide)) (fun _ => ?_)
  refine lv_iconst (v := (1 : Int32)) hx hb dL_lone_569 (by decide) ?_
  refine lv_goto (tgt := 574) hx hb dL_lone_570 (by decide) ?_
  refine W.widen (k := 2000) (n := 20000) (Nat.le_of_ble_eq_true rfl) (Nat.le_of_ble_eq_true rfl) ?_
  exact W.zret (v := (1 : Int32)) hx hb hr rfl (fun t ht hW => ⟨⟨_, (), rfl, rfl, (by rw [ht]; exact fun k x hx => absurd hx (by simp)), (⟨fun i j p q h => absurd h (by simp), fun k x hx => absurd hx (by simp)⟩)⟩, hS.F ht⟩) hS.2.2 dL_lone_574

/-! rows of mine: the law from its entry -/
set_option maxHeartbeats 16000000 in
set_option maxRecDepth 100000 in
theorem whole_start {p : Program} {e : Env} {s : State} {m : MethodId} {below : List Frame} {meth : Method} {c : Code} (l : Launch) (hflags : l.flags = flags0) {b L : Nat} {xs : Nat → Int32} (hL : L ≤ 260) (C0 : lw_At p s m meth c b L xs) : W p l e room_1 s m #[Value.ref b] below meth c s.heap [] 0 0 (lw_Z below #[Value.ref b] s) (entryFrame m ([Value.ref b] : List Value).toArray 2) := by
  obtain ⟨hx, hb, hr, hml, hown, hts, hXs, hbl, hlocks, hgv⟩ := id C0
  have hst : l.stackTraces = false := by simp [Launch.stackTraces, hflags, flags0]
  obtain ⟨A, hAd⟩ : ∃ A : Nat → Prop, A = fun q : Nat => s.heap.size ≤ q := ⟨_, rfl⟩
  have hA : ∀ q : Nat, s.heap.size ≤ q → A q := fun q h => by rw [hAd]; exact h
  have hAn : ∀ a : Nat, a < s.heap.size → ¬ A a := fun a h => by rw [hAd]; exact Nat.not_le.mpr h
  have hbA : ¬ A b := hAn b hbl
  obtain ⟨D, hKc⟩ := lw_cls hts
  obtain ⟨T, hKt⟩ := lw_tys hts
  have hK : va_K D vwCl (zk_ty T) s := ⟨hKc, hKt⟩
  have hN := lw_stN hts
  have hX : zx_K A s s.heap := lw_stX hts hgv hAn
  have hNc := lw_stC hgv
  obtain ⟨ad, vl, hZ⟩ := lw_stS hts hgv hAn
  have hAO : va_AOA .boolean s := hts _ arr_z
  have hS : va_S A s.heap s.heap [] := va_S.rf
  have hl := lv_entry ([.ref b]) (n := 2) (Nat.le_of_ble_eq_true rfl)
  rw [lg_entry_eq]
  generalize (lg_sl ([.ref b]) ++ List.replicate (2 - (lg_sl ([.ref b])).length) Slot.unset).toArray = ls at hl ⊢
  have hl : lv_has ls 2 [(0, .ref b)] := hl
  have hP : va_P D vwCl [] s.heap := fun k x hx => absurd hx (by simp)
  have hD : va_D A [] := ⟨fun i j p q h => absurd h (by simp), fun k x hx => absurd hx (by simp)⟩
  refine va_new (ci := 7) (fs := [.null, .null, .null, .null, .int 0, .int 0, .int 0, .null, .int 0, .int 0, .null, .null, .null, .null, .null]) (C := RX5) (T := TX5) (N := 15) hx hb hts (by decide +kernel) tyX5 tyX5_ok hown (hts (.classLink RL 8 RX5) (by decide +kernel)) (hts (.instantiable RX5 15) (by decide +kernel)) (hts (.initialized RX5) (by decide +kernel)) hK hP hD hS hA rfl (fun j hj => by rcases (show j = 0 ∨ j = 1 ∨ j = 2 ∨ j = 3 ∨ j = 4 ∨ j = 5 ∨ j = 6 ∨ j = 7 ∨ j = 8 ∨ j = 9 ∨ j = 10 ∨ j = 11 ∨ j = 12 ∨ j = 13 ∨ j = 14 by omega) with rfl | rfl | rfl | rfl | rfl | rfl | rfl | rfl | rfl | rfl | rfl | rfl | rfl | rfl | rfl <;> rfl) (Nat.le_of_ble_eq_true rfl) (Nat.le_of_ble_eq_true rfl) dL_law_0 (fun q0 H hP hD hS => ?_)
  have hP : va_P D vwCl [(q0, .inr (7, [.null, .null, .null, .null, .int 0, .int 0, .int 0, .null, .int 0, .int 0, .null, .null, .null, .null, .null]))] H := hP
  have hD : va_D A [(q0, .inr (7, [.null, .null, .null, .null, .int 0, .int 0, .int 0, .null, .int 0, .int 0, .null, .null, .null, .null, .null]))] := hD
  refine lv_dup hx hb dL_law_3 rfl ?_
  refine lk_init (nL := 2) (stk := [.ref q0]) ⟨hx, hb, hml, hown, hts⟩ gT_X5_init (hts (.initialized RX5) (by decide +kernel)) (hts (.methodLink RL 152 yX5_init) (by decide +kernel)) (hts (.instanceMethod yX5_init) (by decide +kernel)) ⟨(Nat.le_of_ble_eq_true rfl), (Nat.le_of_ble_eq_true rfl)⟩ hK hN hS hA hP hD hl.1 (Nat.le_of_ble_eq_true rfl) dL_law_4 ⟨(Nat.le_of_ble_eq_true rfl), (Nat.le_of_ble_eq_true rfl)⟩ (fun q H locs hq0 hP2 hD2 hS => ?_)
  subst hq0
  have hP := hP2
  have hD := hD2
  refine lv_astore_n (lv' := [(1, .ref (q 0)), (0, .ref b)]) hx hb dL_law_7 rfl hl (by decide) rfl (fun ls hl => ?_)
  have hP : va_P D vwCl (ow T q (el 1 0 0 0 1 ob_0.2.2.2.2.1.2.2 ob_0.2.2.2.2.2.1 ob_0.2.2.2.2.2.2.1 ob_0.2.2.2.2.2.2.2.1)) H := hP
  have hD : va_D A (ow T q (el 1 0 0 0 1 ob_0.2.2.2.2.1.2.2 ob_0.2.2.2.2.2.1 ob_0.2.2.2.2.2.2.1 ob_0.2.2.2.2.2.2.2.1)) := hD
  refine W.widen (k := 51) (n := 8044) (Nat.le_of_ble_eq_true rfl) (Nat.le_of_ble_eq_true rfl) ?_
  refine law_s1 hst hx hb hml hown hts hA hK hN hX hNc hl hP hD hS (fun pr ts tr H locs hP hD hS => ?_)
  refine law_s2 hst hx hb hml hown hts hA hK hN hX hNc hl hP hD hS (fun pr ts tr H locs hP hD hS => ?_)
  refine law_s3 hst hx hb hml hown hts hA hK hN hX hNc hl hP hD hS (fun pr ts tr H locs hP hD hS => ?_)
  refine law_s4 hst hx hb hml hown hts hA hK hN hX hNc hl hP hD hS (fun pr ts tr H locs hP hD hS => ?_)
  refine law_s5 hst hx hb hml hown hts hA hK hN hX hNc hl hP hD hS (fun ah pr ts tr H locs hP hD hS => ?_)
  refine law_s6 hst hx hb hml hown hts hA hK hN hX hNc hl hP hD hS (fun ah pr ts tr H locs hP hD hS => ?_)
  refine law_s7 hst hx hb hml hown hts hA hK hN hX hNc hl hP hD hS (fun ah pr ts tr H locs hP hD hS => ?_)
  refine law_s8 hst hx hb hml hown hts hA hK hN hX hNc hl hP hD hS (fun ah pr ts tr H locs hP hD hS => ?_)
  refine law_s9 hst hx hb hml hown hts hA hK hN hX hNc hl hP hD hS (fun ah pr ts tr H locs hP hD hS => ?_)
  refine lv_aload_n hx hb dL_law_1396 rfl (lv_at hl 1 rfl) ?_
  refine ne_call (mc := 30000) (ms := 200000) (nL := 2) (As := [.ref b]) (stk := []) (Pc := fun sz => ne_Pc D T [.ref b] b L ad vl xs sz) (fun sz => k_L_nets l hst D T b L ad vl xs sz hL) ⟨hx, hb, hml, hown, hts⟩ (va_cwS 1 hts gT_ne rfl rfl rfl (by decide +kernel) ⟨(Nat.le_of_ble_eq_true rfl), (Nat.le_of_ble_eq_true rfl)⟩) (ne_preS hK hN hX hNc hS hA hXs hbl hbA hZ hAO) hS hA hP hD rfl rfl hl.1 (Nat.le_of_ble_eq_true rfl) dL_law_1397 ⟨(Nat.le_of_ble_eq_true rfl), (Nat.le_of_ble_eq_true rfl)⟩ (fun H locs hP hD hS => ?_)
  refine lv_if_eq (tgt := 1420) hx hb dL_law_1400 (by decide) (fun c9 => absurd c9 (show ¬ (1 : Int32) = 0 by decide)) (fun _ => ?_)
  refine lv_aload_n hx hb dL_law_1403 rfl (lv_at hl 1 rfl) ?_
  refine lk_pure (nL := 2) (As := [.ref b]) (stk := []) ⟨rfl, rfl⟩ (fun sz => k_L_lone l hst D T b L xs sz hL) ⟨hx, hb, hml, hown, hts⟩ (va_cwS 1 hts gT_lone rfl rfl rfl (by decide +kernel) ⟨(Nat.le_of_ble_eq_true rfl), (Nat.le_of_ble_eq_true rfl)⟩) hK hN hX hNc hS hA hXs hbl hbA hP hD rfl rfl hl.1 (Nat.le_of_ble_eq_true rfl) dL_law_1404 ⟨(Nat.le_of_ble_eq_true rfl), (Nat.le_of_ble_eq_true rfl)⟩ (fun H locs hP hD hS => ?_)
  refine lv_if_eq (tgt := 1420) hx hb dL_law_1407 (by decide) (fun c9 => absurd c9 (show ¬ (1 : Int32) = 0 by decide)) (fun _ => ?_)
  refine lk_pure (nL := 2) (As := []) (stk := []) ⟨rfl, rfl⟩ (fun sz => k_L_full l hst D T b L xs sz hL) ⟨hx, hb, hml, hown, hts⟩ (va_cwS 0 hts gT_full rfl rfl rfl (by decide +kernel) ⟨(Nat.le_of_ble_eq_true rfl), (Nat.le_of_ble_eq_true rfl)⟩) hK hN hX hNc hS hA hXs hbl hbA hP hD rfl rfl hl.1 (Nat.le_of_ble_eq_true rfl) dL_law_1410 ⟨(Nat.le_of_ble_eq_true rfl), (Nat.le_of_ble_eq_true rfl)⟩ (fun H locs hP hD hS => ?_)
  refine lv_if_eq (tgt := 1420) hx hb dL_law_1413 (by decide) (fun c9 => absurd c9 (show ¬ (1 : Int32) = 0 by decide)) (fun _ => ?_)
  refine lv_iconst (v := (1 : Int32)) hx hb dL_law_1416 (by decide) ?_
  refine lv_goto (tgt := 1421) hx hb dL_law_1417 (by decide) ?_
  refine va_forget (fun q hq => ?_) ?_
  · have h9 := hS.2.2 q hq
    rw [hAd] at h9
    exact h9
  refine W.widen (k := 610076) (n := 7262451) (Nat.le_of_ble_eq_true rfl) (Nat.le_of_ble_eq_true rfl) ?_
  refine W.base ?_
  exact lw_ret (Drawn.sameBut.refl s.drawn lw_cs) hx hb hr hlocks dL_law_1421

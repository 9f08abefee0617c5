/-- the room of a row that has grown -/
def zs_g (n : Nat) : Nat := if n = 0 then 10 else n + (if 1 < n / 2 then n / 2 else 1)
theorem zs_g_lt (n : Nat) : n < zs_g n := by
  unfold zs_g
  split
  · omega
  · split <;> omega
theorem zs_g_le {n : Nat} (h : n ≤ 66) : zs_g n ≤ 100 := by
  unfold zs_g
  split
  · omega
  · split <;> omega
theorem zs_cpy {n : Nat} {r : Nat → Nat} : va_cpy (zl_a n r) (fun _ => none) 0 0 n = zl_a n r := by
  funext i
  unfold va_cpy zl_a
  by_cases h : i < n
  · rw [if_pos ⟨Nat.zero_le _, by omega⟩, show 0 + (i - 0) = i by omega]
  · rw [if_neg (by omega), if_neg h]
theorem zs_up {n : Nat} {r : Nat → Nat} {v : Nat} : va_up (zl_a n r) n (some v) = zl_a (n + 1) (va_up r n v) := by
  funext i
  unfold va_up zl_a
  by_cases h : i = n
  · subst h
    rw [if_pos rfl, if_pos (by omega)]
    simp
  · by_cases h2 : i < n
    · rw [if_neg h, if_pos h2, if_pos (by omega)]
      simp [h]
    · rw [if_neg h, if_neg h2, if_neg (by omega)]
set_option maxHeartbeats 8000000 in
set_option maxRecDepth 100000 in
theorem k_J8_newLength_cabcc (l : Launch) (D : va_G) (T : Nat → ClassId) (n : Nat) (sz : Nat) (h0 : n ≠ 0) (h1 : n ≤ 100000) : Met l yJ8_newLength_cabcc wsJ8_newLength_cabcc ({ frames := 1, cells := 0, slots := 0, locals := 40 } : Room) (zr_Pc D T [.int (nI n), .int (nI 1), .int (nI (n / 2))] [] sz) (zk_Qi (nI (zs_g n)) D [] (va_A [] sz) (va_A [] sz)) 0 0 (va_A [] sz) := by
  refine Met.ofW (cc := cJ8_newLength_cabcc) (maxL := 4) (ret := (some .int)) (by decide) rfl ?_
  intro p e s m args below meth c s₁ B hml hv
  obtain ⟨rfl, hsz, hP, hK, hN, hD0⟩ := hv
  have hx := B.exec
  have hb := B.bytes
  have hr := B.returns
  have hts := atoms_spec (ws := wsJ8_newLength_cabcc) B.pre
  have hown : s.vm.findClass RJ8 = some m.cls := findClass_of_methodNamed B.named
  have hlocks := B.notSynchronized
  subst hsz
  have hD := hD0.self (sz := s.heap.size)
  generalize hAe : va_A ([] : va_W) s.heap.size = A at hD ⊢
  have hA : ∀ q : Nat, s.heap.size ≤ q → A q := fun q h => by rw [← hAe]; exact Or.inr h
  have hS : va_S A s.heap s.heap [] := va_S.rf
  have hP : va_P D vwCl ([] : va_W) s.heap := hP
  have hl := lv_entry ([.int (nI n), .int (nI 1), .int (nI (n / 2))]) (n := 4) (Nat.le_of_ble_eq_true rfl)
  rw [lg_entry_eq]
  generalize (lg_sl ([.int (nI n), .int (nI 1), .int (nI (n / 2))]) ++ List.replicate (4 - (lg_sl ([.int (nI n), .int (nI 1), .int (nI (n / 2))])).length) Slot.unset).toArray = ls at hl ⊢
  have hl : lv_has ls 4 [(0, .int (nI n)), (1, .int (nI 1)), (2, .int (nI (n / 2)))] := hl
  refine lv_iload_n hx hb dJ8_newLength_cabcc_0 rfl (lv_at hl 0 rfl) ?_
  refine lv_iload_n hx hb dJ8_newLength_cabcc_1 rfl (lv_at hl 1 rfl) ?_
  refine lv_iload_n hx hb dJ8_newLength_cabcc_2 rfl (lv_at hl 2 rfl) ?_
  refine va_mmax hx hb (hml.trans hl.1.symm) hown (hts (.methodLink RJ8 194 Lib.Math.max.name) (by decide +kernel)) (hts (.static Lib.Math.max.name) (by decide +kernel)) (hts (.initialized "java/lang/Math") (by decide +kernel)) (hts (.code Lib.Math.max.name Lib.Math.max.code 2 (some .int)) (by decide +kernel)) (Nat.le_of_ble_eq_true rfl) (Nat.le_of_ble_eq_true rfl) (Nat.zero_le _) (Nat.zero_le _) dJ8_newLength_cabcc_3 ?_
  refine lv_iadd hx hb dJ8_newLength_cabcc_6 ?_
  have e0 : nI n + (if nI 1 < nI (n / 2) then nI (n / 2) else nI 1) = nI (zs_g n) := by
    unfold zs_g
    rw [if_neg h0]
    by_cases c : 1 < n / 2
    · rw [if_pos (nI_lt c (by omega)), if_pos c, nI_add]
    · rw [if_neg (nI_nlt (by omega) (by omega)), if_neg c, nI_add]
  rw [e0]
  have g1 : zs_g n < 1000000 := by
    unfold zs_g
    rw [if_neg h0]
    split <;> omega
  have g0 := zs_g_lt n
  refine lv_istore_n (lv' := [(3, .int (nI (zs_g n))), (0, .int (nI n)), (1, .int (nI 1)), (2, .int (nI (n / 2)))]) hx hb dJ8_newLength_cabcc_7 rfl hl (by decide) rfl (fun ls hl => ?_)
  refine lv_iconst (v := (0 : Int32)) hx hb dJ8_newLength_cabcc_8 (by decide) ?_
  refine lv_iload_n hx hb dJ8_newLength_cabcc_9 rfl (lv_at hl 0 rfl) ?_
  refine lv_icmp_ge (tgt := 21) hx hb dJ8_newLength_cabcc_10 (by decide) (fun c9 => absurd c9 (nI_nle (by omega) (by omega))) (fun _ => ?_)
  refine lv_iload_n hx hb dJ8_newLength_cabcc_13 rfl (lv_at hl 0 rfl) ?_
  refine lv_ldc (v := (2147483639 : Int32)) hx hb hown (hts (.constant RJ8 200 (2147483639 : Int32)) (by decide +kernel)) dJ8_newLength_cabcc_14 ?_
  refine lv_icmp_gt (tgt := 21) hx hb dJ8_newLength_cabcc_16 (by decide) (fun c9 => absurd c9 (show ¬ nI 2147483639 < nI (zs_g n) from nI_nlt (by omega) (by omega))) (fun _ => ?_)
  refine lv_iload_n hx hb dJ8_newLength_cabcc_19 rfl (lv_at hl 0 rfl) ?_
  exact W.iret (v := nI (zs_g n)) hx hb hr (fun t ht hW => ⟨⟨_, (), rfl, rfl, by rw [ht]; exact hP, hD⟩, hS.F ht⟩) hS.2.2 dJ8_newLength_cabcc_20
theorem iJx4a65c_grow_92f84_Jx4a65c : ∀ w ∈ wsJx4a65c0, w ∈ wsJx4a65c_grow_92f84 := by decide +kernel
set_option maxHeartbeats 8000000 in
set_option maxRecDepth 100000 in
theorem k_Jx4a65c_grow_92f84 (l : Launch) (D : va_G) (T : Nat → ClassId) (Z : zs_T) (C : String) (L : List Nat) (hC : (C, "java/lang/Object") ∈ zr_cast) (q_t qe n : Nat) (m0 : Int32) (r : Nat → Nat) (sz : Nat) (h1 : n ≤ 66) (he : n = 0 → qe = Z.2.1) (hL : ∀ i : Nat, i < n → r i ∈ L) : Met l yJx4a65c_grow_92f84 wsJx4a65c_grow_92f84 ({ frames := 3, cells := 1, slots := 100, locals := 120 } : Room) (zs_Pc Z C L D T [.ref q_t, .int (nI (n + 1))] ([(q_t, .inr (4, [.int m0, .ref qe, .int (nI n)]))] ++ zo n (qe, .inl (T 7, n, .inr (.inr (.inr (.inr (zl_a n r))))))) sz) (zs_Qr (fun _ : Nat => True) (fun u => u) D (fun u => [(q_t, .inr (4, [.int m0, .ref u, .int (nI n)])), (u, .inl (T 7, (zs_g n), .inr (.inr (.inr (.inr (zl_a n r))))))]) (va_A ([(q_t, .inr (4, [.int m0, .ref qe, .int (nI n)]))] ++ zo n (qe, .inl (T 7, n, .inr (.inr (.inr (.inr (zl_a n r))))))) sz) (va_A ([(q_t, .inr (4, [.int m0, .ref qe, .int (nI n)]))] ++ zo n (qe, .inl (T 7, n, .inr (.inr (.inr (.inr (zl_a n r))))))) sz)) 1 100 (va_A ([(q_t, .inr (4, [.int m0, .ref qe, .int (nI n)]))] ++ zo n (qe, .inl (T 7, n, .inr (.inr (.inr (.inr (zl_a n r))))))) sz) := by
  refine Met.ofW (cc := cJx4a65c_grow_92f84) (maxL := 4) (ret := (some (.array (.object "java/lang/Object")))) (by decide) rfl ?_
  intro p e s m args below meth c s₁ B hml hv
  obtain ⟨rfl, hsz, hP, hK, hN, hD0, hZ, hL0⟩ := hv
  have hx := B.exec
  have hb := B.bytes
  have hr := B.returns
  have hts := atoms_spec (ws := wsJx4a65c_grow_92f84) B.pre
  have hown : s.vm.findClass RJx4a65c = some m.cls := findClass_of_methodNamed B.named
  have hlocks := B.notSynchronized
  subst hsz
  have hD := hD0.self (sz := s.heap.size)
  generalize hAe : va_A ([(q_t, .inr (4, [.int m0, .ref qe, .int (nI n)]))] ++ zo n (qe, .inl (T 7, n, .inr (.inr (.inr (.inr (zl_a n r))))))) s.heap.size = A at hD hZ hL0 ⊢
  have hA : ∀ q : Nat, s.heap.size ≤ q → A q := fun q h => by rw [← hAe]; exact Or.inr h
  have hS : va_S A s.heap s.heap [] := va_S.rf
  have hP : va_P D vwCl ([(q_t, .inr (4, [.int m0, .ref qe, .int (nI n)]))] ++ zo n (qe, .inl (T 7, n, .inr (.inr (.inr (.inr (zl_a n r))))))) s.heap := hP
  have hl := lv_entry ([.ref q_t, .int (nI (n + 1))]) (n := 4) (Nat.le_of_ble_eq_true rfl)
  rw [lg_entry_eq]
  generalize (lg_sl ([.ref q_t, .int (nI (n + 1))]) ++ List.replicate (4 - (lg_sl ([.ref q_t, .int (nI (n + 1))])).length) Slot.unset).toArray = ls at hl ⊢
  have hl : lv_has ls 4 [(0, .ref q_t), (1, .int (nI (n + 1)))] := hl
  obtain ⟨z1, z2, z3, z4, z5, z6, z7, z8, z9, z10⟩ := id hZ
  refine lv_aload_n hx hb dJx4a65c_grow_92f84_0 rfl (lv_at hl 0 rfl) ?_
  by_cases h0 : n = 0
  · obtain rfl := he h0
    subst h0
    have hP : va_P D vwCl [(q_t, .inr (4, [.int m0, .ref Z.2.1, .int (nI 0)]))] s.heap := hP
    have hD : va_D A [(q_t, .inr (4, [.int m0, .ref Z.2.1, .int (nI 0)]))] := hD
    refine va_get (D := D) (ci := 4) (v := .ref Z.2.1) (C := RJx4a65c) (T := TJx4a65c) (N := 3) hx hb hts iJx4a65c_grow_92f84_Jx4a65c hown hK hP 0 rfl rfl 1 (by decide) (hts (.fieldLink RJx4a65c 9 "java/util/ArrayList" "elementData" "[Ljava/lang/Object;") (by decide +kernel)) (fun _ h9 => h9) rfl dJx4a65c_grow_92f84_1 ?_
    refine va_tlen (v := nI 0) hx hb z2 hS rfl dJx4a65c_grow_92f84_4 ?_
    refine lv_istore_n (lv' := [(2, .int (nI 0)), (0, .ref q_t), (1, .int (nI 1))]) hx hb dJx4a65c_grow_92f84_5 rfl hl (by decide) rfl (fun ls hl => ?_)
    refine lv_iload_n hx hb dJx4a65c_grow_92f84_6 rfl (lv_at hl 0 rfl) ?_
    refine lv_if_gt (tgt := 20) hx hb dJx4a65c_grow_92f84_7 (by decide) (fun c9 => absurd c9 (by decide)) (fun _ => ?_)
    refine lv_aload_n hx hb dJx4a65c_grow_92f84_10 rfl (lv_at hl 1 rfl) ?_
    refine va_get (D := D) (ci := 4) (v := .ref Z.2.1) (C := RJx4a65c) (T := TJx4a65c) (N := 3) hx hb hts iJx4a65c_grow_92f84_Jx4a65c hown hK hP 0 rfl rfl 1 (by decide) (hts (.fieldLink RJx4a65c 9 "java/util/ArrayList" "elementData" "[Ljava/lang/Object;") (by decide +kernel)) (fun _ h9 => h9) rfl dJx4a65c_grow_92f84_11 ?_
    refine va_gets hx hb z1 hS hown (hts (.fieldLink RJx4a65c 39 "java/util/ArrayList" "DEFAULTCAPACITY_EMPTY_ELEMENTDATA" "[Ljava/lang/Object;") (by decide +kernel)) (fun _ h9 => h9) dJx4a65c_grow_92f84_14 ?_
    refine lv_acmp_eq (rx := some Z.2.1) (ry := some Z.2.1) (tgt := 45) hx hb dJx4a65c_grow_92f84_17 (by decide) (fun _ => ?_) (fun h => absurd rfl h)
    refine lv_aload_n hx hb dJx4a65c_grow_92f84_45 rfl (lv_at hl 1 rfl) ?_
    refine lv_bipush (v := (10 : Int32)) hx hb dJx4a65c_grow_92f84_46 (by decide) ?_
    refine lv_iload_n hx hb dJx4a65c_grow_92f84_48 rfl (lv_at hl 2 rfl) ?_
    refine va_mmax hx hb (hml.trans hl.1.symm) hown (hts (.methodLink RJx4a65c 79 Lib.Math.max.name) (by decide +kernel)) (hts (.static Lib.Math.max.name) (by decide +kernel)) (hts (.initialized "java/lang/Math") (by decide +kernel)) (hts (.code Lib.Math.max.name Lib.Math.max.code 2 (some .int)) (by decide +kernel)) (Nat.le_of_ble_eq_true rfl) (Nat.le_of_ble_eq_true rfl) (Nat.zero_le _) (Nat.zero_le _) dJx4a65c_grow_92f84_49 ?_
    rw [show (if (10 : Int32) < nI (0 + 1) then nI (0 + 1) else (10 : Int32)) = 10 by decide]
    refine va_newq (N' := 10) hx hb hown (hts (.classLink RJx4a65c 7 "java/lang/Object") (by decide +kernel)) z7 hK hP hD hS hA (by decide) (by decide) (by decide) (Nat.le_of_ble_eq_true rfl) (Nat.le_of_ble_eq_true rfl) dJx4a65c_grow_92f84_52 (fun u cA H hK9 hP hD hS => ?_)
    obtain rfl := zs_cA hK9
    refine lv_dup_x1 hx hb dJx4a65c_grow_92f84_55 rfl rfl ?_
    refine va_put (D := D) (ci := 4) (v := .ref u) (ty := (.array (.object "java/lang/Object"))) (C := RJx4a65c) (T := TJx4a65c) (N := 3) hx hb hts iJx4a65c_grow_92f84_Jx4a65c tyJx4a65c tyJx4a65c_ok nmJx4a65c hown hK hP hD hS 0 rfl rfl 1 (by decide) (hts (.fieldLink RJx4a65c 9 "java/util/ArrayList" "elementData" "[Ljava/lang/Object;") (by decide +kernel)) (fun _ h9 => h9) rfl (by decide +kernel) rfl rfl (Nat.le_of_ble_eq_true rfl) dJx4a65c_grow_92f84_56 (fun H locs hP hD hS => ?_)
    have e0 : (fun _ : Nat => (none : Option Nat)) = zl_a 0 r := by funext i; rfl
    rw [e0] at hP hD
    have hP : va_P D vwCl [(q_t, .inr (4, [.int m0, .ref u, .int (nI 0)])), (u, .inl (T 7, (zs_g 0), .inr (.inr (.inr (.inr (zl_a 0 r))))))] H := hP
    have hD : va_D A [(q_t, .inr (4, [.int m0, .ref u, .int (nI 0)])), (u, .inl (T 7, (zs_g 0), .inr (.inr (.inr (.inr (zl_a 0 r))))))] := hD
    refine W.widen (k := 1) (n := 100) (Nat.le_of_ble_eq_true rfl) (Nat.le_of_ble_eq_true rfl) ?_
    exact W.aret (v := .ref u) hx hb hr (Or.inr ⟨_, rfl⟩) (Or.inr ⟨_, rfl⟩) (fun t ht hW => ⟨⟨u, _, rfl, trivial, ⟨rfl, by rw [ht]; exact hP, hD⟩⟩, hS.F ht⟩) hS.2.2 dJx4a65c_grow_92f84_59
  · have ew := zo_pos (x := (qe, .inl (T 7, n, .inr (.inr (.inr (.inr (zl_a n r))))))) h0
    rw [ew] at hP hD hAe
    have hP : va_P D vwCl [(q_t, .inr (4, [.int m0, .ref qe, .int (nI n)])), (qe, .inl (T 7, n, .inr (.inr (.inr (.inr (zl_a n r))))))] s.heap := hP
    have hD : va_D A [(q_t, .inr (4, [.int m0, .ref qe, .int (nI n)])), (qe, .inl (T 7, n, .inr (.inr (.inr (.inr (zl_a n r))))))] := hD
    refine va_get (D := D) (ci := 4) (v := .ref qe) (C := RJx4a65c) (T := TJx4a65c) (N := 3) hx hb hts iJx4a65c_grow_92f84_Jx4a65c hown hK hP 0 rfl rfl 1 (by decide) (hts (.fieldLink RJx4a65c 9 "java/util/ArrayList" "elementData" "[Ljava/lang/Object;") (by decide +kernel)) (fun _ h9 => h9) rfl dJx4a65c_grow_92f84_1 ?_
    refine va_alen (v := nI n) hx hb hK hP 1 7 rfl rfl rfl dJx4a65c_grow_92f84_4 ?_
    refine lv_istore_n (lv' := [(2, .int (nI n)), (0, .ref q_t), (1, .int (nI (n + 1)))]) hx hb dJx4a65c_grow_92f84_5 rfl hl (by decide) rfl (fun ls hl => ?_)
    refine lv_iload_n hx hb dJx4a65c_grow_92f84_6 rfl (lv_at hl 0 rfl) ?_
    refine lv_if_gt (tgt := 20) hx hb dJx4a65c_grow_92f84_7 (by decide) (fun _ => ?_) (fun c9 => absurd (show nI 0 < nI n from nI_lt (by omega) (by omega)) c9)
    refine lv_iload_n hx hb dJx4a65c_grow_92f84_20 rfl (lv_at hl 0 rfl) ?_
    refine lv_iload_n hx hb dJx4a65c_grow_92f84_21 rfl (lv_at hl 2 rfl) ?_
    refine lv_iload_n hx hb dJx4a65c_grow_92f84_22 rfl (lv_at hl 0 rfl) ?_
    refine lv_isub hx hb dJx4a65c_grow_92f84_23 ?_
    refine lv_iload_n hx hb dJx4a65c_grow_92f84_24 rfl (lv_at hl 0 rfl) ?_
    refine lv_iconst (v := (1 : Int32)) hx hb dJx4a65c_grow_92f84_25 (by decide) ?_
    refine lv_ishr hx hb dJx4a65c_grow_92f84_26 ?_
    have e2 : nI (n + 1) - nI n = nI 1 := by rw [pk_sub (by omega), Nat.add_sub_cancel_left]
    have e3 : nI n >>> ((1 : Int32) &&& 31) = nI (n / 2) := by
      have k := pk_shrN (n := n) (by omega) ((1 : Int32) &&& 31) 1 (by decide)
      rw [Nat.pow_one] at k
      exact k
    rw [e2, e3]
    have hFn : ∀ q, va_A [] s.heap.size q → A q := va_free (wc := []) hD hS hA [] rfl
    refine zk_ci (wr := [(q_t, .inr (4, [.int m0, .ref qe, .int (nI n)])), (qe, .inl (T 7, n, .inr (.inr (.inr (.inr (zl_a n r))))))]) (va_runS (As := [.int (nI n), .int (nI 1), .int (nI (n / 2))]) (rest := []) ⟨hx, hb, hml, hown, hts⟩ (k_J8_newLength_cabcc l D T n s.heap.size h0 (by omega)) (va_cwS 3 hts gJx4a65c_grow_92f84_J8_newLength_cabcc rfl rfl rfl (by decide +kernel) ⟨Nat.le_of_ble_eq_true rfl, Nat.le_of_ble_eq_true rfl⟩) (zr_preS hK hN (hP.sub [] rfl) (hD.sub [] (by decide) rfl)) rfl rfl hl.1 rfl (lv_room (Nat.le_of_ble_eq_true rfl)) dJx4a65c_grow_92f84_27 ⟨Nat.le_of_ble_eq_true rfl, Nat.le_of_ble_eq_true rfl⟩) hP hD hS hA [] [0, 1] rfl rfl (by decide) (by decide) [0, 1] (wf := [(q_t, .inr (4, [.int m0, .ref qe, .int (nI n)])), (qe, .inl (T 7, n, .inr (.inr (.inr (.inr (zl_a n r))))))]) rfl (by decide) (fun H locs hP hD hS => ?_)
    refine lv_istore_n (lv' := [(3, .int (nI (zs_g n))), (2, .int (nI n)), (0, .ref q_t), (1, .int (nI (n + 1)))]) hx hb dJx4a65c_grow_92f84_30 rfl hl (by decide) rfl (fun ls hl => ?_)
    refine lv_aload_n hx hb dJx4a65c_grow_92f84_31 rfl (lv_at hl 2 rfl) ?_
    refine lv_aload_n hx hb dJx4a65c_grow_92f84_32 rfl (lv_at hl 2 rfl) ?_
    refine va_get (D := D) (ci := 4) (v := .ref qe) (C := RJx4a65c) (T := TJx4a65c) (N := 3) hx hb hts iJx4a65c_grow_92f84_Jx4a65c hown hK hP 0 rfl rfl 1 (by decide) (hts (.fieldLink RJx4a65c 9 "java/util/ArrayList" "elementData" "[Ljava/lang/Object;") (by decide +kernel)) (fun _ h9 => h9) rfl dJx4a65c_grow_92f84_33 ?_
    refine lv_iload_n hx hb dJx4a65c_grow_92f84_36 rfl (lv_at hl 0 rfl) ?_
    have hF : ∀ q, va_A [(qe, .inl (T 7, n, .inr (.inr (.inr (.inr (zl_a n r))))))] H.size q → A q := va_free hD hS hA [1] rfl
    have hLc : ∀ y ∈ L, va_O C y (va_A [(qe, .inl (T 7, n, .inr (.inr (.inr (.inr (zl_a n r))))))] H.size) s H := fun y hy => ((hL0 y hy).kept hS.2.1).narrow hF
    refine zs_cr (w' := fun u => [(qe, .inl (T 7, n, .inr (.inr (.inr (.inr (zl_a n r)))))), (u, .inl (T 7, (zs_g n), .inr (.inr (.inr (.inr (va_cpy (zl_a n r) (fun _ => none) 0 0 n))))))]) (wf := fun u => [(q_t, .inr (4, [.int m0, .ref qe, .int (nI n)])), (u, .inl (T 7, (zs_g n), .inr (.inr (.inr (.inr (va_cpy (zl_a n r) (fun _ => none) 0 0 n))))))]) (va_runS (As := [.ref qe, .int (nI (zs_g n))]) (rest := [.ref q_t]) ⟨hx, hb, hml, hown, hts⟩ (k_J7_copyOf_1904c l D T Z C L hC qe n (zs_g n) (zl_a n r) H.size (Nat.le_of_lt (zs_g_lt n)) (zs_g_le h1) (fun i hi y hy => by unfold zl_a at hy; rw [if_pos hi] at hy; cases hy; exact hL i hi)) (va_cwS 2 hts gJx4a65c_grow_92f84_J7_copyOf_1904c rfl rfl rfl (by decide +kernel) ⟨Nat.le_of_ble_eq_true rfl, Nat.le_of_ble_eq_true rfl⟩) (zs_preS hK hN hZ hS hF (hP.sub [1] rfl) (hD.sub [1] (by decide) rfl) hLc) rfl rfl hl.1 rfl (lv_room (Nat.le_of_ble_eq_true rfl)) dJx4a65c_grow_92f84_37 ⟨Nat.le_of_ble_eq_true rfl, Nat.le_of_ble_eq_true rfl⟩) hS hF (fun u H1 g1 g2 g3 => zk_back (wc := [(qe, .inl (T 7, n, .inr (.inr (.inr (.inr (zl_a n r))))))]) (wr := [(q_t, .inr (4, [.int m0, .ref qe, .int (nI n)]))]) (w' := [(qe, .inl (T 7, n, .inr (.inr (.inr (.inr (zl_a n r)))))), (u, .inl (T 7, (zs_g n), .inr (.inr (.inr (.inr (va_cpy (zl_a n r) (fun _ => none) 0 0 n))))))]) (wf := [(q_t, .inr (4, [.int m0, .ref qe, .int (nI n)])), (u, .inl (T 7, (zs_g n), .inr (.inr (.inr (.inr (va_cpy (zl_a n r) (fun _ => none) 0 0 n))))))]) hP hD [1] [0] rfl rfl (by decide) (by decide) [0, 2] rfl (by decide) hF g1 g2 g3) (fun u H locs _ hP hD hS => ?_)
    rw [zs_cpy] at hP hD
    refine lv_dup_x1 hx hb dJx4a65c_grow_92f84_40 rfl rfl ?_
    refine va_put (D := D) (ci := 4) (v := .ref u) (ty := (.array (.object "java/lang/Object"))) (C := RJx4a65c) (T := TJx4a65c) (N := 3) hx hb hts iJx4a65c_grow_92f84_Jx4a65c tyJx4a65c tyJx4a65c_ok nmJx4a65c hown hK hP hD hS 0 rfl rfl 1 (by decide) (hts (.fieldLink RJx4a65c 9 "java/util/ArrayList" "elementData" "[Ljava/lang/Object;") (by decide +kernel)) (fun _ h9 => h9) rfl (by decide +kernel) rfl rfl (Nat.le_of_ble_eq_true rfl) dJx4a65c_grow_92f84_41 (fun H locs hP hD hS => ?_)
    have hP : va_P D vwCl [(q_t, .inr (4, [.int m0, .ref u, .int (nI n)])), (u, .inl (T 7, (zs_g n), .inr (.inr (.inr (.inr (zl_a n r))))))] H := hP
    have hD : va_D A [(q_t, .inr (4, [.int m0, .ref u, .int (nI n)])), (u, .inl (T 7, (zs_g n), .inr (.inr (.inr (.inr (zl_a n r))))))] := hD
    refine W.widen (k := 1) (n := 100) (Nat.le_of_ble_eq_true rfl) (Nat.le_of_ble_eq_true rfl) ?_
    exact W.aret (v := .ref u) hx hb hr (Or.inr ⟨_, rfl⟩) (Or.inr ⟨_, rfl⟩) (fun t ht hW => ⟨⟨u, _, rfl, trivial, ⟨rfl, by rw [ht]; exact hP, hD⟩⟩, hS.F ht⟩) hS.2.2 dJx4a65c_grow_92f84_44
theorem iJx4a65c_grow_d5877_Jx4a65c : ∀ w ∈ wsJx4a65c0, w ∈ wsJx4a65c_grow_d5877 := by decide +kernel
set_option maxHeartbeats 8000000 in
set_option maxRecDepth 100000 in
theorem k_Jx4a65c_grow_d5877 (l : Launch) (D : va_G) (T : Nat → ClassId) (Z : zs_T) (C : String) (L : List Nat) (hC : (C, "java/lang/Object") ∈ zr_cast) (q_t qe n : Nat) (m0 : Int32) (r : Nat → Nat) (sz : Nat) (h1 : n ≤ 66) (he : n = 0 → qe = Z.2.1) (hL : ∀ i : Nat, i < n → r i ∈ L) : Met l yJx4a65c_grow_d5877 wsJx4a65c_grow_d5877 ({ frames := 4, cells := 1, slots := 100, locals := 150 } : Room) (zs_Pc Z C L D T [.ref q_t] ([(q_t, .inr (4, [.int m0, .ref qe, .int (nI n)]))] ++ zo n (qe, .inl (T 7, n, .inr (.inr (.inr (.inr (zl_a n r))))))) sz) (zs_Qr (fun _ : Nat => True) (fun u => u) D (fun u => [(q_t, .inr (4, [.int m0, .ref u, .int (nI n)])), (u, .inl (T 7, (zs_g n), .inr (.inr (.inr (.inr (zl_a n r))))))]) (va_A ([(q_t, .inr (4, [.int m0, .ref qe, .int (nI n)]))] ++ zo n (qe, .inl (T 7, n, .inr (.inr (.inr (.inr (zl_a n r))))))) sz) (va_A ([(q_t, .inr (4, [.int m0, .ref qe, .int (nI n)]))] ++ zo n (qe, .inl (T 7, n, .inr (.inr (.inr (.inr (zl_a n r))))))) sz)) 1 100 (va_A ([(q_t, .inr (4, [.int m0, .ref qe, .int (nI n)]))] ++ zo n (qe, .inl (T 7, n, .inr (.inr (.inr (.inr (zl_a n r))))))) sz) := by
  refine Met.ofW (cc := cJx4a65c_grow_d5877) (maxL := 1) (ret := (some (.array (.object "java/lang/Object")))) (by decide) rfl ?_
  intro p e s m args below meth c s₁ B hml hv
  obtain ⟨rfl, hsz, hP, hK, hN, hD0, hZ, hL0⟩ := hv
  have hx := B.exec
  have hb := B.bytes
  have hr := B.returns
  have hts := atoms_spec (ws := wsJx4a65c_grow_d5877) B.pre
  have hown : s.vm.findClass RJx4a65c = some m.cls := findClass_of_methodNamed B.named
  have hlocks := B.notSynchronized
  subst hsz
  have hD := hD0.self (sz := s.heap.size)
  generalize hAe : va_A ([(q_t, .inr (4, [.int m0, .ref qe, .int (nI n)]))] ++ zo n (qe, .inl (T 7, n, .inr (.inr (.inr (.inr (zl_a n r))))))) s.heap.size = A at hD hZ hL0 ⊢
  have hA : ∀ q : Nat, s.heap.size ≤ q → A q := fun q h => by rw [← hAe]; exact Or.inr h
  have hS : va_S A s.heap s.heap [] := va_S.rf
  have hP : va_P D vwCl ([(q_t, .inr (4, [.int m0, .ref qe, .int (nI n)]))] ++ zo n (qe, .inl (T 7, n, .inr (.inr (.inr (.inr (zl_a n r))))))) s.heap := hP
  have hl := lv_entry ([.ref q_t]) (n := 1) (Nat.le_of_ble_eq_true rfl)
  rw [lg_entry_eq]
  generalize (lg_sl ([.ref q_t]) ++ List.replicate (1 - (lg_sl ([.ref q_t])).length) Slot.unset).toArray = ls at hl ⊢
  have hl : lv_has ls 1 [(0, .ref q_t)] := hl
  have hF : ∀ q, va_A ([(q_t, .inr (4, [.int m0, .ref qe, .int (nI n)]))] ++ zo n (qe, .inl (T 7, n, .inr (.inr (.inr (.inr (zl_a n r))))))) s.heap.size q → A q := fun q h => by rw [← hAe]; exact h
  refine lv_aload_n hx hb dJx4a65c_grow_d5877_0 rfl (lv_at hl 0 rfl) ?_
  refine lv_aload_n hx hb dJx4a65c_grow_d5877_1 rfl (lv_at hl 0 rfl) ?_
  refine va_get (D := D) (ci := 4) (v := .int (nI n)) (C := RJx4a65c) (T := TJx4a65c) (N := 3) hx hb hts iJx4a65c_grow_d5877_Jx4a65c hown hK hP 0 rfl rfl 2 (by decide) (hts (.fieldLink RJx4a65c 48 "java/util/ArrayList" "size" "I") (by decide +kernel)) (fun _ h9 => h9) rfl dJx4a65c_grow_d5877_2 ?_
  refine lv_iconst (v := (1 : Int32)) hx hb dJx4a65c_grow_d5877_5 (by decide) ?_
  refine lv_iadd hx hb dJx4a65c_grow_d5877_6 ?_
  rw [nI_1]
  refine zs_cr (w' := fun u => [(q_t, .inr (4, [.int m0, .ref u, .int (nI n)])), (u, .inl (T 7, (zs_g n), .inr (.inr (.inr (.inr (zl_a n r))))))]) (wf := fun u => [(q_t, .inr (4, [.int m0, .ref u, .int (nI n)])), (u, .inl (T 7, (zs_g n), .inr (.inr (.inr (.inr (zl_a n r))))))]) (va_runV (As := [.int (nI (n + 1))]) (rest := []) ⟨hx, hb, hml, hown, hts⟩ (k_Jx4a65c_grow_92f84 l D T Z C L hC q_t qe n m0 r s.heap.size h1 he hL) (cwV 1 hts gJx4a65c_grow_d5877_Jx4a65c_grow_92f84 rfl rfl rfl (by decide +kernel) ⟨Nat.le_of_ble_eq_true rfl, Nat.le_of_ble_eq_true rfl⟩) (zs_preV (q := (RJx4a65c, TJx4a65c, 3)) hK hN hZ hS hF hP hD (by rw [hAe]; exact hL0) 0 rfl rfl) rfl rfl hl.1 rfl (lv_room (Nat.le_of_ble_eq_true rfl)) dJx4a65c_grow_d5877_7 ⟨Nat.le_of_ble_eq_true rfl, Nat.le_of_ble_eq_true rfl⟩) hS hF (fun u H1 g1 g2 _ => zs_self g1 g2 hF) (fun u H locs _ hP hD hS => ?_)
  refine W.widen (k := 1) (n := 100) (Nat.le_of_ble_eq_true rfl) (Nat.le_of_ble_eq_true rfl) ?_
  exact W.aret (v := .ref u) hx hb hr (Or.inr ⟨_, rfl⟩) (Or.inr ⟨_, rfl⟩) (fun t ht hW => ⟨⟨u, _, rfl, trivial, ⟨rfl, by rw [ht]; exact hP, hD⟩⟩, hS.F ht⟩) hS.2.2 dJx4a65c_grow_d5877_10
theorem iJx4a65c_add_72be8_Jx4a65c : ∀ w ∈ wsJx4a65c0, w ∈ wsJx4a65c_add_72be8 := by decide +kernel
set_option maxHeartbeats 8000000 in
set_option maxRecDepth 100000 in
theorem k_Jx4a65c_add_72be8 (l : Launch) (D : va_G) (T : Nat → ClassId) (Z : zs_T) (C : String) (L : List Nat) (hC : (C, "java/lang/Object") ∈ zr_cast) (q_t qe n cap v : Nat) (m0 : Int32) (r : Nat → Nat) (sz : Nat) (h1 : n ≤ 66) (h2 : n ≤ cap) (h3 : cap ≤ 100) (he : cap = 0 → qe = Z.2.1) (hL : ∀ i : Nat, i < n → r i ∈ L) (hv : v ∈ L) : Met l yJx4a65c_add_72be8 wsJx4a65c_add_72be8 ({ frames := 5, cells := 1, slots := 100, locals := 180 } : Room) (zs_Pc Z C L D T [.ref q_t, .ref v, .ref qe, .int (nI n)] ([(q_t, .inr (4, [.int m0, .ref qe, .int (nI n)]))] ++ zo cap (qe, .inl (T 7, cap, .inr (.inr (.inr (.inr (zl_a n r))))))) sz) (zs_Qv (fun u : Nat × Nat => n + 1 ≤ u.2 ∧ u.2 ≤ 100) D (fun u : Nat × Nat => [(q_t, .inr (4, [.int m0, .ref u.1, .int (nI (n + 1))])), (u.1, .inl (T 7, u.2, .inr (.inr (.inr (.inr (zl_a (n + 1) (va_up r n v)))))))]) (va_A ([(q_t, .inr (4, [.int m0, .ref qe, .int (nI n)]))] ++ zo cap (qe, .inl (T 7, cap, .inr (.inr (.inr (.inr (zl_a n r))))))) sz) (va_A ([(q_t, .inr (4, [.int m0, .ref qe, .int (nI n)]))] ++ zo cap (qe, .inl (T 7, cap, .inr (.inr (.inr (.inr (zl_a n r))))))) sz)) 1 100 (va_A ([(q_t, .inr (4, [.int m0, .ref qe, .int (nI n)]))] ++ zo cap (qe, .inl (T 7, cap, .inr (.inr (.inr (.inr (zl_a n r))))))) sz) := by
  refine Met.ofW (cc := cJx4a65c_add_72be8) (maxL := 4) (ret := none) (by decide) rfl ?_
  intro p e s m args below meth c s₁ B hml hv
  obtain ⟨rfl, hsz, hP, hK, hN, hD0, hZ, hL0⟩ := hv
  have hx := B.exec
  have hb := B.bytes
  have hr := B.returns
  have hts := atoms_spec (ws := wsJx4a65c_add_72be8) B.pre
  have hown : s.vm.findClass RJx4a65c = some m.cls := findClass_of_methodNamed B.named
  have hlocks := B.notSynchronized
  subst hsz
  have hD := hD0.self (sz := s.heap.size)
  generalize hAe : va_A ([(q_t, .inr (4, [.int m0, .ref qe, .int (nI n)]))] ++ zo cap (qe, .inl (T 7, cap, .inr (.inr (.inr (.inr (zl_a n r))))))) s.heap.size = A at hD hZ hL0 ⊢
  have hA : ∀ q : Nat, s.heap.size ≤ q → A q := fun q h => by rw [← hAe]; exact Or.inr h
  have hS : va_S A s.heap s.heap [] := va_S.rf
  have hP : va_P D vwCl ([(q_t, .inr (4, [.int m0, .ref qe, .int (nI n)]))] ++ zo cap (qe, .inl (T 7, cap, .inr (.inr (.inr (.inr (zl_a n r))))))) s.heap := hP
  have hl := lv_entry ([.ref q_t, .ref v, .ref qe, .int (nI n)]) (n := 4) (Nat.le_of_ble_eq_true rfl)
  rw [lg_entry_eq]
  generalize (lg_sl ([.ref q_t, .ref v, .ref qe, .int (nI n)]) ++ List.replicate (4 - (lg_sl ([.ref q_t, .ref v, .ref qe, .int (nI n)])).length) Slot.unset).toArray = ls at hl ⊢
  have hl : lv_has ls 4 [(0, .ref q_t), (1, .ref v), (2, .ref qe), (3, .int (nI n))] := hl
  obtain ⟨z1, z2, z3, z4, z5, z6, z7, z8, z9, z10⟩ := id hZ
  suffices K : ∀ (u c2 ce sl : Nat) (H : Heap) (locs : List Loc) (ls : Array Slot), ce ≤ 1 → sl ≤ 100 → n < c2 → c2 ≤ 100 → va_P D vwCl [(q_t, .inr (4, [.int m0, .ref u, .int (nI n)])), (u, .inl (T 7, c2, .inr (.inr (.inr (.inr (zl_a n r))))))] H → va_D A [(q_t, .inr (4, [.int m0, .ref u, .int (nI n)])), (u, .inl (T 7, c2, .inr (.inr (.inr (.inr (zl_a n r))))))] → va_S A s.heap H locs → lv_has ls 4 [(2, .ref u), (0, .ref q_t), (1, .ref v), (3, .int (nI n))] → W p l e ({ frames := 5, cells := 1, slots := 100, locals := 180 } : Room) s m (([.ref q_t, .ref v, .ref qe, .int (nI n)] : List Value).toArray) below meth c H locs ce sl (MQ below (zs_Qv (fun u : Nat × Nat => n + 1 ≤ u.2 ∧ u.2 ≤ 100) D (fun u : Nat × Nat => [(q_t, .inr (4, [.int m0, .ref u.1, .int (nI (n + 1))])), (u.1, .inl (T 7, u.2, .inr (.inr (.inr (.inr (zl_a (n + 1) (va_up r n v)))))))]) A A) (([.ref q_t, .ref v, .ref qe, .int (nI n)] : List Value).toArray) s 1 100 A) (F0 m 11 ls []) by
    refine lv_iload_n hx hb dJx4a65c_add_72be8_0 rfl (lv_at hl 3 rfl) ?_
    refine lv_aload_n hx hb dJx4a65c_add_72be8_1 rfl (lv_at hl 2 rfl) ?_
    suffices K2 : W p l e ({ frames := 5, cells := 1, slots := 100, locals := 180 } : Room) s m (([.ref q_t, .ref v, .ref qe, .int (nI n)] : List Value).toArray) below meth c s.heap [] 0 0 (MQ below (zs_Qv (fun u : Nat × Nat => n + 1 ≤ u.2 ∧ u.2 ≤ 100) D (fun u : Nat × Nat => [(q_t, .inr (4, [.int m0, .ref u.1, .int (nI (n + 1))])), (u.1, .inl (T 7, u.2, .inr (.inr (.inr (.inr (zl_a (n + 1) (va_up r n v)))))))]) A A) (([.ref q_t, .ref v, .ref qe, .int (nI n)] : List Value).toArray) s 1 100 A) (F0 m 3 ls [.int (nI cap), .int (nI n)]) by
      by_cases h0 : cap = 0
      · obtain rfl := he h0
        subst h0
        exact va_tlen (v := nI 0) hx hb z2 hS rfl dJx4a65c_add_72be8_2 K2
      · have ew := zo_pos (x := (qe, .inl (T 7, cap, .inr (.inr (.inr (.inr (zl_a n r))))))) h0
        rw [ew] at hP
        exact va_alen (v := nI cap) hx hb hK hP 1 7 rfl rfl rfl dJx4a65c_add_72be8_2 K2
    refine lv_icmp_ne (tgt := 11) hx hb dJx4a65c_add_72be8_3 (by decide) (fun c9 => ?_) (fun c9 => ?_)
    · have hlt : n < cap := by
        rcases Nat.lt_or_ge n cap with g | g
        · exact g
        · exact absurd (by rw [show n = cap by omega]) c9
      have ew := zo_pos (x := (qe, .inl (T 7, cap, .inr (.inr (.inr (.inr (zl_a n r))))))) (show cap ≠ 0 by omega)
      rw [ew] at hP hD
      exact K qe cap 0 0 s.heap [] ls (Nat.zero_le _) (Nat.zero_le _) hlt h3 hP hD hS (lv_sub hl [2, 0, 1, 3] rfl)
    · have hec : n = cap := (nI_eq (by omega) (by omega)).mp c9
      subst hec
      have hF : ∀ q, va_A ([(q_t, .inr (4, [.int m0, .ref qe, .int (nI n)]))] ++ zo n (qe, .inl (T 7, n, .inr (.inr (.inr (.inr (zl_a n r))))))) s.heap.size q → A q := fun q h => by rw [← hAe]; exact h
      refine lv_aload_n hx hb dJx4a65c_add_72be8_6 rfl (lv_at hl 0 rfl) ?_
      refine zs_cr (w' := fun u => [(q_t, .inr (4, [.int m0, .ref u, .int (nI n)])), (u, .inl (T 7, (zs_g n), .inr (.inr (.inr (.inr (zl_a n r))))))]) (wf := fun u => [(q_t, .inr (4, [.int m0, .ref u, .int (nI n)])), (u, .inl (T 7, (zs_g n), .inr (.inr (.inr (.inr (zl_a n r))))))]) (va_runV (As := []) (rest := []) ⟨hx, hb, hml, hown, hts⟩ (k_Jx4a65c_grow_d5877 l D T Z C L hC q_t qe n m0 r s.heap.size h1 he hL) (cwV 0 hts gJx4a65c_add_72be8_Jx4a65c_grow_d5877 rfl rfl rfl (by decide +kernel) ⟨Nat.le_of_ble_eq_true rfl, Nat.le_of_ble_eq_true rfl⟩) (zs_preV (q := (RJx4a65c, TJx4a65c, 3)) hK hN hZ hS hF hP hD (by rw [hAe]; exact hL0) 0 rfl rfl) rfl rfl hl.1 rfl (lv_room (Nat.le_of_ble_eq_true rfl)) dJx4a65c_add_72be8_7 ⟨Nat.le_of_ble_eq_true rfl, Nat.le_of_ble_eq_true rfl⟩) hS hF (fun u H1 g1 g2 _ => zs_self g1 g2 hF) (fun u H locs _ hP hD hS => ?_)
      refine lv_astore_n (lv' := [(2, .ref u), (0, .ref q_t), (1, .ref v), (3, .int (nI n))]) hx hb dJx4a65c_add_72be8_10 rfl hl (by decide) rfl (fun ls hl => ?_)
      exact K u (zs_g n) _ _ H locs ls (Nat.le_of_ble_eq_true rfl) (Nat.le_of_ble_eq_true rfl) (zs_g_lt n) (zs_g_le h1) hP hD hS hl
  intro u c2 ce sl H locs ls hce hsl hlt hle hP hD hS hl
  refine lv_aload_n hx hb dJx4a65c_add_72be8_11 rfl (lv_at hl 0 rfl) ?_
  refine lv_iload_n hx hb dJx4a65c_add_72be8_12 rfl (lv_at hl 3 rfl) ?_
  refine lv_aload_n hx hb dJx4a65c_add_72be8_13 rfl (lv_at hl 2 rfl) ?_
  refine va_astqM (E := "java/lang/Object") hx hb hK hP hD hS 1 7 rfl rfl (zs_any hN hC (zs_O_keep (hL0 v hv) hS)) (nI_in hlt (by omega)) dJx4a65c_add_72be8_14 (fun H locs hP hD hS => ?_)
  rw [nI_clamp (show n < 2 ^ 31 by omega), zs_up] at hP hD
  refine lv_aload_n hx hb dJx4a65c_add_72be8_15 rfl (lv_at hl 1 rfl) ?_
  refine lv_iload_n hx hb dJx4a65c_add_72be8_16 rfl (lv_at hl 3 rfl) ?_
  refine lv_iconst (v := (1 : Int32)) hx hb dJx4a65c_add_72be8_17 (by decide) ?_
  refine lv_iadd hx hb dJx4a65c_add_72be8_18 ?_
  rw [nI_1]
  have hP : va_P D vwCl [(q_t, .inr (4, [.int m0, .ref u, .int (nI n)])), (u, .inl (T 7, c2, .inr (.inr (.inr (.inr (zl_a (n + 1) (va_up r n v)))))))] H := hP
  have hD : va_D A [(q_t, .inr (4, [.int m0, .ref u, .int (nI n)])), (u, .inl (T 7, c2, .inr (.inr (.inr (.inr (zl_a (n + 1) (va_up r n v)))))))] := hD
  refine va_put (D := D) (ci := 4) (v := .int (nI (n + 1))) (ty := .int) (C := RJx4a65c) (T := TJx4a65c) (N := 3) hx hb hts iJx4a65c_add_72be8_Jx4a65c tyJx4a65c tyJx4a65c_ok nmJx4a65c hown hK hP hD hS 0 rfl rfl 2 (by decide) (hts (.fieldLink RJx4a65c 48 "java/util/ArrayList" "size" "I") (by decide +kernel)) (fun _ h9 => h9) rfl (by decide +kernel) rfl rfl (Nat.le_of_ble_eq_true rfl) dJx4a65c_add_72be8_19 (fun H locs hP hD hS => ?_)
  have hP : va_P D vwCl [(q_t, .inr (4, [.int m0, .ref u, .int (nI (n + 1))])), (u, .inl (T 7, c2, .inr (.inr (.inr (.inr (zl_a (n + 1) (va_up r n v)))))))] H := hP
  have hD : va_D A [(q_t, .inr (4, [.int m0, .ref u, .int (nI (n + 1))])), (u, .inl (T 7, c2, .inr (.inr (.inr (.inr (zl_a (n + 1) (va_up r n v)))))))] := hD
  refine W.widen (k := 1) (n := 100) hce hsl ?_
  exact W.vret hx hb hr (fun t ht hW => ⟨⟨(u, c2), rfl, ⟨hlt, hle⟩, by rw [ht]; exact hP, hD⟩, hS.F ht⟩) hS.2.2 dJx4a65c_add_72be8_22
theorem iJx4a65c_add_9ea2d_Jx4a65c : ∀ w ∈ wsJx4a65c0, w ∈ wsJx4a65c_add_9ea2d := by decide +kernel
set_option maxHeartbeats 8000000 in
set_option maxRecDepth 100000 in
theorem k_Jx4a65c_add_9ea2d (l : Launch) (D : va_G) (T : Nat → ClassId) (Z : zs_T) (C : String) (L : List Nat) (hC : (C, "java/lang/Object") ∈ zr_cast) (q_t qe n cap v : Nat) (m0 : Int32) (r : Nat → Nat) (sz : Nat) (h1 : n ≤ 66) (h2 : n ≤ cap) (h3 : cap ≤ 100) (he : cap = 0 → qe = Z.2.1) (hL : ∀ i : Nat, i < n → r i ∈ L) (hv : v ∈ L) : Met l yJx4a65c_add_9ea2d wsJx4a65c_add_9ea2d ({ frames := 6, cells := 1, slots := 100, locals := 210 } : Room) (zs_Pc Z C L D T [.ref q_t, .ref v] ([(q_t, .inr (4, [.int m0, .ref qe, .int (nI n)]))] ++ zo cap (qe, .inl (T 7, cap, .inr (.inr (.inr (.inr (zl_a n r))))))) sz) (zs_Qi (fun u : Nat × Nat => n + 1 ≤ u.2 ∧ u.2 ≤ 100) (fun _ => 1) D (fun u : Nat × Nat => [(q_t, .inr (4, [.int (m0 + 1), .ref u.1, .int (nI (n + 1))])), (u.1, .inl (T 7, u.2, .inr (.inr (.inr (.inr (zl_a (n + 1) (va_up r n v)))))))]) (va_A ([(q_t, .inr (4, [.int m0, .ref qe, .int (nI n)]))] ++ zo cap (qe, .inl (T 7, cap, .inr (.inr (.inr (.inr (zl_a n r))))))) sz) (va_A ([(q_t, .inr (4, [.int m0, .ref qe, .int (nI n)]))] ++ zo cap (qe, .inl (T 7, cap, .inr (.inr (.inr (.inr (zl_a n r))))))) sz)) 1 100 (va_A ([(q_t, .inr (4, [.int m0, .ref qe, .int (nI n)]))] ++ zo cap (qe, .inl (T 7, cap, .inr (.inr (.inr (.inr (zl_a n r))))))) sz) := by
  refine Met.ofW (cc := cJx4a65c_add_9ea2d) (maxL := 2) (ret := (some .boolean)) (by decide) rfl ?_
  intro p e s m args below meth c s₁ B hml hv
  obtain ⟨rfl, hsz, hP, hK, hN, hD0, hZ, hL0⟩ := hv
  have hx := B.exec
  have hb := B.bytes
  have hr := B.returns
  have hts := atoms_spec (ws := wsJx4a65c_add_9ea2d) B.pre
  have hown : s.vm.findClass RJx4a65c = some m.cls := findClass_of_methodNamed B.named
  have hlocks := B.notSynchronized
  subst hsz
  have hD := hD0.self (sz := s.heap.size)
  generalize hAe : va_A ([(q_t, .inr (4, [.int m0, .ref qe, .int (nI n)]))] ++ zo cap (qe, .inl (T 7, cap, .inr (.inr (.inr (.inr (zl_a n r))))))) s.heap.size = A at hD hZ hL0 ⊢
  have hA : ∀ q : Nat, s.heap.size ≤ q → A q := fun q h => by rw [← hAe]; exact Or.inr h
  have hS : va_S A s.heap s.heap [] := va_S.rf
  have hP : va_P D vwCl ([(q_t, .inr (4, [.int m0, .ref qe, .int (nI n)]))] ++ zo cap (qe, .inl (T 7, cap, .inr (.inr (.inr (.inr (zl_a n r))))))) s.heap := hP
  have hl := lv_entry ([.ref q_t, .ref v]) (n := 2) (Nat.le_of_ble_eq_true rfl)
  rw [lg_entry_eq]
  generalize (lg_sl ([.ref q_t, .ref v]) ++ List.replicate (2 - (lg_sl ([.ref q_t, .ref v])).length) Slot.unset).toArray = ls at hl ⊢
  have hl : lv_has ls 2 [(0, .ref q_t), (1, .ref v)] := hl
  have hF0 : ∀ q, va_A ([(q_t, .inr (4, [.int m0, .ref qe, .int (nI n)]))] ++ zo cap (qe, .inl (T 7, cap, .inr (.inr (.inr (.inr (zl_a n r))))))) s.heap.size q → A q := fun q h => by rw [← hAe]; exact h
  refine lv_aload_n hx hb dJx4a65c_add_9ea2d_0 rfl (lv_at hl 0 rfl) ?_
  refine lv_dup hx hb dJx4a65c_add_9ea2d_1 rfl ?_
  refine va_get (D := D) (ci := 4) (v := .int m0) (C := RJx4a65c) (T := TJx4a65c) (N := 3) hx hb hts iJx4a65c_add_9ea2d_Jx4a65c hown hK hP 0 rfl rfl 0 (by decide) (hts (.fieldLink RJx4a65c 63 "java/util/ArrayList" "modCount" "I") (by decide +kernel)) (fun x h9 => u_same (hts (.sameField "java/util/ArrayList" "java/util/AbstractList" "modCount" "I") (by decide +kernel)) x h9) rfl dJx4a65c_add_9ea2d_2 ?_
  refine lv_iconst (v := (1 : Int32)) hx hb dJx4a65c_add_9ea2d_5 (by decide) ?_
  refine lv_iadd hx hb dJx4a65c_add_9ea2d_6 ?_
  refine va_put (D := D) (ci := 4) (v := .int (m0 + 1)) (ty := .int) (C := RJx4a65c) (T := TJx4a65c) (N := 3) hx hb hts iJx4a65c_add_9ea2d_Jx4a65c tyJx4a65c tyJx4a65c_ok nmJx4a65c hown hK hP hD hS 0 rfl rfl 0 (by decide) (hts (.fieldLink RJx4a65c 63 "java/util/ArrayList" "modCount" "I") (by decide +kernel)) (fun x h9 => u_same (hts (.sameField "java/util/ArrayList" "java/util/AbstractList" "modCount" "I") (by decide +kernel)) x h9) rfl (by decide +kernel) rfl rfl (Nat.le_of_ble_eq_true rfl) dJx4a65c_add_9ea2d_7 (fun H locs hP hD hS => ?_)
  have hP : va_P D vwCl ([(q_t, .inr (4, [.int (m0 + 1), .ref qe, .int (nI n)]))] ++ zo cap (qe, .inl (T 7, cap, .inr (.inr (.inr (.inr (zl_a n r))))))) H := hP
  have hD : va_D A ([(q_t, .inr (4, [.int (m0 + 1), .ref qe, .int (nI n)]))] ++ zo cap (qe, .inl (T 7, cap, .inr (.inr (.inr (.inr (zl_a n r))))))) := hD
  refine lv_aload_n hx hb dJx4a65c_add_9ea2d_10 rfl (lv_at hl 0 rfl) ?_
  refine lv_aload_n hx hb dJx4a65c_add_9ea2d_11 rfl (lv_at hl 1 rfl) ?_
  refine lv_aload_n hx hb dJx4a65c_add_9ea2d_12 rfl (lv_at hl 0 rfl) ?_
  refine va_get (D := D) (ci := 4) (v := .ref qe) (C := RJx4a65c) (T := TJx4a65c) (N := 3) hx hb hts iJx4a65c_add_9ea2d_Jx4a65c hown hK hP 0 rfl rfl 1 (by decide) (hts (.fieldLink RJx4a65c 9 "java/util/ArrayList" "elementData" "[Ljava/lang/Object;") (by decide +kernel)) (fun _ h9 => h9) rfl dJx4a65c_add_9ea2d_13 ?_
  refine lv_aload_n hx hb dJx4a65c_add_9ea2d_16 rfl (lv_at hl 0 rfl) ?_
  refine va_get (D := D) (ci := 4) (v := .int (nI n)) (C := RJx4a65c) (T := TJx4a65c) (N := 3) hx hb hts iJx4a65c_add_9ea2d_Jx4a65c hown hK hP 0 rfl rfl 2 (by decide) (hts (.fieldLink RJx4a65c 48 "java/util/ArrayList" "size" "I") (by decide +kernel)) (fun _ h9 => h9) rfl dJx4a65c_add_9ea2d_17 ?_
  have hF : ∀ q, va_A ([(q_t, .inr (4, [.int (m0 + 1), .ref qe, .int (nI n)]))] ++ zo cap (qe, .inl (T 7, cap, .inr (.inr (.inr (.inr (zl_a n r))))))) H.size q → A q := fun q h => by
    rcases h with ⟨k, x, hk⟩ | h
    · exact hD.2 k _ hk
    · exact hA q (Nat.le_trans hS.1 h)
  refine zs_cv (w' := fun u : Nat × Nat => [(q_t, .inr (4, [.int (m0 + 1), .ref u.1, .int (nI (n + 1))])), (u.1, .inl (T 7, u.2, .inr (.inr (.inr (.inr (zl_a (n + 1) (va_up r n v)))))))]) (wf := fun u : Nat × Nat => [(q_t, .inr (4, [.int (m0 + 1), .ref u.1, .int (nI (n + 1))])), (u.1, .inl (T 7, u.2, .inr (.inr (.inr (.inr (zl_a (n + 1) (va_up r n v)))))))]) (va_runV (As := [.ref v, .ref qe, .int (nI n)]) (rest := []) ⟨hx, hb, hml, hown, hts⟩ (k_Jx4a65c_add_72be8 l D T Z C L hC q_t qe n cap v (m0 + 1) r H.size h1 h2 h3 he hL hv) (cwV 3 hts gJx4a65c_add_9ea2d_Jx4a65c_add_72be8 rfl rfl rfl (by decide +kernel) ⟨Nat.le_of_ble_eq_true rfl, Nat.le_of_ble_eq_true rfl⟩) (zs_preV (q := (RJx4a65c, TJx4a65c, 3)) hK hN hZ hS hF hP hD (fun y hy => ((hL0 y hy).kept hS.2.1).narrow hF) 0 rfl rfl) rfl rfl hl.1 rfl (lv_room (Nat.le_of_ble_eq_true rfl)) dJx4a65c_add_9ea2d_20 ⟨Nat.le_of_ble_eq_true rfl, Nat.le_of_ble_eq_true rfl⟩) hS hF (fun u H1 g1 g2 _ => zs_self g1 g2 hF) (fun u H locs hu hP hD hS => ?_)
  refine lv_iconst (v := (1 : Int32)) hx hb dJx4a65c_add_9ea2d_23 (by decide) ?_
  refine W.widen (k := 1) (n := 100) (Nat.le_of_ble_eq_true rfl) (Nat.le_of_ble_eq_true rfl) ?_
  exact W.zret (v := (1 : Int32)) hx hb hr rfl (fun t ht hW => ⟨⟨_, u, rfl, ⟨hu, rfl⟩, by rw [ht]; exact hP, hD⟩, hS.F ht⟩) hS.2.2 dJx4a65c_add_9ea2d_24

theorem iJx4a65c_clear_da8c8_Jx4a65c : ∀ w ∈ wsJx4a65c0, w ∈ wsJx4a65c_clear_da8c8 := by decide +kernel
def zs_cl (n i : Nat) (r : Nat → Nat) : Nat → Option Nat := fun j => if j < i then none else zl_a n r j
theorem zs_cl_up {n i : Nat} {r : Nat → Nat} : va_up (zs_cl n i r) i none = zs_cl n (i + 1) r := by
  funext j
  unfold va_up zs_cl
  by_cases h : j = i
  · rw [if_pos h, if_pos (by omega)]
  · by_cases h2 : j < i
    · rw [if_neg h, if_pos h2, if_pos (by omega)]
    · rw [if_neg h, if_neg h2, if_neg (by omega)]
theorem zs_cl_0 {n : Nat} {r : Nat → Nat} : zl_a n r = zs_cl n 0 r := by
  funext j
  unfold zs_cl
  rw [if_neg (by omega)]
theorem zs_cl_n {n : Nat} {r : Nat → Nat} : zs_cl n n r = zl_a 0 r := by
  funext j
  unfold zs_cl zl_a
  by_cases h : j < n
  · rw [if_pos h, if_neg (by omega)]
  · rw [if_neg h, if_neg h, if_neg (by omega)]
set_option maxHeartbeats 8000000 in
set_option maxRecDepth 100000 in
theorem k_Jx4a65c_clear_da8c8 (l : Launch) (D : va_G) (T : Nat → ClassId) (q_t qe n cap : Nat) (m0 : Int32) (r : Nat → Nat) (sz : Nat) (h1 : n ≤ cap) (h2 : cap ≤ 100) : Met l yJx4a65c_clear_da8c8 wsJx4a65c_clear_da8c8 ({ frames := 0, cells := 0, slots := 0, locals := 0 } : Room) (zr_Pc D T [.ref q_t] ([(q_t, .inr (4, [.int m0, .ref qe, .int (nI n)]))] ++ zo cap (qe, .inl (T 7, cap, .inr (.inr (.inr (.inr (zl_a n r))))))) sz) (zk_Qv D ([(q_t, .inr (4, [.int (m0 + 1), .ref qe, .int (0 : Int32)]))] ++ zo cap (qe, .inl (T 7, cap, .inr (.inr (.inr (.inr (zl_a 0 r))))))) (va_A ([(q_t, .inr (4, [.int m0, .ref qe, .int (nI n)]))] ++ zo cap (qe, .inl (T 7, cap, .inr (.inr (.inr (.inr (zl_a n r))))))) sz) (va_A ([(q_t, .inr (4, [.int m0, .ref qe, .int (nI n)]))] ++ zo cap (qe, .inl (T 7, cap, .inr (.inr (.inr (.inr (zl_a n r))))))) sz)) 0 0 (va_A ([(q_t, .inr (4, [.int m0, .ref qe, .int (nI n)]))] ++ zo cap (qe, .inl (T 7, cap, .inr (.inr (.inr (.inr (zl_a n r))))))) sz) := by
  refine Met.ofW (cc := cJx4a65c_clear_da8c8) (maxL := 4) (ret := none) (by decide) rfl ?_
  intro p e s m args below meth c s₁ B hml hv
  obtain ⟨rfl, hsz, hP, hK, hN, hD0⟩ := hv
  have hx := B.exec
  have hb := B.bytes
  have hr := B.returns
  have hts := atoms_spec (ws := wsJx4a65c_clear_da8c8) B.pre
  have hown : s.vm.findClass RJx4a65c = some m.cls := findClass_of_methodNamed B.named
  have hlocks := B.notSynchronized
  subst hsz
  have hD := hD0.self (sz := s.heap.size)
  generalize hAe : va_A ([(q_t, .inr (4, [.int m0, .ref qe, .int (nI n)]))] ++ zo cap (qe, .inl (T 7, cap, .inr (.inr (.inr (.inr (zl_a n r))))))) s.heap.size = A at hD ⊢
  have hA : ∀ q : Nat, s.heap.size ≤ q → A q := fun q h => by rw [← hAe]; exact Or.inr h
  have hS : va_S A s.heap s.heap [] := va_S.rf
  have hP : va_P D vwCl ([(q_t, .inr (4, [.int m0, .ref qe, .int (nI n)]))] ++ zo cap (qe, .inl (T 7, cap, .inr (.inr (.inr (.inr (zl_a n r))))))) s.heap := hP
  have hl := lv_entry ([.ref q_t]) (n := 4) (Nat.le_of_ble_eq_true rfl)
  rw [lg_entry_eq]
  generalize (lg_sl ([.ref q_t]) ++ List.replicate (4 - (lg_sl ([.ref q_t])).length) Slot.unset).toArray = ls at hl ⊢
  have hl : lv_has ls 4 [(0, .ref q_t)] := hl
  refine lv_aload_n hx hb dJx4a65c_clear_da8c8_0 rfl (lv_at hl 0 rfl) ?_
  refine lv_dup hx hb dJx4a65c_clear_da8c8_1 rfl ?_
  refine va_get (D := D) (ci := 4) (v := .int m0) (C := RJx4a65c) (T := TJx4a65c) (N := 3) hx hb hts iJx4a65c_clear_da8c8_Jx4a65c hown hK hP 0 rfl rfl 0 (by decide) (hts (.fieldLink RJx4a65c 63 "java/util/ArrayList" "modCount" "I") (by decide +kernel)) (fun x h9 => u_same (hts (.sameField "java/util/ArrayList" "java/util/AbstractList" "modCount" "I") (by decide +kernel)) x h9) rfl dJx4a65c_clear_da8c8_2 ?_
  refine lv_iconst (v := (1 : Int32)) hx hb dJx4a65c_clear_da8c8_5 (by decide) ?_
  refine lv_iadd hx hb dJx4a65c_clear_da8c8_6 ?_
  refine va_put (D := D) (ci := 4) (v := .int (m0 + 1)) (ty := .int) (C := RJx4a65c) (T := TJx4a65c) (N := 3) hx hb hts iJx4a65c_clear_da8c8_Jx4a65c tyJx4a65c tyJx4a65c_ok nmJx4a65c hown hK hP hD hS 0 rfl rfl 0 (by decide) (hts (.fieldLink RJx4a65c 63 "java/util/ArrayList" "modCount" "I") (by decide +kernel)) (fun x h9 => u_same (hts (.sameField "java/util/ArrayList" "java/util/AbstractList" "modCount" "I") (by decide +kernel)) x h9) rfl (by decide +kernel) rfl rfl (Nat.le_of_ble_eq_true rfl) dJx4a65c_clear_da8c8_7 (fun H locs hP hD hS => ?_)
  have hP : va_P D vwCl ([(q_t, .inr (4, [.int (m0 + 1), .ref qe, .int (nI n)]))] ++ zo cap (qe, .inl (T 7, cap, .inr (.inr (.inr (.inr (zl_a n r))))))) H := hP
  have hD : va_D A ([(q_t, .inr (4, [.int (m0 + 1), .ref qe, .int (nI n)]))] ++ zo cap (qe, .inl (T 7, cap, .inr (.inr (.inr (.inr (zl_a n r))))))) := hD
  refine lv_aload_n hx hb dJx4a65c_clear_da8c8_10 rfl (lv_at hl 0 rfl) ?_
  refine va_get (D := D) (ci := 4) (v := .ref qe) (C := RJx4a65c) (T := TJx4a65c) (N := 3) hx hb hts iJx4a65c_clear_da8c8_Jx4a65c hown hK hP 0 rfl rfl 1 (by decide) (hts (.fieldLink RJx4a65c 9 "java/util/ArrayList" "elementData" "[Ljava/lang/Object;") (by decide +kernel)) (fun _ h9 => h9) rfl dJx4a65c_clear_da8c8_11 ?_
  refine lv_astore_n (lv' := [(1, .ref qe), (0, .ref q_t)]) hx hb dJx4a65c_clear_da8c8_14 rfl hl (by decide) rfl (fun ls hl => ?_)
  refine lv_aload_n hx hb dJx4a65c_clear_da8c8_15 rfl (lv_at hl 1 rfl) ?_
  refine va_get (D := D) (ci := 4) (v := .int (nI n)) (C := RJx4a65c) (T := TJx4a65c) (N := 3) hx hb hts iJx4a65c_clear_da8c8_Jx4a65c hown hK hP 0 rfl rfl 2 (by decide) (hts (.fieldLink RJx4a65c 48 "java/util/ArrayList" "size" "I") (by decide +kernel)) (fun _ h9 => h9) rfl dJx4a65c_clear_da8c8_16 ?_
  refine lv_istore_n (lv' := [(2, .int (nI n)), (1, .ref qe), (0, .ref q_t)]) hx hb dJx4a65c_clear_da8c8_19 rfl hl (by decide) rfl (fun ls hl => ?_)
  refine lv_aload_n hx hb dJx4a65c_clear_da8c8_20 rfl (lv_at hl 2 rfl) ?_
  refine lv_iconst (v := (0 : Int32)) hx hb dJx4a65c_clear_da8c8_21 (by decide) ?_
  refine lv_dup_x1 hx hb dJx4a65c_clear_da8c8_22 rfl rfl ?_
  refine va_put (D := D) (ci := 4) (v := .int 0) (ty := .int) (C := RJx4a65c) (T := TJx4a65c) (N := 3) hx hb hts iJx4a65c_clear_da8c8_Jx4a65c tyJx4a65c tyJx4a65c_ok nmJx4a65c hown hK hP hD hS 0 rfl rfl 2 (by decide) (hts (.fieldLink RJx4a65c 48 "java/util/ArrayList" "size" "I") (by decide +kernel)) (fun _ h9 => h9) rfl (by decide +kernel) rfl rfl (Nat.le_of_ble_eq_true rfl) dJx4a65c_clear_da8c8_23 (fun H locs hP hD hS => ?_)
  have hP : va_P D vwCl ([(q_t, .inr (4, [.int (m0 + 1), .ref qe, .int (0 : Int32)]))] ++ zo cap (qe, .inl (T 7, cap, .inr (.inr (.inr (.inr (zl_a n r))))))) H := hP
  have hD : va_D A ([(q_t, .inr (4, [.int (m0 + 1), .ref qe, .int (0 : Int32)]))] ++ zo cap (qe, .inl (T 7, cap, .inr (.inr (.inr (.inr (zl_a n r))))))) := hD
  refine lv_istore_n (lv' := [(3, .int (nI 0)), (2, .int (nI n)), (1, .ref qe), (0, .ref q_t)]) hx hb dJx4a65c_clear_da8c8_26 rfl hl (by decide) rfl (fun ls hl => ?_)
  rw [zs_cl_0] at hP hD
  suffices K : ∀ (k i : Nat) (H : Heap) (locs : List Loc) (ls : Array Slot), n = i + k → va_P D vwCl ([(q_t, .inr (4, [.int (m0 + 1), .ref qe, .int (0 : Int32)]))] ++ zo cap (qe, .inl (T 7, cap, .inr (.inr (.inr (.inr (zs_cl n i r))))))) H → va_D A ([(q_t, .inr (4, [.int (m0 + 1), .ref qe, .int (0 : Int32)]))] ++ zo cap (qe, .inl (T 7, cap, .inr (.inr (.inr (.inr (zs_cl n i r))))))) → va_S A s.heap H locs → lv_has ls 4 [(3, .int (nI i)), (2, .int (nI n)), (1, .ref qe), (0, .ref q_t)] → W p l e ({ frames := 0, cells := 0, slots := 0, locals := 0 } : Room) s m (([.ref q_t] : List Value).toArray) below meth c H locs 0 0 (MQ below (zk_Qv D ([(q_t, .inr (4, [.int (m0 + 1), .ref qe, .int (0 : Int32)]))] ++ zo cap (qe, .inl (T 7, cap, .inr (.inr (.inr (.inr (zl_a 0 r))))))) A A) (([.ref q_t] : List Value).toArray) s 0 0 A) (F0 m 27 ls []) from K n 0 _ _ _ (by omega) hP hD hS hl
  intro k
  induction k with
  | zero =>
    intro i H locs ls hi hP hD hS hl
    obtain rfl : i = n := by omega
    refine lv_iload_n hx hb dJx4a65c_clear_da8c8_27 rfl (lv_at hl 0 rfl) ?_
    refine lv_iload_n hx hb dJx4a65c_clear_da8c8_28 rfl (lv_at hl 1 rfl) ?_
    refine lv_icmp_ge (tgt := 42) hx hb dJx4a65c_clear_da8c8_29 (by decide) (fun _ => ?_) (fun c9 => absurd (nI_le (Nat.le_refl _) (by omega)) c9)
    rw [zs_cl_n] at hP hD
    exact W.vret hx hb hr (fun t ht hW => ⟨⟨(), rfl, trivial, by rw [ht]; exact hP, hD⟩, hS.F ht⟩) hS.2.2 dJx4a65c_clear_da8c8_42
  | succ k ih =>
    intro i H locs ls hi hP hD hS hl
    refine lv_iload_n hx hb dJx4a65c_clear_da8c8_27 rfl (lv_at hl 0 rfl) ?_
    refine lv_iload_n hx hb dJx4a65c_clear_da8c8_28 rfl (lv_at hl 1 rfl) ?_
    refine lv_icmp_ge (tgt := 42) hx hb dJx4a65c_clear_da8c8_29 (by decide) (fun c9 => absurd c9 (nI_ge (by omega) (by omega))) (fun _ => ?_)
    have ew := zo_pos (x := (qe, .inl (T 7, cap, .inr (.inr (.inr (.inr (zs_cl n i r))))))) (show cap ≠ 0 by omega)
    rw [ew] at hP hD
    refine lv_aload_n hx hb dJx4a65c_clear_da8c8_32 rfl (lv_at hl 2 rfl) ?_
    refine lv_iload_n hx hb dJx4a65c_clear_da8c8_33 rfl (lv_at hl 0 rfl) ?_
    refine lv_null hx hb dJx4a65c_clear_da8c8_34 ?_
    refine va_astqN hx hb hK hP hD hS 1 7 rfl rfl (nI_in (show i < cap by omega) (by omega)) dJx4a65c_clear_da8c8_35 (fun H locs hP hD hS => ?_)
    rw [nI_clamp (show i < 2 ^ 31 by omega), zs_cl_up] at hP hD
    have ew2 := zo_pos (x := (qe, .inl (T 7, cap, .inr (.inr (.inr (.inr (zs_cl n (i + 1) r))))))) (show cap ≠ 0 by omega)
    have hP : va_P D vwCl ([(q_t, .inr (4, [.int (m0 + 1), .ref qe, .int (0 : Int32)]))] ++ zo cap (qe, .inl (T 7, cap, .inr (.inr (.inr (.inr (zs_cl n (i + 1) r))))))) H := by rw [ew2]; exact hP
    have hD : va_D A ([(q_t, .inr (4, [.int (m0 + 1), .ref qe, .int (0 : Int32)]))] ++ zo cap (qe, .inl (T 7, cap, .inr (.inr (.inr (.inr (zs_cl n (i + 1) r))))))) := by rw [ew2]; exact hD
    refine lv_iinc (v := nI i + (1 : Int32)) (lv' := [(3, .int (nI i + (1 : Int32))), (2, .int (nI n)), (1, .ref qe), (0, .ref q_t)]) hx hb dJx4a65c_clear_da8c8_36 hl (k := 0) rfl rfl (by decide) rfl (fun ls hl => ?_)
    rw [nI_1] at hl
    refine lv_goto (tgt := 27) hx hb dJx4a65c_clear_da8c8_39 (by decide) ?_
    exact ih (i + 1) H locs ls (by omega) hP hD hS hl
theorem iJx4a65c_fastRemove_b59b0_Jx4a65c : ∀ w ∈ wsJx4a65c0, w ∈ wsJx4a65c_fastRemove_b59b0 := by decide +kernel
/-- the addresses of a list without the k-th -/
def zs_rm (r : Nat → Nat) (k : Nat) : Nat → Nat := fun i => if i < k then r i else r (i + 1)
theorem zs_rm1 {n k : Nat} {r : Nat → Nat} (h : k < n) : va_up (va_cpy (zl_a (n + 1) r) (zl_a (n + 1) r) (k + 1) k (n - k)) n none = zl_a n (zs_rm r k) := by
  funext i
  unfold va_up va_cpy zl_a zs_rm
  by_cases h1 : i = n
  · rw [if_pos h1, if_neg (by omega)]
  · rw [if_neg h1]
    by_cases h2 : i < k
    · rw [if_neg (by omega), if_pos (by omega), if_pos (by omega), if_pos h2]
    · by_cases h3 : i < n
      · rw [if_pos (by omega), if_pos (by omega), if_pos h3, if_neg h2, show k + 1 + (i - k) = i + 1 by omega]
      · rw [if_neg (by omega), if_neg (by omega), if_neg h3]
theorem zs_rm2 {n : Nat} {r : Nat → Nat} : va_up (zl_a (n + 1) r) n none = zl_a n (zs_rm r n) := by
  funext i
  unfold va_up zl_a zs_rm
  by_cases h1 : i = n
  · rw [if_pos h1, if_neg (by omega)]
  · by_cases h3 : i < n
    · rw [if_neg h1, if_pos (by omega), if_pos h3, if_pos h3]
    · rw [if_neg h1, if_neg (by omega), if_neg h3]
set_option maxHeartbeats 8000000 in
set_option maxRecDepth 100000 in
theorem k_Jx4a65c_fastRemove_b59b0 (l : Launch) (D : va_G) (T : Nat → ClassId) (Z : zs_T) (C : String) (L : List Nat) (hC : (C, "java/lang/Object") ∈ zr_cast) (q_t qe n cap k : Nat) (m0 : Int32) (r : Nat → Nat) (sz : Nat) (h1 : n + 1 ≤ cap) (h2 : cap ≤ 100) (h3 : k < n + 1) (hL : ∀ i : Nat, i < n + 1 → r i ∈ L) : Met l yJx4a65c_fastRemove_b59b0 wsJx4a65c_fastRemove_b59b0 ({ frames := 1, cells := 0, slots := 0, locals := 40 } : Room) (zs_Pc Z C L D T [.ref q_t, .ref qe, .int (nI k)] [(q_t, .inr (4, [.int m0, .ref qe, .int (nI (n + 1))])), (qe, .inl (T 7, cap, .inr (.inr (.inr (.inr (zl_a (n + 1) r))))))] sz) (zk_Qv D [(q_t, .inr (4, [.int (m0 + 1), .ref qe, .int (nI n)])), (qe, .inl (T 7, cap, .inr (.inr (.inr (.inr (zl_a n (zs_rm r k)))))))] (va_A [(q_t, .inr (4, [.int m0, .ref qe, .int (nI (n + 1))])), (qe, .inl (T 7, cap, .inr (.inr (.inr (.inr (zl_a (n + 1) r))))))] sz) (va_A [(q_t, .inr (4, [.int m0, .ref qe, .int (nI (n + 1))])), (qe, .inl (T 7, cap, .inr (.inr (.inr (.inr (zl_a (n + 1) r))))))] sz)) 0 0 (va_A [(q_t, .inr (4, [.int m0, .ref qe, .int (nI (n + 1))])), (qe, .inl (T 7, cap, .inr (.inr (.inr (.inr (zl_a (n + 1) r))))))] sz) := by
  refine Met.ofW (cc := cJx4a65c_fastRemove_b59b0) (maxL := 4) (ret := none) (by decide) rfl ?_
  intro p e s m args below meth c s₁ B hml hv
  obtain ⟨rfl, hsz, hP, hK, hN, hD0, hZ, hL0⟩ := hv
  have hx := B.exec
  have hb := B.bytes
  have hr := B.returns
  have hts := atoms_spec (ws := wsJx4a65c_fastRemove_b59b0) B.pre
  have hown : s.vm.findClass RJx4a65c = some m.cls := findClass_of_methodNamed B.named
  have hlocks := B.notSynchronized
  subst hsz
  have hD := hD0.self (sz := s.heap.size)
  generalize hAe : va_A [(q_t, .inr (4, [.int m0, .ref qe, .int (nI (n + 1))])), (qe, .inl (T 7, cap, .inr (.inr (.inr (.inr (zl_a (n + 1) r))))))] s.heap.size = A at hD hZ hL0 ⊢
  have hA : ∀ q : Nat, s.heap.size ≤ q → A q := fun q h => by rw [← hAe]; exact Or.inr h
  have hS : va_S A s.heap s.heap [] := va_S.rf
  have hP : va_P D vwCl [(q_t, .inr (4, [.int m0, .ref qe, .int (nI (n + 1))])), (qe, .inl (T 7, cap, .inr (.inr (.inr (.inr (zl_a (n + 1) r))))))] s.heap := hP
  have hl := lv_entry ([.ref q_t, .ref qe, .int (nI k)]) (n := 4) (Nat.le_of_ble_eq_true rfl)
  rw [lg_entry_eq]
  generalize (lg_sl ([.ref q_t, .ref qe, .int (nI k)]) ++ List.replicate (4 - (lg_sl ([.ref q_t, .ref qe, .int (nI k)])).length) Slot.unset).toArray = ls at hl ⊢
  have hl : lv_has ls 4 [(0, .ref q_t), (1, .ref qe), (2, .int (nI k))] := hl
  refine lv_aload_n hx hb dJx4a65c_fastRemove_b59b0_0 rfl (lv_at hl 0 rfl) ?_
  refine lv_dup hx hb dJx4a65c_fastRemove_b59b0_1 rfl ?_
  refine va_get (D := D) (ci := 4) (v := .int m0) (C := RJx4a65c) (T := TJx4a65c) (N := 3) hx hb hts iJx4a65c_fastRemove_b59b0_Jx4a65c hown hK hP 0 rfl rfl 0 (by decide) (hts (.fieldLink RJx4a65c 63 "java/util/ArrayList" "modCount" "I") (by decide +kernel)) (fun x h9 => u_same (hts (.sameField "java/util/ArrayList" "java/util/AbstractList" "modCount" "I") (by decide +kernel)) x h9) rfl dJx4a65c_fastRemove_b59b0_2 ?_
  refine lv_iconst (v := (1 : Int32)) hx hb dJx4a65c_fastRemove_b59b0_5 (by decide) ?_
  refine lv_iadd hx hb dJx4a65c_fastRemove_b59b0_6 ?_
  refine va_put (D := D) (ci := 4) (v := .int (m0 + 1)) (ty := .int) (C := RJx4a65c) (T := TJx4a65c) (N := 3) hx hb hts iJx4a65c_fastRemove_b59b0_Jx4a65c tyJx4a65c tyJx4a65c_ok nmJx4a65c hown hK hP hD hS 0 rfl rfl 0 (by decide) (hts (.fieldLink RJx4a65c 63 "java/util/ArrayList" "modCount" "I") (by decide +kernel)) (fun x h9 => u_same (hts (.sameField "java/util/ArrayList" "java/util/AbstractList" "modCount" "I") (by decide +kernel)) x h9) rfl (by decide +kernel) rfl rfl (Nat.le_of_ble_eq_true rfl) dJx4a65c_fastRemove_b59b0_7 (fun H locs hP hD hS => ?_)
  have hP : va_P D vwCl [(q_t, .inr (4, [.int (m0 + 1), .ref qe, .int (nI (n + 1))])), (qe, .inl (T 7, cap, .inr (.inr (.inr (.inr (zl_a (n + 1) r))))))] H := hP
  have hD : va_D A [(q_t, .inr (4, [.int (m0 + 1), .ref qe, .int (nI (n + 1))])), (qe, .inl (T 7, cap, .inr (.inr (.inr (.inr (zl_a (n + 1) r))))))] := hD
  refine lv_aload_n hx hb dJx4a65c_fastRemove_b59b0_10 rfl (lv_at hl 0 rfl) ?_
  refine va_get (D := D) (ci := 4) (v := .int (nI (n + 1))) (C := RJx4a65c) (T := TJx4a65c) (N := 3) hx hb hts iJx4a65c_fastRemove_b59b0_Jx4a65c hown hK hP 0 rfl rfl 2 (by decide) (hts (.fieldLink RJx4a65c 48 "java/util/ArrayList" "size" "I") (by decide +kernel)) (fun _ h9 => h9) rfl dJx4a65c_fastRemove_b59b0_11 ?_
  refine lv_iconst (v := (1 : Int32)) hx hb dJx4a65c_fastRemove_b59b0_14 (by decide) ?_
  refine lv_isub hx hb dJx4a65c_fastRemove_b59b0_15 ?_
  rw [nI_pred]
  refine lv_dup hx hb dJx4a65c_fastRemove_b59b0_16 rfl ?_
  refine lv_istore_n (lv' := [(3, .int (nI n)), (0, .ref q_t), (1, .ref qe), (2, .int (nI k))]) hx hb dJx4a65c_fastRemove_b59b0_17 rfl hl (by decide) rfl (fun ls hl => ?_)
  suffices K : ∀ (f : Nat → Option Nat) (H : Heap) (locs : List Loc), va_up f n none = zl_a n (zs_rm r k) → va_P D vwCl [(q_t, .inr (4, [.int (m0 + 1), .ref qe, .int (nI (n + 1))])), (qe, .inl (T 7, cap, .inr (.inr (.inr (.inr f)))))] H → va_D A [(q_t, .inr (4, [.int (m0 + 1), .ref qe, .int (nI (n + 1))])), (qe, .inl (T 7, cap, .inr (.inr (.inr (.inr f)))))] → va_S A s.heap H locs → W p l e ({ frames := 1, cells := 0, slots := 0, locals := 40 } : Room) s m (([.ref q_t, .ref qe, .int (nI k)] : List Value).toArray) below meth c H locs 0 0 (MQ below (zk_Qv D [(q_t, .inr (4, [.int (m0 + 1), .ref qe, .int (nI n)])), (qe, .inl (T 7, cap, .inr (.inr (.inr (.inr (zl_a n (zs_rm r k)))))))] A A) (([.ref q_t, .ref qe, .int (nI k)] : List Value).toArray) s 0 0 A) (F0 m 34 ls []) by
    refine lv_iload_n hx hb dJx4a65c_fastRemove_b59b0_18 rfl (lv_at hl 3 rfl) ?_
    refine lv_icmp_le (tgt := 34) hx hb dJx4a65c_fastRemove_b59b0_19 (by decide) (fun c9 => ?_) (fun c9 => ?_)
    · obtain rfl : k = n := by have := (nI_leI (by omega) (by omega)).mp c9; omega
      exact K _ _ _ zs_rm2 hP hD hS
    · have hkn : k < n := by
        rcases Nat.lt_or_ge k n with g | g
        · exact g
        · exact absurd (nI_le g (by omega)) c9
      refine lv_aload_n hx hb dJx4a65c_fastRemove_b59b0_22 rfl (lv_at hl 2 rfl) ?_
      refine lv_iload_n hx hb dJx4a65c_fastRemove_b59b0_23 rfl (lv_at hl 3 rfl) ?_
      refine lv_iconst (v := (1 : Int32)) hx hb dJx4a65c_fastRemove_b59b0_24 (by decide) ?_
      refine lv_iadd hx hb dJx4a65c_fastRemove_b59b0_25 ?_
      rw [nI_1]
      refine lv_aload_n hx hb dJx4a65c_fastRemove_b59b0_26 rfl (lv_at hl 2 rfl) ?_
      refine lv_iload_n hx hb dJx4a65c_fastRemove_b59b0_27 rfl (lv_at hl 3 rfl) ?_
      refine lv_iload_n hx hb dJx4a65c_fastRemove_b59b0_28 rfl (lv_at hl 0 rfl) ?_
      refine lv_iload_n hx hb dJx4a65c_fastRemove_b59b0_29 rfl (lv_at hl 3 rfl) ?_
      refine lv_isub hx hb dJx4a65c_fastRemove_b59b0_30 ?_
      rw [pk_sub (by omega)]
      have e1 : (nI (k + 1)).toNatClampNeg = k + 1 := nI_clamp (by omega)
      have e2 : (nI k).toNatClampNeg = k := nI_clamp (by omega)
      have e3 : (nI (n - k)).toNatClampNeg = n - k := nI_clamp (by omega)
      refine va_copyq (C := C) (E0 := "java/lang/Object") (E1 := "java/lang/Object") (sp := nI (k + 1)) (dp := nI k) (n := nI (n - k)) (f := zl_a (n + 1) r) (g := zl_a (n + 1) r) hx hb (hml.trans hl.1.symm) hown (hts (.methodLink RJx4a65c 112 arraycopyName) (by decide +kernel)) (hts (.native arraycopyName) (by decide +kernel)) (hts (.static arraycopyName) (by decide +kernel)) (hts (.initialized "java/lang/System") (by decide +kernel)) hK hP hD hS 1 1 7 7 rfl rfl rfl rfl (nI_pos (by omega)) (nI_pos (by omega)) (nI_pos (by omega)) (by rw [e1, e3]; omega) (by rw [e2, e3]; omega) (fun i hi y hy => zs_O_keep (hL0 y (by rw [e1] at hy; rw [e3] at hi; unfold zl_a at hy; rw [if_pos (by omega)] at hy; cases hy; exact hL _ (by omega))) hS) (zs_asg hN hC) (Nat.le_of_ble_eq_true rfl) (by decide +kernel) dJx4a65c_fastRemove_b59b0_31 (fun H locs hP hD hS => ?_)
      rw [e1, e2, e3] at hP hD
      exact K _ _ _ (zs_rm1 hkn) hP hD hS
  intro f H locs hf hP hD hS
  refine lv_aload_n hx hb dJx4a65c_fastRemove_b59b0_34 rfl (lv_at hl 2 rfl) ?_
  refine lv_aload_n hx hb dJx4a65c_fastRemove_b59b0_35 rfl (lv_at hl 1 rfl) ?_
  refine lv_iload_n hx hb dJx4a65c_fastRemove_b59b0_36 rfl (lv_at hl 0 rfl) ?_
  refine lv_dup_x1 hx hb dJx4a65c_fastRemove_b59b0_37 rfl rfl ?_
  refine va_put (D := D) (ci := 4) (v := .int (nI n)) (ty := .int) (C := RJx4a65c) (T := TJx4a65c) (N := 3) hx hb hts iJx4a65c_fastRemove_b59b0_Jx4a65c tyJx4a65c tyJx4a65c_ok nmJx4a65c hown hK hP hD hS 0 rfl rfl 2 (by decide) (hts (.fieldLink RJx4a65c 48 "java/util/ArrayList" "size" "I") (by decide +kernel)) (fun _ h9 => h9) rfl (by decide +kernel) rfl rfl (Nat.le_of_ble_eq_true rfl) dJx4a65c_fastRemove_b59b0_38 (fun H locs hP hD hS => ?_)
  have hP : va_P D vwCl [(q_t, .inr (4, [.int (m0 + 1), .ref qe, .int (nI n)])), (qe, .inl (T 7, cap, .inr (.inr (.inr (.inr f)))))] H := hP
  have hD : va_D A [(q_t, .inr (4, [.int (m0 + 1), .ref qe, .int (nI n)])), (qe, .inl (T 7, cap, .inr (.inr (.inr (.inr f)))))] := hD
  refine lv_null hx hb dJx4a65c_fastRemove_b59b0_41 ?_
  refine va_astqN hx hb hK hP hD hS 1 7 rfl rfl (nI_in (show n < cap by omega) (by omega)) dJx4a65c_fastRemove_b59b0_42 (fun H locs hP hD hS => ?_)
  rw [nI_clamp (show n < 2 ^ 31 by omega), hf] at hP hD
  have hP : va_P D vwCl [(q_t, .inr (4, [.int (m0 + 1), .ref qe, .int (nI n)])), (qe, .inl (T 7, cap, .inr (.inr (.inr (.inr (zl_a n (zs_rm r k)))))))] H := hP
  have hD : va_D A [(q_t, .inr (4, [.int (m0 + 1), .ref qe, .int (nI n)])), (qe, .inl (T 7, cap, .inr (.inr (.inr (.inr (zl_a n (zs_rm r k)))))))] := hD
  exact W.vret hx hb hr (fun t ht hW => ⟨⟨(), rfl, trivial, by rw [ht]; exact hP, hD⟩, hS.F ht⟩) hS.2.2 dJx4a65c_fastRemove_b59b0_43
theorem iJx4a65c_remove_915e3_Jx4a65c : ∀ w ∈ wsJx4a65c0, w ∈ wsJx4a65c_remove_915e3 := by decide +kernel
set_option maxHeartbeats 8000000 in
set_option maxRecDepth 100000 in
theorem k_Jx4a65c_remove_915e3 (l : Launch) (D : va_G) (T : Nat → ClassId) (Z : zs_T) (C : String) (L : List Nat) (hC : (C, "java/lang/Object") ∈ zr_cast) (q_t qe n cap k : Nat) (m0 : Int32) (r : Nat → Nat) (sz : Nat) (h1 : n + 1 ≤ cap) (h2 : cap ≤ 100) (h3 : k < n + 1) (hL : ∀ i : Nat, i < n + 1 → r i ∈ L) : Met l yJx4a65c_remove_915e3 wsJx4a65c_remove_915e3 ({ frames := 2, cells := 0, slots := 0, locals := 70 } : Room) (zs_Pc Z C L D T [.ref q_t, .int (nI k)] [(q_t, .inr (4, [.int m0, .ref qe, .int (nI (n + 1))])), (qe, .inl (T 7, cap, .inr (.inr (.inr (.inr (zl_a (n + 1) r))))))] sz) (zk_Qr (r k) D [(q_t, .inr (4, [.int (m0 + 1), .ref qe, .int (nI n)])), (qe, .inl (T 7, cap, .inr (.inr (.inr (.inr (zl_a n (zs_rm r k)))))))] (va_A [(q_t, .inr (4, [.int m0, .ref qe, .int (nI (n + 1))])), (qe, .inl (T 7, cap, .inr (.inr (.inr (.inr (zl_a (n + 1) r))))))] sz) (va_A [(q_t, .inr (4, [.int m0, .ref qe, .int (nI (n + 1))])), (qe, .inl (T 7, cap, .inr (.inr (.inr (.inr (zl_a (n + 1) r))))))] sz)) 0 0 (va_A [(q_t, .inr (4, [.int m0, .ref qe, .int (nI (n + 1))])), (qe, .inl (T 7, cap, .inr (.inr (.inr (.inr (zl_a (n + 1) r))))))] sz) := by
  refine Met.ofW (cc := cJx4a65c_remove_915e3) (maxL := 4) (ret := (some (.object "java/lang/Object"))) (by decide) rfl ?_
  intro p e s m args below meth c s₁ B hml hv
  obtain ⟨rfl, hsz, hP, hK, hN, hD0, hZ, hL0⟩ := hv
  have hx := B.exec
  have hb := B.bytes
  have hr := B.returns
  have hts := atoms_spec (ws := wsJx4a65c_remove_915e3) B.pre
  have hown : s.vm.findClass RJx4a65c = some m.cls := findClass_of_methodNamed B.named
  have hlocks := B.notSynchronized
  subst hsz
  have hD := hD0.self (sz := s.heap.size)
  generalize hAe : va_A [(q_t, .inr (4, [.int m0, .ref qe, .int (nI (n + 1))])), (qe, .inl (T 7, cap, .inr (.inr (.inr (.inr (zl_a (n + 1) r))))))] s.heap.size = A at hD hZ hL0 ⊢
  have hA : ∀ q : Nat, s.heap.size ≤ q → A q := fun q h => by rw [← hAe]; exact Or.inr h
  have hS : va_S A s.heap s.heap [] := va_S.rf
  have hP : va_P D vwCl [(q_t, .inr (4, [.int m0, .ref qe, .int (nI (n + 1))])), (qe, .inl (T 7, cap, .inr (.inr (.inr (.inr (zl_a (n + 1) r))))))] s.heap := hP
  have hl := lv_entry ([.ref q_t, .int (nI k)]) (n := 4) (Nat.le_of_ble_eq_true rfl)
  rw [lg_entry_eq]
  generalize (lg_sl ([.ref q_t, .int (nI k)]) ++ List.replicate (4 - (lg_sl ([.ref q_t, .int (nI k)])).length) Slot.unset).toArray = ls at hl ⊢
  have hl : lv_has ls 4 [(0, .ref q_t), (1, .int (nI k))] := hl
  refine lv_iload_n hx hb dJx4a65c_remove_915e3_0 rfl (lv_at hl 1 rfl) ?_
  refine lv_aload_n hx hb dJx4a65c_remove_915e3_1 rfl (lv_at hl 0 rfl) ?_
  refine va_get (D := D) (ci := 4) (v := .int (nI (n + 1))) (C := RJx4a65c) (T := TJx4a65c) (N := 3) hx hb hts iJx4a65c_remove_915e3_Jx4a65c hown hK hP 0 rfl rfl 2 (by decide) (hts (.fieldLink RJx4a65c 48 "java/util/ArrayList" "size" "I") (by decide +kernel)) (fun _ h9 => h9) rfl dJx4a65c_remove_915e3_2 ?_
  have hck : f_J15_checkIndex_7cf53 0 (nI k) (nI (n + 1)) = some (nI k) := by
    have q1 : ¬ nI k < 0 := nI_pos (by omega)
    have q2 : nI k < nI (n + 1) := nI_lt (by omega) (by omega)
    simp [f_J15_checkIndex_7cf53, f_J3_checkIndex_8e157, q1, q2]
  refine zk_ci (wr := [(q_t, .inr (4, [.int m0, .ref qe, .int (nI (n + 1))])), (qe, .inl (T 7, cap, .inr (.inr (.inr (.inr (zl_a (n + 1) r))))))]) (va_runS (As := [.int (nI k), .int (nI (n + 1))]) (rest := []) ⟨hx, hb, hml, hown, hts⟩ (k_J15_checkIndex_7cf53 l D T 0 s.heap.size (nI k) (nI (n + 1)) (nI k) hck) (va_cwS 2 hts gJx4a65c_remove_915e3_J15_checkIndex_7cf53 rfl rfl rfl (by decide +kernel) ⟨Nat.le_of_ble_eq_true rfl, Nat.le_of_ble_eq_true rfl⟩) (zr_preS hK hN (hP.sub [] rfl) (hD.sub [] (by decide) rfl)) rfl rfl hl.1 rfl (lv_room (Nat.le_of_ble_eq_true rfl)) dJx4a65c_remove_915e3_5 ⟨Nat.le_of_ble_eq_true rfl, Nat.le_of_ble_eq_true rfl⟩) hP hD hS hA [] [0, 1] rfl rfl (by decide) (by decide) [0, 1] (wf := [(q_t, .inr (4, [.int m0, .ref qe, .int (nI (n + 1))])), (qe, .inl (T 7, cap, .inr (.inr (.inr (.inr (zl_a (n + 1) r))))))]) rfl (by decide) (fun H locs hP hD hS => ?_)
  refine lv_pop hx hb dJx4a65c_remove_915e3_8 rfl ?_
  refine lv_aload_n hx hb dJx4a65c_remove_915e3_9 rfl (lv_at hl 0 rfl) ?_
  refine va_get (D := D) (ci := 4) (v := .ref qe) (C := RJx4a65c) (T := TJx4a65c) (N := 3) hx hb hts iJx4a65c_remove_915e3_Jx4a65c hown hK hP 0 rfl rfl 1 (by decide) (hts (.fieldLink RJx4a65c 9 "java/util/ArrayList" "elementData" "[Ljava/lang/Object;") (by decide +kernel)) (fun _ h9 => h9) rfl dJx4a65c_remove_915e3_10 ?_
  refine lv_astore_n (lv' := [(2, .ref qe), (0, .ref q_t), (1, .int (nI k))]) hx hb dJx4a65c_remove_915e3_13 rfl hl (by decide) rfl (fun ls hl => ?_)
  refine lv_aload_n hx hb dJx4a65c_remove_915e3_14 rfl (lv_at hl 0 rfl) ?_
  refine lv_iload_n hx hb dJx4a65c_remove_915e3_15 rfl (lv_at hl 2 rfl) ?_
  refine zl_aald (r := r k) hx hb hK hP 1 7 rfl rfl (nI_in (show k < cap by omega) (by omega)) (by rw [nI_clamp (show k < 2 ^ 31 by omega)]; exact if_pos h3) dJx4a65c_remove_915e3_16 ?_
  refine lv_astore_n (lv' := [(3, .ref (r k)), (2, .ref qe), (0, .ref q_t), (1, .int (nI k))]) hx hb dJx4a65c_remove_915e3_17 rfl hl (by decide) rfl (fun ls hl => ?_)
  refine lv_aload_n hx hb dJx4a65c_remove_915e3_18 rfl (lv_at hl 2 rfl) ?_
  refine lv_aload_n hx hb dJx4a65c_remove_915e3_19 rfl (lv_at hl 1 rfl) ?_
  refine lv_iload_n hx hb dJx4a65c_remove_915e3_20 rfl (lv_at hl 3 rfl) ?_
  have hF : ∀ q, va_A [(q_t, .inr (4, [.int m0, .ref qe, .int (nI (n + 1))])), (qe, .inl (T 7, cap, .inr (.inr (.inr (.inr (zl_a (n + 1) r))))))] H.size q → A q := va_free (wc := [(q_t, .inr (4, [.int m0, .ref qe, .int (nI (n + 1))])), (qe, .inl (T 7, cap, .inr (.inr (.inr (.inr (zl_a (n + 1) r))))))]) hD hS hA [0, 1] rfl
  refine zk_cv (wr := []) (wc := [(q_t, .inr (4, [.int m0, .ref qe, .int (nI (n + 1))])), (qe, .inl (T 7, cap, .inr (.inr (.inr (.inr (zl_a (n + 1) r))))))]) (va_runV (As := [.ref qe, .int (nI k)]) (rest := []) ⟨hx, hb, hml, hown, hts⟩ (k_Jx4a65c_fastRemove_b59b0 l D T Z C L hC q_t qe n cap k m0 r H.size h1 h2 h3 hL) (cwV 2 hts gJx4a65c_remove_915e3_Jx4a65c_fastRemove_b59b0 rfl rfl rfl (by decide +kernel) ⟨Nat.le_of_ble_eq_true rfl, Nat.le_of_ble_eq_true rfl⟩) (zs_preV (q := (RJx4a65c, TJx4a65c, 3)) hK hN hZ hS hF hP hD (fun y hy => ((hL0 y hy).kept hS.2.1).narrow hF) 0 rfl rfl) rfl rfl hl.1 rfl (lv_room (Nat.le_of_ble_eq_true rfl)) dJx4a65c_remove_915e3_21 ⟨Nat.le_of_ble_eq_true rfl, Nat.le_of_ble_eq_true rfl⟩) hP hD hS hA [0, 1] [] rfl rfl (by decide) (by decide) [0, 1] (wf := [(q_t, .inr (4, [.int (m0 + 1), .ref qe, .int (nI n)])), (qe, .inl (T 7, cap, .inr (.inr (.inr (.inr (zl_a n (zs_rm r k)))))))]) rfl (by decide) (fun H locs hP hD hS => ?_)
  refine lv_aload_n hx hb dJx4a65c_remove_915e3_24 rfl (lv_at hl 0 rfl) ?_
  exact W.aret (v := .ref (r k)) hx hb hr (Or.inl ⟨_, rfl⟩) (Or.inr ⟨_, rfl⟩) (fun t ht hW => ⟨⟨(), _, rfl, trivial, ⟨rfl, by rw [ht]; exact hP, hD⟩⟩, hS.F ht⟩) hS.2.2 dJx4a65c_remove_915e3_25
theorem iJx35411_init_45d68_Jx4a65c : ∀ w ∈ wsJx4a65c0, w ∈ wsJx35411_init_45d68 := by decide +kernel
theorem iJx35411_init_45d68_Jx35411 : ∀ w ∈ wsJx354110, w ∈ wsJx35411_init_45d68 := by decide +kernel
set_option maxHeartbeats 8000000 in
set_option maxRecDepth 100000 in
theorem k_Jx35411_init_45d68 (l : Launch) (D : va_G) (T : Nat → ClassId) (q_t q_l qe : Nat) (m0 nn : Int32) (sz : Nat) : Met l yJx35411_init_45d68 wsJx35411_init_45d68 ({ frames := 1, cells := 0, slots := 0, locals := 12 } : Room) (zr_Pc D T [.ref q_t, .ref q_l] [(q_t, .inr (3, [.int 0, .int 0, .int 0, .null])), (q_l, .inr (4, [.int m0, .ref qe, .int nn]))] sz) (zk_Qv D [(q_t, .inr (3, [.int 0, .int (-1), .int m0, .ref q_l])), (q_l, .inr (4, [.int m0, .ref qe, .int nn]))] (va_A [(q_t, .inr (3, [.int 0, .int 0, .int 0, .null])), (q_l, .inr (4, [.int m0, .ref qe, .int nn]))] sz) (va_A [(q_t, .inr (3, [.int 0, .int 0, .int 0, .null])), (q_l, .inr (4, [.int m0, .ref qe, .int nn]))] sz)) 0 0 (va_A [(q_t, .inr (3, [.int 0, .int 0, .int 0, .null])), (q_l, .inr (4, [.int m0, .ref qe, .int nn]))] sz) := by
  refine Met.ofW (cc := cJx35411_init_45d68) (maxL := 2) (ret := none) (by decide) rfl ?_
  intro p e s m args below meth c s₁ B hml hv
  obtain ⟨rfl, hsz, hP, hK, hN, hD0⟩ := hv
  have hx := B.exec
  have hb := B.bytes
  have hr := B.returns
  have hts := atoms_spec (ws := wsJx35411_init_45d68) B.pre
  have hown : s.vm.findClass RJx35411 = some m.cls := findClass_of_methodNamed B.named
  have hlocks := B.notSynchronized
  have hin : meth.name = "<init>" := (name_of_methodNamed B.named B.method).1
  subst hsz
  have hD := hD0.self (sz := s.heap.size)
  generalize hAe : va_A [(q_t, .inr (3, [.int 0, .int 0, .int 0, .null])), (q_l, .inr (4, [.int m0, .ref qe, .int nn]))] s.heap.size = A at hD ⊢
  have hA : ∀ q : Nat, s.heap.size ≤ q → A q := fun q h => by rw [← hAe]; exact Or.inr h
  have hS : va_S A s.heap s.heap [] := va_S.rf
  have hP : va_P D vwCl [(q_t, .inr (3, [.int 0, .int 0, .int 0, .null])), (q_l, .inr (4, [.int m0, .ref qe, .int nn]))] s.heap := hP
  have hl := lv_entry ([.ref q_t, .ref q_l]) (n := 2) (Nat.le_of_ble_eq_true rfl)
  rw [lg_entry_eq]
  generalize (lg_sl ([.ref q_t, .ref q_l]) ++ List.replicate (2 - (lg_sl ([.ref q_t, .ref q_l])).length) Slot.unset).toArray = ls at hl ⊢
  have hl : lv_has ls 2 [(0, .ref q_t), (1, .ref q_l)] := hl
  refine lv_aload_n hx hb dJx35411_init_45d68_0 rfl (lv_at hl 0 rfl) ?_
  refine lv_aload_n hx hb dJx35411_init_45d68_1 rfl (lv_at hl 1 rfl) ?_
  refine va_putF (D := D) (ci := 3) (v := .ref q_l) (ty := (.object "java/util/ArrayList")) (C := RJx35411) (T := TJx35411) (N := 4) hx hb hts iJx35411_init_45d68_Jx35411 tyJx35411 tyJx35411_ok nmJx35411 hown hK hP hD hS 0 rfl rfl 3 (by decide) (hts (.fieldLink RJx35411 1 "java/util/ArrayList$Itr" "this$0" "Ljava/util/ArrayList;") (by decide +kernel)) (fun _ h9 => h9) rfl hin rfl (by decide +kernel) rfl rfl (Nat.le_of_ble_eq_true rfl) dJx35411_init_45d68_2 (fun H locs hP hD hS => ?_)
  have hP : va_P D vwCl [(q_t, .inr (3, [.int 0, .int 0, .int 0, .ref q_l])), (q_l, .inr (4, [.int m0, .ref qe, .int nn]))] H := hP
  have hD : va_D A [(q_t, .inr (3, [.int 0, .int 0, .int 0, .ref q_l])), (q_l, .inr (4, [.int m0, .ref qe, .int nn]))] := hD
  refine lv_aload_n hx hb dJx35411_init_45d68_5 rfl (lv_at hl 0 rfl) ?_
  refine W.objInit hx hb hown (hts (.methodLink RJx35411 7 objectInit) (by decide +kernel)) (hts (.instanceMethod objectInit) (by decide +kernel)) (hts (.code objectInit ⟨#[0xb1]⟩ 1 none) (by decide +kernel)) rfl (by rw [hml]; exact hl.1) rfl dJx35411_init_45d68_6 (Nat.le_of_ble_eq_true rfl) (Nat.le_of_ble_eq_true rfl) ?_
  refine W.eq (g2 := F0 m 9 ls []) rfl ?_
  refine lv_aload_n hx hb dJx35411_init_45d68_9 rfl (lv_at hl 0 rfl) ?_
  refine lv_iconst (v := (-1 : Int32)) hx hb dJx35411_init_45d68_10 (by decide) ?_
  refine va_put (D := D) (ci := 3) (v := .int (-1)) (ty := .int) (C := RJx35411) (T := TJx35411) (N := 4) hx hb hts iJx35411_init_45d68_Jx35411 tyJx35411 tyJx35411_ok nmJx35411 hown hK hP hD hS 0 rfl rfl 1 (by decide) (hts (.fieldLink RJx35411 13 "java/util/ArrayList$Itr" "lastRet" "I") (by decide +kernel)) (fun _ h9 => h9) rfl (by decide +kernel) rfl rfl (Nat.le_of_ble_eq_true rfl) dJx35411_init_45d68_11 (fun H locs hP hD hS => ?_)
  have hP : va_P D vwCl [(q_t, .inr (3, [.int 0, .int (-1), .int 0, .ref q_l])), (q_l, .inr (4, [.int m0, .ref qe, .int nn]))] H := hP
  have hD : va_D A [(q_t, .inr (3, [.int 0, .int (-1), .int 0, .ref q_l])), (q_l, .inr (4, [.int m0, .ref qe, .int nn]))] := hD
  refine lv_aload_n hx hb dJx35411_init_45d68_14 rfl (lv_at hl 0 rfl) ?_
  refine lv_aload_n hx hb dJx35411_init_45d68_15 rfl (lv_at hl 0 rfl) ?_
  refine va_get (D := D) (ci := 3) (v := .ref q_l) (C := RJx35411) (T := TJx35411) (N := 4) hx hb hts iJx35411_init_45d68_Jx35411 hown hK hP 0 rfl rfl 3 (by decide) (hts (.fieldLink RJx35411 1 "java/util/ArrayList$Itr" "this$0" "Ljava/util/ArrayList;") (by decide +kernel)) (fun _ h9 => h9) rfl dJx35411_init_45d68_16 ?_
  refine va_get (D := D) (ci := 4) (v := .int m0) (C := RJx4a65c) (T := TJx4a65c) (N := 3) hx hb hts iJx35411_init_45d68_Jx4a65c hown hK hP 1 rfl rfl 0 (by decide) (hts (.fieldLink RJx35411 17 "java/util/ArrayList" "modCount" "I") (by decide +kernel)) (fun x h9 => u_same (hts (.sameField "java/util/ArrayList" "java/util/AbstractList" "modCount" "I") (by decide +kernel)) x h9) rfl dJx35411_init_45d68_19 ?_
  refine va_put (D := D) (ci := 3) (v := .int m0) (ty := .int) (C := RJx35411) (T := TJx35411) (N := 4) hx hb hts iJx35411_init_45d68_Jx35411 tyJx35411 tyJx35411_ok nmJx35411 hown hK hP hD hS 0 rfl rfl 2 (by decide) (hts (.fieldLink RJx35411 22 "java/util/ArrayList$Itr" "expectedModCount" "I") (by decide +kernel)) (fun _ h9 => h9) rfl (by decide +kernel) rfl rfl (Nat.le_of_ble_eq_true rfl) dJx35411_init_45d68_22 (fun H locs hP hD hS => ?_)
  have hP : va_P D vwCl [(q_t, .inr (3, [.int 0, .int (-1), .int m0, .ref q_l])), (q_l, .inr (4, [.int m0, .ref qe, .int nn]))] H := hP
  have hD : va_D A [(q_t, .inr (3, [.int 0, .int (-1), .int m0, .ref q_l])), (q_l, .inr (4, [.int m0, .ref qe, .int nn]))] := hD
  exact W.vret hx hb hr (fun t ht hW => ⟨⟨(), rfl, trivial, by rw [ht]; exact hP, hD⟩, hS.F ht⟩) hS.2.2 dJx35411_init_45d68_25
theorem iJx4a65c_iterator_32c93_Jx4a65c : ∀ w ∈ wsJx4a65c0, w ∈ wsJx4a65c_iterator_32c93 := by decide +kernel
theorem iJx4a65c_iterator_32c93_Jx35411 : ∀ w ∈ wsJx354110, w ∈ wsJx4a65c_iterator_32c93 := by decide +kernel
set_option maxHeartbeats 8000000 in
set_option maxRecDepth 100000 in
theorem k_Jx4a65c_iterator_32c93 (l : Launch) (D : va_G) (T : Nat → ClassId) (q_l qe : Nat) (m0 nn : Int32) (sz : Nat) : Met l yJx4a65c_iterator_32c93 wsJx4a65c_iterator_32c93 ({ frames := 2, cells := 1, slots := 4, locals := 40 } : Room) (zr_Pc D T [.ref q_l] [(q_l, .inr (4, [.int m0, .ref qe, .int nn]))] sz) (zs_Qr (fun _ : Nat => True) (fun u => u) D (fun u => [(q_l, .inr (4, [.int m0, .ref qe, .int nn])), (u, .inr (3, [.int 0, .int (-1), .int m0, .ref q_l]))]) (va_A [(q_l, .inr (4, [.int m0, .ref qe, .int nn]))] sz) (va_A [(q_l, .inr (4, [.int m0, .ref qe, .int nn]))] sz)) 1 4 (va_A [(q_l, .inr (4, [.int m0, .ref qe, .int nn]))] sz) := by
  refine Met.ofW (cc := cJx4a65c_iterator_32c93) (maxL := 1) (ret := (some (.object "java/util/Iterator"))) (by decide) rfl ?_
  intro p e s m args below meth c s₁ B hml hv
  obtain ⟨rfl, hsz, hP, hK, hN, hD0⟩ := hv
  have hx := B.exec
  have hb := B.bytes
  have hr := B.returns
  have hts := atoms_spec (ws := wsJx4a65c_iterator_32c93) B.pre
  have hown : s.vm.findClass RJx4a65c = some m.cls := findClass_of_methodNamed B.named
  have hlocks := B.notSynchronized
  subst hsz
  have hD := hD0.self (sz := s.heap.size)
  generalize hAe : va_A [(q_l, .inr (4, [.int m0, .ref qe, .int nn]))] s.heap.size = A at hD ⊢
  have hA : ∀ q : Nat, s.heap.size ≤ q → A q := fun q h => by rw [← hAe]; exact Or.inr h
  have hS : va_S A s.heap s.heap [] := va_S.rf
  have hP : va_P D vwCl [(q_l, .inr (4, [.int m0, .ref qe, .int nn]))] s.heap := hP
  have hl := lv_entry ([.ref q_l]) (n := 1) (Nat.le_of_ble_eq_true rfl)
  rw [lg_entry_eq]
  generalize (lg_sl ([.ref q_l]) ++ List.replicate (1 - (lg_sl ([.ref q_l])).length) Slot.unset).toArray = ls at hl ⊢
  have hl : lv_has ls 1 [(0, .ref q_l)] := hl
  refine va_new (ci := 3) (fs := [.int 0, .int 0, .int 0, .null]) (C := RJx35411) (T := TJx35411) (N := 4) hx hb hts iJx4a65c_iterator_32c93_Jx35411 tyJx35411 tyJx35411_ok hown (hts (.classLink RJx4a65c 267 RJx35411) (by decide +kernel)) (hts (.instantiable RJx35411 4) (by decide +kernel)) (hts (.initialized RJx35411) (by decide +kernel)) hK hP hD hS hA rfl (fun j hj => by rcases (show j = 0 ∨ j = 1 ∨ j = 2 ∨ j = 3 by omega) with rfl | rfl | rfl | rfl <;> rfl) (Nat.le_of_ble_eq_true rfl) (Nat.le_of_ble_eq_true rfl) dJx4a65c_iterator_32c93_0 (fun q_t H hP hD hS => ?_)
  have hP : va_P D vwCl [(q_l, .inr (4, [.int m0, .ref qe, .int nn])), (q_t, .inr (3, [.int 0, .int 0, .int 0, .null]))] H := hP
  have hD : va_D A [(q_l, .inr (4, [.int m0, .ref qe, .int nn])), (q_t, .inr (3, [.int 0, .int 0, .int 0, .null]))] := hD
  refine lv_dup hx hb dJx4a65c_iterator_32c93_3 rfl ?_
  refine lv_aload_n hx hb dJx4a65c_iterator_32c93_4 rfl (lv_at hl 0 rfl) ?_
  refine zk_cv (wr := []) (va_runI (As := [.ref q_l]) (rest := [.ref q_t]) ⟨hx, hb, hml, hown, hts⟩ (k_Jx35411_init_45d68 l D T q_t q_l qe m0 nn _) (cwI 1 hts gJx4a65c_iterator_32c93_Jx35411_init_45d68 rfl rfl rfl (hts (.initialized RJx35411) (by decide +kernel)) (hts (.methodLink RJx4a65c 269 yJx35411_init_45d68) (by decide +kernel)) (hts (.instanceMethod yJx35411_init_45d68) (by decide +kernel)) rfl (by decide +kernel) ⟨Nat.le_of_ble_eq_true rfl, Nat.le_of_ble_eq_true rfl⟩) (zr_preS hK hN (hP.sub [1, 0] rfl) (hD.sub [1, 0] (by decide) rfl)) rfl rfl hl.1 rfl (lv_room (Nat.le_of_ble_eq_true rfl)) dJx4a65c_iterator_32c93_5 ⟨Nat.le_of_ble_eq_true rfl, Nat.le_of_ble_eq_true rfl⟩) hP hD hS hA [1, 0] [] rfl rfl (by decide) (by decide) [1, 0] (wf := [(q_l, .inr (4, [.int m0, .ref qe, .int nn])), (q_t, .inr (3, [.int 0, .int (-1), .int m0, .ref q_l]))]) rfl (by decide) (fun H locs hP hD hS => ?_)
  exact W.aret (v := .ref q_t) hx hb hr (Or.inl ⟨_, rfl⟩) (Or.inr ⟨_, rfl⟩) (fun t ht hW => ⟨⟨q_t, _, rfl, trivial, ⟨rfl, by rw [ht]; exact hP, hD⟩⟩, hS.F ht⟩) hS.2.2 dJx4a65c_iterator_32c93_8

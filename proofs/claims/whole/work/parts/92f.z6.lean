/-! rows of mine: lists in worlds of chunks -/
theorem zs_pushP {D : va_G} {cl : List vw_C} {zs : List va_W} {x : Nat × va_E} {H : Heap} (h : va_P D cl (zs.flatten ++ [x]) H) : va_P D cl (zs ++ [[x]]).flatten H := by simpa using h
theorem zs_pushD {A : Nat → Prop} {zs : List va_W} {x : Nat × va_E} (h : va_D A (zs.flatten ++ [x])) : va_D A (zs ++ [[x]]).flatten := by simpa using h
theorem zs_zb {n : Nat} {f g : Nat → Nat × va_E} {x : Nat × va_E} (h1 : ∀ a, a < n → g a = f a) (h2 : g n = x) : zb n f ++ [x] = zb (n + 1) g := by
  unfold zb
  rw [List.range_succ, List.map_append]
  congr 1
  · exact List.map_congr_left (fun a ha => (h1 a (List.mem_range.mp ha)).symm)
  · simp [h2]
theorem zs_merge {zs : List va_W} {c : va_W} {x : Nat × va_E} : (zs ++ [c, [x]]).flatten = (zs ++ [c ++ [x]]).flatten := by simp
theorem zs_elem {D : va_G} {A : Nat → Prop} {zs cs : List va_W} {wc : va_W} {H : Heap} {s : State} {tys : List (ClassId × FieldType)} (hK : va_K D vwCl tys s) (hP : va_P D vwCl zs.flatten H) (hD : va_D A zs.flatten) (k : Nat) {c : va_W} (hk : zs[k]? = some c) {a ci : Nat} {fs : List Value} {q : vw_C} (hm : (a, .inr (ci, fs)) ∈ c) (hc : vwCl[ci]? = some q) (is : List Nat) (hC : is.map (fun i => zs[i]?) = cs.map some) (hki : k ∉ is) (hw : cs.flatten = wc) : va_O q.1 a (va_A wc H.size) s H := by
  have hmz : (a, .inr (ci, fs)) ∈ zs.flatten := List.mem_flatten.mpr ⟨c, List.mem_of_getElem? hk, hm⟩
  obtain ⟨j, hj⟩ := List.getElem?_of_mem hmz
  obtain ⟨cell, h1, h2, h3⟩ := va_recv hK hP hc hj
  refine ⟨cell, h1, h2, h3, ?_⟩
  rintro (⟨i, e, he⟩ | hle)
  · subst hw
    obtain ⟨d, hd, hmd⟩ := List.mem_flatten.mp (List.mem_of_getElem? he)
    have hd2 : some d ∈ is.map (fun i => zs[i]?) := by rw [hC]; exact List.mem_map.mpr ⟨d, hd, rfl⟩
    obtain ⟨i2, hi2, hz⟩ := List.mem_map.mp hd2
    have hne : k ≠ i2 := fun q => hki (q ▸ hi2)
    exact zw_apart (zw_D_iff.mp hD).1 hk hz hne _ hm _ hmd rfl
  · have hlt := (Array.getElem?_eq_some_iff.mp h1).1
    omega
theorem iX7_init_X7 : ∀ w ∈ wsX70, w ∈ wsX7_init := by decide +kernel
set_option maxHeartbeats 8000000 in
set_option maxRecDepth 100000 in
theorem k_X7_init (l : Launch) (D : va_G) (T : Nat → ClassId) (q_t : Nat) (x1 x2 x3 x4 : Int32) (sz : Nat) : Met l yX7_init wsX7_init ({ frames := 1, cells := 0, slots := 0, locals := 12 } : Room) (zr_Pc D T [.ref q_t, .int x1, .int x2, .int x3, .int x4] [(q_t, .inr (12, [.int 0, .int 0, .int 0, .int 0]))] sz) (zk_Qv D [(q_t, .inr (12, [.int x1, .int x2, .int x3, .int x4]))] (va_A [(q_t, .inr (12, [.int 0, .int 0, .int 0, .int 0]))] sz) (va_A [(q_t, .inr (12, [.int 0, .int 0, .int 0, .int 0]))] sz)) 0 0 (va_A [(q_t, .inr (12, [.int 0, .int 0, .int 0, .int 0]))] sz) := by
  refine Met.ofW (cc := cX7_init) (maxL := 5) (ret := none) (by decide) rfl ?_
  intro p e s m args below meth c s₁ B hml hv
  obtain ⟨rfl, hsz, hP, hK, hN, hD0⟩ := hv
  have hx := B.exec
  have hb := B.bytes
  have hr := B.returns
  have hts := atoms_spec (ws := wsX7_init) B.pre
  have hown : s.vm.findClass RX7 = some m.cls := findClass_of_methodNamed B.named
  have hlocks := B.notSynchronized
  have hin : meth.name = "<init>" := (name_of_methodNamed B.named B.method).1
  subst hsz
  have hD := hD0.self (sz := s.heap.size)
  generalize hAe : va_A [(q_t, .inr (12, [.int 0, .int 0, .int 0, .int 0]))] s.heap.size = A at hD ⊢
  have hA : ∀ q : Nat, s.heap.size ≤ q → A q := fun q h => by rw [← hAe]; exact Or.inr h
  have hS : va_S A s.heap s.heap [] := va_S.rf
  have hP : va_P D vwCl [(q_t, .inr (12, [.int 0, .int 0, .int 0, .int 0]))] s.heap := hP
  have hl := lv_entry ([.ref q_t, .int x1, .int x2, .int x3, .int x4]) (n := 5) (Nat.le_of_ble_eq_true rfl)
  rw [lg_entry_eq]
  generalize (lg_sl ([.ref q_t, .int x1, .int x2, .int x3, .int x4]) ++ List.replicate (5 - (lg_sl ([.ref q_t, .int x1, .int x2, .int x3, .int x4])).length) Slot.unset).toArray = ls at hl ⊢
  have hl : lv_has ls 5 [(0, .ref q_t), (1, .int x1), (2, .int x2), (3, .int x3), (4, .int x4)] := hl
  refine lv_aload_n hx hb dX7_init_0 rfl (lv_at hl 0 rfl) ?_
  refine W.objInit hx hb hown (hts (.methodLink RX7 1 objectInit) (by decide +kernel)) (hts (.instanceMethod objectInit) (by decide +kernel)) (hts (.code objectInit ⟨#[0xb1]⟩ 1 none) (by decide +kernel)) rfl (by rw [hml]; exact hl.1) rfl dX7_init_1 (Nat.le_of_ble_eq_true rfl) (Nat.le_of_ble_eq_true rfl) ?_
  refine W.eq (g2 := F0 m 4 ls []) rfl ?_
  refine lv_aload_n hx hb dX7_init_4 rfl (lv_at hl 0 rfl) ?_
  refine lv_iload_n hx hb dX7_init_5 rfl (lv_at hl 1 rfl) ?_
  refine va_putF (D := D) (ci := 12) (v := .int x1) (ty := .int) (C := RX7) (T := TX7) (N := 4) hx hb hts iX7_init_X7 tyX7 tyX7_ok nmX7 hown hK hP hD hS 0 rfl rfl 0 (by decide) (hts (.fieldLink RX7 7 "PulseMeadowModel$Link" "from" "I") (by decide +kernel)) (fun _ h9 => h9) rfl hin rfl (by decide +kernel) rfl rfl (Nat.le_of_ble_eq_true rfl) dX7_init_6 (fun H locs hP hD hS => ?_)
  have hP : va_P D vwCl [(q_t, .inr (12, [.int x1, .int 0, .int 0, .int 0]))] H := hP
  have hD : va_D A [(q_t, .inr (12, [.int x1, .int 0, .int 0, .int 0]))] := hD
  refine lv_aload_n hx hb dX7_init_9 rfl (lv_at hl 0 rfl) ?_
  refine lv_iload_n hx hb dX7_init_10 rfl (lv_at hl 2 rfl) ?_
  refine va_putF (D := D) (ci := 12) (v := .int x2) (ty := .int) (C := RX7) (T := TX7) (N := 4) hx hb hts iX7_init_X7 tyX7 tyX7_ok nmX7 hown hK hP hD hS 0 rfl rfl 1 (by decide) (hts (.fieldLink RX7 13 "PulseMeadowModel$Link" "to" "I") (by decide +kernel)) (fun _ h9 => h9) rfl hin rfl (by decide +kernel) rfl rfl (Nat.le_of_ble_eq_true rfl) dX7_init_11 (fun H locs hP hD hS => ?_)
  have hP : va_P D vwCl [(q_t, .inr (12, [.int x1, .int x2, .int 0, .int 0]))] H := hP
  have hD : va_D A [(q_t, .inr (12, [.int x1, .int x2, .int 0, .int 0]))] := hD
  refine lv_aload_n hx hb dX7_init_14 rfl (lv_at hl 0 rfl) ?_
  refine lv_iload_n hx hb dX7_init_15 rfl (lv_at hl 3 rfl) ?_
  refine va_putF (D := D) (ci := 12) (v := .int x3) (ty := .int) (C := RX7) (T := TX7) (N := 4) hx hb hts iX7_init_X7 tyX7 tyX7_ok nmX7 hown hK hP hD hS 0 rfl rfl 2 (by decide) (hts (.fieldLink RX7 16 "PulseMeadowModel$Link" "delay" "I") (by decide +kernel)) (fun _ h9 => h9) rfl hin rfl (by decide +kernel) rfl rfl (Nat.le_of_ble_eq_true rfl) dX7_init_16 (fun H locs hP hD hS => ?_)
  have hP : va_P D vwCl [(q_t, .inr (12, [.int x1, .int x2, .int x3, .int 0]))] H := hP
  have hD : va_D A [(q_t, .inr (12, [.int x1, .int x2, .int x3, .int 0]))] := hD
  refine lv_aload_n hx hb dX7_init_19 rfl (lv_at hl 0 rfl) ?_
  refine lv_iload hx hb dX7_init_20 (lv_at hl 4 rfl) ?_
  refine va_putF (D := D) (ci := 12) (v := .int x4) (ty := .int) (C := RX7) (T := TX7) (N := 4) hx hb hts iX7_init_X7 tyX7 tyX7_ok nmX7 hown hK hP hD hS 0 rfl rfl 3 (by decide) (hts (.fieldLink RX7 19 "PulseMeadowModel$Link" "strength" "I") (by decide +kernel)) (fun _ h9 => h9) rfl hin rfl (by decide +kernel) rfl rfl (Nat.le_of_ble_eq_true rfl) dX7_init_22 (fun H locs hP hD hS => ?_)
  have hP : va_P D vwCl [(q_t, .inr (12, [.int x1, .int x2, .int x3, .int x4]))] H := hP
  have hD : va_D A [(q_t, .inr (12, [.int x1, .int x2, .int x3, .int x4]))] := hD
  exact W.vret hx hb hr (fun t ht hW => ⟨⟨(), rfl, trivial, by rw [ht]; exact hP, hD⟩, hS.F ht⟩) hS.2.2 dX7_init_25

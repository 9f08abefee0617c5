/-! rows of mine: worlds in chunks (single cells, then blocks: rows of a grid, objects of a list) -/
abbrev zw (zs : List va_W) : va_W := zs.flatten
def zb (n : Nat) (f : Nat → Nat × va_E) : va_W := (List.range n).map f
theorem zw_P_iff {D : va_G} {cl : List vw_C} {ws : va_W} {H : Heap} : va_P D cl ws H ↔ ∀ q ∈ ws, va_at D cl q H := by
  constructor
  · intro h q hq
    obtain ⟨k, hk⟩ := List.getElem?_of_mem hq
    exact h k q hk
  · intro h k q hk
    exact h q (List.mem_of_getElem? hk)
theorem zw_D_iff {A : Nat → Prop} {ws : va_W} : va_D A ws ↔ ws.Pairwise (fun p q => p.1 ≠ q.1) ∧ ∀ q ∈ ws, A q.1 := by
  constructor
  · rintro ⟨h1, h2⟩
    refine ⟨?_, ?_⟩
    · rw [List.pairwise_iff_getElem]
      intro i j hi hj hij he
      have := h1 i j _ _ (List.getElem?_eq_getElem hi) (List.getElem?_eq_getElem hj) he
      omega
    · intro q hq
      obtain ⟨k, hk⟩ := List.getElem?_of_mem hq
      exact h2 k q hk
  · rintro ⟨h1, h2⟩
    rw [List.pairwise_iff_getElem] at h1
    refine ⟨?_, fun k q hk => h2 q (List.mem_of_getElem? hk)⟩
    intro i j p q hi hj he
    obtain ⟨hi1, rfl⟩ := List.getElem?_eq_some_iff.mp hi
    obtain ⟨hj1, rfl⟩ := List.getElem?_eq_some_iff.mp hj
    rcases Nat.lt_trichotomy i j with h | h | h
    · exact absurd he (h1 i j hi1 hj1 h)
    · exact h
    · exact absurd he.symm (h1 j i hj1 hi1 h)
theorem zw_mem {zs cs : List va_W} {is : List Nat} (hC : is.map (fun i => zs[i]?) = cs.map some) : ∀ c ∈ cs, c ∈ zs := by
  intro c hc
  have h : some c ∈ is.map (fun i => zs[i]?) := by rw [hC]; exact List.mem_map.mpr ⟨c, hc, rfl⟩
  obtain ⟨i, -, hi⟩ := List.mem_map.mp h
  exact List.mem_of_getElem? hi
theorem zw_P {D : va_G} {cl : List vw_C} {zs cs : List va_W} {wc : va_W} {H : Heap} (hP : va_P D cl zs.flatten H) (is : List Nat) (hC : is.map (fun i => zs[i]?) = cs.map some) (hw : cs.flatten = wc) : va_P D cl wc H := by
  subst hw
  rw [zw_P_iff] at hP ⊢
  intro q hq
  obtain ⟨c, hc, hq⟩ := List.mem_flatten.mp hq
  exact hP q (List.mem_flatten.mpr ⟨c, zw_mem hC c hc, hq⟩)
theorem zw_apart {zs : List va_W} (h : zs.flatten.Pairwise (fun p q => p.1 ≠ q.1)) {i j : Nat} {c d : va_W} (hi : zs[i]? = some c) (hj : zs[j]? = some d) (hij : i ≠ j) : ∀ p ∈ c, ∀ q ∈ d, p.1 ≠ q.1 := by
  rw [List.pairwise_flatten] at h
  have h2 := List.pairwise_iff_getElem.mp h.2
  obtain ⟨hi1, rfl⟩ := List.getElem?_eq_some_iff.mp hi
  obtain ⟨hj1, rfl⟩ := List.getElem?_eq_some_iff.mp hj
  intro p hp q hq
  rcases Nat.lt_or_gt_of_ne hij with g | g
  · exact h2 i j hi1 hj1 g p hp q hq
  · exact fun e => h2 j i hj1 hi1 g q hq p hp e.symm
theorem zw_pw {zs : List va_W} (h : zs.flatten.Pairwise (fun p q => p.1 ≠ q.1)) : ∀ (is : List Nat) (cs : List va_W), is.Nodup → is.map (fun i => zs[i]?) = cs.map some → cs.flatten.Pairwise (fun p q => p.1 ≠ q.1)
  | [], cs, _, hC => by
    cases cs with
    | nil => exact List.Pairwise.nil
    | cons c cs => simp at hC
  | i :: is, cs, hn, hC => by
    cases cs with
    | nil => simp at hC
    | cons c cs =>
      simp only [List.map_cons, List.cons.injEq] at hC
      obtain ⟨h0, hC⟩ := hC
      have hn' := List.nodup_cons.mp hn
      have ih := zw_pw h is cs hn'.2 hC
      rw [List.flatten_cons, List.pairwise_append]
      refine ⟨(List.pairwise_flatten.mp h).1 c (List.mem_of_getElem? h0), ih, ?_⟩
      intro p hp q hq
      obtain ⟨d, hd, hq⟩ := List.mem_flatten.mp hq
      have hd' : some d ∈ is.map (fun i => zs[i]?) := by rw [hC]; exact List.mem_map.mpr ⟨d, hd, rfl⟩
      obtain ⟨j, hj, hdj⟩ := List.mem_map.mp hd'
      exact zw_apart h h0 hdj (fun e => hn'.1 (e ▸ hj)) p hp q hq
theorem zw_nd {l : List Nat} (h : va_nd l = true) : l.Nodup := by
  induction l with
  | nil => exact List.nodup_nil
  | cons a l ih =>
    simp [va_nd] at h
    exact List.nodup_cons.mpr ⟨h.1, ih h.2⟩
theorem zw_D {A : Nat → Prop} {zs cs : List va_W} {wc : va_W} (hD : va_D A zs.flatten) (is : List Nat) (hn : va_nd is = true) (hC : is.map (fun i => zs[i]?) = cs.map some) (hw : cs.flatten = wc) : va_D A wc := by
  subst hw
  rw [zw_D_iff] at hD ⊢
  refine ⟨zw_pw hD.1 is cs (zw_nd hn) hC, fun q hq => ?_⟩
  obtain ⟨c, hc, hq⟩ := List.mem_flatten.mp hq
  exact hD.2 q (List.mem_flatten.mpr ⟨c, zw_mem hC c hc, hq⟩)
theorem zw_A_of {wc : va_W} {sz a : Nat} (h : va_A wc sz a) : (∃ q ∈ wc, q.1 = a) ∨ sz ≤ a := by
  rcases h with ⟨k, e, h⟩ | h
  · exact Or.inl ⟨_, List.mem_of_getElem? h, rfl⟩
  · exact Or.inr h
theorem zw_free {A : Nat → Prop} {zs cs : List va_W} {wc : va_W} {H0 H : Heap} {locs : List Loc} (hD : va_D A zs.flatten) (hS : va_S A H0 H locs) (hA : ∀ q, H0.size ≤ q → A q) (is : List Nat) (hC : is.map (fun i => zs[i]?) = cs.map some) (hw : cs.flatten = wc) : ∀ q, va_A wc H.size q → A q := by
  subst hw
  intro a ha
  rcases zw_A_of ha with ⟨q, hq, rfl⟩ | h
  · obtain ⟨c, hc, hq⟩ := List.mem_flatten.mp hq
    exact (zw_D_iff.mp hD).2 q (List.mem_flatten.mpr ⟨c, zw_mem hC c hc, hq⟩)
  · exact hA a (Nat.le_trans hS.1 h)
theorem zw_back {D : va_G} {A : Nat → Prop} {H H1 : Heap} {zs cs rs ds fs : List va_W} {wc w' : va_W} (hP : va_P D vwCl zs.flatten H) (hD : va_D A zs.flatten) (isC isR : List Nat) (hC : isC.map (fun i => zs[i]?) = cs.map some) (hR : isR.map (fun i => zs[i]?) = rs.map some) (hn : va_nd isR = true) (hdis : ∀ i ∈ isR, i ∉ isC) (hcw : cs.flatten = wc) (hdw : ds.flatten = w') (pm : List Nat) (hpm : pm.map (fun i => (rs ++ ds)[i]?) = fs.map some) (hnp : va_nd pm = true) (hf : ∀ q, va_A wc H.size q → A q) (hP1 : va_P D vwCl w' H1) (hD1 : va_D (va_A wc H.size) w') (hk : ∀ q : Nat, q < H.size → ¬ va_A wc H.size q → H1[q]? = H[q]?) : va_P D vwCl fs.flatten H1 ∧ va_D A fs.flatten := by
  subst hcw hdw
  have hPr := zw_P hP isR hR rfl
  have hDr := zw_D hD isR hn hR rfl
  have hlt : ∀ q ∈ rs.flatten, q.1 < H.size := fun q hq => (zw_P_iff.mp hPr q hq).lt
  have hno : ∀ q ∈ rs.flatten, ¬ va_A cs.flatten H.size q.1 := by
    intro q hq ha
    rcases zw_A_of ha with ⟨p, hp, he⟩ | h
    · obtain ⟨c, hc, hp⟩ := List.mem_flatten.mp hp
      obtain ⟨d, hd, hq'⟩ := List.mem_flatten.mp hq
      have hc' : some c ∈ isC.map (fun i => zs[i]?) := by rw [hC]; exact List.mem_map.mpr ⟨c, hc, rfl⟩
      have hd' : some d ∈ isR.map (fun i => zs[i]?) := by rw [hR]; exact List.mem_map.mpr ⟨d, hd, rfl⟩
      obtain ⟨i, hi, hci⟩ := List.mem_map.mp hc'
      obtain ⟨j, hj, hdj⟩ := List.mem_map.mp hd'
      exact zw_apart (zw_D_iff.mp hD).1 hci hdj (fun e => hdis j hj (e ▸ hi)) p hp q hq' he
    · exact absurd (hlt q hq) (Nat.not_lt.mpr h)
  have hPb : va_P D vwCl (rs ++ ds).flatten H1 := by
    rw [zw_P_iff, List.flatten_append]
    intro q hq
    rcases List.mem_append.mp hq with h | h
    · exact (zw_P_iff.mp hPr q h).kept (hk q.1 (hlt q h) (hno q h))
    · exact zw_P_iff.mp hP1 q h
  have hDb : va_D A (rs ++ ds).flatten := by
    rw [zw_D_iff, List.flatten_append, List.pairwise_append]
    refine ⟨⟨(zw_D_iff.mp hDr).1, (zw_D_iff.mp hD1).1, ?_⟩, ?_⟩
    · intro q hq p hp e
      exact hno q hq (e ▸ (zw_D_iff.mp hD1).2 p hp)
    · intro q hq
      rcases List.mem_append.mp hq with h | h
      · exact (zw_D_iff.mp hDr).2 q h
      · exact hf _ ((zw_D_iff.mp hD1).2 q h)
  exact ⟨zw_P hPb pm hpm rfl, zw_D hDb pm hnp hpm rfl⟩
theorem zw_at {zs : List va_W} {k n i : Nat} {f : Nat → Nat × va_E} (hz : zs[k]? = some (zb n f)) (hi : i < n) : zs.flatten[((zs.take k).map List.length).sum + i]? = some (f i) := by
  induction zs generalizing k with
  | nil => simp at hz
  | cons c zs ih =>
    cases k with
    | zero =>
      simp only [List.getElem?_cons_zero, Option.some.injEq] at hz
      subst hz
      simp [zb, hi, List.getElem?_append]
    | succ k =>
      simp only [List.getElem?_cons_succ] at hz
      have := ih hz
      simp only [List.take_succ_cons, List.map_cons, List.sum_cons, List.flatten_cons]
      rw [List.getElem?_append_right (by omega)]
      rw [← this]
      congr 1
      omega
theorem zw_set {zs : List va_W} {k n i : Nat} {f : Nat → Nat × va_E} {x : Nat × va_E} (hz : zs[k]? = some (zb n f)) (hi : i < n) : zs.flatten.set (((zs.take k).map List.length).sum + i) x = (zs.set k (zb n (fun a => if a = i then x else f a))).flatten := by
  induction zs generalizing k with
  | nil => simp at hz
  | cons c zs ih =>
    cases k with
    | zero =>
      simp only [List.getElem?_cons_zero, Option.some.injEq] at hz
      subst hz
      simp only [List.take_zero, List.map_nil, List.sum_nil, Nat.zero_add, List.flatten_cons, List.set_cons_zero]
      rw [List.set_append_left _ _ (by simpa [zb] using hi)]
      congr 1
      apply List.ext_getElem?
      intro j
      simp only [zb, List.getElem?_set, List.getElem?_map, List.length_map, List.length_range]
      by_cases e : i = j
      · subst e
        simp [hi]
      · rw [if_neg e]
        by_cases hj : j < n
        · simp [hj, Ne.symm e]
        · simp [hj]
    | succ k =>
      simp only [List.getElem?_cons_succ] at hz
      have := ih hz
      simp only [List.take_succ_cons, List.map_cons, List.sum_cons, List.flatten_cons, List.set_cons_succ]
      rw [List.set_append_right _ _ (by omega), ← this]
      congr 2
      omega
/-- a grid's row i changed at j -/
def zg_up {α : Type} (M : Nat → Nat → α) (i j : Nat) (v : α) : Nat → Nat → α := fun a => if a = i then (fun b => if b = j then v else M a b) else M a
theorem zg_up_eq {M : Nat → Nat → Int32} {r : Nat → Nat} {n k i j : Nat} {v : Int32} {c : ClassId} : zb n (fun a => if a = i then (r i, (Sum.inl (c, k, Sum.inl (upd (M i) j v)) : va_E)) else (r a, Sum.inl (c, k, Sum.inl (M a)))) = zb n (fun a => (r a, (Sum.inl (c, k, Sum.inl (zg_up M i j v a)) : va_E))) := by
  congr 1
  funext a
  by_cases h : a = i
  · subst h
    simp [zg_up, upd]
    rfl
  · simp [zg_up, h]
section ZW
variable {p : Program} {l : Launch} {e : Env} {R : Room} {s : State} {m : MethodId} {args : Array Value} {below : List Frame} {meth : Method} {c : Code} {H : Heap} {locs : List Loc} {cells slots : Nat} {Q : State → Prop}
variable {D : va_G} {A : Nat → Prop} {ws wc w' wf : va_W} {pc : Nat} {ls : Array Slot} {rest st0 : List Value} {a : Array Value} {cc : ByteArray} {tys : List (ClassId × FieldType)} {zs : List va_W}
/-- a row of a grid is taken -/
theorem zw_aald (hx : p.tables.exec = Jvm.exec) (hb : c.code = cc) (hK : va_K D vwCl tys s) (hP : va_P D vwCl ws H) (q0 t0 : Nat) {o : Nat} {cA : ClassId} {ty : FieldType} (hty : ty.isReference = true) {n : Nat} {r : Nat → Nat} (ha : ws[q0]? = some (o, .inl (cA, n, .inr (.inr (.inr (.inr (fun i => some (r i)))))))) (ht : tys[t0]? = some (cA, ty)) {i : Int32} (hin : vp_in i n) (hdg : decode cc pc = .ok (.aaload, 1))
    (kk : W p l e R s m args below meth c H locs cells slots Q (F0 m (pc + 1) ls (.ref (r i.toNatClampNeg) :: rest))) : W p l e R s m args below meth c H locs cells slots Q (F0 m pc ls (.int i :: .ref o :: rest)) := by
  have hlt : i.toNatClampNeg < n := Nat.not_le.mp fun q => hin (Or.inr q)
  exact W.aald (v := .ref (r i.toNatClampNeg)) (ty := ty) hx hb (hP q0 _ ha) ((hK.2 t0 _ ht).1 n (fun j => .ref (r j))) hty (fun q => by cases q) (by show ¬ (i < 0 ∨ (arrV _ _ _).slots.size ≤ _); rw [arrV_size]; exact hin) (by show (arrV _ _ _).slots[_]? = _; rw [arrV_read _ _ hlt]; rfl) rfl rfl hdg kk
theorem zw_lt {i : Int32} {n : Nat} (h : vp_in i n) : i.toNatClampNeg < n := Nat.not_le.mp fun q => h (Or.inr q)
theorem zg_iast (hx : p.tables.exec = Jvm.exec) (hb : c.code = cc) (hK : va_K D vwCl tys s) (hP : va_P D vwCl zs.flatten H) (hD : va_D A zs.flatten) {H0 : Heap} (hS : va_S A H0 H locs) (k t0 : Nat) {cA : ClassId} {n w : Nat} {r : Nat → Nat} {M : Nat → Nat → Int32} {g i : Int32} {x : Int32} (hz : zs[k]? = some (zb n (fun a => (r a, .inl (cA, w, .inl (M a)))))) (hg : vp_in g n) (ht : tys[t0]? = some (cA, .int)) (hin : vp_in i w) (hdg : decode cc pc = .ok (.iastore, 1))
    (kk : ∀ (H1 : Heap) (locs1 : List Loc), va_P D vwCl (zs.set k (zb n (fun a => (r a, .inl (cA, w, .inl (zg_up M g.toNatClampNeg i.toNatClampNeg x a)))))).flatten H1 → va_D A (zs.set k (zb n (fun a => (r a, .inl (cA, w, .inl (zg_up M g.toNatClampNeg i.toNatClampNeg x a)))))).flatten → va_S A H0 H1 locs1 → W p l e R s m args below meth c H1 locs1 cells slots Q (F0 m (pc + 1) ls rest)) : W p l e R s m args below meth c H locs cells slots Q (F0 m pc ls (.int x :: .int i :: .ref (r g.toNatClampNeg) :: rest)) := by
  have hs := fun x => zw_set (x := x) hz (zw_lt hg)
  refine va_iast hx hb hK hP hD hS _ t0 (zw_at hz (zw_lt hg)) ht hin hdg (fun H1 locs1 h1 h2 h3 => ?_)
  rw [hs, zg_up_eq] at h1 h2
  exact kk H1 locs1 h1 h2 h3
theorem zg_zast (hx : p.tables.exec = Jvm.exec) (hb : c.code = cc) (hK : va_K D vwCl tys s) (hP : va_P D vwCl zs.flatten H) (hD : va_D A zs.flatten) {H0 : Heap} (hS : va_S A H0 H locs) (k t0 : Nat) {cA : ClassId} {n w : Nat} {r : Nat → Nat} {M : Nat → Nat → Int32} {g i : Int32} {x : Int32} (hz : zs[k]? = some (zb n (fun a => (r a, .inl (cA, w, .inl (M a)))))) (hg : vp_in g n) (ht : tys[t0]? = some (cA, .boolean)) (hin : vp_in i w) (hdg : decode cc pc = .ok (.bastore, 1))
    (kk : ∀ (H1 : Heap) (locs1 : List Loc), va_P D vwCl (zs.set k (zb n (fun a => (r a, .inl (cA, w, .inl (zg_up M g.toNatClampNeg i.toNatClampNeg (vp_nar .boolean x) a)))))).flatten H1 → va_D A (zs.set k (zb n (fun a => (r a, .inl (cA, w, .inl (zg_up M g.toNatClampNeg i.toNatClampNeg (vp_nar .boolean x) a)))))).flatten → va_S A H0 H1 locs1 → W p l e R s m args below meth c H1 locs1 cells slots Q (F0 m (pc + 1) ls rest)) : W p l e R s m args below meth c H locs cells slots Q (F0 m pc ls (.int x :: .int i :: .ref (r g.toNatClampNeg) :: rest)) := by
  have hs := fun x => zw_set (x := x) hz (zw_lt hg)
  refine va_zast hx hb hK hP hD hS _ t0 (zw_at hz (zw_lt hg)) ht hin hdg (fun H1 locs1 h1 h2 h3 => ?_)
  rw [hs, zg_up_eq] at h1 h2
  exact kk H1 locs1 h1 h2 h3
theorem zq_ci {r : Int32} (hr : va_Run p l e R s m args below meth c H locs cells slots 0 0 (F0 m pc ls st0) rest (zk_Qi r D w' (va_A wc H.size) (va_A wc H.size) a) (va_A wc H.size)) (hS : va_S A s.heap H locs) (hF : ∀ q, va_A wc H.size q → A q) (hJ : ∀ H1 : Heap, va_P D vwCl w' H1 → va_D (va_A wc H.size) w' → (∀ q : Nat, q < H.size → ¬ va_A wc H.size q → H1[q]? = H[q]?) → va_P D vwCl wf H1 ∧ va_D A wf)
    (kk : ∀ (H1 : Heap) (locs1 : List Loc), va_P D vwCl wf H1 → va_D A wf → va_S A s.heap H1 locs1 → W p l e R s m args below meth c H1 locs1 cells slots Q (F0 m (pc + 3) ls (.int r :: rest))) : W p l e R s m args below meth c H locs cells slots Q (F0 m pc ls st0) := by
  refine va_calli hr hS (fun q _ h => hF q h) hF (fun r2 u t H1 locs1 ht hvm hw hB hz hk hS1 => ?_)
  obtain ⟨hP1, hD1⟩ := hB
  rw [ht] at hP1
  obtain ⟨h1, h2⟩ := hJ H1 hP1 hD1 hk
  cases hw
  exact kk H1 locs1 h1 h2 hS1
theorem zq_cl {r : Int64} (hr : va_Run p l e R s m args below meth c H locs cells slots 0 0 (F0 m pc ls st0) rest (zk_Ql r D w' (va_A wc H.size) (va_A wc H.size) a) (va_A wc H.size)) (hS : va_S A s.heap H locs) (hF : ∀ q, va_A wc H.size q → A q) (hJ : ∀ H1 : Heap, va_P D vwCl w' H1 → va_D (va_A wc H.size) w' → (∀ q : Nat, q < H.size → ¬ va_A wc H.size q → H1[q]? = H[q]?) → va_P D vwCl wf H1 ∧ va_D A wf)
    (kk : ∀ (H1 : Heap) (locs1 : List Loc), va_P D vwCl wf H1 → va_D A wf → va_S A s.heap H1 locs1 → W p l e R s m args below meth c H1 locs1 cells slots Q (F0 m (pc + 3) ls (.long r :: rest))) : W p l e R s m args below meth c H locs cells slots Q (F0 m pc ls st0) := by
  refine va_calll hr hS (fun q _ h => hF q h) hF (fun r2 u t H1 locs1 ht hvm hw hB hz hk hS1 => ?_)
  obtain ⟨hP1, hD1⟩ := hB
  rw [ht] at hP1
  obtain ⟨h1, h2⟩ := hJ H1 hP1 hD1 hk
  cases hw
  exact kk H1 locs1 h1 h2 hS1
theorem zq_cd {r : UInt64} (hr : va_Run p l e R s m args below meth c H locs cells slots 0 0 (F0 m pc ls st0) rest (zk_Qd r D w' (va_A wc H.size) (va_A wc H.size) a) (va_A wc H.size)) (hS : va_S A s.heap H locs) (hF : ∀ q, va_A wc H.size q → A q) (hJ : ∀ H1 : Heap, va_P D vwCl w' H1 → va_D (va_A wc H.size) w' → (∀ q : Nat, q < H.size → ¬ va_A wc H.size q → H1[q]? = H[q]?) → va_P D vwCl wf H1 ∧ va_D A wf)
    (kk : ∀ (H1 : Heap) (locs1 : List Loc), va_P D vwCl wf H1 → va_D A wf → va_S A s.heap H1 locs1 → W p l e R s m args below meth c H1 locs1 cells slots Q (F0 m (pc + 3) ls (.double r :: rest))) : W p l e R s m args below meth c H locs cells slots Q (F0 m pc ls st0) := by
  refine va_calld hr hS (fun q _ h => hF q h) hF (fun r2 u t H1 locs1 ht hvm hw hB hz hk hS1 => ?_)
  obtain ⟨hP1, hD1⟩ := hB
  rw [ht] at hP1
  obtain ⟨h1, h2⟩ := hJ H1 hP1 hD1 hk
  cases hw
  exact kk H1 locs1 h1 h2 hS1
theorem zq_cf {r : UInt32} (hr : va_Run p l e R s m args below meth c H locs cells slots 0 0 (F0 m pc ls st0) rest (zk_Qf r D w' (va_A wc H.size) (va_A wc H.size) a) (va_A wc H.size)) (hS : va_S A s.heap H locs) (hF : ∀ q, va_A wc H.size q → A q) (hJ : ∀ H1 : Heap, va_P D vwCl w' H1 → va_D (va_A wc H.size) w' → (∀ q : Nat, q < H.size → ¬ va_A wc H.size q → H1[q]? = H[q]?) → va_P D vwCl wf H1 ∧ va_D A wf)
    (kk : ∀ (H1 : Heap) (locs1 : List Loc), va_P D vwCl wf H1 → va_D A wf → va_S A s.heap H1 locs1 → W p l e R s m args below meth c H1 locs1 cells slots Q (F0 m (pc + 3) ls (.float r :: rest))) : W p l e R s m args below meth c H locs cells slots Q (F0 m pc ls st0) := by
  refine va_callf hr hS (fun q _ h => hF q h) hF (fun r2 u t H1 locs1 ht hvm hw hB hz hk hS1 => ?_)
  obtain ⟨hP1, hD1⟩ := hB
  rw [ht] at hP1
  obtain ⟨h1, h2⟩ := hJ H1 hP1 hD1 hk
  cases hw
  exact kk H1 locs1 h1 h2 hS1
theorem zq_cv (hr : va_Run p l e R s m args below meth c H locs cells slots 0 0 (F0 m pc ls st0) rest (zk_Qv D w' (va_A wc H.size) (va_A wc H.size) a) (va_A wc H.size)) (hS : va_S A s.heap H locs) (hF : ∀ q, va_A wc H.size q → A q) (hJ : ∀ H1 : Heap, va_P D vwCl w' H1 → va_D (va_A wc H.size) w' → (∀ q : Nat, q < H.size → ¬ va_A wc H.size q → H1[q]? = H[q]?) → va_P D vwCl wf H1 ∧ va_D A wf)
    (kk : ∀ (H1 : Heap) (locs1 : List Loc), va_P D vwCl wf H1 → va_D A wf → va_S A s.heap H1 locs1 → W p l e R s m args below meth c H1 locs1 cells slots Q (F0 m (pc + 3) ls rest)) : W p l e R s m args below meth c H locs cells slots Q (F0 m pc ls st0) := by
  refine va_callv hr hS (fun q _ h => hF q h) hF (fun u t H1 locs1 ht hvm hw hB hz hk hS1 => ?_)
  obtain ⟨hP1, hD1⟩ := hB
  rw [ht] at hP1
  obtain ⟨h1, h2⟩ := hJ H1 hP1 hD1 hk
  skip
  exact kk H1 locs1 h1 h2 hS1
theorem zq_cr {qr : Nat} (hr : va_Run p l e R s m args below meth c H locs cells slots 0 0 (F0 m pc ls st0) rest (zk_Qr qr D w' (va_A wc H.size) (va_A wc H.size) a) (va_A wc H.size)) (hS : va_S A s.heap H locs) (hF : ∀ q, va_A wc H.size q → A q) (hJ : ∀ H1 : Heap, va_P D vwCl w' H1 → va_D (va_A wc H.size) w' → (∀ q : Nat, q < H.size → ¬ va_A wc H.size q → H1[q]? = H[q]?) → va_P D vwCl wf H1 ∧ va_D A wf)
    (kk : ∀ (H1 : Heap) (locs1 : List Loc), va_P D vwCl wf H1 → va_D A wf → va_S A s.heap H1 locs1 → W p l e R s m args below meth c H1 locs1 cells slots Q (F0 m (pc + 3) ls (.ref qr :: rest))) : W p l e R s m args below meth c H locs cells slots Q (F0 m pc ls st0) := by
  refine va_callr hr hS (fun q _ h => hF q h) hF (fun u ra t H1 locs1 ht hvm hw hB hz hk hS1 => ?_)
  obtain ⟨rfl, hP1, hD1⟩ := hB
  rw [ht] at hP1
  obtain ⟨h1, h2⟩ := hJ H1 hP1 hD1 hk
  skip
  exact kk H1 locs1 h1 h2 hS1
end ZW

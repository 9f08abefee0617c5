/-! rows of mine: nest words, contracts with one answer, guards of the mirrors -/
def zk_nF : List (String × Nat × String × String × String × String) := [("PulseMeadow$State", 32, "PulseMeadow$Setting", "beaters", "I", "PulseMeadow"), ("PulseMeadow$Way", 60, "PulseMeadow$Setting", "beaters", "I", "PulseMeadow"), ("PulseMeadow", 157, "PulseMeadow$Setting", "beaters", "I", "PulseMeadow"), ("PulseMeadow$Way", 55, "PulseMeadow$Setting", "mask", "I", "PulseMeadow"), ("PulseMeadow$State", 37, "PulseMeadow$Setting", "places", "[I", "PulseMeadow"), ("PulseMeadow$Way", 63, "PulseMeadow$Setting", "places", "[I", "PulseMeadow"), ("PulseMeadow", 316, "PulseMeadow$Setting", "places", "[I", "PulseMeadow"), ("PulseMeadow", 111, "PulseMeadow$Setting", "periods", "[I", "PulseMeadow"), ("PulseMeadow$State", 44, "PulseMeadow$Setting", "periods", "[I", "PulseMeadow"), ("PulseMeadow", 114, "PulseMeadow$Setting", "quiets", "[I", "PulseMeadow"), ("PulseMeadow", 123, "PulseMeadow$Setting", "answers", "[I", "PulseMeadow"), ("PulseMeadow$State", 51, "PulseMeadow$Setting", "links", "I", "PulseMeadow"), ("PulseMeadow", 135, "PulseMeadow$Setting", "links", "I", "PulseMeadow"), ("PulseMeadow$State", 54, "PulseMeadow$Setting", "froms", "[I", "PulseMeadow"), ("PulseMeadow$State", 60, "PulseMeadow$Setting", "tos", "[I", "PulseMeadow"), ("PulseMeadow$State", 57, "PulseMeadow$Setting", "delays", "[I", "PulseMeadow"), ("PulseMeadow$State", 63, "PulseMeadow$Setting", "strengths", "[I", "PulseMeadow"), ("PulseMeadow", 99, "PulseMeadow$State", "phases", "[I", "PulseMeadow"), ("PulseMeadow", 205, "PulseMeadow$Way", "leadTicks", "I", "PulseMeadow"), ("PulseMeadow", 202, "PulseMeadow$Way", "cycleTicks", "I", "PulseMeadow"), ("PulseMeadow", 219, "PulseMeadow$Way", "groupNumbers", "[I", "PulseMeadow"), ("PulseMeadow", 274, "PulseMeadow$Marks", "count", "I", "PulseMeadow"), ("PulseMeadow", 290, "PulseMeadow$Swings", "stiffness", "I", "PulseMeadow"), ("PulseMeadow", 293, "PulseMeadow$Swings", "pull", "I", "PulseMeadow")]
def zk_nM : List (String × Nat × MethodName × String) := [("PulseMeadow", 11, ⟨"PulseMeadow$Setting", "<init>", "()V"⟩, "PulseMeadow"), ("PulseMeadow", 18, ⟨"PulseMeadow$State", "<init>", "()V"⟩, "PulseMeadow"), ("PulseMeadow", 42, ⟨"PulseMeadow$Way", "<init>", "()V"⟩, "PulseMeadow"), ("PulseMeadow$Way", 27, ⟨"PulseMeadow$State", "<init>", "()V"⟩, "PulseMeadow"), ("PulseMeadow", 65, ⟨"PulseMeadow$Marks", "<init>", "()V"⟩, "PulseMeadow"), ("PulseMeadow", 72, ⟨"PulseMeadow$Swings", "<init>", "()V"⟩, "PulseMeadow"), ("PulseMeadow", 307, ⟨"PulseMeadow$Swings", "bitsOfEnergy", "()J"⟩, "PulseMeadow"), ("PulseMeadow", 188, ⟨"PulseMeadow$State", "underWayTo", "(I)I"⟩, "PulseMeadow"), ("PulseMeadow", 301, ⟨"PulseMeadow$Swings", "has", "(I)Z"⟩, "PulseMeadow"), ("PulseMeadow", 304, ⟨"PulseMeadow$Swings", "bitsOfAngle", "(I)I"⟩, "PulseMeadow"), ("PulseMeadow", 323, ⟨"PulseMeadow$Way", "follow", "(LPulseMeadow$Setting;LPulseMeadow$State;)Z"⟩, "PulseMeadow"), ("PulseMeadow$Way", 35, ⟨"PulseMeadow$State", "copy", "(LPulseMeadow$State;)V"⟩, "PulseMeadow"), ("PulseMeadow$Way", 39, ⟨"PulseMeadow$State", "advance", "(LPulseMeadow$Setting;I)I"⟩, "PulseMeadow"), ("PulseMeadow$State", 40, ⟨"PulseMeadow$Setting", "pulled", "(III)I"⟩, "PulseMeadow"), ("PulseMeadow$Way", 43, ⟨"PulseMeadow$State", "isLike", "(LPulseMeadow$State;LPulseMeadow$Setting;)Z"⟩, "PulseMeadow"), ("PulseMeadow", 327, ⟨"PulseMeadow$Way", "returnsAnew", "(LPulseMeadow$Setting;LPulseMeadow$State;)Z"⟩, "PulseMeadow"), ("PulseMeadow", 330, ⟨"PulseMeadow$Way", "groupsHaveAll", "(LPulseMeadow$Setting;)Z"⟩, "PulseMeadow"), ("PulseMeadow", 92, ⟨"PulseMeadow$Setting", "has", "(I)Z"⟩, "PulseMeadow"), ("PulseMeadow", 96, ⟨"PulseMeadow$Setting", "put", "(III)V"⟩, "PulseMeadow"), ("PulseMeadow", 105, ⟨"PulseMeadow$Swings", "put", "(IF)Z"⟩, "PulseMeadow"), ("PulseMeadow", 143, ⟨"PulseMeadow$Setting", "addLink", "(IIII)V"⟩, "PulseMeadow"), ("PulseMeadow", 149, ⟨"PulseMeadow$Setting", "removeLink", "(I)V"⟩, "PulseMeadow"), ("PulseMeadow", 166, ⟨"PulseMeadow$Setting", "linkHub", "(II)V"⟩, "PulseMeadow"), ("PulseMeadow", 169, ⟨"PulseMeadow$Setting", "linkAll", "(II)V"⟩, "PulseMeadow"), ("PulseMeadow", 172, ⟨"PulseMeadow$Setting", "linkNext", "(IIZ)V"⟩, "PulseMeadow"), ("PulseMeadow", 180, ⟨"PulseMeadow$State", "advance", "(LPulseMeadow$Setting;I)I"⟩, "PulseMeadow"), ("PulseMeadow", 194, ⟨"PulseMeadow$State", "copy", "(LPulseMeadow$State;)V"⟩, "PulseMeadow"), ("PulseMeadow", 208, ⟨"PulseMeadow$Way", "countFlashes", "(I)I"⟩, "PulseMeadow"), ("PulseMeadow", 211, ⟨"PulseMeadow$Way", "keepsStep", "(II)Z"⟩, "PulseMeadow"), ("PulseMeadow", 215, ⟨"PulseMeadow$Way", "gather", "(LPulseMeadow$Setting;)I"⟩, "PulseMeadow"), ("PulseMeadow", 222, ⟨"PulseMeadow$Way", "countBreaks", "(LPulseMeadow$Setting;)I"⟩, "PulseMeadow"), ("PulseMeadow", 225, ⟨"PulseMeadow$Way", "flasherAt", "(LPulseMeadow$Setting;I)I"⟩, "PulseMeadow"), ("PulseMeadow", 348, ⟨"PulseMeadow$Setting", "takeTwo", "(LPulseMeadow$Setting;II)V"⟩, "PulseMeadow"), ("PulseMeadow", 352, ⟨"PulseMeadow$State", "clear", "()V"⟩, "PulseMeadow"), ("PulseMeadow", 361, ⟨"PulseMeadow$Way", "allInStep", "(LPulseMeadow$Setting;)Z"⟩, "PulseMeadow"), ("PulseMeadow", 279, ⟨"PulseMeadow$Marks", "add", "(I)I"⟩, "PulseMeadow"), ("PulseMeadow", 282, ⟨"PulseMeadow$Marks", "countPeriods", "()I"⟩, "PulseMeadow"), ("PulseMeadow", 285, ⟨"PulseMeadow$Marks", "periodAt", "(I)I"⟩, "PulseMeadow"), ("PulseMeadow", 296, ⟨"PulseMeadow$Swings", "step", "()V"⟩, "PulseMeadow"), ("PulseMeadow", 299, ⟨"PulseMeadow$Swings", "count", "()I"⟩, "PulseMeadow"), ("PulseMeadow", 313, ⟨"PulseMeadow$Way", "countWithFirst", "(LPulseMeadow$Setting;)I"⟩, "PulseMeadow")]
def zk_N (U : State) : Prop := (∀ q ∈ zk_nF, va_Nw (.fieldLinkNest q.1 q.2.1 q.2.2.1 q.2.2.2.1 q.2.2.2.2.1 q.2.2.2.2.2) U) ∧ ∀ q ∈ zk_nM, va_Nw (.methodLinkNest q.1 q.2.1 q.2.2.1 q.2.2.2) U
theorem zk_N_warm {s U : State} (hW : s.WarmedH U.vm) (h : zk_N s) : zk_N U := ⟨fun q hq => va_Nw.warmF hW (h.1 q hq), fun q hq => va_Nw.warmM hW (h.2 q hq)⟩
theorem zk_N_same {u U : State} (hv : u.vm = U.vm) (h : zk_N u) : zk_N U := ⟨fun q hq => va_Nw.same rfl hv (h.1 q hq), fun q hq => va_Nw.same rfl hv (h.2 q hq)⟩
theorem zk_f {args : Array Value} {s : State} (h : zk_N s) {own ref n d host : String} {index : Nat} (hm : (own, index, ref, n, d, host) ∈ zk_nF) : (Cond.fieldLinkNest own index ref n d host).before args s = true := va_Nw.use rfl (h.1 _ hm)
theorem zk_m {s : State} (h : zk_N s) {own host : String} {index : Nat} {y : MethodName} (hm : (own, index, y, host) ∈ zk_nM) : va_Nw (.methodLinkNest own index y host) s := h.2 _ hm
/-- the array classes, by kind: 0 int, 1 boolean, 2 long, 3 float, 4 double -/
abbrev zk_ty (T : Nat → ClassId) : List (ClassId × FieldType) := [(T 0, .int), (T 1, .boolean), (T 2, .int), (T 3, .int), (T 4, .double)]
def zk_Pc (D : va_G) (T : Nat → ClassId) (av : List Value) (w : va_W) (sz : Nat) : Array Value → State → Prop := va_Pc av (fun U => U.heap.size = sz ∧ va_P D vwCl w U.heap ∧ va_K D vwCl (zk_ty T) U ∧ zk_N U ∧ va_D (fun _ => True) w)
abbrev zk_Qi (r : Int32) (D : va_G) (w : va_W) (Aw A : Nat → Prop) : Array Value → State → Outcome → State → Prop := va_Qi (fun (r2 : Int32) (_ : Unit) => r2 = r) (fun _ t => va_P D vwCl w t.heap ∧ va_D Aw w) A
abbrev zk_Ql (r : Int64) (D : va_G) (w : va_W) (Aw A : Nat → Prop) : Array Value → State → Outcome → State → Prop := va_Ql (fun (r2 : Int64) (_ : Unit) => r2 = r) (fun _ t => va_P D vwCl w t.heap ∧ va_D Aw w) A
abbrev zk_Qv (D : va_G) (w : va_W) (Aw A : Nat → Prop) : Array Value → State → Outcome → State → Prop := va_Qv (fun (_ : Unit) => True) (fun _ t => va_P D vwCl w t.heap ∧ va_D Aw w) A
theorem zk_blind {D : va_G} {T : Nat → ClassId} {av : List Value} {w : va_W} {sz : Nat} : FrameBlind (zk_Pc D T av w sz) := fun a U g mk q => by
  obtain ⟨q0, q1, qP, qK, qN, qD⟩ := q
  exact ⟨q0, q1, qP, va_K.moved (u := U) (U := U.calling g mk a) (Vm.Alike.refl U.vm) qK, zk_N_same (u := U) (U := U.calling g mk a) rfl qN, qD⟩
theorem zk_at {D : va_G} {T : Nat → ClassId} {s : State} {H : Heap} {A : Nat → Prop} {ws : va_W} (hK : va_K D vwCl (zk_ty T) s) (hN : zk_N s) (hP : va_P D vwCl ws H) (hD : va_D A ws) {av : List Value} {a : Array Value} (ha : a = av.toArray) : ∀ U : State, U.heap = H → s.WarmedH U.vm → zk_Pc D T av ws H.size a U := fun U hU hW => ⟨ha, by rw [hU], by rw [hU]; exact hP, va_K.moved hW.alike hK, zk_N_warm hW hN, hD.weaken (fun _ _ _ _ => trivial)⟩
theorem zk_preV {D : va_G} {T : Nat → ClassId} {s : State} {H : Heap} {b : Addr} {As : List Value} {A : Nat → Prop} {ws : va_W} (hK : va_K D vwCl (zk_ty T) s) (hN : zk_N s) (hP : va_P D vwCl ws H) (hD : va_D A ws) (q0 : Nat) {ci : Nat} {q : vw_C} {fs : List Value} (hc : vwCl[ci]? = some q) (he : ws[q0]? = some (b, .inr (ci, fs))) : PreV s H q.1 b (zk_Pc D T (.ref b :: As) ws H.size) As := ⟨zk_blind, va_recv hK hP hc he, zk_at hK hN hP hD rfl⟩
theorem zk_preS {D : va_G} {T : Nat → ClassId} {s : State} {H : Heap} {As : List Value} {A : Nat → Prop} {ws : va_W} (hK : va_K D vwCl (zk_ty T) s) (hN : zk_N s) (hP : va_P D vwCl ws H) (hD : va_D A ws) : PreS s H (zk_Pc D T As ws H.size) As := ⟨zk_blind, zk_at hK hN hP hD rfl⟩
theorem zk_fm {is : List Nat} {ws ws' : va_W} (hs : is.map (fun i => ws[i]?) = ws'.map some) : is.filterMap (fun i => ws[i]?) = ws' := by
  have h : (is.map (fun i => ws[i]?)).filterMap id = (ws'.map some).filterMap id := by rw [hs]
  simpa [List.filterMap_map, Function.comp_def] using h
section ZK
variable {p : Program} {l : Launch} {e : Env} {R : Room} {s : State} {m : MethodId} {args : Array Value} {below : List Frame} {meth : Method} {c : Code} {H : Heap} {locs : List Loc} {cells slots : Nat} {Q : State → Prop}
variable {D : va_G} {A : Nat → Prop} {ws wc wr w' wf : va_W} {pc : Nat} {ls : Array Slot} {rest st0 : List Value} {a : Array Value}
theorem zk_back {H1 : Heap} (hP : va_P D vwCl ws H) (hD : va_D A ws) (isC isR : List Nat) (hC : isC.map (fun i => ws[i]?) = wc.map some) (hR : isR.map (fun i => ws[i]?) = wr.map some) (hn : va_nd isR = true) (hdis : ∀ i ∈ isR, i ∉ isC) (pm : List Nat) (hpm : pm.map (fun i => (wr ++ w')[i]?) = wf.map some) (hnp : va_nd pm = true) (hf : ∀ q, va_A wc H.size q → A q) (hP1 : va_P D vwCl w' H1) (hD1 : va_D (va_A wc H.size) w') (hk : ∀ q : Nat, q < H.size → ¬ va_A wc H.size q → H1[q]? = H[q]?) : va_P D vwCl wf H1 ∧ va_D A wf := by
  obtain ⟨h1, h2⟩ := va_join (wr := wr) (w1 := w') hP hD isC isR hC hR hn hdis hk hf hP1 hD1
  exact ⟨h1.sub pm (zk_fm hpm), h2.sub pm hnp hpm⟩
theorem zk_ci {r : Int32} (hr : va_Run p l e R s m args below meth c H locs cells slots 0 0 (F0 m pc ls st0) rest (zk_Qi r D w' (va_A wc H.size) (va_A wc H.size) a) (va_A wc H.size)) (hP : va_P D vwCl ws H) (hD : va_D A ws) (hS : va_S A s.heap H locs) (hA : ∀ q : Nat, s.heap.size ≤ q → A q) (isC isR : List Nat) (hC : isC.map (fun i => ws[i]?) = wc.map some) (hR : isR.map (fun i => ws[i]?) = wr.map some) (hn : va_nd isR = true) (hdis : ∀ i ∈ isR, i ∉ isC) (pm : List Nat) (hpm : pm.map (fun i => (wr ++ w')[i]?) = wf.map some) (hnp : va_nd pm = true)
    (kk : ∀ (H1 : Heap) (locs1 : List Loc), va_P D vwCl wf H1 → va_D A wf → va_S A s.heap H1 locs1 → W p l e R s m args below meth c H1 locs1 cells slots Q (F0 m (pc + 3) ls (.int r :: rest))) : W p l e R s m args below meth c H locs cells slots Q (F0 m pc ls st0) := by
  have hF := va_free (wc := wc) hD hS hA isC hC
  refine va_calli hr hS (fun q _ h => hF q h) hF (fun r2 u t H1 locs1 ht hvm hw hB hz hk hS1 => ?_)
  obtain ⟨hP1, hD1⟩ := hB
  rw [ht] at hP1
  obtain ⟨h1, h2⟩ := zk_back hP hD isC isR hC hR hn hdis pm hpm hnp hF hP1 hD1 hk
  cases hw
  exact kk H1 locs1 h1 h2 hS1
theorem zk_cl {r : Int64} (hr : va_Run p l e R s m args below meth c H locs cells slots 0 0 (F0 m pc ls st0) rest (zk_Ql r D w' (va_A wc H.size) (va_A wc H.size) a) (va_A wc H.size)) (hP : va_P D vwCl ws H) (hD : va_D A ws) (hS : va_S A s.heap H locs) (hA : ∀ q : Nat, s.heap.size ≤ q → A q) (isC isR : List Nat) (hC : isC.map (fun i => ws[i]?) = wc.map some) (hR : isR.map (fun i => ws[i]?) = wr.map some) (hn : va_nd isR = true) (hdis : ∀ i ∈ isR, i ∉ isC) (pm : List Nat) (hpm : pm.map (fun i => (wr ++ w')[i]?) = wf.map some) (hnp : va_nd pm = true)
    (kk : ∀ (H1 : Heap) (locs1 : List Loc), va_P D vwCl wf H1 → va_D A wf → va_S A s.heap H1 locs1 → W p l e R s m args below meth c H1 locs1 cells slots Q (F0 m (pc + 3) ls (.long r :: rest))) : W p l e R s m args below meth c H locs cells slots Q (F0 m pc ls st0) := by
  have hF := va_free (wc := wc) hD hS hA isC hC
  refine va_calll hr hS (fun q _ h => hF q h) hF (fun r2 u t H1 locs1 ht hvm hw hB hz hk hS1 => ?_)
  obtain ⟨hP1, hD1⟩ := hB
  rw [ht] at hP1
  obtain ⟨h1, h2⟩ := zk_back hP hD isC isR hC hR hn hdis pm hpm hnp hF hP1 hD1 hk
  cases hw
  exact kk H1 locs1 h1 h2 hS1
theorem zk_cv (hr : va_Run p l e R s m args below meth c H locs cells slots 0 0 (F0 m pc ls st0) rest (zk_Qv D w' (va_A wc H.size) (va_A wc H.size) a) (va_A wc H.size)) (hP : va_P D vwCl ws H) (hD : va_D A ws) (hS : va_S A s.heap H locs) (hA : ∀ q : Nat, s.heap.size ≤ q → A q) (isC isR : List Nat) (hC : isC.map (fun i => ws[i]?) = wc.map some) (hR : isR.map (fun i => ws[i]?) = wr.map some) (hn : va_nd isR = true) (hdis : ∀ i ∈ isR, i ∉ isC) (pm : List Nat) (hpm : pm.map (fun i => (wr ++ w')[i]?) = wf.map some) (hnp : va_nd pm = true)
    (kk : ∀ (H1 : Heap) (locs1 : List Loc), va_P D vwCl wf H1 → va_D A wf → va_S A s.heap H1 locs1 → W p l e R s m args below meth c H1 locs1 cells slots Q (F0 m (pc + 3) ls rest)) : W p l e R s m args below meth c H locs cells slots Q (F0 m pc ls st0) := by
  have hF := va_free (wc := wc) hD hS hA isC hC
  refine va_callv hr hS (fun q _ h => hF q h) hF (fun u t H1 locs1 ht hvm hw hB hz hk hS1 => ?_)
  obtain ⟨hP1, hD1⟩ := hB
  rw [ht] at hP1
  obtain ⟨h1, h2⟩ := zk_back hP hD isC isR hC hR hn hdis pm hpm hnp hF hP1 hD1 hk
  exact kk H1 locs1 h1 h2 hS1
end ZK
/-- guards of the mirrors: a place in a row, a divisor that isn't 0, a boolean -/
def zk_g {α : Type} (i : Int32) (n : Nat) (x : Option α) : Option α := if i < 0 ∨ n ≤ i.toNatClampNeg then none else x
theorem zk_g_spec {α : Type} {i : Int32} {n : Nat} {x : Option α} {o : α} (h : zk_g i n x = some o) : vp_in i n ∧ x = some o := by
  unfold zk_g at h
  split at h
  · cases h
  · rename_i hn; exact ⟨hn, h⟩
theorem zk_lit {i : Int32} {n : Nat} (h : decide (¬ (i < 0 ∨ n ≤ i.toNatClampNeg)) = true) : vp_in i n := show ¬ (i < 0 ∨ n ≤ i.toNatClampNeg) from of_decide_eq_true h
def zk_nz {α β : Type} [DecidableEq α] [OfNat α 0] (y : α) (x : Option β) : Option β := if y = 0 then none else x
theorem zk_nz_spec {α β : Type} [DecidableEq α] [OfNat α 0] {y : α} {x : Option β} {o : β} (h : zk_nz y x = some o) : ¬ y = 0 ∧ x = some o := by
  unfold zk_nz at h
  split at h
  · cases h
  · rename_i hn; exact ⟨hn, h⟩
def zk_bo {β : Type} (y : Int32) (x : Option β) : Option β := if y = 0 ∨ y = 1 then x else none
theorem zk_bo_spec {β : Type} {y : Int32} {x : Option β} {o : β} (h : zk_bo y x = some o) : (y = 0 ∨ y = 1) ∧ x = some o := by
  unfold zk_bo at h
  split at h
  · rename_i hn; exact ⟨hn, h⟩
  · cases h
theorem zk_bo_nar {y : Int32} (h : y = 0 ∨ y = 1) : narrow .boolean (.int y) = .int y := by
  rcases h with rfl | rfl <;> rfl
theorem zk_bo_fit {y : Int32} (h : y = 0 ∨ y = 1) : fits .boolean (.int y) = true := by
  rcases h with rfl | rfl <;> decide +kernel
theorem zk_bind {α β : Type} {x : Option α} {k : α → Option β} {o : β} (h : x.bind k = some o) : ∃ y, x = some y ∧ k y = some o := by
  cases x with
  | none => cases h
  | some y => exact ⟨y, rfl, h⟩
theorem zk_inl {α β γ : Type} {f : α → γ} {g : β → γ} {t : α} : Sum.elim f g (.inl t) = f t := rfl
theorem zk_inr {α β γ : Type} {f : α → γ} {g : β → γ} {t : β} : Sum.elim f g (.inr t) = g t := rfl


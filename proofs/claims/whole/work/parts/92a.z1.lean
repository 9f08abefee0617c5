/-! rows of mine: what the JDK's lists and boxes rest on: the shared empty row, the cache of Integers, the class object of Object[] -/
abbrev zs_T : Type := (Nat → Nat) × Nat × Nat × Nat
abbrev zs_e (Z : zs_T) : Nat := Z.2.1
def zs_K (Z : zs_T) (A : Nat → Prop) (U : State) (H : Heap) : Prop :=
  va_Z "java/util/ArrayList" "DEFAULTCAPACITY_EMPTY_ELEMENTDATA" "[Ljava/lang/Object;" (.ref Z.2.1) A U H ∧ va_T (.object "java/lang/Object") Z.2.1 0 (fun _ => .null) A U H ∧ va_Z "java/lang/Integer$IntegerCache" "high" "I" (.int 127) A U H ∧ va_Z "java/lang/Integer$IntegerCache" "cache" "[Ljava/lang/Integer;" (.ref Z.2.2.1) A U H ∧ va_T (.object "java/lang/Integer") Z.2.2.1 256 (fun k => .ref (Z.1 k)) A U H ∧ vb_C Z.1 A U H ∧ va_AO "java/lang/Object" U ∧ va_Mi "[Ljava/lang/Object;" Z.2.2.2 U ∧ va_Dc U ∧ va_Fw RJx35411 ⟨"java/util/Iterator", "hasNext", "()Z"⟩ yJx35411_hasNext_aae02 U ∧ va_Fw RJx35411 ⟨"java/util/Iterator", "next", "()Ljava/lang/Object;"⟩ yJx35411_next_0502b U
theorem zs_K_go {Z : zs_T} {A B : Nat → Prop} {s U : State} {H : Heap} {locs : List Loc} (h : zs_K Z A s s.heap) (hS : va_S A s.heap H locs) (hB : ∀ q, B q → A q) (hU : U.heap = H) (hW : s.WarmedH U.vm) : zs_K Z B U U.heap := by
  obtain ⟨h1, h2, h3, h4, h5, h6, h7, h8, h9, h10, h11⟩ := h
  rw [hU]
  exact ⟨((h1.kept hS.2.1).narrow hB).moved hW.alike, ((h2.kept hS.2.1).narrow hB).moved hW.alike, ((h3.kept hS.2.1).narrow hB).moved hW.alike, ((h4.kept hS.2.1).narrow hB).moved hW.alike, ((h5.kept hS.2.1).narrow hB).moved hW.alike, ((h6.kept hS.2.1).narrow hB).moved hW.alike, h7.moved hW.alike, h8.moved hW.alike, h9.moved hW.alike, h10.moved (by decide) hW.alike, h11.moved (by decide) hW.alike⟩
theorem zs_K_same {Z : zs_T} {A : Nat → Prop} {u U : State} (hv : U.vm = u.vm) (hh : U.heap = u.heap) (h : zs_K Z A u u.heap) : zs_K Z A U U.heap := by
  obtain ⟨h1, h2, h3, h4, h5, h6, h7, h8, h9, h10, h11⟩ := h
  have hA : u.vm.Alike U.vm := by rw [hv]; exact Vm.Alike.refl _
  rw [hh]
  exact ⟨h1.moved hA, h2.moved hA, h3.moved hA, h4.moved hA, h5.moved hA, h6.moved hA, h7.moved hA, h8.moved hA, h9.moved hA, h10.moved (by decide) hA, h11.moved (by decide) hA⟩
def zs_Pc (Z : zs_T) (C : String) (L : List Nat) (D : va_G) (T : Nat → ClassId) (av : List Value) (w : va_W) (sz : Nat) : Array Value → State → Prop := va_Pc av (fun U => U.heap.size = sz ∧ va_P D vwCl w U.heap ∧ va_K D vwCl (zr_ty T) U ∧ zr_N U ∧ va_D (fun _ => True) w ∧ zs_K Z (va_A w sz) U U.heap ∧ ∀ y ∈ L, va_O C y (va_A w sz) U U.heap)
abbrev zs_Qv {S : Type} (X : S → Prop) (D : va_G) (w : S → va_W) (Aw A : Nat → Prop) : Array Value → State → Outcome → State → Prop := va_Qv (fun (u : S) => X u) (fun u t => va_P D vwCl (w u) t.heap ∧ va_D Aw (w u)) A
abbrev zs_Qi {S : Type} (X : S → Prop) (ri : S → Int32) (D : va_G) (w : S → va_W) (Aw A : Nat → Prop) : Array Value → State → Outcome → State → Prop := va_Qi (fun (r : Int32) (u : S) => X u ∧ r = ri u) (fun u t => va_P D vwCl (w u) t.heap ∧ va_D Aw (w u)) A
abbrev zs_Qf {S : Type} (X : S → Prop) (ri : S → UInt32) (D : va_G) (w : S → va_W) (Aw A : Nat → Prop) : Array Value → State → Outcome → State → Prop := va_Qf (fun (r : UInt32) (u : S) => X u ∧ r = ri u) (fun u t => va_P D vwCl (w u) t.heap ∧ va_D Aw (w u)) A
abbrev zs_Qd {S : Type} (X : S → Prop) (ri : S → UInt64) (D : va_G) (w : S → va_W) (Aw A : Nat → Prop) : Array Value → State → Outcome → State → Prop := va_Qd (fun (r : UInt64) (u : S) => X u ∧ r = ri u) (fun u t => va_P D vwCl (w u) t.heap ∧ va_D Aw (w u)) A
abbrev zs_Qr {S : Type} (X : S → Prop) (rf : S → Nat) (D : va_G) (w : S → va_W) (Aw A : Nat → Prop) : Array Value → State → Outcome → State → Prop := va_Qr (fun (u : S) => X u) (fun u a t => a = rf u ∧ va_P D vwCl (w u) t.heap ∧ va_D Aw (w u)) A
theorem zs_blind {Z : zs_T} {C : String} {L : List Nat} {D : va_G} {T : Nat → ClassId} {av : List Value} {w : va_W} {sz : Nat} : FrameBlind (zs_Pc Z C L D T av w sz) := fun a U g mk q => by
  obtain ⟨q0, q1, qP, qK, qN, qD, qZ, qL⟩ := q
  exact ⟨q0, q1, qP, va_K.moved (u := U) (U := U.calling g mk a) (Vm.Alike.refl U.vm) qK, zr_N_same (u := U) (U := U.calling g mk a) rfl qN, qD, zs_K_same (u := U) (U := U.calling g mk a) rfl rfl qZ, fun y hy => (qL y hy).moved (u := U) (U := U.calling g mk a) (Vm.Alike.refl U.vm)⟩
theorem zs_at {Z : zs_T} {C : String} {L : List Nat} {D : va_G} {T : Nat → ClassId} {s : State} {H : Heap} {locs : List Loc} {A : Nat → Prop} {wc : va_W} (hK : va_K D vwCl (zr_ty T) s) (hN : zr_N s) (hZ : zs_K Z A s s.heap) (hS : va_S A s.heap H locs) (hF : ∀ q, va_A wc H.size q → A q) (hP : va_P D vwCl wc H) (hD : va_D A wc) (hL : ∀ y ∈ L, va_O C y (va_A wc H.size) s H) {av : List Value} {a : Array Value} (ha : a = av.toArray) : ∀ U : State, U.heap = H → s.WarmedH U.vm → zs_Pc Z C L D T av wc H.size a U := fun U hU hW => ⟨ha, by rw [hU], by rw [hU]; exact hP, va_K.moved hW.alike hK, zr_N_warm hW hN, hD.weaken (fun _ _ _ _ => trivial), zs_K_go hZ hS hF hU hW, fun y hy => by rw [hU]; exact (hL y hy).moved hW.alike⟩
theorem zs_preV {Z : zs_T} {C : String} {L : List Nat} {D : va_G} {T : Nat → ClassId} {s : State} {H : Heap} {locs : List Loc} {b : Addr} {As : List Value} {A : Nat → Prop} {wc : va_W} (hK : va_K D vwCl (zr_ty T) s) (hN : zr_N s) (hZ : zs_K Z A s s.heap) (hS : va_S A s.heap H locs) (hF : ∀ q, va_A wc H.size q → A q) (hP : va_P D vwCl wc H) (hD : va_D A wc) (hL : ∀ y ∈ L, va_O C y (va_A wc H.size) s H) (q0 : Nat) {ci : Nat} {q : vw_C} {fs : List Value} (hc : vwCl[ci]? = some q) (he : wc[q0]? = some (b, .inr (ci, fs))) : PreV s H q.1 b (zs_Pc Z C L D T (.ref b :: As) wc H.size) As := ⟨zs_blind, va_recv hK hP hc he, zs_at hK hN hZ hS hF hP hD hL rfl⟩
theorem zs_preS {Z : zs_T} {C : String} {L : List Nat} {D : va_G} {T : Nat → ClassId} {s : State} {H : Heap} {locs : List Loc} {As : List Value} {A : Nat → Prop} {wc : va_W} (hK : va_K D vwCl (zr_ty T) s) (hN : zr_N s) (hZ : zs_K Z A s s.heap) (hS : va_S A s.heap H locs) (hF : ∀ q, va_A wc H.size q → A q) (hP : va_P D vwCl wc H) (hD : va_D A wc) (hL : ∀ y ∈ L, va_O C y (va_A wc H.size) s H) : PreS s H (zs_Pc Z C L D T As wc H.size) As := ⟨zs_blind, zs_at hK hN hZ hS hF hP hD hL rfl⟩
section ZS
variable {p : Program} {l : Launch} {e : Env} {R : Room} {s : State} {m : MethodId} {args : Array Value} {below : List Frame} {meth : Method} {c : Code} {H : Heap} {locs : List Loc} {cells slots mc ms : Nat} {Q : State → Prop}
variable {D : va_G} {A : Nat → Prop} {ws wc : va_W} {pc : Nat} {ls : Array Slot} {rest st0 : List Value} {a : Array Value} {S : Type} {X : S → Prop} {w' wf : S → va_W}
theorem zs_cv (hr : va_Run p l e R s m args below meth c H locs cells slots mc ms (F0 m pc ls st0) rest (zs_Qv X D w' (va_A wc H.size) (va_A wc H.size) a) (va_A wc H.size)) (hS : va_S A s.heap H locs) (hF : ∀ q, va_A wc H.size q → A q) (hJ : ∀ (u : S) (H1 : Heap), va_P D vwCl (w' u) H1 → va_D (va_A wc H.size) (w' u) → (∀ q : Nat, q < H.size → ¬ va_A wc H.size q → H1[q]? = H[q]?) → va_P D vwCl (wf u) H1 ∧ va_D A (wf u))
    (kk : ∀ (u : S) (H1 : Heap) (locs1 : List Loc), X u → va_P D vwCl (wf u) H1 → va_D A (wf u) → va_S A s.heap H1 locs1 → W p l e R s m args below meth c H1 locs1 (cells + mc) (slots + ms) Q (F0 m (pc + 3) ls rest)) : W p l e R s m args below meth c H locs cells slots Q (F0 m pc ls st0) := by
  refine va_callv hr hS (fun q _ h => hF q h) hF (fun u t H1 locs1 ht hvm hw hB hz hk hS1 => ?_)
  obtain ⟨hP1, hD1⟩ := hB
  rw [ht] at hP1
  obtain ⟨h1, h2⟩ := hJ u H1 hP1 hD1 hk
  exact kk u H1 locs1 hw h1 h2 hS1
theorem zs_ci {ri : S → Int32} (hr : va_Run p l e R s m args below meth c H locs cells slots mc ms (F0 m pc ls st0) rest (zs_Qi X ri D w' (va_A wc H.size) (va_A wc H.size) a) (va_A wc H.size)) (hS : va_S A s.heap H locs) (hF : ∀ q, va_A wc H.size q → A q) (hJ : ∀ (u : S) (H1 : Heap), va_P D vwCl (w' u) H1 → va_D (va_A wc H.size) (w' u) → (∀ q : Nat, q < H.size → ¬ va_A wc H.size q → H1[q]? = H[q]?) → va_P D vwCl (wf u) H1 ∧ va_D A (wf u))
    (kk : ∀ (u : S) (H1 : Heap) (locs1 : List Loc), X u → va_P D vwCl (wf u) H1 → va_D A (wf u) → va_S A s.heap H1 locs1 → W p l e R s m args below meth c H1 locs1 (cells + mc) (slots + ms) Q (F0 m (pc + 3) ls (.int (ri u) :: rest))) : W p l e R s m args below meth c H locs cells slots Q (F0 m pc ls st0) := by
  refine va_calli hr hS (fun q _ h => hF q h) hF (fun r2 u t H1 locs1 ht hvm hw hB hz hk hS1 => ?_)
  obtain ⟨hP1, hD1⟩ := hB
  rw [ht] at hP1
  obtain ⟨h1, h2⟩ := hJ u H1 hP1 hD1 hk
  obtain ⟨hx, rfl⟩ := hw
  exact kk u H1 locs1 hx h1 h2 hS1
theorem zs_cr {rf : S → Nat} (hr : va_Run p l e R s m args below meth c H locs cells slots mc ms (F0 m pc ls st0) rest (zs_Qr X rf D w' (va_A wc H.size) (va_A wc H.size) a) (va_A wc H.size)) (hS : va_S A s.heap H locs) (hF : ∀ q, va_A wc H.size q → A q) (hJ : ∀ (u : S) (H1 : Heap), va_P D vwCl (w' u) H1 → va_D (va_A wc H.size) (w' u) → (∀ q : Nat, q < H.size → ¬ va_A wc H.size q → H1[q]? = H[q]?) → va_P D vwCl (wf u) H1 ∧ va_D A (wf u))
    (kk : ∀ (u : S) (H1 : Heap) (locs1 : List Loc), X u → va_P D vwCl (wf u) H1 → va_D A (wf u) → va_S A s.heap H1 locs1 → W p l e R s m args below meth c H1 locs1 (cells + mc) (slots + ms) Q (F0 m (pc + 3) ls (.ref (rf u) :: rest))) : W p l e R s m args below meth c H locs cells slots Q (F0 m pc ls st0) := by
  refine va_callr hr hS (fun q _ h => hF q h) hF (fun u ra t H1 locs1 ht hvm hw hB hz hk hS1 => ?_)
  obtain ⟨rfl, hP1, hD1⟩ := hB
  rw [ht] at hP1
  obtain ⟨h1, h2⟩ := hJ u H1 hP1 hD1 hk
  exact kk u H1 locs1 hw h1 h2 hS1
end ZS
theorem zs_self {A : Nat → Prop} {w w' : va_W} {D : va_G} {H H1 : Heap} (hP : va_P D vwCl w' H1) (hD : va_D (va_A w H.size) w') (hF : ∀ q, va_A w H.size q → A q) : va_P D vwCl w' H1 ∧ va_D A w' := ⟨hP, hD.weaken (fun k q h1 h2 => hF _ h2)⟩
theorem zs_cA {D : va_G} {T : Nat → ClassId} {s : State} {cA : ClassId} (h : va_K D vwCl (zr_ty T ++ [(cA, .object "java/lang/Object")]) s) : cA = T 7 := by
  have h1 := (h.2 (zr_ty T).length (cA, .object "java/lang/Object") (by simp)).2
  have h2 := (h.2 7 (T 7, .object "java/lang/Object") rfl).2
  exact Option.some.inj ((va_nmO h1 rfl).symm.trans (va_nmO h2 rfl))
theorem zs_asg {s : State} (hN : zr_N s) {C : String} (hC : (C, "java/lang/Object") ∈ zr_cast) : ∀ comp c0 : ClassId, s.vm.findClass "java/lang/Object" = some comp → s.vm.findClass C = some c0 → s.vm.assignable c0 comp = true := fun comp c0 h1 h2 => vb_asgC (hN.2 _ hC) comp c0 h1 h2
theorem zs_O_keep {C : String} {y : Nat} {A : Nat → Prop} {s : State} {H : Heap} {locs : List Loc} (h : va_O C y A s s.heap) (hS : va_S A s.heap H locs) : ∃ cellV : Cell, H[y]? = some cellV ∧ cellV.vm.isStatics = false ∧ s.vm.findClass C = some cellV.cls := by
  obtain ⟨cell, h1, h2, h3, -⟩ := h.kept hS.2.1
  exact ⟨cell, h1, h2, h3⟩
theorem zs_any {C : String} {y : Nat} {s : State} {H : Heap} (hN : zr_N s) (hC : (C, "java/lang/Object") ∈ zr_cast) (h : ∃ cellV : Cell, H[y]? = some cellV ∧ cellV.vm.isStatics = false ∧ s.vm.findClass C = some cellV.cls) : va_Any "java/lang/Object" s H y := by
  obtain ⟨cell, h1, h2, h3⟩ := h
  obtain ⟨kC, hkC, -⟩ := Vm.findClass_spec h3
  exact ⟨cell, h1, h2, ⟨kC, hkC⟩, fun comp h => zs_asg hN hC comp _ h h3⟩
theorem zs_pl {D : va_G} {zs : List va_W} {H : Heap} {P : va_W} (hP : va_P D vwCl zs.flatten H) (k : Nat) (hk : zs[k]? = some P) : va_P D vwCl ([] ++ P) H := zw_P (cs := [P]) hP [k] (by simp [hk]) (by simp)
theorem zs_preB {Z : zs_T} {C : String} {D : va_G} {T : Nat → ClassId} {s : State} {H : Heap} {locs : List Loc} {y : Nat} {A : Nat → Prop} {wc : va_W} {zs : List va_W} (hK : va_K D vwCl (zr_ty T) s) (hN : zr_N s) (hZ : zs_K Z A s s.heap) (hS : va_S A s.heap H locs) (hF : ∀ q, va_A wc H.size q → A q) (hP : va_P D vwCl wc H) (hD : va_D A wc) {LP : List Nat} {pv : Nat → Int32} {v : Int32} (hb : vb_bx LP pv Z.1 y v) (hP0 : va_P D vwCl zs.flatten H) (k : Nat) (hk : zs[k]? = some (va_pl LP (fun a => .inr (1, [.int (pv a)])))) : PreV s H "java/lang/Integer" y (zs_Pc Z C [] D T [.ref y] wc H.size) [] := ⟨zs_blind, vb_recv (X := []) hZ.2.2.2.2.2.1 hS hK (zs_pl hP0 k hk) rfl hb.bm, zs_at hK hN hZ hS hF hP hD (fun y hy => absurd hy List.not_mem_nil) rfl⟩
section ZT
variable {p : Program} {l : Launch} {e : Env} {R : Room} {s : State} {m : MethodId} {args : Array Value} {below : List Frame} {meth : Method} {c : Code} {H : Heap} {locs : List Loc} {cells slots mc ms : Nat} {Q : State → Prop}
variable {D : va_G} {A : Nat → Prop} {wc w' wf : va_W} {pc : Nat} {ls : Array Slot} {rest st0 : List Value} {a : Array Value}
theorem zq_ciM {r : Int32} (hr : va_Run p l e R s m args below meth c H locs cells slots mc ms (F0 m pc ls st0) rest (zk_Qi r D w' (va_A wc H.size) (va_A wc H.size) a) (va_A wc H.size)) (hS : va_S A s.heap H locs) (hF : ∀ q, va_A wc H.size q → A q) (hJ : ∀ H1 : Heap, va_P D vwCl w' H1 → va_D (va_A wc H.size) w' → (∀ q : Nat, q < H.size → ¬ va_A wc H.size q → H1[q]? = H[q]?) → va_P D vwCl wf H1 ∧ va_D A wf)
    (kk : ∀ (H1 : Heap) (locs1 : List Loc), va_P D vwCl wf H1 → va_D A wf → va_S A s.heap H1 locs1 → W p l e R s m args below meth c H1 locs1 (cells + mc) (slots + ms) Q (F0 m (pc + 3) ls (.int r :: rest))) : W p l e R s m args below meth c H locs cells slots Q (F0 m pc ls st0) := by
  refine va_calli hr hS (fun q _ h => hF q h) hF (fun r2 u t H1 locs1 ht hvm hw hB hz hk hS1 => ?_)
  obtain ⟨hP1, hD1⟩ := hB
  rw [ht] at hP1
  obtain ⟨h1, h2⟩ := hJ H1 hP1 hD1 hk
  cases hw
  exact kk H1 locs1 h1 h2 hS1
theorem zq_ciF {r : Int32} (hr : va_Run5 p l e R s m args below meth c H locs cells slots 0 0 (F0 m pc ls st0) rest (zk_Qi r D w' (va_A wc H.size) (va_A wc H.size) a) (va_A wc H.size)) (hS : va_S A s.heap H locs) (hF : ∀ q, va_A wc H.size q → A q) (hJ : ∀ H1 : Heap, va_P D vwCl w' H1 → va_D (va_A wc H.size) w' → (∀ q : Nat, q < H.size → ¬ va_A wc H.size q → H1[q]? = H[q]?) → va_P D vwCl wf H1 ∧ va_D A wf)
    (kk : ∀ (H1 : Heap) (locs1 : List Loc), va_P D vwCl wf H1 → va_D A wf → va_S A s.heap H1 locs1 → W p l e R s m args below meth c H1 locs1 cells slots Q (F0 m (pc + 5) ls (.int r :: rest))) : W p l e R s m args below meth c H locs cells slots Q (F0 m pc ls st0) := by
  refine va_callFi hr hS (fun q _ h => hF q h) hF (fun r2 u t H1 locs1 ht hvm hw hB hz hk hS1 => ?_)
  obtain ⟨hP1, hD1⟩ := hB
  rw [ht] at hP1
  obtain ⟨h1, h2⟩ := hJ H1 hP1 hD1 hk
  cases hw
  exact kk H1 locs1 h1 h2 hS1
theorem zq_crF {qr : Nat} (hr : va_Run5 p l e R s m args below meth c H locs cells slots 0 0 (F0 m pc ls st0) rest (zk_Qr qr D w' (va_A wc H.size) (va_A wc H.size) a) (va_A wc H.size)) (hS : va_S A s.heap H locs) (hF : ∀ q, va_A wc H.size q → A q) (hJ : ∀ H1 : Heap, va_P D vwCl w' H1 → va_D (va_A wc H.size) w' → (∀ q : Nat, q < H.size → ¬ va_A wc H.size q → H1[q]? = H[q]?) → va_P D vwCl wf H1 ∧ va_D A wf)
    (kk : ∀ (H1 : Heap) (locs1 : List Loc), va_P D vwCl wf H1 → va_D A wf → va_S A s.heap H1 locs1 → W p l e R s m args below meth c H1 locs1 cells slots Q (F0 m (pc + 5) ls (.ref qr :: rest))) : W p l e R s m args below meth c H locs cells slots Q (F0 m pc ls st0) := by
  refine va_callFr hr hS (fun q _ h => hF q h) hF (fun u ra t H1 locs1 ht hvm hw hB hz hk hS1 => ?_)
  obtain ⟨rfl, hP1, hD1⟩ := hB
  rw [ht] at hP1
  obtain ⟨h1, h2⟩ := hJ H1 hP1 hD1 hk
  exact kk H1 locs1 h1 h2 hS1
end ZT
theorem zl_next_f {N : Nat} {c x sz : Int32} {cap : Nat} {r : Nat → Nat} (h : vp_in c sz.toNatClampNeg) (hc : sz.toNatClampNeg ≤ cap) (hcap : cap ≤ 100) : f_Jx35411_next_0502b N c x x sz cap (zl_a sz.toNatClampNeg r) = some (r c.toNatClampNeg, c + 1, c) := by
  have h1 := zw_lt h
  have h0 : ¬ c < 0 := fun q => h (Or.inl q)
  obtain ⟨j, hj, rfl⟩ := nI_of h0
  rw [nI_clamp hj] at h1
  have hlt : nI j < sz := by
    rw [Int32.lt_iff_toInt_lt, nI_toInt hj]
    have e2 : sz.toNatClampNeg = sz.toInt.toNat := rfl
    omega
  have hl2 : nI j < Int32.ofNat cap := nI_lt (by omega) (by omega)
  have hn : ¬ (nI j < 0 ∨ cap ≤ (nI j).toNatClampNeg) := nI_in (by omega) (by omega)
  unfold f_Jx35411_next_0502b f_Jx35411_checkForComodification_da8c8
  rw [if_pos rfl]
  show (if nI j < sz then _ else _) = _
  rw [if_pos hlt, if_pos hl2]
  unfold zk_g
  rw [if_neg hn, nI_clamp hj]
  show (zl_a sz.toNatClampNeg r j).bind _ = _
  unfold zl_a
  rw [if_pos h1]
  rfl

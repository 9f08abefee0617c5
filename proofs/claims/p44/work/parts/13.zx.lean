/-- no NaN came out -/
def zk_n32 {β : Type} (r : UInt32) (x : Option β) : Option β := if r &&& 0x7fffffff ≤ 0x7f800000 then x else none
theorem zk_n32_spec {β : Type} {r : UInt32} {x : Option β} {o : β} (h : zk_n32 r x = some o) : vf_n32 r ∧ x = some o := by
  unfold zk_n32 at h
  split at h
  · rename_i hn; exact ⟨hn, h⟩
  · cases h
def zk_n64 {β : Type} (r : UInt64) (x : Option β) : Option β := if r &&& 0x7fffffffffffffff ≤ 0x7ff0000000000000 then x else none
theorem zk_n64_spec {β : Type} {r : UInt64} {x : Option β} {o : β} (h : zk_n64 r x = some o) : vf_n64 r ∧ x = some o := by
  unfold zk_n64 at h
  split at h
  · rename_i hn; exact ⟨hn, h⟩
  · cases h
abbrev zk_Qd (r : UInt64) (D : va_G) (w : va_W) (Aw A : Nat → Prop) : Array Value → State → Outcome → State → Prop := va_Qd (fun (r2 : UInt64) (_ : Unit) => r2 = r) (fun _ t => va_P D vwCl w t.heap ∧ va_D Aw w) A
abbrev zk_Qf (r : UInt32) (D : va_G) (w : va_W) (Aw A : Nat → Prop) : Array Value → State → Outcome → State → Prop := va_Qf (fun (r2 : UInt32) (_ : Unit) => r2 = r) (fun _ t => va_P D vwCl w t.heap ∧ va_D Aw w) A
abbrev zk_Qr (q : Nat) (D : va_G) (w : va_W) (Aw A : Nat → Prop) : Array Value → State → Outcome → State → Prop := va_Qr (fun (_ : Unit) => True) (fun _ a t => a = q ∧ va_P D vwCl w t.heap ∧ va_D Aw w) A
section ZK
variable {p : Program} {l : Launch} {e : Env} {R : Room} {s : State} {m : MethodId} {args : Array Value} {below : List Frame} {meth : Method} {c : Code} {H : Heap} {locs : List Loc} {cells slots : Nat} {Q : State → Prop}
variable {D : va_G} {A : Nat → Prop} {ws wc wr w' wf : va_W} {pc : Nat} {ls : Array Slot} {rest st0 : List Value} {a : Array Value}
theorem zk_cd {r : UInt64} (hr : va_Run p l e R s m args below meth c H locs cells slots 0 0 (F0 m pc ls st0) rest (zk_Qd r D w' (va_A wc H.size) (va_A wc H.size) a) (va_A wc H.size)) (hP : va_P D vwCl ws H) (hD : va_D A ws) (hS : va_S A s.heap H locs) (hA : ∀ q : Nat, s.heap.size ≤ q → A q) (isC isR : List Nat) (hC : isC.map (fun i => ws[i]?) = wc.map some) (hR : isR.map (fun i => ws[i]?) = wr.map some) (hn : va_nd isR = true) (hdis : ∀ i ∈ isR, i ∉ isC) (pm : List Nat) (hpm : pm.map (fun i => (wr ++ w')[i]?) = wf.map some) (hnp : va_nd pm = true)
    (kk : ∀ (H1 : Heap) (locs1 : List Loc), va_P D vwCl wf H1 → va_D A wf → va_S A s.heap H1 locs1 → W p l e R s m args below meth c H1 locs1 cells slots Q (F0 m (pc + 3) ls (.double r :: rest))) : W p l e R s m args below meth c H locs cells slots Q (F0 m pc ls st0) := by
  have hF := va_free (wc := wc) hD hS hA isC hC
  refine va_calld hr hS (fun q _ h => hF q h) hF (fun r2 u t H1 locs1 ht hvm hw hB hz hk hS1 => ?_)
  obtain ⟨hP1, hD1⟩ := hB
  rw [ht] at hP1
  obtain ⟨h1, h2⟩ := zk_back hP hD isC isR hC hR hn hdis pm hpm hnp hF hP1 hD1 hk
  cases hw
  exact kk H1 locs1 h1 h2 hS1
theorem zk_cf {r : UInt32} (hr : va_Run p l e R s m args below meth c H locs cells slots 0 0 (F0 m pc ls st0) rest (zk_Qf r D w' (va_A wc H.size) (va_A wc H.size) a) (va_A wc H.size)) (hP : va_P D vwCl ws H) (hD : va_D A ws) (hS : va_S A s.heap H locs) (hA : ∀ q : Nat, s.heap.size ≤ q → A q) (isC isR : List Nat) (hC : isC.map (fun i => ws[i]?) = wc.map some) (hR : isR.map (fun i => ws[i]?) = wr.map some) (hn : va_nd isR = true) (hdis : ∀ i ∈ isR, i ∉ isC) (pm : List Nat) (hpm : pm.map (fun i => (wr ++ w')[i]?) = wf.map some) (hnp : va_nd pm = true)
    (kk : ∀ (H1 : Heap) (locs1 : List Loc), va_P D vwCl wf H1 → va_D A wf → va_S A s.heap H1 locs1 → W p l e R s m args below meth c H1 locs1 cells slots Q (F0 m (pc + 3) ls (.float r :: rest))) : W p l e R s m args below meth c H locs cells slots Q (F0 m pc ls st0) := by
  have hF := va_free (wc := wc) hD hS hA isC hC
  refine va_callf hr hS (fun q _ h => hF q h) hF (fun r2 u t H1 locs1 ht hvm hw hB hz hk hS1 => ?_)
  obtain ⟨hP1, hD1⟩ := hB
  rw [ht] at hP1
  obtain ⟨h1, h2⟩ := zk_back hP hD isC isR hC hR hn hdis pm hpm hnp hF hP1 hD1 hk
  cases hw
  exact kk H1 locs1 h1 h2 hS1
end ZK
/-! rows of mine: methods of the class that may throw -/
def zx_str : List (String × Nat × String) := [("PulseMeadow", 102, "the place is for beaters"), ("PulseMeadow", 128, "no such place for beaters"), ("PulseMeadow", 140, "no more links"), ("PulseMeadow", 147, "no such link"), ("PulseMeadow", 154, "no such kind of net"), ("PulseMeadow", 164, "no such net of so many beaters"), ("PulseMeadow", 230, "no such flash in the cycle"), ("PulseMeadow", 238, "not a phase of the second one"), ("PulseMeadow", 244, "the first one does not flash"), ("PulseMeadow", 250, "the way is too long"), ("PulseMeadow", 258, "too few or too many beaters"), ("PulseMeadow", 271, "no set brings all in step"), ("PulseMeadow", 277, "no more marks"), ("PulseMeadow", 288, "no such period"), ("PulseMeadow", 302, "no swing is there"), ("PulseMeadow", 311, "there are no beaters"), ("PulseMeadow", 334, "no such place"), ("PulseMeadow", 336, "a number is out of range"), ("PulseMeadow", 338, "both places are the same"), ("PulseMeadow", 340, "no beater is there"), ("PulseMeadow", 342, "there is noise"), ("PulseMeadow", 87, "the place is for swings")]
def zx_bad : List String := ["java/lang/IndexOutOfBoundsException", "java/lang/IllegalStateException", "java/lang/IllegalArgumentException", "java/util/NoSuchElementException", "java/lang/ArithmeticException", "java/lang/UnsupportedOperationException"]
def zx_decl : List MethodName := [Bundle.initS "java/lang/RuntimeException", Bundle.initS "java/lang/Exception", Bundle.initS Bundle.tN]
abbrev zx_nm : List String := ["java/lang/RuntimeException", "java/lang/Exception"]
def zx_K (A : Nat → Prop) (U : State) (H : Heap) : Prop := vx_Zq Bundle.tN "UNASSIGNED_STACK" Bundle.steD A U H ∧ vx_Zq Bundle.tN "SUPPRESSED_SENTINEL" Bundle.listD A U H ∧ (∀ q ∈ zx_str, ∃ sa, vk_R q.1 q.2.1 q.2.2 sa U) ∧ (∀ q ∈ zx_bad, va_Nw (.castable q q) U) ∧ ∀ y ∈ zx_decl, va_Nw (.declares y) U
theorem zx_K_go {A B : Nat → Prop} {s U : State} {H : Heap} {locs : List Loc} (h : zx_K A s s.heap) (hS : va_S A s.heap H locs) (hB : ∀ q, B q → A q) (hU : U.heap = H) (hW : s.WarmedH U.vm) : zx_K B U U.heap := by
  obtain ⟨h1, h2, h3, h4, h5⟩ := h
  rw [hU]
  exact ⟨((h1.kept hS.2.1).narrow hB).moved hW.alike, ((h2.kept hS.2.1).narrow hB).moved hW.alike, fun q hq => by
    obtain ⟨sa, h⟩ := h3 q hq
    exact ⟨sa, vk_R.warm hW h⟩, fun q hq => va_Nw.warmC hW (h4 q hq), fun q hq => va_Nw.warmD hW (h5 q hq)⟩
theorem zx_K_same {A : Nat → Prop} {u U : State} (hv : U.vm = u.vm) (hh : U.heap = u.heap) (h : zx_K A u u.heap) : zx_K A U U.heap := by
  obtain ⟨h1, h2, h3, h4, h5⟩ := h
  rw [hh]
  exact ⟨h1.moved (by rw [hv]; exact Vm.Alike.refl _), h2.moved (by rw [hv]; exact Vm.Alike.refl _), fun q hq => by
    obtain ⟨sa, h⟩ := h3 q hq
    exact ⟨sa, vk_R.same hv h⟩, fun q hq => va_Nw.same rfl hv.symm (h4 q hq), fun q hq => va_Nw.same rfl hv.symm (h5 q hq)⟩
def zx_Pc (D : va_G) (T : Nat → ClassId) (av : List Value) (w : va_W) (sz : Nat) : Array Value → State → Prop := va_Pc av (fun U => U.heap.size = sz ∧ va_P D vwCl w U.heap ∧ va_K D vwCl (zk_ty T) U ∧ zk_N U ∧ va_D (fun _ => True) w ∧ zx_K (va_A w sz) U U.heap)
abbrev zx_Qi {X Y : Type} (o : X ⊕ Y) (ri : Y → Int32) (D : va_G) (w : Y → va_W) (Aw A : Nat → Prop) : Array Value → State → Outcome → State → Prop := va_Qi (fun (r2 : Int32) (u : Y) => o = .inr u ∧ r2 = ri u) (fun u t => va_P D vwCl (w u) t.heap ∧ va_D Aw (w u)) A
abbrev zx_Qf {X Y : Type} (o : X ⊕ Y) (ri : Y → UInt32) (D : va_G) (w : Y → va_W) (Aw A : Nat → Prop) : Array Value → State → Outcome → State → Prop := va_Qf (fun (r2 : UInt32) (u : Y) => o = .inr u ∧ r2 = ri u) (fun u t => va_P D vwCl (w u) t.heap ∧ va_D Aw (w u)) A
abbrev zx_Qd {X Y : Type} (o : X ⊕ Y) (ri : Y → UInt64) (D : va_G) (w : Y → va_W) (Aw A : Nat → Prop) : Array Value → State → Outcome → State → Prop := va_Qd (fun (r2 : UInt64) (u : Y) => o = .inr u ∧ r2 = ri u) (fun u t => va_P D vwCl (w u) t.heap ∧ va_D Aw (w u)) A
abbrev zx_Qv {X Y : Type} (o : X ⊕ Y) (D : va_G) (w : Y → va_W) (Aw A : Nat → Prop) : Array Value → State → Outcome → State → Prop := va_Qv (fun (u : Y) => o = .inr u) (fun u t => va_P D vwCl (w u) t.heap ∧ va_D Aw (w u)) A
abbrev zx_Qr {X Y : Type} (o : X ⊕ Y) (q : Nat) (D : va_G) (w : Y → va_W) (Aw A : Nat → Prop) : Array Value → State → Outcome → State → Prop := va_Qr (fun (u : Y) => o = .inr u) (fun u a t => a = q ∧ va_P D vwCl (w u) t.heap ∧ va_D Aw (w u)) A
abbrev zx_X {X Y : Type} (o : X ⊕ Y) (ei : X → String) (D : va_G) (w : X → va_W) (Aw A : Nat → Prop) : String → State → State → Prop := vx_X (fun (u : X) => o = .inl u) (fun E u t => E = ei u ∧ va_P D vwCl (w u) t.heap ∧ va_D Aw (w u)) A
theorem zx_blind {D : va_G} {T : Nat → ClassId} {av : List Value} {w : va_W} {sz : Nat} : FrameBlind (zx_Pc D T av w sz) := fun a U g mk q => by
  obtain ⟨q0, q1, qP, qK, qN, qD, qX⟩ := q
  exact ⟨q0, q1, qP, va_K.moved (u := U) (U := U.calling g mk a) (Vm.Alike.refl U.vm) qK, zk_N_same (u := U) (U := U.calling g mk a) rfl qN, qD, zx_K_same (u := U) (U := U.calling g mk a) rfl rfl qX⟩
theorem zx_at {D : va_G} {T : Nat → ClassId} {s : State} {H : Heap} {locs : List Loc} {A : Nat → Prop} {ws : va_W} (hK : va_K D vwCl (zk_ty T) s) (hN : zk_N s) (hX : zx_K A s s.heap) (hS : va_S A s.heap H locs) (hF : ∀ q, va_A ws H.size q → A q) (hP : va_P D vwCl ws H) (hD : va_D A ws) {av : List Value} {a : Array Value} (ha : a = av.toArray) : ∀ U : State, U.heap = H → s.WarmedH U.vm → zx_Pc D T av ws H.size a U := fun U hU hW => ⟨ha, by rw [hU], by rw [hU]; exact hP, va_K.moved hW.alike hK, zk_N_warm hW hN, hD.weaken (fun _ _ _ _ => trivial), zx_K_go hX hS hF hU hW⟩
theorem zx_preV {D : va_G} {T : Nat → ClassId} {s : State} {H : Heap} {locs : List Loc} {b : Addr} {As : List Value} {A : Nat → Prop} {ws wc : va_W} (hK : va_K D vwCl (zk_ty T) s) (hN : zk_N s) (hX : zx_K A s s.heap) (hS : va_S A s.heap H locs) (hA : ∀ q : Nat, s.heap.size ≤ q → A q) (hP : va_P D vwCl ws H) (hD : va_D A ws) (isC : List Nat) (hC : isC.map (fun i => ws[i]?) = wc.map some) (hn : va_nd isC = true) (q0 : Nat) {ci : Nat} {q : vw_C} {fs : List Value} (hc : vwCl[ci]? = some q) (he : wc[q0]? = some (b, .inr (ci, fs))) : PreV s H q.1 b (zx_Pc D T (.ref b :: As) wc H.size) As := ⟨zx_blind, va_recv hK (hP.sub isC (zk_fm hC)) hc he, zx_at hK hN hX hS (va_free hD hS hA isC hC) (hP.sub isC (zk_fm hC)) (hD.sub isC hn hC) rfl⟩
theorem zx_preS {D : va_G} {T : Nat → ClassId} {s : State} {H : Heap} {locs : List Loc} {As : List Value} {A : Nat → Prop} {ws wc : va_W} (hK : va_K D vwCl (zk_ty T) s) (hN : zk_N s) (hX : zx_K A s s.heap) (hS : va_S A s.heap H locs) (hA : ∀ q : Nat, s.heap.size ≤ q → A q) (hP : va_P D vwCl ws H) (hD : va_D A ws) (isC : List Nat) (hC : isC.map (fun i => ws[i]?) = wc.map some) (hn : va_nd isC = true) : PreS s H (zx_Pc D T As wc H.size) As := ⟨zx_blind, zx_at hK hN hX hS (va_free hD hS hA isC hC) (hP.sub isC (zk_fm hC)) (hD.sub isC hn hC) rfl⟩
section ZX
variable {p : Program} {l : Launch} {e : Env} {R : Room} {s : State} {m : MethodId} {args : Array Value} {below : List Frame} {meth : Method} {c : Code} {H : Heap} {locs : List Loc} {cells slots mc ms : Nat} {Q : State → Prop}
variable {D : va_G} {A : Nat → Prop} {ws wc wr : va_W} {pc : Nat} {ls : Array Slot} {rest st0 : List Value} {a : Array Value} {X Y : Type} {o : X ⊕ Y} {w' wf : Y → va_W} {wx wfx : X → va_W} {ei : X → String}
theorem zx_callr {q : Nat} {S SX : Type} {post : S → Prop} {px : SX → Prop} {B : S → Nat → State → Prop} {BX : String → SX → State → Prop} {A0 A1 AX : Nat → Prop} {H0 : Heap} {free : Addr → Prop} (hr : vx_Run p l e R s m args below meth c H locs cells slots mc ms (F0 m pc ls st0) rest (va_Qr post B A1 a) (vx_X px BX AX) free) (hS : va_S A0 H0 H locs) (hA : ∀ q, q < H.size → A1 q → A0 q) (hf : ∀ q, free q → A0 q) (hAX : ∀ q, q < H.size → AX q → A0 q)
    (kx : ∀ (E : String) (ce : Cell) (q9 : Addr) (u : SX) (t : State) (H1 : Heap) (locs1 : List Loc), t.heap = H1 → s.vm.Alike t.vm → px u → BX E u t → H.size ≤ H1.size → (∀ q : Nat, q < H.size → ¬ AX q → H1[q]? = H[q]?) → va_S A0 H0 H1 locs1 → H1[q9]? = some ce → ce.vm = .none → s.vm.findClass E = some ce.cls → vx_W p l e R s m args below meth c H1 locs1 (cells + mc) (slots + ms) Q (F0 m pc ls rest) q9)
    (kk : ∀ (u : S) (r : Nat) (t : State) (H1 : Heap) (locs1 : List Loc), t.heap = H1 → s.vm.Alike t.vm → post u → B u r t → H.size ≤ H1.size → (∀ q : Nat, q < H.size → ¬ A1 q → H1[q]? = H[q]?) → va_S A0 H0 H1 locs1 → W p l e R s m args below meth c H1 locs1 (cells + mc) (slots + ms) Q (F0 m (pc + 3) ls (.ref r :: rest))) : W p l e R s m args below meth c H locs cells slots Q (F0 m pc ls st0) := by
  intro T hT X
  rcases hr T hT X with ⟨v, st₀, t, T', L, h0, X', hL, e1, e2, ⟨⟨u, r, hv, hp, hb⟩, hF⟩, st⟩ | ⟨q, st₀, t, T', L, E, ce, h0, X', hL, e1, e2, ⟨u, hp, hb, hF⟩, hce, hcv, hcl, st⟩
  · cases hv
    obtain ⟨k1, k2, k3⟩ := vx_keep h0 e1 hS hA hf hL hF
    obtain ⟨t2, a1, b1⟩ := kk u r t T'.heap (locs ++ L) e1.symm (by rw [← e2]; exact X'.warmed.alike) hp hb k1 k2 k3 T' rfl X'
    exact ⟨t2, st t2 a1, b1⟩
  · obtain ⟨k1, k2, k3⟩ := vx_keep h0 e1 hS hAX hf hL hF
    obtain ⟨t2, a1, b1⟩ := kx E ce q u t T'.heap (locs ++ L) e1.symm (by rw [← e2]; exact X'.warmed.alike) hp hb k1 k2 k3 (by rw [e1]; exact hce) hcv hcl T' rfl X'
    exact ⟨t2, st.trans a1, b1⟩
theorem zx_ci {ri : Y → Int32} (hr : vx_Run p l e R s m args below meth c H locs cells slots mc ms (F0 m pc ls st0) rest (zx_Qi o ri D w' (va_A wc H.size) (va_A wc H.size) a) (zx_X o ei D wx (va_A wc H.size) (va_A wc H.size)) (va_A wc H.size)) (hP : va_P D vwCl ws H) (hD : va_D A ws) (hS : va_S A s.heap H locs) (hA : ∀ q : Nat, s.heap.size ≤ q → A q) (isC isR : List Nat) (hC : isC.map (fun i => ws[i]?) = wc.map some) (hR : isR.map (fun i => ws[i]?) = wr.map some) (hn : va_nd isR = true) (hdis : ∀ i ∈ isR, i ∉ isC) (pm : List Nat) (hpm : ∀ u, pm.map (fun i => (wr ++ w' u)[i]?) = (wf u).map some) (hpx : ∀ u, pm.map (fun i => (wr ++ wx u)[i]?) = (wfx u).map some) (hnp : va_nd pm = true)
    (kx : ∀ u : X, o = .inl u → ∀ (E : String) (ce : Cell) (q9 : Addr) (H1 : Heap) (locs1 : List Loc), E = ei u → va_P D vwCl (wfx u) H1 → va_D A (wfx u) → va_S A s.heap H1 locs1 → H1[q9]? = some ce → ce.vm = .none → s.vm.findClass E = some ce.cls → vx_W p l e R s m args below meth c H1 locs1 (cells + mc) (slots + ms) Q (F0 m pc ls rest) q9)
    (kk : ∀ u : Y, o = .inr u → ∀ (H1 : Heap) (locs1 : List Loc), va_P D vwCl (wf u) H1 → va_D A (wf u) → va_S A s.heap H1 locs1 → W p l e R s m args below meth c H1 locs1 (cells + mc) (slots + ms) Q (F0 m (pc + 3) ls (.int (ri u) :: rest))) : W p l e R s m args below meth c H locs cells slots Q (F0 m pc ls st0) := by
  have hF := va_free (wc := wc) hD hS hA isC hC
  refine vx_calli hr hS (fun q _ h => hF q h) hF (fun q _ h => hF q h) (fun E ce q9 u t H1 locs1 ht hvm hw hB hz hk hS1 h1 h2 h3 => ?_) (fun r2 u t H1 locs1 ht hvm hw hB hz hk hS1 => ?_)
  · obtain ⟨hE, hP1, hD1⟩ := hB
    rw [ht] at hP1
    obtain ⟨g1, g2⟩ := zk_back hP hD isC isR hC hR hn hdis pm (hpx u) hnp hF hP1 hD1 hk
    exact kx u hw E ce q9 H1 locs1 hE g1 g2 hS1 h1 h2 h3
  · obtain ⟨hP1, hD1⟩ := hB
    rw [ht] at hP1
    obtain ⟨g1, g2⟩ := zk_back hP hD isC isR hC hR hn hdis pm (hpm u) hnp hF hP1 hD1 hk
    obtain ⟨ho, rfl⟩ := hw
    exact kk u ho H1 locs1 g1 g2 hS1
theorem zx_cf {ri : Y → UInt32} (hr : vx_Run p l e R s m args below meth c H locs cells slots mc ms (F0 m pc ls st0) rest (zx_Qf o ri D w' (va_A wc H.size) (va_A wc H.size) a) (zx_X o ei D wx (va_A wc H.size) (va_A wc H.size)) (va_A wc H.size)) (hP : va_P D vwCl ws H) (hD : va_D A ws) (hS : va_S A s.heap H locs) (hA : ∀ q : Nat, s.heap.size ≤ q → A q) (isC isR : List Nat) (hC : isC.map (fun i => ws[i]?) = wc.map some) (hR : isR.map (fun i => ws[i]?) = wr.map some) (hn : va_nd isR = true) (hdis : ∀ i ∈ isR, i ∉ isC) (pm : List Nat) (hpm : ∀ u, pm.map (fun i => (wr ++ w' u)[i]?) = (wf u).map some) (hpx : ∀ u, pm.map (fun i => (wr ++ wx u)[i]?) = (wfx u).map some) (hnp : va_nd pm = true)
    (kx : ∀ u : X, o = .inl u → ∀ (E : String) (ce : Cell) (q9 : Addr) (H1 : Heap) (locs1 : List Loc), E = ei u → va_P D vwCl (wfx u) H1 → va_D A (wfx u) → va_S A s.heap H1 locs1 → H1[q9]? = some ce → ce.vm = .none → s.vm.findClass E = some ce.cls → vx_W p l e R s m args below meth c H1 locs1 (cells + mc) (slots + ms) Q (F0 m pc ls rest) q9)
    (kk : ∀ u : Y, o = .inr u → ∀ (H1 : Heap) (locs1 : List Loc), va_P D vwCl (wf u) H1 → va_D A (wf u) → va_S A s.heap H1 locs1 → W p l e R s m args below meth c H1 locs1 (cells + mc) (slots + ms) Q (F0 m (pc + 3) ls (.float (ri u) :: rest))) : W p l e R s m args below meth c H locs cells slots Q (F0 m pc ls st0) := by
  have hF := va_free (wc := wc) hD hS hA isC hC
  refine vx_callf hr hS (fun q _ h => hF q h) hF (fun q _ h => hF q h) (fun E ce q9 u t H1 locs1 ht hvm hw hB hz hk hS1 h1 h2 h3 => ?_) (fun r2 u t H1 locs1 ht hvm hw hB hz hk hS1 => ?_)
  · obtain ⟨hE, hP1, hD1⟩ := hB
    rw [ht] at hP1
    obtain ⟨g1, g2⟩ := zk_back hP hD isC isR hC hR hn hdis pm (hpx u) hnp hF hP1 hD1 hk
    exact kx u hw E ce q9 H1 locs1 hE g1 g2 hS1 h1 h2 h3
  · obtain ⟨hP1, hD1⟩ := hB
    rw [ht] at hP1
    obtain ⟨g1, g2⟩ := zk_back hP hD isC isR hC hR hn hdis pm (hpm u) hnp hF hP1 hD1 hk
    obtain ⟨ho, rfl⟩ := hw
    exact kk u ho H1 locs1 g1 g2 hS1
theorem zx_cd {ri : Y → UInt64} (hr : vx_Run p l e R s m args below meth c H locs cells slots mc ms (F0 m pc ls st0) rest (zx_Qd o ri D w' (va_A wc H.size) (va_A wc H.size) a) (zx_X o ei D wx (va_A wc H.size) (va_A wc H.size)) (va_A wc H.size)) (hP : va_P D vwCl ws H) (hD : va_D A ws) (hS : va_S A s.heap H locs) (hA : ∀ q : Nat, s.heap.size ≤ q → A q) (isC isR : List Nat) (hC : isC.map (fun i => ws[i]?) = wc.map some) (hR : isR.map (fun i => ws[i]?) = wr.map some) (hn : va_nd isR = true) (hdis : ∀ i ∈ isR, i ∉ isC) (pm : List Nat) (hpm : ∀ u, pm.map (fun i => (wr ++ w' u)[i]?) = (wf u).map some) (hpx : ∀ u, pm.map (fun i => (wr ++ wx u)[i]?) = (wfx u).map some) (hnp : va_nd pm = true)
    (kx : ∀ u : X, o = .inl u → ∀ (E : String) (ce : Cell) (q9 : Addr) (H1 : Heap) (locs1 : List Loc), E = ei u → va_P D vwCl (wfx u) H1 → va_D A (wfx u) → va_S A s.heap H1 locs1 → H1[q9]? = some ce → ce.vm = .none → s.vm.findClass E = some ce.cls → vx_W p l e R s m args below meth c H1 locs1 (cells + mc) (slots + ms) Q (F0 m pc ls rest) q9)
    (kk : ∀ u : Y, o = .inr u → ∀ (H1 : Heap) (locs1 : List Loc), va_P D vwCl (wf u) H1 → va_D A (wf u) → va_S A s.heap H1 locs1 → W p l e R s m args below meth c H1 locs1 (cells + mc) (slots + ms) Q (F0 m (pc + 3) ls (.double (ri u) :: rest))) : W p l e R s m args below meth c H locs cells slots Q (F0 m pc ls st0) := by
  have hF := va_free (wc := wc) hD hS hA isC hC
  refine vx_calld hr hS (fun q _ h => hF q h) hF (fun q _ h => hF q h) (fun E ce q9 u t H1 locs1 ht hvm hw hB hz hk hS1 h1 h2 h3 => ?_) (fun r2 u t H1 locs1 ht hvm hw hB hz hk hS1 => ?_)
  · obtain ⟨hE, hP1, hD1⟩ := hB
    rw [ht] at hP1
    obtain ⟨g1, g2⟩ := zk_back hP hD isC isR hC hR hn hdis pm (hpx u) hnp hF hP1 hD1 hk
    exact kx u hw E ce q9 H1 locs1 hE g1 g2 hS1 h1 h2 h3
  · obtain ⟨hP1, hD1⟩ := hB
    rw [ht] at hP1
    obtain ⟨g1, g2⟩ := zk_back hP hD isC isR hC hR hn hdis pm (hpm u) hnp hF hP1 hD1 hk
    obtain ⟨ho, rfl⟩ := hw
    exact kk u ho H1 locs1 g1 g2 hS1
theorem zx_cv (hr : vx_Run p l e R s m args below meth c H locs cells slots mc ms (F0 m pc ls st0) rest (zx_Qv o D w' (va_A wc H.size) (va_A wc H.size) a) (zx_X o ei D wx (va_A wc H.size) (va_A wc H.size)) (va_A wc H.size)) (hP : va_P D vwCl ws H) (hD : va_D A ws) (hS : va_S A s.heap H locs) (hA : ∀ q : Nat, s.heap.size ≤ q → A q) (isC isR : List Nat) (hC : isC.map (fun i => ws[i]?) = wc.map some) (hR : isR.map (fun i => ws[i]?) = wr.map some) (hn : va_nd isR = true) (hdis : ∀ i ∈ isR, i ∉ isC) (pm : List Nat) (hpm : ∀ u, pm.map (fun i => (wr ++ w' u)[i]?) = (wf u).map some) (hpx : ∀ u, pm.map (fun i => (wr ++ wx u)[i]?) = (wfx u).map some) (hnp : va_nd pm = true)
    (kx : ∀ u : X, o = .inl u → ∀ (E : String) (ce : Cell) (q9 : Addr) (H1 : Heap) (locs1 : List Loc), E = ei u → va_P D vwCl (wfx u) H1 → va_D A (wfx u) → va_S A s.heap H1 locs1 → H1[q9]? = some ce → ce.vm = .none → s.vm.findClass E = some ce.cls → vx_W p l e R s m args below meth c H1 locs1 (cells + mc) (slots + ms) Q (F0 m pc ls rest) q9)
    (kk : ∀ u : Y, o = .inr u → ∀ (H1 : Heap) (locs1 : List Loc), va_P D vwCl (wf u) H1 → va_D A (wf u) → va_S A s.heap H1 locs1 → W p l e R s m args below meth c H1 locs1 (cells + mc) (slots + ms) Q (F0 m (pc + 3) ls rest)) : W p l e R s m args below meth c H locs cells slots Q (F0 m pc ls st0) := by
  have hF := va_free (wc := wc) hD hS hA isC hC
  refine vx_callv hr hS (fun q _ h => hF q h) hF (fun q _ h => hF q h) (fun E ce q9 u t H1 locs1 ht hvm hw hB hz hk hS1 h1 h2 h3 => ?_) (fun u t H1 locs1 ht hvm hw hB hz hk hS1 => ?_)
  · obtain ⟨hE, hP1, hD1⟩ := hB
    rw [ht] at hP1
    obtain ⟨g1, g2⟩ := zk_back hP hD isC isR hC hR hn hdis pm (hpx u) hnp hF hP1 hD1 hk
    exact kx u hw E ce q9 H1 locs1 hE g1 g2 hS1 h1 h2 h3
  · obtain ⟨hP1, hD1⟩ := hB
    rw [ht] at hP1
    obtain ⟨g1, g2⟩ := zk_back hP hD isC isR hC hR hn hdis pm (hpm u) hnp hF hP1 hD1 hk
    exact kk u hw H1 locs1 g1 g2 hS1
theorem zx_cr {qr : Nat} (hr : vx_Run p l e R s m args below meth c H locs cells slots mc ms (F0 m pc ls st0) rest (zx_Qr o qr D w' (va_A wc H.size) (va_A wc H.size) a) (zx_X o ei D wx (va_A wc H.size) (va_A wc H.size)) (va_A wc H.size)) (hP : va_P D vwCl ws H) (hD : va_D A ws) (hS : va_S A s.heap H locs) (hA : ∀ q : Nat, s.heap.size ≤ q → A q) (isC isR : List Nat) (hC : isC.map (fun i => ws[i]?) = wc.map some) (hR : isR.map (fun i => ws[i]?) = wr.map some) (hn : va_nd isR = true) (hdis : ∀ i ∈ isR, i ∉ isC) (pm : List Nat) (hpm : ∀ u, pm.map (fun i => (wr ++ w' u)[i]?) = (wf u).map some) (hpx : ∀ u, pm.map (fun i => (wr ++ wx u)[i]?) = (wfx u).map some) (hnp : va_nd pm = true)
    (kx : ∀ u : X, o = .inl u → ∀ (E : String) (ce : Cell) (q9 : Addr) (H1 : Heap) (locs1 : List Loc), E = ei u → va_P D vwCl (wfx u) H1 → va_D A (wfx u) → va_S A s.heap H1 locs1 → H1[q9]? = some ce → ce.vm = .none → s.vm.findClass E = some ce.cls → vx_W p l e R s m args below meth c H1 locs1 (cells + mc) (slots + ms) Q (F0 m pc ls rest) q9)
    (kk : ∀ u : Y, o = .inr u → ∀ (H1 : Heap) (locs1 : List Loc), va_P D vwCl (wf u) H1 → va_D A (wf u) → va_S A s.heap H1 locs1 → W p l e R s m args below meth c H1 locs1 (cells + mc) (slots + ms) Q (F0 m (pc + 3) ls (.ref qr :: rest))) : W p l e R s m args below meth c H locs cells slots Q (F0 m pc ls st0) := by
  have hF := va_free (wc := wc) hD hS hA isC hC
  refine zx_callr (q := 0) hr hS (fun q _ h => hF q h) hF (fun q _ h => hF q h) (fun E ce q9 u t H1 locs1 ht hvm hw hB hz hk hS1 h1 h2 h3 => ?_) (fun u ra t H1 locs1 ht hvm hw hB hz hk hS1 => ?_)
  · obtain ⟨hE, hP1, hD1⟩ := hB
    rw [ht] at hP1
    obtain ⟨g1, g2⟩ := zk_back hP hD isC isR hC hR hn hdis pm (hpx u) hnp hF hP1 hD1 hk
    exact kx u hw E ce q9 H1 locs1 hE g1 g2 hS1 h1 h2 h3
  · obtain ⟨rfl, hP1, hD1⟩ := hB
    rw [ht] at hP1
    obtain ⟨g1, g2⟩ := zk_back hP hD isC isR hC hR hn hdis pm (hpm u) hnp hF hP1 hD1 hk
    exact kk u hw H1 locs1 g1 g2 hS1
/-- an exception that a callee threw goes on -/
theorem zx_out {Qc : Array Value → State → Outcome → State → Prop} {E : String} {ce : Cell} {q : Addr} {u : X} (hout : ∀ x ∈ c.exceptionTable.toList, False) (hlocks : meth.locks = false) (hP : va_P D vwCl (wx u) H) (hD : va_D A (wx u)) (hS : va_S A s.heap H locs) (hcell : H[q]? = some ce) (hv : ce.vm = .none) (hcl : s.vm.findClass E = some ce.cls) (hE : E = ei u) (ho : o = .inl u) (hc : cells ≤ mc) (hs : slots ≤ ms) : vx_W p l e R s m args below meth c H locs cells slots (vx_MQ below Qc (zx_X o ei D wx A A) args s mc ms A) (F0 m pc ls rest) q :=
  vx_out (E := E) (fun x hx => (hout x hx).elim) hlocks hcell hv hcl (fun t ht hvm => ⟨u, ho, ⟨hE, by rw [ht]; exact hP, hD⟩, hS.F ht⟩) hS.2.2 hc hs
theorem zx_end {u : X} {cls : String} (hP : va_P D vwCl (wx u) H) (hD : va_D A (wx u)) (hS : va_S A s.heap H locs) (hE : cls = ei u) (ho : o = .inl u) : ∀ t : State, s.vm.Alike t.vm → H.size ≤ t.heap.size → (∀ q : Nat, q < H.size → t.heap[q]? = H[q]?) → zx_X o ei D wx A A cls s t := fun t hvm hz hk => ⟨u, ho, ⟨hE, hP.kept (fun k q hq => hk _ (hP k q hq).lt), hD⟩, ⟨Nat.le_trans hS.1 hz, fun q h1 h2 => (hk q (Nat.lt_of_lt_of_le h1 hS.1)).trans (hS.2.1 q h1 h2)⟩⟩
end ZX
abbrev zx_bl (cls : String) : List Cond := [.declares (Bundle.initS "java/lang/RuntimeException"), .declares (Bundle.initS "java/lang/Exception"), .declares (Bundle.initS Bundle.tN), .castable cls cls]
theorem zx_hat {args : Array Value} {s : State} {A : Nat → Prop} {own cls : String} {ic : Nat} (hX : zx_K A s s.heap) (hm : cls ∈ zx_bad) (hbad : (vx_atS own ic cls zx_nm).filter (fun w => !goodWord w) = zx_bl cls) (h1 : ∀ w ∈ (vx_atS own ic cls zx_nm).filter goodWord, w.before args s = true) : ∀ w ∈ vx_atS own ic cls zx_nm, w.before args s = true :=
  vx_hat h1 (B := zx_bl cls) (fun w hw => by rw [hbad] at hw; exact hw) (vx_c (va_Nw.use rfl (hX.2.2.2.2 _ (by decide +kernel))) (vx_c (va_Nw.use rfl (hX.2.2.2.2 _ (by decide +kernel))) (vx_c (va_Nw.use rfl (hX.2.2.2.2 _ (by decide +kernel))) (vx_c (va_Nw.use rfl (hX.2.2.2.1 cls hm)) vx_n))))
theorem zx_hatX {args : Array Value} {s : State} {A : Nat → Prop} {own cls : String} {ic : Nat} (hX : zx_K A s s.heap) (hm : cls ∈ zx_bad) (hbad : (zx_atX own ic cls zx_nm).filter (fun w => !goodWord w) = zx_bl cls) (h1 : ∀ w ∈ (zx_atX own ic cls zx_nm).filter goodWord, w.before args s = true) : ∀ w ∈ zx_atX own ic cls zx_nm, w.before args s = true :=
  vx_hat h1 (B := zx_bl cls) (fun w hw => by rw [hbad] at hw; exact hw) (vx_c (va_Nw.use rfl (hX.2.2.2.2 _ (by decide +kernel))) (vx_c (va_Nw.use rfl (hX.2.2.2.2 _ (by decide +kernel))) (vx_c (va_Nw.use rfl (hX.2.2.2.2 _ (by decide +kernel))) (vx_c (va_Nw.use rfl (hX.2.2.2.1 cls hm)) vx_n))))
theorem zx_bad_IndexOutOfBounds : (vx_atS RX5 130 "java/lang/IndexOutOfBoundsException" zx_nm).filter (fun w => !goodWord w) = zx_bl "java/lang/IndexOutOfBoundsException" := by decide +kernel
theorem zx_good_IndexOutOfBounds : ∀ w ∈ Cond.classLink RX5 126 "java/lang/IndexOutOfBoundsException" :: Cond.initialized "java/lang/IndexOutOfBoundsException" :: vx_atS RX5 130 "java/lang/IndexOutOfBoundsException" zx_nm, vx_ot w = true := by decide +kernel
theorem zx_bad_IllegalState : (vx_atS RX5 142 "java/lang/IllegalStateException" zx_nm).filter (fun w => !goodWord w) = zx_bl "java/lang/IllegalStateException" := by decide +kernel
theorem zx_good_IllegalState : ∀ w ∈ Cond.classLink RX5 138 "java/lang/IllegalStateException" :: Cond.initialized "java/lang/IllegalStateException" :: vx_atS RX5 142 "java/lang/IllegalStateException" zx_nm, vx_ot w = true := by decide +kernel
theorem zx_bad_IllegalArgument : (vx_atS RX5 156 "java/lang/IllegalArgumentException" zx_nm).filter (fun w => !goodWord w) = zx_bl "java/lang/IllegalArgumentException" := by decide +kernel
theorem zx_good_IllegalArgument : ∀ w ∈ Cond.classLink RX5 152 "java/lang/IllegalArgumentException" :: Cond.initialized "java/lang/IllegalArgumentException" :: vx_atS RX5 156 "java/lang/IllegalArgumentException" zx_nm, vx_ot w = true := by decide +kernel
theorem zx_bad_NoSuchElement : (zx_atX RX5 232 "java/util/NoSuchElementException" zx_nm).filter (fun w => !goodWord w) = zx_bl "java/util/NoSuchElementException" := by decide +kernel
theorem zx_good_NoSuchElement : ∀ w ∈ Cond.classLink RX5 228 "java/util/NoSuchElementException" :: Cond.initialized "java/util/NoSuchElementException" :: zx_atX RX5 232 "java/util/NoSuchElementException" zx_nm, vx_ot w = true := by decide +kernel
theorem zx_bad_Arithmetic : (vx_atS RX5 240 "java/lang/ArithmeticException" zx_nm).filter (fun w => !goodWord w) = zx_bl "java/lang/ArithmeticException" := by decide +kernel
theorem zx_good_Arithmetic : ∀ w ∈ Cond.classLink RX5 236 "java/lang/ArithmeticException" :: Cond.initialized "java/lang/ArithmeticException" :: vx_atS RX5 240 "java/lang/ArithmeticException" zx_nm, vx_ot w = true := by decide +kernel
theorem zx_bad_UnsupportedOperation : (vx_atS RX5 89 "java/lang/UnsupportedOperationException" zx_nm).filter (fun w => !goodWord w) = zx_bl "java/lang/UnsupportedOperationException" := by decide +kernel
theorem zx_good_UnsupportedOperation : ∀ w ∈ Cond.classLink RX5 85 "java/lang/UnsupportedOperationException" :: Cond.initialized "java/lang/UnsupportedOperationException" :: vx_atS RX5 89 "java/lang/UnsupportedOperationException" zx_nm, vx_ot w = true := by decide +kernel

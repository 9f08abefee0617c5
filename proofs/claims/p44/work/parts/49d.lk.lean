/-! rows of mine: the law's calls of the object, its arrays -/
theorem lk_perm {D : va_G} {cl : List vw_C} {a b : va_W} {H : Heap} (hp : a.Perm b) (h : va_P D cl a H) : va_P D cl b H := by
  rw [zw_P_iff] at h ⊢
  exact fun q hq => h q (hp.mem_iff.mpr hq)
theorem lk_permD {A : Nat → Prop} {a b : va_W} (hp : a.Perm b) (h : va_D A a) : va_D A b := by
  rw [zw_D_iff] at h ⊢
  exact ⟨(hp.pairwise_iff (fun {x y} (q : x.1 ≠ y.1) => Ne.symm q)).mp h.1, fun q hq => h.2 q (hp.mem_iff.mpr hq)⟩
theorem lk_left {D : va_G} {cl : List vw_C} {a b : va_W} {H : Heap} (h : va_P D cl (a ++ b) H) : va_P D cl a H := by
  rw [zw_P_iff] at h ⊢
  exact fun q hq => h q (List.mem_append_left _ hq)
theorem lk_right {D : va_G} {cl : List vw_C} {a b : va_W} {H : Heap} (h : va_P D cl (a ++ b) H) : va_P D cl b H := by
  rw [zw_P_iff] at h ⊢
  exact fun q hq => h q (List.mem_append_right _ hq)
theorem lk_leftD {A : Nat → Prop} {a b : va_W} (h : va_D A (a ++ b)) : va_D A a := by
  rw [zw_D_iff] at h ⊢
  exact ⟨(List.pairwise_append.mp h.1).1, fun q hq => h.2 q (List.mem_append_left _ hq)⟩
theorem lk_rightD {A : Nat → Prop} {a b : va_W} (h : va_D A (a ++ b)) : va_D A b := by
  rw [zw_D_iff] at h ⊢
  exact ⟨(List.pairwise_append.mp h.1).2.1, fun q hq => h.2 q (List.mem_append_right _ hq)⟩
section LKA
variable {p : Program} {l : Launch} {e : Env} {R : Room} {s : State} {m : MethodId} {args : Array Value} {below : List Frame} {meth : Method} {c : Code} {H : Heap} {locs : List Loc} {cells slots mc ms : Nat} {Q : State → Prop} {g : JFrame} {rest : List Value} {Qa : State → Outcome → State → Prop} {free : Addr → Prop}
theorem zn_run (hr : vx_Run p l e R s m args below meth c H locs cells slots mc ms g rest Qa (fun _ _ _ => False) free) : va_Run p l e R s m args below meth c H locs cells slots mc ms g rest Qa free := by
  intro T hT X
  rcases hr T hT X with h | ⟨q, st0, t, T', L, E, ce, h0, X', hL, e1, e2, hx, -⟩
  · exact h
  · exact hx.elim
end LKA
theorem zn_preS {D : va_G} {T : Nat → ClassId} {s : State} {H : Heap} {locs : List Loc} {As : List Value} {A : Nat → Prop} {wc : va_W} (hK : va_K D vwCl (zk_ty T) s) (hN : zk_N s) (hX : zx_K A s s.heap) (hNc : zn_K s) (hS : va_S A s.heap H locs) (hF : ∀ q, va_A wc H.size q → A q) (hP : va_P D vwCl wc H) (hD : va_D A wc) : PreS s H (zn_Pc D T As wc H.size) As := ⟨zn_blind, fun U hU hW => ⟨rfl, by rw [hU], by rw [hU]; exact hP, va_K.moved hW.alike hK, zk_N_warm hW hN, hD.weaken (fun _ _ _ _ => trivial), zx_K_go hX hS hF hU hW, zn_K_moved hW.alike hNc⟩⟩
section LKB
variable {p : Program} {l : Launch} {e : Env} {R : Room} {s : State} {m : MethodId} {args : Array Value} {below : List Frame} {meth : Method} {c : Code} {H : Heap} {locs : List Loc} {cells slots mc ms : Nat} {Q : State → Prop}
variable {D : va_G} {A : Nat → Prop} {wc w' wf : va_W} {pc : Nat} {ls : Array Slot} {rest st0 : List Value} {a : Array Value}
theorem zq_ciM {r : Int32} (hr : va_Run p l e R s m args below meth c H locs cells slots mc ms (F0 m pc ls st0) rest (zk_Qi r D w' (va_A wc H.size) (va_A wc H.size) a) (va_A wc H.size)) (hS : va_S A s.heap H locs) (hF : ∀ q, va_A wc H.size q → A q) (hJ : ∀ H1 : Heap, va_P D vwCl w' H1 → va_D (va_A wc H.size) w' → (∀ q : Nat, q < H.size → ¬ va_A wc H.size q → H1[q]? = H[q]?) → va_P D vwCl wf H1 ∧ va_D A wf)
    (kk : ∀ (H1 : Heap) (locs1 : List Loc), va_P D vwCl wf H1 → va_D A wf → va_S A s.heap H1 locs1 → W p l e R s m args below meth c H1 locs1 (cells + mc) (slots + ms) Q (F0 m (pc + 3) ls (.int r :: rest))) : W p l e R s m args below meth c H locs cells slots Q (F0 m pc ls st0) := by
  refine va_calli hr hS (fun q _ h => hF q h) hF (fun r2 u t H1 locs1 ht hvm hw hB hz hk hS1 => ?_)
  obtain ⟨hP1, hD1⟩ := hB
  rw [ht] at hP1
  obtain ⟨h1, h2⟩ := hJ H1 hP1 hD1 hk
  cases hw
  exact kk H1 locs1 h1 h2 hS1
/-- a call of ask: the array goes, the object is as the call leaves it -/
theorem lk_ask {T : Nat → ClassId} {q : Nat → Nat} {qv n : Nat} {v : Nat → Int32} {x : Ob} {o : Int32 × Ob} {ch : Int32} {rm : Room} {rw_ : va_W} {cc : ByteArray} {nL : Nat} {Ts ws' : List Cond} {hh : List (Nat × Nat × Nat × Nat)} {stk : List Value}
    (hM : ∀ sz : Nat, vx_Met l yL_ask wsK rm (zn_Pc D T [.ref (q 0), .int ch, .ref qv] (ow T q x ++ [(qv, .inl (T 0, n, .inl v))]) sz) (zk_Qi o.1 D (ow T q o.2 ++ [(qv, .inl (T 0, n, .inl v))]) (va_A (ow T q x ++ [(qv, .inl (T 0, n, .inl v))]) sz) (va_A (ow T q x ++ [(qv, .inl (T 0, n, .inl v))]) sz)) (fun _ _ _ => False) mc ms (va_A (ow T q x ++ [(qv, .inl (T 0, n, .inl v))]) sz))
    (S : CallFix p m c cc nL s args Ts RL) (cw : vx_CSW R s args RL 176 yL_ask cL_ask 4 (some .int) hh wsK rm mc ms 3)
    (hK : va_K D vwCl (zk_ty T) s) (hN : zk_N s) (hX : zx_K A s s.heap) (hNc : zn_K s) (hS : va_S A s.heap H locs) (hA : ∀ q : Nat, s.heap.size ≤ q → A q)
    (hP : va_P D vwCl ((qv, .inl (T 0, n, .inl v)) :: (ow T q x ++ rw_)) H) (hD : va_D A ((qv, .inl (T 0, n, .inl v)) :: (ow T q x ++ rw_))) (hsz : ls.size = nL) (hst : (stk.map fun v => v.category).sum ≤ 8) (hdg : decode cc pc = .ok (.invokestatic 176, 3)) (hf : cells + mc ≤ R.cells ∧ slots + ms ≤ R.slots)
    (kk : ∀ (H1 : Heap) (locs1 : List Loc), va_P D vwCl (ow T q o.2 ++ rw_) H1 → va_D A (ow T q o.2 ++ rw_) → va_S A s.heap H1 locs1 → W p l e R s m args below meth c H1 locs1 (cells + mc) (slots + ms) Q (F0 m (pc + 3) ls (.int o.1 :: stk))) : W p l e R s m args below meth c H locs cells slots Q (F0 m pc ls (.ref qv :: .int ch :: .ref (q 0) :: stk)) := by
  have hP' : va_P D vwCl (List.flatten [[(qv, .inl (T 0, n, .inl v))], ow T q x, rw_]) H := by simpa [List.flatten] using hP
  have hD' : va_D A (List.flatten [[(qv, .inl (T 0, n, .inl v))], ow T q x, rw_]) := by simpa [List.flatten] using hD
  have hcw : List.flatten [ow T q x, [(qv, .inl (T 0, n, .inl v))]] = ow T q x ++ [(qv, .inl (T 0, n, .inl v))] := by simp [List.flatten]
  have hdw : List.flatten [ow T q o.2, [(qv, .inl (T 0, n, .inl v))]] = ow T q o.2 ++ [(qv, .inl (T 0, n, .inl v))] := by simp [List.flatten]
  have hF := zw_free (cs := [ow T q x, [(qv, .inl (T 0, n, .inl v))]]) hD' hS hA [1, 0] rfl hcw
  have hPc := zw_P (cs := [ow T q x, [(qv, .inl (T 0, n, .inl v))]]) hP' [1, 0] rfl hcw
  have hDc := zw_D (cs := [ow T q x, [(qv, .inl (T 0, n, .inl v))]]) hD' [1, 0] (by decide) rfl hcw
  refine zq_ciM (wf := List.flatten [ow T q o.2, rw_]) (zn_run (vx_runSX (As := [.ref (q 0), .int ch, .ref qv]) (rest := stk) S (hM H.size) cw (zn_preS hK hN hX hNc hS hF hPc hDc) rfl rfl hsz rfl (lv_room hst) hdg hf)) hS hF (fun H1 h1 h2 h3 => zw_back (cs := [ow T q x, [(qv, .inl (T 0, n, .inl v))]]) (rs := [rw_]) (ds := [ow T q o.2, [(qv, .inl (T 0, n, .inl v))]]) (fs := [ow T q o.2, rw_]) hP' hD' [1, 0] [2] rfl rfl (by decide) (by decide) hcw hdw [1, 0] rfl (by decide) hF h1 h2 h3) (fun H1 locs1 hP1 hD1 hS1 => ?_)
  have e9 : List.flatten [ow T q o.2, rw_] = ow T q o.2 ++ rw_ := by simp [List.flatten]
  rw [e9] at hP1 hD1
  exact kk H1 locs1 hP1 hD1 hS1
/-- a call of mean -/
theorem lk_mean {T : Nat → ClassId} {q : Nat → Nat} {x : Ob} {o : Int32 × Ob} {ch : Int32} {rm : Room} {cc : ByteArray} {nL : Nat} {Ts ws' : List Cond} {hh : List (Nat × Nat × Nat × Nat)} {stk : List Value}
    (hM : ∀ sz : Nat, vx_Met l yL_mean wsL_mean rm (zn_Pc D T [.ref (q 0), .int ch] (ow T q x) sz) (zk_Qi o.1 D (ow T q o.2) (va_A (ow T q x) sz) (va_A (ow T q x) sz)) (fun _ _ _ => False) mc ms (va_A (ow T q x) sz))
    (S : CallFix p m c cc nL s args Ts RL) (cw : vx_CSW R s args RL 153 yL_mean cL_mean 4 (some .int) hh wsL_mean rm mc ms 2)
    (hK : va_K D vwCl (zk_ty T) s) (hN : zk_N s) (hX : zx_K A s s.heap) (hNc : zn_K s) (hS : va_S A s.heap H locs) (hA : ∀ q : Nat, s.heap.size ≤ q → A q)
    (hP : va_P D vwCl (ow T q x) H) (hD : va_D A (ow T q x)) (hsz : ls.size = nL) (hst : (stk.map fun v => v.category).sum ≤ 8) (hdg : decode cc pc = .ok (.invokestatic 153, 3)) (hf : cells + mc ≤ R.cells ∧ slots + ms ≤ R.slots)
    (kk : ∀ (H1 : Heap) (locs1 : List Loc), va_P D vwCl (ow T q o.2) H1 → va_D A (ow T q o.2) → va_S A s.heap H1 locs1 → W p l e R s m args below meth c H1 locs1 (cells + mc) (slots + ms) Q (F0 m (pc + 3) ls (.int o.1 :: stk))) : W p l e R s m args below meth c H locs cells slots Q (F0 m pc ls (.int ch :: .ref (q 0) :: stk)) := by
  have hcw : ∀ w : va_W, List.flatten [w] = w := fun w => by simp [List.flatten]
  have hP' : va_P D vwCl (List.flatten [ow T q x]) H := by rw [hcw]; exact hP
  have hD' : va_D A (List.flatten [ow T q x]) := by rw [hcw]; exact hD
  have hF := zw_free (cs := [ow T q x]) hD' hS hA [0] rfl (hcw _)
  refine zq_ciM (wf := List.flatten [ow T q o.2]) (zn_run (vx_runSX (As := [.ref (q 0), .int ch]) (rest := stk) S (hM H.size) cw (zn_preS hK hN hX hNc hS hF hP hD) rfl rfl hsz rfl (lv_room hst) hdg hf)) hS hF (fun H1 h1 h2 h3 => zw_back (cs := [ow T q x]) (rs := []) (ds := [ow T q o.2]) (fs := [ow T q o.2]) hP' hD' [0] [] rfl rfl (by decide) (by decide) (hcw _) (hcw _) [0] rfl (by decide) hF h1 h2 h3) (fun H1 locs1 hP1 hD1 hS1 => ?_)
  rw [hcw] at hP1 hD1
  exact kk H1 locs1 hP1 hD1 hS1
/-- a new row of ints, laid ahead of the world -/
theorem lk_new {cc : ByteArray} {T : Nat → ClassId} {ws : va_W} {H0 : Heap} (hx : p.tables.exec = Jvm.exec) (hb : c.code = cc) (harr : (Cond.arrayClass .int).before args s = true) (hK : va_K D vwCl (zk_ty T) s) (hP : va_P D vwCl ws H) (hD : va_D A ws) (hS : va_S A H0 H locs) (hA : ∀ q, H0.size ≤ q → A q)
    {n : Int32} {N' : Nat} (hn : ¬ n < 0) (hN : n.toNatClampNeg = N') (hbytes : N' * componentBytes .int ≤ 536870912) (hcells : cells + 1 ≤ R.cells) (hslots : slots + N' ≤ R.slots) (hdg : decode cc pc = .ok (.newarray .int, 2))
    (kk : ∀ (q : Nat) (H1 : Heap), va_P D vwCl ((q, .inl (T 0, N', .inl (fun _ => 0))) :: ws) H1 → va_D A ((q, .inl (T 0, N', .inl (fun _ => 0))) :: ws) → va_S A H0 H1 locs →
      W p l e R s m args below meth c H1 locs (cells + 1) (slots + N') Q (F0 m (pc + 2) ls (.ref q :: rest))) : W p l e R s m args below meth c H locs cells slots Q (F0 m pc ls (.int n :: rest)) := by
  refine va_newa (atype := .int) (ty := .int) (a0 := (N', .inl (fun _ => 0))) hx hb harr rfl hK hP hD hS hA (fun _ => rfl) hn hN hbytes hcells hslots hdg (fun q cA H1 hK9 hP hD hS => ?_)
  obtain rfl := zk_cAI hK9
  exact kk q H1 (lk_perm (List.perm_append_comm (l₁ := ws) (l₂ := ([(q, .inl (T 0, N', .inl (fun _ => 0)))] : va_W))) hP) (lk_permD (List.perm_append_comm (l₁ := ws) (l₂ := ([(q, .inl (T 0, N', .inl (fun _ => 0)))] : va_W))) hD) hS
end LKB

/-! rows of mine: the script, at and some -/
def lk_Pc (D : va_G) (T : Nat → ClassId) (av : List Value) (b L : Nat) (xs : Nat → Int32) (sz : Nat) : Array Value → State → Prop := va_Pc av (fun U => U.heap.size = sz ∧ va_K D vwCl (zk_ty T) U ∧ zk_N U ∧ zx_K (va_A [] sz) U U.heap ∧ zn_K U ∧ va_X b L xs U U.heap ∧ b < sz)
theorem lk_blind {D : va_G} {T : Nat → ClassId} {av : List Value} {b L : Nat} {xs : Nat → Int32} {sz : Nat} : FrameBlind (lk_Pc D T av b L xs sz) := fun a U g mk q => by
  obtain ⟨q0, q1, qK, qN, qX, qC, qx, qb⟩ := q
  exact ⟨q0, q1, va_K.moved (u := U) (U := U.calling g mk a) (Vm.Alike.refl U.vm) qK, zk_N_same (u := U) (U := U.calling g mk a) rfl qN, zx_K_same (u := U) (U := U.calling g mk a) rfl rfl qX, zn_K_moved (u := U) (U := U.calling g mk a) (Vm.Alike.refl U.vm) qC, va_X.moved (u := U) (U := U.calling g mk a) (Vm.Alike.refl U.vm) qx, qb⟩
theorem lk_AA {A : Nat → Prop} {s : State} {H : Heap} {locs : List Loc} (hS : va_S A s.heap H locs) (hA : ∀ q : Nat, s.heap.size ≤ q → A q) : ∀ q, va_A [] H.size q → A q := fun q h => by
  rcases h with h | h
  · exact absurd h (by simp)
  · exact hA q (Nat.le_trans hS.1 h)
theorem lk_preS {D : va_G} {T : Nat → ClassId} {s : State} {H : Heap} {locs : List Loc} {As : List Value} {A : Nat → Prop} {b L : Nat} {xs : Nat → Int32} (hK : va_K D vwCl (zk_ty T) s) (hN : zk_N s) (hX : zx_K A s s.heap) (hNc : zn_K s) (hS : va_S A s.heap H locs) (hA : ∀ q : Nat, s.heap.size ≤ q → A q) (hx : va_X b L xs s s.heap) (hbl : b < s.heap.size) (hbA : ¬ A b) : PreS s H (lk_Pc D T As b L xs H.size) As := ⟨lk_blind, fun U hU hW => ⟨rfl, by rw [hU], va_K.moved hW.alike hK, zk_N_warm hW hN, zx_K_go hX hS (lk_AA hS hA) hU hW, zn_K_moved hW.alike hNc, va_X.moved hW.alike (by rw [hU]; exact va_X.kept hx (hS.2.1 b hbl hbA)), Nat.lt_of_lt_of_le hbl hS.1⟩⟩
def atv (L : Nat) (xs : Nat → Int32) (k : Int32) : Int32 := if k < Int32.ofNat L then xs k.toNatClampNeg else 0
def smv (v n : Int32) : Int32 := if v - v / n * n < 0 then v - v / n * n + n else v - v / n * n
set_option maxHeartbeats 8000000 in
set_option maxRecDepth 100000 in
theorem k_L_at (l : Launch) (D : va_G) (T : Nat → ClassId) (b L : Nat) (xs : Nat → Int32) (sz : Nat) (k : Int32) (hin : k < Int32.ofNat L → vp_in k L) : Met l yL_at wsL_at ({ frames := 0, cells := 0, slots := 0, locals := 0 } : Room) (lk_Pc D T [.ref b, .int k] b L xs sz) (zk_Qi (atv L xs k) D [] (va_A [] sz) (va_A [] sz)) 0 0 (va_A [] sz) := by
  refine Met.ofW (cc := cL_at) (maxL := 2) (ret := (some .int)) (by decide) rfl ?_
  intro p e s m args below meth c s₁ B hml hv
  obtain ⟨rfl, hsz, hK, hN, hX, hNc, hXs, hbl⟩ := hv
  have hx := B.exec
  have hb := B.bytes
  have hr := B.returns
  have hts := atoms_spec (ws := wsL_at) B.pre
  have hown : s.vm.findClass RL = some m.cls := findClass_of_methodNamed B.named
  have hlocks := B.notSynchronized
  subst hsz
  generalize hAe : va_A [] s.heap.size = A at hX ⊢
  have hA : ∀ q : Nat, s.heap.size ≤ q → A q := fun q h => by rw [← hAe]; exact Or.inr h
  have hbA : ¬ A b := fun h => by
    rw [← hAe] at h
    rcases h with h | h
    · exact absurd h (by simp)
    · omega
  have hS : va_S A s.heap s.heap [] := va_S.rf
  have hP : va_P D vwCl [] s.heap := fun k x hx => absurd hx (by simp)
  have hD : va_D A [] := ⟨fun i j p q h => absurd h (by simp), fun k x hx => absurd hx (by simp)⟩
  have hl := lv_entry ([.ref b, .int k]) (n := 2) (Nat.le_of_ble_eq_true rfl)
  rw [lg_entry_eq]
  generalize (lg_sl ([.ref b, .int k]) ++ List.replicate (2 - (lg_sl ([.ref b, .int k])).length) Slot.unset).toArray = ls at hl ⊢
  have hl : lv_has ls 2 [(0, .ref b), (1, .int k)] := hl
  refine lv_iload_n hx hb dL_at_0 rfl (lv_at hl 1 rfl) ?_
  refine lv_aload_n hx hb dL_at_1 rfl (lv_at hl 0 rfl) ?_
  refine va_slen hx hb hXs hbl hbA hS dL_at_2 ?_
  unfold atv
  refine lv_icmp_ge (tgt := 12) hx hb dL_at_3 (by decide) (fun c3 => ?_) (fun c3 => ?_)
  · rw [if_neg (fun h => Int32.lt_irrefl (Int32.lt_of_lt_of_le h c3))]
    refine lv_iconst (v := (0 : Int32)) hx hb dL_at_12 (by decide) ?_
    exact W.iret (v := (0 : Int32)) hx hb hr (fun t ht hW => ⟨⟨_, (), rfl, rfl, (by rw [ht]; exact fun k x hx => absurd hx (by simp)), hD⟩, hS.F ht⟩) hS.2.2 dL_at_13
  · have c4 : k < Int32.ofNat L := Int32.not_le.mp c3
    rw [if_pos c4]
    refine lv_aload_n hx hb dL_at_6 rfl (lv_at hl 0 rfl) ?_
    refine lv_iload_n hx hb dL_at_7 rfl (lv_at hl 1 rfl) ?_
    refine va_sld hx hb hXs hbl hbA hS (hin c4) dL_at_8 ?_
    refine lv_goto (tgt := 13) hx hb dL_at_9 (by decide) ?_
    exact W.iret (v := xs k.toNatClampNeg) hx hb hr (fun t ht hW => ⟨⟨_, (), rfl, rfl, (by rw [ht]; exact fun k x hx => absurd hx (by simp)), hD⟩, hS.F ht⟩) hS.2.2 dL_at_13
set_option maxHeartbeats 8000000 in
set_option maxRecDepth 100000 in
theorem k_L_some (l : Launch) (D : va_G) (T : Nat → ClassId) (b L : Nat) (xs : Nat → Int32) (sz : Nat) (v n : Int32) (hn : n ≠ 0) : Met l yL_some wsL_some ({ frames := 0, cells := 0, slots := 0, locals := 0 } : Room) (lk_Pc D T [.int v, .int n] b L xs sz) (zk_Qi (smv v n) D [] (va_A [] sz) (va_A [] sz)) 0 0 (va_A [] sz) := by
  refine Met.ofW (cc := cL_some) (maxL := 3) (ret := (some .int)) (by decide) rfl ?_
  intro p e s m args below meth c s₁ B hml hv
  obtain ⟨rfl, hsz, hK, hN, hX, hNc, hXs, hbl⟩ := hv
  have hx := B.exec
  have hb := B.bytes
  have hr := B.returns
  have hts := atoms_spec (ws := wsL_some) B.pre
  have hown : s.vm.findClass RL = some m.cls := findClass_of_methodNamed B.named
  have hlocks := B.notSynchronized
  subst hsz
  generalize hAe : va_A [] s.heap.size = A at hX ⊢
  have hA : ∀ q : Nat, s.heap.size ≤ q → A q := fun q h => by rw [← hAe]; exact Or.inr h
  have hbA : ¬ A b := fun h => by
    rw [← hAe] at h
    rcases h with h | h
    · exact absurd h (by simp)
    · omega
  have hS : va_S A s.heap s.heap [] := va_S.rf
  have hP : va_P D vwCl [] s.heap := fun k x hx => absurd hx (by simp)
  have hD : va_D A [] := ⟨fun i j p q h => absurd h (by simp), fun k x hx => absurd hx (by simp)⟩
  have hl := lv_entry ([.int v, .int n]) (n := 3) (Nat.le_of_ble_eq_true rfl)
  rw [lg_entry_eq]
  generalize (lg_sl ([.int v, .int n]) ++ List.replicate (3 - (lg_sl ([.int v, .int n])).length) Slot.unset).toArray = ls at hl ⊢
  have hl : lv_has ls 3 [(0, .int v), (1, .int n)] := hl
  refine lv_iload_n hx hb dL_some_0 rfl (lv_at hl 0 rfl) ?_
  refine lv_iload_n hx hb dL_some_1 rfl (lv_at hl 1 rfl) ?_
  refine lv_irem hx hb dL_some_2 hn ?_
  refine lv_istore_n (lv' := [(2, .int (v - v / n * n)), (0, .int v), (1, .int n)]) hx hb dL_some_3 rfl hl (by decide) rfl (fun ls hl => ?_)
  refine lv_iload_n hx hb dL_some_4 rfl (lv_at hl 0 rfl) ?_
  unfold smv
  refine lv_if_ge (tgt := 14) hx hb dL_some_5 (by decide) (fun c5 => ?_) (fun c5 => ?_)
  · rw [if_neg (fun h => Int32.lt_irrefl (Int32.lt_of_lt_of_le h c5))]
    refine lv_iload_n hx hb dL_some_14 rfl (lv_at hl 0 rfl) ?_
    exact W.iret (v := (v - v / n * n)) hx hb hr (fun t ht hW => ⟨⟨_, (), rfl, rfl, (by rw [ht]; exact fun k x hx => absurd hx (by simp)), hD⟩, hS.F ht⟩) hS.2.2 dL_some_15
  · rw [if_pos (Int32.not_le.mp c5)]
    refine lv_iload_n hx hb dL_some_8 rfl (lv_at hl 0 rfl) ?_
    refine lv_iload_n hx hb dL_some_9 rfl (lv_at hl 2 rfl) ?_
    refine lv_iadd hx hb dL_some_10 ?_
    refine lv_goto (tgt := 15) hx hb dL_some_11 (by decide) ?_
    exact W.iret (v := (v - v / n * n + n)) hx hb hr (fun t ht hW => ⟨⟨_, (), rfl, rfl, (by rw [ht]; exact fun k x hx => absurd hx (by simp)), hD⟩, hS.F ht⟩) hS.2.2 dL_some_15
section LKF
variable {p : Program} {l : Launch} {e : Env} {R : Room} {s : State} {m : MethodId} {args : Array Value} {below : List Frame} {meth : Method} {c : Code} {H : Heap} {locs : List Loc} {cells slots : Nat} {Q : State → Prop}
variable {D : va_G} {A : Nat → Prop} {ws : va_W} {pc : Nat} {ls : Array Slot} {stk : List Value} {cc : ByteArray} {nL : Nat} {Ts : List Cond} {b L : Nat} {xs : Nat → Int32} {T : Nat → ClassId}
/-- a static call of a method that takes the script and leaves the world as it was -/
theorem lk_pure {y : MethodName} {bytes : ByteArray} {mxL : Nat} {wsc : List Cond} {rm : Room} {r : Int32} {As : List Value} {idx mc ms nA : Nat} {rt : FieldType} {st0 : List Value} (hrm : rm.cells = mc ∧ rm.slots = ms) (hM : ∀ sz : Nat, Met l y wsc rm (lk_Pc D T As b L xs sz) (zk_Qi r D [] (va_A [] sz) (va_A [] sz)) mc ms (va_A [] sz)) (S : CallFix p m c cc nL s args Ts RL) (cw : CallB R s args RL idx y bytes mxL (some rt) wsc rm mc ms nA ∧ (Cond.static y).before args s = true)
    (hK : va_K D vwCl (zk_ty T) s) (hN : zk_N s) (hX : zx_K A s s.heap) (hNc : zn_K s) (hS : va_S A s.heap H locs) (hA : ∀ q : Nat, s.heap.size ≤ q → A q) (hXs : va_X b L xs s s.heap) (hbl : b < s.heap.size) (hbA : ¬ A b) (hP : va_P D vwCl ws H) (hD : va_D A ws) (hn : As.length = nA) (hst0 : st0 = As.reverse ++ stk) (hsz : ls.size = nL) (hst : (stk.map fun v => v.category).sum ≤ 8) (hdg : decode cc pc = .ok (.invokestatic idx, 3)) (hf : cells + mc ≤ R.cells ∧ slots + ms ≤ R.slots)
    (kk : ∀ (H1 : Heap) (locs1 : List Loc), va_P D vwCl ws H1 → va_D A ws → va_S A s.heap H1 locs1 → W p l e R s m args below meth c H1 locs1 (cells + mc) (slots + ms) Q (F0 m (pc + 3) ls (.int r :: stk))) : W p l e R s m args below meth c H locs cells slots Q (F0 m pc ls st0) := by
  subst hst0
  have hcw : ∀ w : va_W, List.flatten [w] = w := fun w => by simp [List.flatten]
  have hP' : va_P D vwCl (List.flatten [ws]) H := by rw [hcw]; exact hP
  have hD' : va_D A (List.flatten [ws]) := by rw [hcw]; exact hD
  have hF := lk_AA hS hA
  refine zq_ciM (wf := List.flatten [ws]) (va_runS (As := As) (rest := stk) S (hM H.size) cw (lk_preS hK hN hX hNc hS hA hXs hbl hbA) rfl hn hsz rfl (lv_room hst) hdg hf) hS hF (fun H1 h1 h2 h3 => zw_back (cs := []) (rs := [ws]) (ds := []) (fs := [ws]) hP' hD' [] [0] rfl rfl (by decide) (by decide) rfl rfl [0] rfl (by decide) hF h1 h2 h3) (fun H1 locs1 hP1 hD1 hS1 => ?_)
  rw [hcw] at hP1 hD1
  exact kk H1 locs1 hP1 hD1 hS1
end LKF

/-! rows of mine: what nets takes; rows of its matrix -/
def wsN_Q : List Cond := wsV RL 198 RJ0 yJ0_charAt_5068e wsJ0_charAt_5068e ++ [.classLink RL 204 "[[Z", .arrayClass .boolean]
set_option maxRecDepth 100000 in
theorem gT_N_Q : GoodIn lw_tbl wsN_Q := goodIn_app (goodIn_app (lw_gi [(22, 21), (22, 22), (22, 23), (23, 0)] (by decide +kernel)) gT_J0_charAt_5068e) (lw_gi [(22, 14), (3, 12)] (by decide +kernel))
def ws_ne : List Cond := Cond.code yL_nets cL_nets 12 (some .boolean) :: (wsY ++ wsN_Q)
theorem gT_ne : GoodIn lw_tbl (va_wsS RL 179 yL_nets ws_ne) := goodIn_app (lw_gi [(22, 11), (22, 12), (3, 21)] (by decide +kernel)) (goodIn_c (lw_gi [(22, 13)] rfl) (goodIn_app gT_Y gT_N_Q))
theorem ge_y {a : List Cond} (h : GoodIn wsY a) : GoodIn ws_ne a := fun w hw => ⟨List.mem_cons_of_mem _ (List.mem_append_left _ (h w hw).1), (h w hw).2⟩
theorem ge_ch : GoodIn ws_ne (wsV RL 198 RJ0 yJ0_charAt_5068e wsJ0_charAt_5068e) := fun w hw => ⟨List.mem_cons_of_mem _ (List.mem_append_right _ (List.mem_append_left _ hw)), (gT_N_Q w (List.mem_append_left _ hw)).2⟩
theorem ge_204 : Cond.classLink RL 204 "[[Z" ∈ ws_ne := List.mem_cons_of_mem _ (List.mem_append_right _ (List.mem_append_right _ List.mem_cons_self))
theorem ge_z : Cond.arrayClass .boolean ∈ ws_ne := List.mem_cons_of_mem _ (List.mem_append_right _ (List.mem_append_right _ (List.mem_cons_of_mem _ List.mem_cons_self)))
theorem ge_i : Cond.arrayClass .int ∈ ws_ne := List.mem_cons_of_mem _ (List.mem_append_left _ (gY_Yx _ (by decide +kernel : Cond.arrayClass .int ∈ wsYx)).1)
theorem va_AOA.moved {ty : FieldType} {u U : State} (hvm : u.vm.Alike U.vm) (h : va_AOA ty u) : va_AOA ty U := over_moved hvm h
def ne_Pc (D : va_G) (T : Nat → ClassId) (av : List Value) (b L ad vl : Nat) (xs : Nat → Int32) (sz : Nat) : Array Value → State → Prop := va_Pc av (fun U => U.heap.size = sz ∧ va_K D vwCl (zk_ty T) U ∧ zk_N U ∧ zx_K (va_A [] sz) U U.heap ∧ zn_K U ∧ va_X b L xs U U.heap ∧ b < sz ∧ ns_K ad vl (va_A [] sz) U U.heap ∧ va_AOA .boolean U)
theorem ne_blind {D : va_G} {T : Nat → ClassId} {av : List Value} {b L ad vl : Nat} {xs : Nat → Int32} {sz : Nat} : FrameBlind (ne_Pc D T av b L ad vl xs sz) := fun a U g mk q => by
  obtain ⟨q0, q1, qK, qN, qX, qC, qx, qb, qz, qa⟩ := q
  exact ⟨q0, q1, va_K.moved (u := U) (U := U.calling g mk a) (Vm.Alike.refl U.vm) qK, zk_N_same (u := U) (U := U.calling g mk a) rfl qN, zx_K_same (u := U) (U := U.calling g mk a) rfl rfl qX, zn_K_moved (u := U) (U := U.calling g mk a) (Vm.Alike.refl U.vm) qC, va_X.moved (u := U) (U := U.calling g mk a) (Vm.Alike.refl U.vm) qx, qb, ns_same (u := U) (U := U.calling g mk a) rfl qz, va_AOA.moved (u := U) (U := U.calling g mk a) (Vm.Alike.refl U.vm) qa⟩
theorem ne_preS {D : va_G} {T : Nat → ClassId} {s : State} {H : Heap} {locs : List Loc} {As : List Value} {A : Nat → Prop} {b L ad vl : Nat} {xs : Nat → Int32} (hK : va_K D vwCl (zk_ty T) s) (hN : zk_N s) (hX : zx_K A s s.heap) (hNc : zn_K s) (hS : va_S A s.heap H locs) (hA : ∀ q : Nat, s.heap.size ≤ q → A q) (hx : va_X b L xs s s.heap) (hbl : b < s.heap.size) (hbA : ¬ A b) (hZ : ns_K ad vl A s s.heap) (hAO : va_AOA .boolean s) : PreS s H (ne_Pc D T As b L ad vl xs H.size) As := ⟨ne_blind, fun U hU hW => ⟨rfl, by rw [hU], va_K.moved hW.alike hK, zk_N_warm hW hN, zx_K_go hX hS (lk_AA hS hA) hU hW, zn_K_moved hW.alike hNc, va_X.moved hW.alike (by rw [hU]; exact va_X.kept hx (hS.2.1 b hbl hbA)), Nat.lt_of_lt_of_le hbl hS.1, ns_go hZ hS hA hU hW, va_AOA.moved hW.alike hAO⟩⟩
section NEV
variable {p : Program} {l : Launch} {e : Env} {R : Room} {s : State} {m : MethodId} {args : Array Value} {below : List Frame} {meth : Method} {c : Code} {H : Heap} {locs : List Loc} {cells slots : Nat} {Q : State → Prop}
variable {D : va_G} {A : Nat → Prop} {ws : va_W} {pc : Nat} {ls : Array Slot} {stk : List Value} {cc : ByteArray} {nL : Nat} {Ts : List Cond} {b L : Nat} {xs : Nat → Int32} {T : Nat → ClassId}
/-- a static call that leaves the world as it was, whatever it takes -/
theorem ne_call {Pc : Nat → Array Value → State → Prop} {y : MethodName} {bytes : ByteArray} {mxL : Nat} {wsc : List Cond} {rm : Room} {r : Int32} {As : List Value} {idx mc ms nA : Nat} {rt : FieldType} {st0 : List Value} (hM : ∀ sz : Nat, Met l y wsc rm (Pc sz) (zk_Qi r D [] (va_A [] sz) (va_A [] sz)) mc ms (va_A [] sz)) (S : CallFix p m c cc nL s args Ts RL) (cw : CallB R s args RL idx y bytes mxL (some rt) wsc rm mc ms nA ∧ (Cond.static y).before args s = true)
    (hp : PreS s H (Pc H.size) As) (hS : va_S A s.heap H locs) (hA : ∀ q : Nat, s.heap.size ≤ q → A q) (hP : va_P D vwCl ws H) (hD : va_D A ws) (hn : As.length = nA) (hst0 : st0 = As.reverse ++ stk) (hsz : ls.size = nL) (hst : (stk.map fun v => v.category).sum ≤ 8) (hdg : decode cc pc = .ok (.invokestatic idx, 3)) (hf : cells + mc ≤ R.cells ∧ slots + ms ≤ R.slots)
    (kk : ∀ (H1 : Heap) (locs1 : List Loc), va_P D vwCl ws H1 → va_D A ws → va_S A s.heap H1 locs1 → W p l e R s m args below meth c H1 locs1 (cells + mc) (slots + ms) Q (F0 m (pc + 3) ls (.int r :: stk))) : W p l e R s m args below meth c H locs cells slots Q (F0 m pc ls st0) := by
  subst hst0
  have hcw : ∀ w : va_W, List.flatten [w] = w := fun w => by simp [List.flatten]
  have hP' : va_P D vwCl (List.flatten [ws]) H := by rw [hcw]; exact hP
  have hD' : va_D A (List.flatten [ws]) := by rw [hcw]; exact hD
  have hF := lk_AA hS hA
  refine zq_ciM (wf := List.flatten [ws]) (va_runS (As := As) (rest := stk) S (hM H.size) cw hp rfl hn hsz rfl (lv_room hst) hdg hf) hS hF (fun H1 h1 h2 h3 => zw_back (cs := []) (rs := [ws]) (ds := []) (fs := [ws]) hP' hD' [] [0] rfl rfl (by decide) (by decide) rfl rfl [0] rfl (by decide) hF h1 h2 h3) (fun H1 locs1 hP1 hD1 hS1 => ?_)
  rw [hcw] at hP1 hD1
  exact kk H1 locs1 hP1 hD1 hS1
/-- charAt of the law's text -/
theorem ne_charAt {ad vl k : Nat} (hk : k < 4) (S : CallFix p m c cc nL s args Ts RL) (cw : CallW R s args RL RJ0 198 yJ0_charAt_5068e cJ0_charAt_5068e 2 (some .char) wsJ0_charAt_5068e ({ frames := 3, cells := 0, slots := 0, locals := 64 } : Room) 0 0 1)
    (hZ : ns_K ad vl A s s.heap) (hS : va_S A s.heap H locs) (hA : ∀ q : Nat, s.heap.size ≤ q → A q) (hP : va_P D vwCl ws H) (hD : va_D A ws) (hsz : ls.size = nL) (hst : (stk.map fun v => v.category).sum ≤ 8) (hdg : decode cc pc = .ok (.invokevirtual 198, 3)) (hf : cells + 0 ≤ R.cells ∧ slots + 0 ≤ R.slots)
    (kk : ∀ (H1 : Heap) (locs1 : List Loc), va_P D vwCl ws H1 → va_D A ws → va_S A s.heap H1 locs1 → W p l e R s m args below meth c H1 locs1 cells slots Q (F0 m (pc + 3) ls (.int (nI (chK k)) :: stk))) : W p l e R s m args below meth c H locs cells slots Q (F0 m pc ls (.int (nI k) :: .ref ad :: stk)) := by
  have hcw : ∀ w : va_W, List.flatten [w] = w := fun w => by simp [List.flatten]
  have hP' : va_P D vwCl (List.flatten [ws]) H := by rw [hcw]; exact hP
  have hD' : va_D A (List.flatten [ws]) := by rw [hcw]; exact hD
  have hF := lk_AA hS hA
  refine zq_ciM (mc := 0) (ms := 0) (wf := List.flatten [ws]) (va_runV (As := [.int (nI k)]) (rest := stk) S (k_J0 l D ad vl H.size k hk) cw (nj_preV hZ hS hA) rfl rfl hsz rfl (lv_room hst) hdg hf) hS hF (fun H1 h1 h2 h3 => zw_back (cs := []) (rs := [ws]) (ds := []) (fs := [ws]) hP' hD' [] [0] rfl rfl (by decide) (by decide) rfl rfl [0] rfl (by decide) hF h1 h2 h3) (fun H1 locs1 hP1 hD1 hS1 => ?_)
  rw [hcw] at hP1 hD1
  exact kk H1 locs1 hP1 hD1 hS1
end NEV
section NEM
variable {p : Program} {l : Launch} {e : Env} {R : Room} {s : State} {m : MethodId} {args : Array Value} {below : List Frame} {meth : Method} {c : Code} {H : Heap} {locs : List Loc} {cells slots : Nat} {Q : State → Prop}
variable {cc : ByteArray} {pc : Nat} {ls : Array Slot} {rest : List Value} {D : va_G} {A : Nat → Prop} {a : Nat} {tys : List (ClassId × FieldType)} {ws : va_W} {H0 : Heap}
theorem ne_aald (hx : p.tables.exec = Jvm.exec) (hb : c.code = cc) (hK : va_K D vwCl tys s) (hP : va_P D vwCl ws H) (q0 t0 : Nat) {cA : ClassId} {ty : FieldType} {n r : Nat} {f : Nat → Option Nat} (ha : ws[q0]? = some (a, .inl (cA, n, .inr (.inr (.inr (.inr f)))))) (ht : tys[t0]? = some (cA, .array ty)) {i : Int32} (hin : vp_in i n) (hr : f i.toNatClampNeg = some r) (hdg : decode cc pc = .ok (.aaload, 1))
    (kk : W p l e R s m args below meth c H locs cells slots Q (F0 m (pc + 1) ls (.ref r :: rest))) : W p l e R s m args below meth c H locs cells slots Q (F0 m pc ls (.int i :: .ref a :: rest)) := by
  have hlt : i.toNatClampNeg < n := Nat.not_le.mp fun q => hin (Or.inr q)
  have hv : Value.ref r = va_rf (f i.toNatClampNeg) := by rw [hr]; rfl
  rw [hv] at kk
  exact W.aald (v := va_rf (f i.toNatClampNeg)) (ty := .array ty) hx hb (hP q0 _ ha) ((hK.2 t0 _ ht).1 n (fun j => va_rf (f j))) rfl (fun q => by cases q) (by show ¬ (i < 0 ∨ (arrV _ _ _).slots.size ≤ _); rw [arrV_size]; exact hin) (by show (arrV _ _ _).slots[_]? = _; rw [arrV_read _ _ hlt]) rfl rfl hdg kk
theorem ne_bald {X : va_W} {LP : List Nat} {M : Nat → Nat → Int32} {cy : ClassId} {n r : Nat} (hx : p.tables.exec = Jvm.exec) (hb : c.code = cc) (hK : va_K D vwCl tys s) (hP : va_P D vwCl (X ++ va_pl LP (fun a => .inl (cy, n, .inl (M a)))) H) (t0 : Nat) (hr : r ∈ LP) (ht : tys[t0]? = some (cy, .boolean)) {i : Int32} (hin : vp_in i n) (hdg : decode cc pc = .ok (.baload, 1))
    (kk : W p l e R s m args below meth c H locs cells slots Q (F0 m (pc + 1) ls (.int (M r i.toNatClampNeg) :: rest))) : W p l e R s m args below meth c H locs cells slots Q (F0 m pc ls (.int i :: .ref r :: rest)) := by
  obtain ⟨k, hk⟩ := va_pl_get (X := X) (f := fun a => .inl (cy, n, .inl (M a))) hr
  exact va_zald hx hb hK hP k t0 hk ht hin hdg kk
theorem ne_bast {X : va_W} {LP : List Nat} {M : Nat → Nat → Int32} {cy : ClassId} {n r : Nat} (hx : p.tables.exec = Jvm.exec) (hb : c.code = cc) (hK : va_K D vwCl tys s) (hP : va_P D vwCl (X ++ va_pl LP (fun a => .inl (cy, n, .inl (M a)))) H) (hD : va_D A (X ++ va_pl LP (fun a => .inl (cy, n, .inl (M a))))) (hS : va_S A H0 H locs) (t0 : Nat) (hr : r ∈ LP) (ht : tys[t0]? = some (cy, .boolean)) {i x : Int32} (hn : vp_nar .boolean x = x) (hin : vp_in i n) (hdg : decode cc pc = .ok (.bastore, 1))
    (kk : ∀ (H1 : Heap) (locs1 : List Loc), va_P D vwCl (X ++ va_pl LP (fun a => .inl (cy, n, .inl (va_up M r (upd (M r) i.toNatClampNeg x) a)))) H1 → va_D A (X ++ va_pl LP (fun a => .inl (cy, n, .inl (va_up M r (upd (M r) i.toNatClampNeg x) a)))) → va_S A H0 H1 locs1 → W p l e R s m args below meth c H1 locs1 cells slots Q (F0 m (pc + 1) ls rest)) : W p l e R s m args below meth c H locs cells slots Q (F0 m pc ls (.int x :: .int i :: .ref r :: rest)) := by
  obtain ⟨k, hk⟩ := va_pl_get (X := X) (f := fun a => .inl (cy, n, .inl (M a))) hr
  refine va_zast hx hb hK hP hD hS k t0 hk ht hin hdg (fun H1 locs1 h1 h2 h3 => ?_)
  rw [hn] at h1 h2
  have ew : (X ++ va_pl LP (fun a => .inl (cy, n, .inl (M a)))).set k (r, .inl (cy, n, .inl (upd (M r) i.toNatClampNeg x))) = X ++ va_pl LP (fun a => .inl (cy, n, .inl (va_up M r (upd (M r) i.toNatClampNeg x) a))) := by
    rw [va_pl_set hD hr hk]
    refine congrArg (X ++ ·) (va_pl_congr (fun a => ?_))
    unfold va_up
    by_cases w : a = r
    · rw [if_pos w, if_pos w]
    · rw [if_neg w, if_neg w]
  rw [ew] at h1 h2
  exact kk H1 locs1 h1 h2 h3
end NEM

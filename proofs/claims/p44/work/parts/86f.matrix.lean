/-! rows of mine: nets: its matrix -/
abbrev nwX (T : Nat → ClassId) (q : Nat → Nat) (o : Ob) (q3 mm : Nat) (pl : Nat → Int32) (q7 : Nat) (cA : ClassId) (r : Nat → Nat) : va_W := ow T q o ++ [(q3, .inl (T 0, mm, .inl pl)), (q7, .inl (cA, mm, .inr (.inr (.inr (.inr (fun i => if i < mm then some (r i) else none))))))]
abbrev nwP (T : Nat → ClassId) (mm : Nat) (r : Nat → Nat) (M : Nat → Nat → Int32) : va_W := va_pl ((List.range mm).map r) (fun a => .inl (T 1, mm, .inl (M a)))
def MI (K mm : Nat) (r : Nat → Nat) (i j : Nat) (M : Nat → Nat → Int32) : Prop := (∀ a, a < i → ∀ b, b < mm → M (r a) b = bv K mm a b) ∧ ∀ b, b < j → M (r i) b = bv K mm i b
theorem bv_nar {K mm i j : Nat} : vp_nar .boolean (bv K mm i j) = bv K mm i j := by
  unfold bv
  cases isv K mm i j <;> rfl
theorem mi_step {K mm i j : Nat} {r : Nat → Nat} {M : Nat → Nat → Int32} (h : MI K mm r i j M) (hr : ∀ i j, i < mm → j < mm → r i = r j → i = j) (hi : i < mm) (hj : j < mm) (hm : mm < 9) : MI K mm r i (j + 1) (va_up M (r i) (upd (M (r i)) (nI j).toNatClampNeg (bv K mm i j))) := by
  rw [nI_clamp (by omega)]
  refine ⟨fun a ha b hb => ?_, fun b hb => ?_⟩
  · rw [va_up_ne _ _ (fun w => by have := hr a i (by omega) hi w; omega)]
    exact h.1 a ha b hb
  · rw [va_up_self]
    unfold upd
    by_cases w : b = j
    · rw [if_pos w, w]
    · rw [if_neg w]
      exact h.2 b (by omega)
theorem mi_next {K mm i : Nat} {r : Nat → Nat} {M : Nat → Nat → Int32} (h : MI K mm r i mm M) : MI K mm r (i + 1) 0 M := by
  refine ⟨fun a ha b hb => ?_, fun b hb => absurd hb (Nat.not_lt_zero _)⟩
  by_cases w : a = i
  · rw [w]; exact h.2 b hb
  · exact h.1 a (by omega) b hb
set_option maxHeartbeats 8000000 in
set_option maxRecDepth 100000 in
theorem nets_203 {p : Program} {l : Launch} {e : Env} {s : State} {m : MethodId} {args : Array Value} {below : List Frame} {meth : Method} {c : Code} {Q : State → Prop} {A : Nat → Prop} {D : va_G} {T : Nat → ClassId} {q : Nat → Nat} {b mm K go w q3 q7 : Nat} {o : Ob} {pl : Nat → Int32} {cA : ClassId} {r : Nat → Nat} {cells slots : Nat} (hx : p.tables.exec = Jvm.exec) (hb : c.code = cL_nets) (hK : va_K D vwCl (zk_ty T) s) (hK2 : va_K D vwCl (zk_ty T ++ [(cA, .array .boolean)]) s) (hm2 : 2 ≤ mm) (hm : mm < 9) (hK9 : K < 200) (hr : ∀ i j, i < mm → j < mm → r i = r j → i = j) {i : Nat} (hi : i < mm) (kk : ∀ (H : Heap) (locs : List Loc) (ls : Array Slot) (M : Nat → Nat → Int32), MI K mm r i mm M → va_P D vwCl (nwX T q o q3 mm pl q7 cA r ++ nwP T mm r M) H → va_D A (nwX T q o q3 mm pl q7 cA r ++ nwP T mm r M) → va_S A s.heap H locs → lv_has ls 12 ((10, .int (nI mm)) :: (9, .int (nI i)) :: (8, .int (nI (cn1 K mm i + cn2 K mm i mm))) :: (7, .ref q7) :: (6, .int (nI w)) :: (5, .int (nI K)) :: (4, .int (nI go)) :: (3, .ref q3) :: (2, .int (nI mm)) :: [(1, .ref (q 0)), (0, .ref b)]) → W p l e ({ frames := 14, cells := 30000, slots := 200000, locals := 320 } : Room) s m args below meth c H locs cells slots Q (F0 m 332 ls [])) : ∀ (k j : Nat) (H : Heap) (locs : List Loc) (ls : Array Slot) (M : Nat → Nat → Int32), j + k = mm → MI K mm r i j M → va_P D vwCl (nwX T q o q3 mm pl q7 cA r ++ nwP T mm r M) H → va_D A (nwX T q o q3 mm pl q7 cA r ++ nwP T mm r M) → va_S A s.heap H locs → lv_has ls 12 ((10, .int (nI j)) :: (9, .int (nI i)) :: (8, .int (nI (cn1 K mm i + cn2 K mm i j))) :: (7, .ref q7) :: (6, .int (nI w)) :: (5, .int (nI K)) :: (4, .int (nI go)) :: (3, .ref q3) :: (2, .int (nI mm)) :: [(1, .ref (q 0)), (0, .ref b)]) → W p l e ({ frames := 14, cells := 30000, slots := 200000, locals := 320 } : Room) s m args below meth c H locs cells slots Q (F0 m 203 ls [])
  | 0, j, H, locs, ls, M, hk, hM, hP, hD, hS, hl => by
    obtain rfl : j = mm := by omega
    refine lv_iload hx hb dL_nets_203 (lv_at hl 0 rfl) ?_
    refine lv_iload_n hx hb dL_nets_205 rfl (lv_at hl 8 rfl) ?_
    exact lv_icmp_ge (tgt := 332) hx hb dL_nets_206 (by decide) (fun _ => kk H locs ls M hM hP hD hS hl) (fun c9 => absurd (nI_le (Nat.le_refl _) (by omega)) c9)
  | k + 1, j, H, locs, ls, M, hk, hM, hP, hD, hS, hl => by
    have hj : j < mm := by omega
    have hmem : r i ∈ (List.range mm).map r := List.mem_map.mpr ⟨i, List.mem_range.mpr hi, rfl⟩
    refine lv_iload hx hb dL_nets_203 (lv_at hl 0 rfl) ?_
    refine lv_iload_n hx hb dL_nets_205 rfl (lv_at hl 8 rfl) ?_
    refine lv_icmp_ge (tgt := 332) hx hb dL_nets_206 (by decide) (fun c9 => absurd c9 (nI_ge hj (by omega))) (fun _ => ?_)
    refine nets_nx hx hb hm2 hm hi hj hK9 hl ?_
    refine lv_istore (lv' := (11, .int (if isN K mm i j then 1 else 0)) :: ((10, .int (nI j)) :: (9, .int (nI i)) :: (8, .int (nI (cn1 K mm i + cn2 K mm i j))) :: (7, .ref q7) :: (6, .int (nI w)) :: (5, .int (nI K)) :: (4, .int (nI go)) :: (3, .ref q3) :: (2, .int (nI mm)) :: [(1, .ref (q 0)), (0, .ref b)])) hx hb dL_nets_240 hl (by decide) rfl (fun ls hl => ?_)
    refine lv_aload hx hb dL_nets_242 (lv_at hl 4 rfl) ?_
    refine lv_iload hx hb dL_nets_244 (lv_at hl 2 rfl) ?_
    refine ne_aald hx hb hK2 hP 52 5 rfl rfl (vp_in_nI hi (by omega)) (r := r i) (by show (if (nI i).toNatClampNeg < mm then some (r (nI i).toNatClampNeg) else none) = _; rw [nI_clamp (by omega), if_pos hi]) dL_nets_246 ?_
    refine lv_iload hx hb dL_nets_247 (lv_at hl 1 rfl) ?_
    refine nets_cd hx hb hm2 hm hi hj hK9 hl ?_
    refine ne_bast hx hb hK hP hD hS 1 hmem rfl bv_nar (vp_in_nI hj (by omega)) dL_nets_304 (fun H locs hP hD hS => ?_)
    have hM := mi_step hM hr hi hj hm
    have e1 : (va_up M (r i) (upd (M (r i)) (nI j).toNatClampNeg (bv K mm i j))) (r i) (nI j).toNatClampNeg = bv K mm i j := by rw [va_up_self]; unfold upd; rw [if_pos rfl]
    generalize va_up M (r i) (upd (M (r i)) (nI j).toNatClampNeg (bv K mm i j)) = M2 at hP hD hM e1
    refine lv_iload hx hb dL_nets_305 (lv_at hl 3 rfl) ?_
    refine lv_aload hx hb dL_nets_307 (lv_at hl 4 rfl) ?_
    refine lv_iload hx hb dL_nets_309 (lv_at hl 2 rfl) ?_
    refine ne_aald hx hb hK2 hP 52 5 rfl rfl (vp_in_nI hi (by omega)) (r := r i) (by show (if (nI i).toNatClampNeg < mm then some (r (nI i).toNatClampNeg) else none) = _; rw [nI_clamp (by omega), if_pos hi]) dL_nets_311 ?_
    refine lv_iload hx hb dL_nets_312 (lv_at hl 1 rfl) ?_
    refine ne_bald hx hb hK hP 1 hmem rfl (vp_in_nI hj (by omega)) dL_nets_314 ?_
    rw [e1]
    cases hv : isv K mm i j with
    | false =>
      rw [show bv K mm i j = 0 by unfold bv; rw [hv]; rfl]
      refine lv_if_eq (tgt := 322) hx hb dL_nets_315 (by decide) (fun _ => ?_) (fun c9 => absurd rfl c9)
      refine lv_iconst (v := (0 : Int32)) hx hb dL_nets_322 (by decide) ?_
      refine lv_iadd hx hb dL_nets_323 ?_
      rw [Int32.add_zero]
      refine lv_istore (lv' := (8, .int (nI (cn1 K mm i + cn2 K mm i j))) :: (11, .int (if isN K mm i j then 1 else 0)) :: (10, .int (nI j)) :: (9, .int (nI i)) :: (7, .ref q7) :: (6, .int (nI w)) :: (5, .int (nI K)) :: (4, .int (nI go)) :: (3, .ref q3) :: (2, .int (nI mm)) :: [(1, .ref (q 0)), (0, .ref b)]) hx hb dL_nets_324 hl (by decide) rfl (fun ls hl => ?_)
      refine lv_iinc (v := nI j + (1 : Int32)) (lv' := (10, .int (nI j + (1 : Int32))) :: (8, .int (nI (cn1 K mm i + cn2 K mm i j))) :: (11, .int (if isN K mm i j then 1 else 0)) :: (9, .int (nI i)) :: (7, .ref q7) :: (6, .int (nI w)) :: (5, .int (nI K)) :: (4, .int (nI go)) :: (3, .ref q3) :: (2, .int (nI mm)) :: [(1, .ref (q 0)), (0, .ref b)]) hx hb dL_nets_326 hl (k := 2) rfl rfl (by decide) rfl (fun ls hl => ?_)
      rw [nI_1] at hl
      refine lv_goto (tgt := 203) hx hb dL_nets_329 (by decide) ?_
      have hl : lv_has ls 12 ((10, .int (nI (j + 1))) :: (9, .int (nI i)) :: (8, .int (nI (cn1 K mm i + cn2 K mm i (j + 1)))) :: (7, .ref q7) :: (6, .int (nI w)) :: (5, .int (nI K)) :: (4, .int (nI go)) :: (3, .ref q3) :: (2, .int (nI mm)) :: [(1, .ref (q 0)), (0, .ref b)]) := by
        rw [show cn2 K mm i (j + 1) = cn2 K mm i j + (if isv K mm i j then 1 else 0) from rfl, hv]
        exact lv_sub hl [0, 3, 1, 4, 5, 6, 7, 8, 9, 10, 11] rfl
      exact nets_203 hx hb hK hK2 hm2 hm hK9 hr hi kk k (j + 1) H locs ls M2 (by omega) hM hP hD hS hl
    | true =>
      rw [show bv K mm i j = 1 by unfold bv; rw [hv]; rfl]
      refine lv_if_eq (tgt := 322) hx hb dL_nets_315 (by decide) (fun c9 => absurd c9 (show ¬ (1 : Int32) = 0 by decide)) (fun _ => ?_)
      refine lv_iconst (v := (1 : Int32)) hx hb dL_nets_318 (by decide) ?_
      refine lv_goto (tgt := 323) hx hb dL_nets_319 (by decide) ?_
      refine lv_iadd hx hb dL_nets_323 ?_
      rw [nI_1]
      refine lv_istore (lv' := (8, .int (nI (cn1 K mm i + cn2 K mm i j + 1))) :: (11, .int (if isN K mm i j then 1 else 0)) :: (10, .int (nI j)) :: (9, .int (nI i)) :: (7, .ref q7) :: (6, .int (nI w)) :: (5, .int (nI K)) :: (4, .int (nI go)) :: (3, .ref q3) :: (2, .int (nI mm)) :: [(1, .ref (q 0)), (0, .ref b)]) hx hb dL_nets_324 hl (by decide) rfl (fun ls hl => ?_)
      refine lv_iinc (v := nI j + (1 : Int32)) (lv' := (10, .int (nI j + (1 : Int32))) :: (8, .int (nI (cn1 K mm i + cn2 K mm i j + 1))) :: (11, .int (if isN K mm i j then 1 else 0)) :: (9, .int (nI i)) :: (7, .ref q7) :: (6, .int (nI w)) :: (5, .int (nI K)) :: (4, .int (nI go)) :: (3, .ref q3) :: (2, .int (nI mm)) :: [(1, .ref (q 0)), (0, .ref b)]) hx hb dL_nets_326 hl (k := 2) rfl rfl (by decide) rfl (fun ls hl => ?_)
      rw [nI_1] at hl
      refine lv_goto (tgt := 203) hx hb dL_nets_329 (by decide) ?_
      have hl : lv_has ls 12 ((10, .int (nI (j + 1))) :: (9, .int (nI i)) :: (8, .int (nI (cn1 K mm i + cn2 K mm i (j + 1)))) :: (7, .ref q7) :: (6, .int (nI w)) :: (5, .int (nI K)) :: (4, .int (nI go)) :: (3, .ref q3) :: (2, .int (nI mm)) :: [(1, .ref (q 0)), (0, .ref b)]) := by
        rw [show cn2 K mm i (j + 1) = cn2 K mm i j + (if isv K mm i j then 1 else 0) from rfl, hv]
        exact lv_sub hl [0, 3, 1, 4, 5, 6, 7, 8, 9, 10, 11] rfl
      exact nets_203 hx hb hK hK2 hm2 hm hK9 hr hi kk k (j + 1) H locs ls M2 (by omega) hM hP hD hS hl
set_option maxHeartbeats 8000000 in
set_option maxRecDepth 100000 in
theorem nets_194 {p : Program} {l : Launch} {e : Env} {s : State} {m : MethodId} {args : Array Value} {below : List Frame} {meth : Method} {c : Code} {Q : State → Prop} {A : Nat → Prop} {D : va_G} {T : Nat → ClassId} {q : Nat → Nat} {b mm K go w q3 q7 : Nat} {o : Ob} {pl : Nat → Int32} {cA : ClassId} {r : Nat → Nat} {cells slots : Nat} (hx : p.tables.exec = Jvm.exec) (hb : c.code = cL_nets) (hK : va_K D vwCl (zk_ty T) s) (hK2 : va_K D vwCl (zk_ty T ++ [(cA, .array .boolean)]) s) (hm2 : 2 ≤ mm) (hm : mm < 9) (hK9 : K < 200) (hr : ∀ i j, i < mm → j < mm → r i = r j → i = j) (kk : ∀ (H : Heap) (locs : List Loc) (ls : Array Slot) (M : Nat → Nat → Int32), MI K mm r mm 0 M → va_P D vwCl (nwX T q o q3 mm pl q7 cA r ++ nwP T mm r M) H → va_D A (nwX T q o q3 mm pl q7 cA r ++ nwP T mm r M) → va_S A s.heap H locs → lv_has ls 12 ((9, .int (nI mm)) :: (8, .int (nI (cn1 K mm mm))) :: (7, .ref q7) :: (6, .int (nI w)) :: (5, .int (nI K)) :: (4, .int (nI go)) :: (3, .ref q3) :: (2, .int (nI mm)) :: [(1, .ref (q 0)), (0, .ref b)]) → W p l e ({ frames := 14, cells := 30000, slots := 200000, locals := 320 } : Room) s m args below meth c H locs cells slots Q (F0 m 338 ls [])) : ∀ (k i : Nat) (H : Heap) (locs : List Loc) (ls : Array Slot) (M : Nat → Nat → Int32), i + k = mm → MI K mm r i 0 M → va_P D vwCl (nwX T q o q3 mm pl q7 cA r ++ nwP T mm r M) H → va_D A (nwX T q o q3 mm pl q7 cA r ++ nwP T mm r M) → va_S A s.heap H locs → lv_has ls 12 ((9, .int (nI i)) :: (8, .int (nI (cn1 K mm i))) :: (7, .ref q7) :: (6, .int (nI w)) :: (5, .int (nI K)) :: (4, .int (nI go)) :: (3, .ref q3) :: (2, .int (nI mm)) :: [(1, .ref (q 0)), (0, .ref b)]) → W p l e ({ frames := 14, cells := 30000, slots := 200000, locals := 320 } : Room) s m args below meth c H locs cells slots Q (F0 m 194 ls [])
  | 0, i, H, locs, ls, M, hk, hM, hP, hD, hS, hl => by
    obtain rfl : i = mm := by omega
    refine lv_iload hx hb dL_nets_194 (lv_at hl 0 rfl) ?_
    refine lv_iload_n hx hb dL_nets_196 rfl (lv_at hl 7 rfl) ?_
    exact lv_icmp_ge (tgt := 338) hx hb dL_nets_197 (by decide) (fun _ => kk H locs ls M hM hP hD hS hl) (fun c9 => absurd (nI_le (Nat.le_refl _) (by omega)) c9)
  | k + 1, i, H, locs, ls, M, hk, hM, hP, hD, hS, hl => by
    have hi : i < mm := by omega
    refine lv_iload hx hb dL_nets_194 (lv_at hl 0 rfl) ?_
    refine lv_iload_n hx hb dL_nets_196 rfl (lv_at hl 7 rfl) ?_
    refine lv_icmp_ge (tgt := 338) hx hb dL_nets_197 (by decide) (fun c9 => absurd c9 (nI_ge hi (by omega))) (fun _ => ?_)
    refine lv_iconst (v := nI 0) hx hb dL_nets_200 (by decide) ?_
    refine lv_istore (lv' := ((10, .int (nI 0)) :: (9, .int (nI i)) :: (8, .int (nI (cn1 K mm i))) :: (7, .ref q7) :: (6, .int (nI w)) :: (5, .int (nI K)) :: (4, .int (nI go)) :: (3, .ref q3) :: (2, .int (nI mm)) :: [(1, .ref (q 0)), (0, .ref b)])) hx hb dL_nets_201 hl (by decide) rfl (fun ls hl => ?_)
    refine nets_203 hx hb hK hK2 hm2 hm hK9 hr hi (fun H locs ls M hM hP hD hS hl => ?_) mm 0 H locs ls M (by omega) hM hP hD hS hl
    refine lv_iinc (v := nI i + (1 : Int32)) (lv' := (9, .int (nI i + (1 : Int32))) :: (10, .int (nI mm)) :: (8, .int (nI (cn1 K mm i + cn2 K mm i mm))) :: (7, .ref q7) :: (6, .int (nI w)) :: (5, .int (nI K)) :: (4, .int (nI go)) :: (3, .ref q3) :: (2, .int (nI mm)) :: [(1, .ref (q 0)), (0, .ref b)]) hx hb dL_nets_332 hl (k := 1) rfl rfl (by decide) rfl (fun ls hl => ?_)
    rw [nI_1] at hl
    refine lv_goto (tgt := 194) hx hb dL_nets_335 (by decide) ?_
    have hl : lv_has ls 12 ((9, .int (nI (i + 1))) :: (8, .int (nI (cn1 K mm (i + 1)))) :: (7, .ref q7) :: (6, .int (nI w)) :: (5, .int (nI K)) :: (4, .int (nI go)) :: (3, .ref q3) :: (2, .int (nI mm)) :: [(1, .ref (q 0)), (0, .ref b)]) := lv_sub hl [0, 2, 3, 4, 5, 6, 7, 8, 9, 10] rfl
    exact nets_194 hx hb hK hK2 hm2 hm hK9 hr kk k (i + 1) H locs ls M (by omega) (mi_next hM) hP hD hS hl

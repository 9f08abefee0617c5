/-! rows of mine: nets: a cell of its matrix -/
def bv (K mm i j : Nat) : Int32 := if isv K mm i j then 1 else 0
section NEC
variable {p : Program} {l : Launch} {e : Env} {R : Room} {s : State} {m : MethodId} {args : Array Value} {below : List Frame} {meth : Method} {c : Code} {H : Heap} {locs : List Loc} {cells slots : Nat} {Q : State → Prop} {ls : Array Slot} {stk : List Value}
theorem nets_nx {K mm i j : Nat} {x8 x7 x6 x4 x3 : Value} {lv : List (Nat × Value)} (hx : p.tables.exec = Jvm.exec) (hb : c.code = cL_nets) (hm2 : 2 ≤ mm) (hm : mm < 9) (hi : i < mm) (hj : j < mm) (hKs : K < 200) (hl : lv_has ls 12 ((10, .int (nI j)) :: (9, .int (nI i)) :: (8, x8) :: (7, x7) :: (6, x6) :: (5, .int (nI K)) :: (4, x4) :: (3, x3) :: (2, .int (nI mm)) :: lv)) (kk : W p l e R s m args below meth c H locs cells slots Q (F0 m 240 ls [.int (if isN K mm i j then 1 else 0)])) : W p l e R s m args below meth c H locs cells slots Q (F0 m 209 ls []) := by
  refine lv_iload hx hb dL_nets_209 (lv_at hl 0 rfl) ?_
  refine lv_iload hx hb dL_nets_211 (lv_at hl 1 rfl) ?_
  refine lv_iconst (v := (1 : Int32)) hx hb dL_nets_213 (by decide) ?_
  refine lv_iadd hx hb dL_nets_214 ?_
  rw [nI_1]
  refine lv_iload_n hx hb dL_nets_215 rfl (lv_at hl 8 rfl) ?_
  refine lv_irem hx hb dL_nets_216 (fun w => by have := (nI_eq (b := 0) (by omega) (by omega)).mp w; omega) ?_
  rw [nI_rem (by omega) (by omega) (by omega)]
  have hmo : (i + 1) % mm < mm := Nat.mod_lt _ (by omega)
  refine lv_icmp_ne (tgt := 239) hx hb dL_nets_217 (by decide) (fun c1 => ?_) (fun c1 => ?_)
  · have h1 : ¬ j = (i + 1) % mm := fun w => c1 (by rw [w])
    have e9 : isN K mm i j = false := by
      unfold isN
      rw [decide_eq_false h1]
      rfl
    rw [e9] at kk
    refine lv_iconst (v := (0 : Int32)) hx hb dL_nets_239 (by decide) ?_
    exact kk
  · have h1 : j = (i + 1) % mm := (nI_eq (by omega) (by omega)).mp c1
    refine lv_iload hx hb dL_nets_220 (lv_at hl 5 rfl) ?_
    refine lv_bipush (v := (114 : Int32)) hx hb dL_nets_222 (by decide) ?_
    refine lv_icmp_eq (tgt := 235) hx hb dL_nets_224 (by decide) (fun c2 => ?_) (fun c2 => ?_)
    · have h2 : K = 114 := (nI_eq (b := 114) (by omega) (by omega)).mp c2
      have e9 : isN K mm i j = true := by
        unfold isN
        rw [decide_eq_true h1, decide_eq_true h2]
        rfl
      rw [e9] at kk
      refine lv_iconst (v := (1 : Int32)) hx hb dL_nets_235 (by decide) ?_
      refine lv_goto (tgt := 240) hx hb dL_nets_236 (by decide) ?_
      exact kk
    · have h2 : ¬ K = 114 := fun w => c2 (by rw [w]; rfl)
      refine lv_iload hx hb dL_nets_227 (lv_at hl 1 rfl) ?_
      refine lv_iload_n hx hb dL_nets_229 rfl (lv_at hl 8 rfl) ?_
      refine lv_iconst (v := (1 : Int32)) hx hb dL_nets_230 (by decide) ?_
      refine lv_isub hx hb dL_nets_231 ?_
      rw [nI_p1 (by omega)]
      refine lv_icmp_ge (tgt := 239) hx hb dL_nets_232 (by decide) (fun c3 => ?_) (fun c3 => ?_)
      · have h3 : ¬ i < mm - 1 := fun w => absurd c3 (nI_ge w (by omega))
        have e9 : isN K mm i j = false := by
          unfold isN
          rw [decide_eq_true h1, decide_eq_false h2, decide_eq_false h3]
          rfl
        rw [e9] at kk
        refine lv_iconst (v := (0 : Int32)) hx hb dL_nets_239 (by decide) ?_
        exact kk
      · have h3 : i < mm - 1 := Nat.lt_of_not_le (fun w => c3 (nI_le w (by omega)))
        have e9 : isN K mm i j = true := by
          unfold isN
          rw [decide_eq_true h1, decide_eq_false h2, decide_eq_true h3]
          rfl
        rw [e9] at kk
        refine lv_iconst (v := (1 : Int32)) hx hb dL_nets_235 (by decide) ?_
        refine lv_goto (tgt := 240) hx hb dL_nets_236 (by decide) ?_
        exact kk
theorem nets_cd {K mm i j : Nat} {x8 x7 x6 x4 x3 : Value} {lv : List (Nat × Value)} (hx : p.tables.exec = Jvm.exec) (hb : c.code = cL_nets) (hm2 : 2 ≤ mm) (hm : mm < 9) (hi : i < mm) (hj : j < mm) (hKs : K < 200) (hl : lv_has ls 12 ((11, .int (if isN K mm i j then 1 else 0)) :: (10, .int (nI j)) :: (9, .int (nI i)) :: (8, x8) :: (7, x7) :: (6, x6) :: (5, .int (nI K)) :: (4, x4) :: (3, x3) :: (2, .int (nI mm)) :: lv)) (kk : W p l e R s m args below meth c H locs cells slots Q (F0 m 304 ls (.int (bv K mm i j) :: stk))) : W p l e R s m args below meth c H locs cells slots Q (F0 m 249 ls stk) := by
  refine lv_iload hx hb dL_nets_249 (lv_at hl 2 rfl) ?_
  refine lv_iload hx hb dL_nets_251 (lv_at hl 1 rfl) ?_
  refine lv_icmp_eq (tgt := 303) hx hb dL_nets_253 (by decide) (fun c4 => ?_) (fun c4 => ?_)
  · have h4 : i = j := (nI_eq (by omega) (by omega)).mp c4
    have e9 : isv K mm i j = false := by
      unfold isv
      rw [decide_eq_true h4]
      rfl
    have kk := kk
    unfold bv at kk
    rw [e9] at kk
    refine lv_iconst (v := (0 : Int32)) hx hb dL_nets_303 (by decide) ?_
    exact kk
  · have h4 : ¬ i = j := fun w => c4 (by rw [w])
    refine lv_iload hx hb dL_nets_256 (lv_at hl 6 rfl) ?_
    refine lv_bipush (v := (97 : Int32)) hx hb dL_nets_258 (by decide) ?_
    refine lv_icmp_eq (tgt := 299) hx hb dL_nets_260 (by decide) (fun c5 => ?_) (fun c5 => ?_)
    · have h5 : K = 97 := (nI_eq (b := 97) (by omega) (by omega)).mp c5
      have e9 : isv K mm i j = true := by
        unfold isv
        rw [decide_eq_false h4, decide_eq_true h5]
        rfl
      have kk := kk
      unfold bv at kk
      rw [e9] at kk
      refine lv_iconst (v := (1 : Int32)) hx hb dL_nets_299 (by decide) ?_
      refine lv_goto (tgt := 304) hx hb dL_nets_300 (by decide) ?_
      exact kk
    · have h5 : ¬ K = 97 := fun w => c5 (by rw [w]; rfl)
      refine lv_iload hx hb dL_nets_263 (lv_at hl 6 rfl) ?_
      refine lv_bipush (v := (104 : Int32)) hx hb dL_nets_265 (by decide) ?_
      refine lv_icmp_ne (tgt := 280) hx hb dL_nets_267 (by decide) (fun c6 => ?_) (fun c6 => ?_)
      · have h6 : ¬ K = 104 := fun w => c6 (by rw [w]; rfl)
        refine lv_iload hx hb dL_nets_280 (lv_at hl 6 rfl) ?_
        refine lv_bipush (v := (114 : Int32)) hx hb dL_nets_282 (by decide) ?_
        refine lv_icmp_eq (tgt := 294) hx hb dL_nets_284 (by decide) (fun c7 => ?_) (fun c7 => ?_)
        · have h7 : K = 114 := (nI_eq (b := 114) (by omega) (by omega)).mp c7
          refine lv_iload hx hb dL_nets_294 (lv_at hl 0 rfl) ?_
          cases hN : isN K mm i j with
          | false =>
            refine lv_if_eq (tgt := 303) hx hb dL_nets_296 (by decide) (fun _ => ?_) (fun c9 => absurd rfl c9)
            have e9 : isv K mm i j = false := by
              unfold isv
              rw [decide_eq_false h4, decide_eq_false h5, decide_eq_false h6, decide_eq_true h7, hN]
              rfl
            have kk := kk
            unfold bv at kk
            rw [e9] at kk
            refine lv_iconst (v := (0 : Int32)) hx hb dL_nets_303 (by decide) ?_
            exact kk
          | true =>
            refine lv_if_eq (tgt := 303) hx hb dL_nets_296 (by decide) (fun c9 => absurd c9 (show ¬ (1 : Int32) = 0 by decide)) (fun _ => ?_)
            have e9 : isv K mm i j = true := by
              unfold isv
              rw [decide_eq_false h4, decide_eq_false h5, decide_eq_false h6, decide_eq_true h7, hN]
              rfl
            have kk := kk
            unfold bv at kk
            rw [e9] at kk
            refine lv_iconst (v := (1 : Int32)) hx hb dL_nets_299 (by decide) ?_
            refine lv_goto (tgt := 304) hx hb dL_nets_300 (by decide) ?_
            exact kk
        · have h7 : ¬ K = 114 := fun w => c7 (by rw [w]; rfl)
          refine lv_iload hx hb dL_nets_287 (lv_at hl 6 rfl) ?_
          refine lv_bipush (v := (108 : Int32)) hx hb dL_nets_289 (by decide) ?_
          refine lv_icmp_ne (tgt := 303) hx hb dL_nets_291 (by decide) (fun c8 => ?_) (fun c8 => ?_)
          · have h8 : ¬ K = 108 := fun w => c8 (by rw [w]; rfl)
            have e9 : isv K mm i j = false := by
              unfold isv
              rw [decide_eq_false h4, decide_eq_false h5, decide_eq_false h6, decide_eq_false h7, decide_eq_false h8]
              rfl
            have kk := kk
            unfold bv at kk
            rw [e9] at kk
            refine lv_iconst (v := (0 : Int32)) hx hb dL_nets_303 (by decide) ?_
            exact kk
          · have h8 : K = 108 := (nI_eq (b := 108) (by omega) (by omega)).mp c8
            refine lv_iload hx hb dL_nets_294 (lv_at hl 0 rfl) ?_
            cases hN : isN K mm i j with
            | false =>
              refine lv_if_eq (tgt := 303) hx hb dL_nets_296 (by decide) (fun _ => ?_) (fun c9 => absurd rfl c9)
              have e9 : isv K mm i j = false := by
                unfold isv
                rw [decide_eq_false h4, decide_eq_false h5, decide_eq_false h6, decide_eq_false h7, decide_eq_true h8, hN]
                rfl
              have kk := kk
              unfold bv at kk
              rw [e9] at kk
              refine lv_iconst (v := (0 : Int32)) hx hb dL_nets_303 (by decide) ?_
              exact kk
            | true =>
              refine lv_if_eq (tgt := 303) hx hb dL_nets_296 (by decide) (fun c9 => absurd c9 (show ¬ (1 : Int32) = 0 by decide)) (fun _ => ?_)
              have e9 : isv K mm i j = true := by
                unfold isv
                rw [decide_eq_false h4, decide_eq_false h5, decide_eq_false h6, decide_eq_false h7, decide_eq_true h8, hN]
                rfl
              have kk := kk
              unfold bv at kk
              rw [e9] at kk
              refine lv_iconst (v := (1 : Int32)) hx hb dL_nets_299 (by decide) ?_
              refine lv_goto (tgt := 304) hx hb dL_nets_300 (by decide) ?_
              exact kk
      · have h6 : K = 104 := (nI_eq (b := 104) (by omega) (by omega)).mp c6
        refine lv_iload hx hb dL_nets_270 (lv_at hl 2 rfl) ?_
        refine lv_if_eq (tgt := 299) hx hb dL_nets_272 (by decide) (fun c9 => ?_) (fun c9 => ?_)
        · have h9 : i = 0 := (nI_eq (b := 0) (by omega) (by omega)).mp c9
          have e9 : isv K mm i j = true := by
            unfold isv
            rw [decide_eq_false h4, decide_eq_false h5, decide_eq_true h6, decide_eq_true h9]
            rfl
          have kk := kk
          unfold bv at kk
          rw [e9] at kk
          refine lv_iconst (v := (1 : Int32)) hx hb dL_nets_299 (by decide) ?_
          refine lv_goto (tgt := 304) hx hb dL_nets_300 (by decide) ?_
          exact kk
        · have h9 : ¬ i = 0 := fun w => c9 (by rw [w]; rfl)
          refine lv_iload hx hb dL_nets_275 (lv_at hl 1 rfl) ?_
          refine lv_if_eq (tgt := 299) hx hb dL_nets_277 (by decide) (fun c10 => ?_) (fun c10 => ?_)
          · have h10 : j = 0 := (nI_eq (b := 0) (by omega) (by omega)).mp c10
            have e9 : isv K mm i j = true := by
              unfold isv
              rw [decide_eq_false h4, decide_eq_false h5, decide_eq_true h6, decide_eq_false h9, decide_eq_true h10]
              rfl
            have kk := kk
            unfold bv at kk
            rw [e9] at kk
            refine lv_iconst (v := (1 : Int32)) hx hb dL_nets_299 (by decide) ?_
            refine lv_goto (tgt := 304) hx hb dL_nets_300 (by decide) ?_
            exact kk
          · have h10 : ¬ j = 0 := fun w => c10 (by rw [w]; rfl)
            refine lv_iload hx hb dL_nets_280 (lv_at hl 6 rfl) ?_
            refine lv_bipush (v := (114 : Int32)) hx hb dL_nets_282 (by decide) ?_
            refine lv_icmp_eq (tgt := 294) hx hb dL_nets_284 (by decide) (fun c9 => absurd ((nI_eq (b := 114) (by omega) (by omega)).mp c9) (by omega)) (fun _ => ?_)
            refine lv_iload hx hb dL_nets_287 (lv_at hl 6 rfl) ?_
            refine lv_bipush (v := (108 : Int32)) hx hb dL_nets_289 (by decide) ?_
            refine lv_icmp_ne (tgt := 303) hx hb dL_nets_291 (by decide) (fun _ => ?_) (fun c9 => absurd ((nI_eq (b := 108) (by omega) (by omega)).mp c9) (by omega))
            have e9 : isv K mm i j = false := by
              unfold isv
              rw [decide_eq_false h4, decide_eq_false h5, decide_eq_true h6, decide_eq_false h9, decide_eq_false h10, decide_eq_false (show ¬ K = 114 by omega), decide_eq_false (show ¬ K = 108 by omega)]
              rfl
            have kk := kk
            unfold bv at kk
            rw [e9] at kk
            refine lv_iconst (v := (0 : Int32)) hx hb dL_nets_303 (by decide) ?_
            exact kk
end NEC

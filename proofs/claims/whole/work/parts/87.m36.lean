/-! rows of mine (pure): answer agrees -/
theorem ca_answer {N n cap : Nat} {x : Int32} {places ans froms tos delays st fromsR tosR delaysR strsR nT : Nat → Int32} {anR : Nat → Nat → Int32} {fr to de : Nat → Nat} (C : ma_C x n places ans froms tos delays st fr to de) (E : ma_E x n cap anR (fun p q => ans (p * 4 + q)) fromsR tosR delaysR strsR fr to de st) (hT : ∀ q, q < 16 → nT q = if bt x q then 1 else 0) (kn : Int32) (out : Nat → Int64) (v1 v2 v3 : Int32) : ∃ (k v : Int32) (out' : Nat → Int64) (kn' : Int32) (ans' : Nat → Int32) (anR' : Nat → Nat → Int32), (kn' = 0 ∨ (kn' = kn ∧ ans' = ans)) ∧ ma_C x n places ans' froms tos delays st fr to de ∧ ma_E x n cap anR' (fun p q => ans' (p * 4 + q)) fromsR tosR delaysR strsR fr to de st ∧ f_L_answer N kn x ans out v1 v2 v3 = some (k, kn', ans', out') ∧ f_X8_answer N nT anR v1 v2 v3 = some (v, k, anR') ∧ (k = 0 → out' 0 = v.toInt64) := by
  have same : ∀ k : Int32, k ≠ 0 → f_L_answer N kn x ans out v1 v2 v3 = some (k, kn, ans, out) → f_X8_answer N nT anR v1 v2 v3 = some (0, k, anR) → ∃ (k v : Int32) (out' : Nat → Int64) (kn' : Int32) (ans' : Nat → Int32) (anR' : Nat → Nat → Int32), (kn' = 0 ∨ (kn' = kn ∧ ans' = ans)) ∧ ma_C x n places ans' froms tos delays st fr to de ∧ ma_E x n cap anR' (fun p q => ans' (p * 4 + q)) fromsR tosR delaysR strsR fr to de st ∧ f_L_answer N kn x ans out v1 v2 v3 = some (k, kn', ans', out') ∧ f_X8_answer N nT anR v1 v2 v3 = some (v, k, anR') ∧ (k = 0 → out' 0 = v.toInt64) :=
    fun k hk h1 h2 => ⟨k, 0, out, kn, ans, anR, Or.inr ⟨rfl, rfl⟩, C, E, h1, h2, fun w => absurd w hk⟩
  have a1 : (-9 : Int32).toInt = -9 := by decide
  have a2 : (9 : Int32).toInt = 9 := by decide
  have a3 : (-9 : Int64).toInt = -9 := by decide
  have a4 : (9 : Int64).toInt = 9 := by decide
  have r5 := mx_checkRange (N := N) v3 (-9) 9
  have r6 := mx_in (N := N) v3 (-9) 9
  rw [a1, a2] at r5
  rw [a3, a4] at r6
  rcases mx_place (N := N) v1 (x := x) (isT := nT) hT with ⟨p1, p2⟩ | ⟨p1, p2, h3⟩
  · rcases mx_range (N := N) v2 0 3 (by omega) (by omega) with ⟨r3, r4⟩ | ⟨m, -, hm, rfl, r3, r4⟩
    · have r4 : f_X8_in N v2.toInt64 (0 : Int64) (3 : Int64) = _ := r4
      refine same 1 (by decide) ?_ ?_
      · unfold f_L_answer f_X5_answer
        rw [p1]
        rfl
      · unfold f_X8_answer
        rw [r4, Option.bind_some, if_pos rfl]
        rw [p2]
        rfl
    · have r4 : f_X8_in N (nI m).toInt64 (0 : Int64) (3 : Int64) = _ := r4
      by_cases hr : -9 ≤ v3.toInt ∧ v3.toInt ≤ 9
      · rw [if_pos hr] at r6
        refine same 1 (by decide) ?_ ?_
        · unfold f_L_answer f_X5_answer
          rw [p1]
          rfl
        · unfold f_X8_answer
          rw [r4, Option.bind_some, if_neg (show ¬ (1 : Int32) = 0 by decide)]
          rw [r6, Option.bind_some, if_neg (show ¬ (1 : Int32) = 0 by decide)]
          rw [p2]
          rfl
      · rw [if_neg hr] at r6
        refine same 1 (by decide) ?_ ?_
        · unfold f_L_answer f_X5_answer
          rw [p1]
          rfl
        · unfold f_X8_answer
          rw [r4, Option.bind_some, if_neg (show ¬ (1 : Int32) = 0 by decide)]
          rw [r6, Option.bind_some, if_pos rfl]
          rw [p2]
          rfl
  · rcases mx_range (N := N) v2 0 3 (by omega) (by omega) with ⟨r3, r4⟩ | ⟨m, -, hm, rfl, r3, r4⟩
    · have r3 : f_X5_checkRange N v2 (0 : Int32) (3 : Int32) = _ := r3
      have r4 : f_X8_in N v2.toInt64 (0 : Int64) (3 : Int64) = _ := r4
      refine same 2 (by decide) ?_ ?_
      · unfold f_L_answer f_X5_answer
        rw [p1, Option.bind_some]
        simp only [Sum.elim_inr]
        rw [r3]
        rfl
      · unfold f_X8_answer
        rw [r4, Option.bind_some, if_pos rfl]
        rw [p2]
        rfl
    · have r3 : f_X5_checkRange N (nI m) (0 : Int32) (3 : Int32) = _ := r3
      have r4 : f_X8_in N (nI m).toInt64 (0 : Int64) (3 : Int64) = _ := r4
      by_cases hr : -9 ≤ v3.toInt ∧ v3.toInt ≤ 9
      · rw [if_pos hr] at r5 r6
        rcases h3 with ⟨b1, b2⟩ | ⟨p, hp, rfl, hb, b1, b2⟩
        · refine same 3 (by decide) ?_ ?_
          · unfold f_L_answer f_X5_answer
            rw [p1, Option.bind_some]
            simp only [Sum.elim_inr]
            rw [r3, Option.bind_some]
            simp only [Sum.elim_inr]
            rw [r5, Option.bind_some]
            simp only [Sum.elim_inr]
            rw [b1]
            rfl
          · unfold f_X8_answer
            rw [r4, Option.bind_some, if_neg (show ¬ (1 : Int32) = 0 by decide)]
            rw [r6, Option.bind_some, if_neg (show ¬ (1 : Int32) = 0 by decide)]
            rw [p2, Option.bind_some, if_neg (show ¬ (1 : Int32) = 0 by decide)]
            rw [b2]
            rfl
        · have ei : nI p * (4 : Int32) + nI m = nI (p * 4 + m) := by rw [show (4 : Int32) = nI 4 from rfl, pk_mul, nI_add]
          have g1 : ∀ {α : Type} (x : Option α), zk_g (nI (p * 4 + m)) 64 x = x := fun x => mg_g (by omega) (by omega) x
          have g2 : ∀ {α : Type} (x : Option α), zk_g (nI p) 16 x = x := fun x => mg_g hp (by omega) x
          have g3 : ∀ {α : Type} (x : Option α), zk_g (nI m) 4 x = x := fun x => mg_g (by omega) (by omega) x
          have k1 : (nI (p * 4 + m)).toNatClampNeg = p * 4 + m := nI_clamp (by omega)
          have k2 : (nI p).toNatClampNeg = p := nI_clamp (by omega)
          have k3 : (nI m).toNatClampNeg = m := nI_clamp (by omega)
          obtain ⟨c1, c2, c3, c4, c5⟩ := C
          obtain ⟨d1, d2, d3, d4, d5⟩ := E
          refine ⟨0, ans (p * 4 + m), vp_updL out 0 (ans (p * 4 + m)).toInt64, 0, upd ans (p * 4 + m) v3, zg_up anR p m v3, Or.inl rfl, ⟨c1, c2, c3, fun a b ha hb2 => ?_, c5⟩, ⟨d1, d2, d3, d4, fun a ha hba b hb2 => ?_⟩, ?_, ?_, fun _ => by unfold vp_updL; rw [if_pos rfl]⟩
          · show -9 ≤ (upd ans (p * 4 + m) v3 (a * 4 + b)).toInt ∧ (upd ans (p * 4 + m) v3 (a * 4 + b)).toInt ≤ 9
            unfold upd
            by_cases w : a * 4 + b = p * 4 + m
            · rw [if_pos w]; exact hr
            · rw [if_neg w]; exact c4 a b ha hb2
          · show zg_up anR p m v3 a b = upd ans (p * 4 + m) v3 (a * 4 + b)
            rw [zg_up_at]
            unfold upd
            by_cases w : a = p ∧ b = m
            · rw [if_pos w, if_pos (by omega)]
            · rw [if_neg w, if_neg (by omega)]
              exact d5 a ha hba b hb2
          · unfold f_L_answer f_X5_answer
            rw [p1, Option.bind_some]
            simp only [Sum.elim_inr]
            rw [r3, Option.bind_some]
            simp only [Sum.elim_inr]
            rw [r5, Option.bind_some]
            simp only [Sum.elim_inr]
            rw [b1, Option.bind_some]
            simp only [Sum.elim_inr, ei, g1, k1]
            rfl
          · unfold f_X8_answer
            rw [r4, Option.bind_some, if_neg (show ¬ (1 : Int32) = 0 by decide), r6, Option.bind_some, if_neg (show ¬ (1 : Int32) = 0 by decide), p2, Option.bind_some, if_neg (show ¬ (1 : Int32) = 0 by decide), b2, Option.bind_some, if_neg (show ¬ (1 : Int32) = 0 by decide)]
            simp only [g2, g3, k2, k3]
            rw [d5 p hp hb m (by omega)]
      · rw [if_neg hr] at r5 r6
        refine same 2 (by decide) ?_ ?_
        · unfold f_L_answer f_X5_answer
          rw [p1, Option.bind_some]
          simp only [Sum.elim_inr]
          rw [r3, Option.bind_some]
          simp only [Sum.elim_inr]
          rw [r5]
          rfl
        · unfold f_X8_answer
          rw [r4, Option.bind_some, if_neg (show ¬ (1 : Int32) = 0 by decide)]
          rw [r6, Option.bind_some, if_pos rfl]
          rw [p2]
          rfl

/-! rows of mine (pure): period agrees -/
theorem mx_place {N : Nat} (v : Int32) {x : Int32} {isT : Nat → Int32} (hT : ∀ q, q < 16 → isT q = if bt x q then 1 else 0) : (f_X5_checkPlace N v = some (.inl "java/lang/IndexOutOfBoundsException") ∧ f_X8_isPlace N v = some 0) ∨ (f_X5_checkPlace N v = some (.inr ()) ∧ f_X8_isPlace N v = some 1 ∧ ((f_X5_checkBeater N x v = some (.inl "java/util/NoSuchElementException") ∧ f_X8_isBeater N isT v = some 0) ∨ ∃ p, p < 16 ∧ v = nI p ∧ bt x p = true ∧ f_X5_checkBeater N x v = some (.inr ()) ∧ f_X8_isBeater N isT v = some 1)) := by
  by_cases h : 0 ≤ v.toInt ∧ v.toInt ≤ 19
  · have e1 : f_X5_checkPlace N v = some (.inr ()) := by rw [mx_checkPlace, if_pos h]
    refine Or.inr ⟨e1, by rw [mx_isPlace, if_pos h], ?_⟩
    rcases i32_cases v with hv | ⟨p, hp, rfl⟩
    · rw [Int32.lt_iff_toInt_lt] at hv
      have e0 : (0 : Int32).toInt = 0 := by decide
      omega
    · have e2 : f_X5_checkBeater N x (nI p) = if p < 16 ∧ bt x p = true then some (.inr ()) else some (.inl "java/util/NoSuchElementException") := by
        unfold f_X5_checkBeater
        rw [e1, Option.bind_some]
        simp only [Sum.elim_inr]
        rw [mx_hasB hp, Option.bind_some]
        by_cases hb : p < 16 ∧ bt x p = true
        · rw [if_pos hb, if_pos hb, if_neg (by decide)]
        · rw [if_neg hb, if_neg hb, if_pos rfl]
      by_cases hb : p < 16 ∧ bt x p = true
      · exact Or.inr ⟨p, hb.1, rfl, hb.2, by rw [e2, if_pos hb], by rw [mx_isBeater hp hT, if_pos hb]⟩
      · exact Or.inl ⟨by rw [e2, if_neg hb], by rw [mx_isBeater hp hT, if_neg hb]⟩
  · exact Or.inl ⟨by rw [mx_checkPlace, if_neg h], by rw [mx_isPlace, if_neg h]⟩
theorem ca_period {N t : Nat} {x : Int32} {per qui nT np nph nq nw ph co : Nat → Int32} {row : Int32} {S : ma_S} (hinv : ma_inv x per S) (hf : ma_fd x per qui nT np nq) (hR : ma_R row ph co S) (hrm : ma_rm t nph nw S) (kn : Int32) (out : Nat → Int64) (v1 v2 : Int32) : ∃ (k v : Int32) (out' : Nat → Int64) (kn' : Int32) (per' qui' ph' np' nph' nq' : Nat → Int32) (S' : ma_S), (kn' = 0 ∨ (kn' = kn ∧ S' = S ∧ per' = per ∧ qui' = qui)) ∧ ma_inv x per' S' ∧ ma_fd x per' qui' nT np' nq' ∧ ma_R row ph' co S' ∧ ma_rm t nph' nw S' ∧ f_L_period N kn x per qui ph out v1 v2 = some (k, kn', per', qui', ph', out') ∧ f_X8_period N nT np nph nq v1 v2 = some (v, k, np', nph', nq') ∧ (k = 0 → out' 0 = v.toInt64) := by
  have same : ∀ k : Int32, k ≠ 0 → f_L_period N kn x per qui ph out v1 v2 = some (k, kn, per, qui, ph, out) → f_X8_period N nT np nph nq v1 v2 = some (0, k, np, nph, nq) → ∃ (k v : Int32) (out' : Nat → Int64) (kn' : Int32) (per' qui' ph' np' nph' nq' : Nat → Int32) (S' : ma_S), (kn' = 0 ∨ (kn' = kn ∧ S' = S ∧ per' = per ∧ qui' = qui)) ∧ ma_inv x per' S' ∧ ma_fd x per' qui' nT np' nq' ∧ ma_R row ph' co S' ∧ ma_rm t nph' nw S' ∧ f_L_period N kn x per qui ph out v1 v2 = some (k, kn', per', qui', ph', out') ∧ f_X8_period N nT np nph nq v1 v2 = some (v, k, np', nph', nq') ∧ (k = 0 → out' 0 = v.toInt64) :=
    fun k hk h1 h2 => ⟨k, 0, out, kn, per, qui, ph, np, nph, nq, S, Or.inr ⟨rfl, rfl, rfl, rfl⟩, hinv, hf, hR, hrm, h1, h2, fun w => absurd w hk⟩
  rcases mx_place (N := N) v1 (x := x) (isT := nT) (fun q hq => (hf q hq).1) with ⟨e1, e2⟩ | ⟨e1, e2, h3⟩
  · refine same 1 (by decide) ?_ ?_
    · unfold f_L_period f_X5_period
      rw [e1]
      rfl
    · unfold f_X8_period
      rw [e2]
      rfl
  · rcases mx_range (N := N) v2 2 99 (by omega) (by omega) with ⟨e4, e5⟩ | ⟨P, hP1, hP2, rfl, e4, e5⟩
    · have e4 : f_X5_checkRange N v2 (2 : Int32) (99 : Int32) = _ := e4
      have e5 : f_X8_in N v2.toInt64 (2 : Int64) (99 : Int64) = _ := e5
      refine same 2 (by decide) ?_ ?_
      · unfold f_L_period f_X5_period
        rw [e1, Option.bind_some]
        simp only [Sum.elim_inr]
        rw [e4]
        rfl
      · unfold f_X8_period
        rw [e2, Option.bind_some, if_neg (show ¬ (1 : Int32) = 0 by decide), e5]
        rfl
    · have e4 : f_X5_checkRange N (nI P) (2 : Int32) (99 : Int32) = _ := e4
      have e5 : f_X8_in N (nI P).toInt64 (2 : Int64) (99 : Int64) = _ := e5
      rcases h3 with ⟨e6, e7⟩ | ⟨p, hp, rfl, hb, e6, e7⟩
      · refine same 3 (by decide) ?_ ?_
        · unfold f_L_period f_X5_period
          rw [e1, Option.bind_some]
          simp only [Sum.elim_inr]
          rw [e4, Option.bind_some]
          simp only [Sum.elim_inr]
          rw [e6]
          rfl
        · unfold f_X8_period
          rw [e2, Option.bind_some, if_neg (show ¬ (1 : Int32) = 0 by decide), e5, Option.bind_some, if_neg (show ¬ (1 : Int32) = 0 by decide), e7]
          rfl
      · have g1 : ∀ {α : Type} (x : Option α), zk_g (nI p) 16 x = x := fun x => mg_g hp (by omega) x
        have k1 : (nI p).toNatClampNeg = p := nI_clamp (by omega)
        have hfp := (hf p hp).2 hb
        have hph := ma_R_ph hR hp
        have hnph := hrm.1 p hp
        refine ⟨0, per p, vp_updL out 0 (per p).toInt64, 0, upd per p (nI P), upd qui p (ma_mn P (qui p)), upd ph p (ma_mn P (ph p)), upd np p (nI P), upd nph p (ma_mn P (nph p)), upd nq p (ma_mn P (nq p)), (upd S.1 p (ma_mn P (S.1 p)), S.2), Or.inl rfl, ⟨?_, hinv.2⟩, ?_, ?_, ?_, ?_, ?_, fun _ => by unfold vp_updL; rw [if_pos rfl]⟩
        · intro q hq hbq
          obtain ⟨a, d, u1, u2, u3, u4⟩ := hinv.1 q hq hbq
          show ∃ a c, upd S.1 p (ma_mn P (S.1 p)) q = nI a ∧ upd per p (nI P) q = nI c ∧ _
          unfold upd
          by_cases w : q = p
          · subst w
            obtain ⟨b, b1, b2⟩ := ma_mn_nI (show 1 ≤ P by omega) (by omega) (show a < 2 ^ 31 by omega)
            rw [if_pos rfl, if_pos rfl, u1, b2]
            exact ⟨b, P, rfl, rfl, b1, by omega⟩
          · rw [if_neg w, if_neg w]
            exact ⟨a, d, u1, u2, u3, u4⟩
        · intro q hq
          refine ⟨(hf q hq).1, fun hbq => ?_⟩
          unfold upd
          by_cases w : q = p
          · subst w
            rw [if_pos rfl, if_pos rfl, if_pos rfl, if_pos rfl, hfp.2]
            exact ⟨rfl, rfl⟩
          · rw [if_neg w, if_neg w, if_neg w, if_neg w]
            exact (hf q hq).2 hbq
        · obtain ⟨r, q1, q2, q3, q4⟩ := hR
          refine ⟨r, q1, q2, fun q hq => ?_, q4⟩
          show upd ph p (ma_mn P (ph p)) q = upd S.1 p (ma_mn P (S.1 p)) q
          unfold upd
          by_cases w : q = p
          · rw [if_pos w, if_pos w, hph]
          · rw [if_neg w, if_neg w]; exact q3 q hq
        · obtain ⟨q3, q4⟩ := hrm
          refine ⟨fun q hq => ?_, q4⟩
          show upd nph p (ma_mn P (nph p)) q = upd S.1 p (ma_mn P (S.1 p)) q
          unfold upd
          by_cases w : q = p
          · rw [if_pos w, if_pos w, hnph]
          · rw [if_neg w, if_neg w]; exact q3 q hq
        · unfold f_L_period f_X5_period
          rw [e1, Option.bind_some]
          simp only [Sum.elim_inr]
          rw [e4, Option.bind_some]
          simp only [Sum.elim_inr]
          rw [e6, Option.bind_some]
          simp only [Sum.elim_inr, g1, k1]
          rfl
        · unfold f_X8_period
          rw [e2, Option.bind_some, if_neg (show ¬ (1 : Int32) = 0 by decide), e5, Option.bind_some, if_neg (show ¬ (1 : Int32) = 0 by decide), e7, Option.bind_some, if_neg (show ¬ (1 : Int32) = 0 by decide), g1, mx_setPeriod hp, Option.bind_some, k1, hfp.1]

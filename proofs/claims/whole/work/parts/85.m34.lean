/-! rows of mine (pure): push agrees -/
theorem mx_checkRange {N : Nat} (v lo hi : Int32) : f_X5_checkRange N v lo hi = some (if lo.toInt ≤ v.toInt ∧ v.toInt ≤ hi.toInt then .inr () else .inl "java/lang/IllegalArgumentException") := by
  unfold f_X5_checkRange
  by_cases h1 : v < lo
  · rw [if_pos h1]
    rw [Int32.lt_iff_toInt_lt] at h1
    rw [if_neg (by omega)]
  · rw [if_neg h1]
    rw [Int32.lt_iff_toInt_lt] at h1
    by_cases h2 : v ≤ hi
    · rw [if_pos h2]
      rw [Int32.le_iff_toInt_le] at h2
      rw [if_pos (by omega)]
    · rw [if_neg h2]
      rw [Int32.le_iff_toInt_le] at h2
      rw [if_neg (by omega)]
def ma_pu (f c v : Int32) : Int32 := if (0 : Int32) < (if f + v < c - (1 : Int32) then f + v else c - (1 : Int32)) then (if f + v < c - (1 : Int32) then f + v else c - (1 : Int32)) else (0 : Int32)
theorem ma_pu_nI {d : Nat} (f v : Int32) (hd : 1 ≤ d) (hd2 : d < 2 ^ 31) : ∃ b, b < d ∧ ma_pu f (nI d) v = nI b := by
  unfold ma_pu
  rw [nI_p1 hd]
  generalize f + v = w
  by_cases h1 : w < nI (d - 1)
  · rw [if_pos h1]
    by_cases h2 : (0 : Int32) < w
    · rw [if_pos h2]
      rcases i32_cases w with hw | ⟨b, hb, rfl⟩
      · rw [Int32.lt_iff_toInt_lt] at hw h2
        omega
      · have := (nI_ltI hb (by omega)).mp h1
        exact ⟨b, by omega, rfl⟩
    · rw [if_neg h2]
      exact ⟨0, by omega, rfl⟩
  · rw [if_neg h1]
    by_cases h2 : (0 : Int32) < nI (d - 1)
    · rw [if_pos h2]
      exact ⟨d - 1, by omega, rfl⟩
    · rw [if_neg h2]
      exact ⟨0, by omega, rfl⟩
theorem ca_push {N t : Nat} {x : Int32} {per qui nT np nph nq nw ph co : Nat → Int32} {row : Int32} {S : ma_S} (hinv : ma_inv x per S) (hf : ma_fd x per qui nT np nq) (hR : ma_R row ph co S) (hrm : ma_rm t nph nw S) (kn : Int32) (out : Nat → Int64) (v1 v2 : Int32) : ∃ (k v : Int32) (out' : Nat → Int64) (kn' : Int32) (ph' nph' : Nat → Int32) (S' : ma_S), (kn' = 0 ∨ (kn' = kn ∧ S' = S)) ∧ ma_inv x per S' ∧ ma_R row ph' co S' ∧ ma_rm t nph' nw S' ∧ f_L_push N kn x per ph out v1 v2 = some (k, kn', ph', out') ∧ f_X8_push N nT np nph v1 v2 = some (v, k, nph') ∧ (k = 0 → out' 0 = v.toInt64) := by
  have same : ∀ k : Int32, k ≠ 0 → f_L_push N kn x per ph out v1 v2 = some (k, kn, ph, out) → f_X8_push N nT np nph v1 v2 = some (0, k, nph) → ∃ (k v : Int32) (out' : Nat → Int64) (kn' : Int32) (ph' nph' : Nat → Int32) (S' : ma_S), (kn' = 0 ∨ (kn' = kn ∧ S' = S)) ∧ ma_inv x per S' ∧ ma_R row ph' co S' ∧ ma_rm t nph' nw S' ∧ f_L_push N kn x per ph out v1 v2 = some (k, kn', ph', out') ∧ f_X8_push N nT np nph v1 v2 = some (v, k, nph') ∧ (k = 0 → out' 0 = v.toInt64) :=
    fun k hk h1 h2 => ⟨k, 0, out, kn, ph, nph, S, Or.inr ⟨rfl, rfl⟩, hinv, hR, hrm, h1, h2, fun w => absurd w hk⟩
  rcases mx_place (N := N) v1 (x := x) (isT := nT) (fun q hq => (hf q hq).1) with ⟨e1, e2⟩ | ⟨e1, e2, h3⟩
  · refine same 1 (by decide) ?_ ?_
    · unfold f_L_push f_X5_push
      rw [e1]
      rfl
    · unfold f_X8_push
      rw [e2]
      rfl
  · have a1 : (-99 : Int32).toInt = -99 := by decide
    have a2 : (99 : Int32).toInt = 99 := by decide
    have a3 : (-99 : Int64).toInt = -99 := by decide
    have a4 : (99 : Int64).toInt = 99 := by decide
    have e4 := mx_checkRange (N := N) v2 (-99) 99
    have e5 := mx_in (N := N) v2 (-99) 99
    rw [a1, a2] at e4
    rw [a3, a4] at e5
    by_cases hr : -99 ≤ v2.toInt ∧ v2.toInt ≤ 99
    · rw [if_pos hr] at e4 e5
      rcases h3 with ⟨e6, e7⟩ | ⟨p, hp, rfl, hb, e6, e7⟩
      · refine same 3 (by decide) ?_ ?_
        · unfold f_L_push f_X5_push
          rw [e1, Option.bind_some]
          simp only [Sum.elim_inr]
          rw [e4, Option.bind_some]
          simp only [Sum.elim_inr]
          rw [e6]
          rfl
        · unfold f_X8_push
          rw [e2, Option.bind_some, if_neg (show ¬ (1 : Int32) = 0 by decide), e5, Option.bind_some, if_neg (show ¬ (1 : Int32) = 0 by decide), e7]
          rfl
      · have g1 : ∀ {α : Type} (x : Option α), zk_g (nI p) 16 x = x := fun x => mg_g hp (by omega) x
        have k1 : (nI p).toNatClampNeg = p := nI_clamp (by omega)
        have hfp := (hf p hp).2 hb
        have hph := ma_R_ph hR hp
        have hnph := hrm.1 p hp
        obtain ⟨a, d, u1, u2, u3, u4⟩ := hinv.1 p hp hb
        obtain ⟨b, b1, b2⟩ := ma_pu_nI (d := d) (ph p) v2 (by omega) (by omega)
        have epu : ma_pu (ph p) (per p) v2 = nI b := by rw [u2]; exact b2
        have epu2 : ma_pu (nph p) (np p) v2 = nI b := by rw [hfp.1, hnph, ← hph]; exact epu
        refine ⟨0, nI b, vp_updL out 0 (nI b).toInt64, 0, upd ph p (nI b), upd nph p (nI b), (upd S.1 p (nI b), S.2), Or.inl rfl, ⟨?_, hinv.2⟩, ?_, ?_, ?_, ?_, fun _ => by unfold vp_updL; rw [if_pos rfl]⟩
        · intro q hq hbq
          obtain ⟨a', d', w1, w2, w3, w4⟩ := hinv.1 q hq hbq
          show ∃ a c, upd S.1 p (nI b) q = nI a ∧ per q = nI c ∧ _
          unfold upd
          by_cases w : q = p
          · subst w
            rw [if_pos rfl]
            exact ⟨b, d, rfl, u2, b1, u4⟩
          · rw [if_neg w]
            exact ⟨a', d', w1, w2, w3, w4⟩
        · obtain ⟨r, q1, q2, q3, q4⟩ := hR
          refine ⟨r, q1, q2, fun q hq => ?_, q4⟩
          show upd ph p (nI b) q = upd S.1 p (nI b) q
          unfold upd
          by_cases w : q = p
          · rw [if_pos w, if_pos w]
          · rw [if_neg w, if_neg w]; exact q3 q hq
        · obtain ⟨q3, q4⟩ := hrm
          refine ⟨fun q hq => ?_, q4⟩
          show upd nph p (nI b) q = upd S.1 p (nI b) q
          unfold upd
          by_cases w : q = p
          · rw [if_pos w, if_pos w]
          · rw [if_neg w, if_neg w]; exact q3 q hq
        · have ee : f_X5_push N kn x per ph (nI p) v2 = some (.inr (nI b, 0, upd ph p (nI b))) := by
            unfold f_X5_push
            rw [e1, Option.bind_some]
            simp only [Sum.elim_inr]
            rw [e4, Option.bind_some]
            simp only [Sum.elim_inr]
            rw [e6, Option.bind_some]
            simp only [Sum.elim_inr, g1, k1]
            show some (Sum.inr (upd ph p (ma_pu (ph p) (per p) v2) p, (0 : Int32), upd ph p (ma_pu (ph p) (per p) v2))) = _
            rw [epu]
            unfold upd
            rw [if_pos rfl]
          unfold f_L_push
          rw [ee]
          rfl
        · unfold f_X8_push
          rw [e2, Option.bind_some, if_neg (show ¬ (1 : Int32) = 0 by decide), e5, Option.bind_some, if_neg (show ¬ (1 : Int32) = 0 by decide), e7, Option.bind_some, if_neg (show ¬ (1 : Int32) = 0 by decide)]
          simp only [g1, k1]
          show some (upd nph p (ma_pu (nph p) (np p) v2) p, (0 : Int32), upd nph p (ma_pu (nph p) (np p) v2)) = _
          rw [epu2]
          unfold upd
          rw [if_pos rfl]
    · rw [if_neg hr] at e4 e5
      refine same 2 (by decide) ?_ ?_
      · unfold f_L_push f_X5_push
        rw [e1, Option.bind_some]
        simp only [Sum.elim_inr]
        rw [e4]
        rfl
      · unfold f_X8_push
        rw [e2, Option.bind_some, if_neg (show ¬ (1 : Int32) = 0 by decide), e5]
        rfl

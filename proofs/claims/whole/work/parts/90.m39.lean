/-! rows of mine (pure): beater agrees -/
theorem ca_beater {N n cap t : Nat} (hN : 20 ≤ N) {x : Int32} (hx : ∀ p, 16 ≤ p → bt x p = false) {places per qui ans froms tos delays st fromsR tosR delaysR strsR nT np nph nq nw ph co c l rc rl : Nat → Int32} {anR : Nat → Nat → Int32} {fr to de : Nat → Nat} {S : ma_S} {row : Int32} (C : ma_C x n places ans froms tos delays st fr to de) (E : ma_E x n cap anR (fun p q => ans (p * 4 + q)) fromsR tosR delaysR strsR fr to de st) (hinv : ma_inv x per S) (hf : ma_fd x per qui nT np nq) (hR : ma_R row ph co S) (hrm : ma_rm t nph nw S) (hc : ∀ p, p < 16 → rc p = c p) (hl : ∀ p, p < 16 → rl p = l p) (kn : Int32) (out : Nat → Int64) (v1 v2 v3 v4 : Int32) : ∃ (k v : Int32) (out' : Nat → Int64) (kn' x' : Int32) (per' qui' ans' pl' ph' c' l' nT' np' nph' nq' rc' rl' : Nat → Int32) (anR' : Nat → Nat → Int32) (S' : ma_S), (kn' = 0 ∨ (kn' = kn ∧ S' = S ∧ x' = x ∧ per' = per ∧ qui' = qui ∧ ans' = ans)) ∧ (∀ p, 16 ≤ p → bt x' p = false) ∧ ma_C x' n pl' ans' froms tos delays st fr to de ∧ ma_E x' n cap anR' (fun p q => ans' (p * 4 + q)) fromsR tosR delaysR strsR fr to de st ∧ ma_inv x' per' S' ∧ ma_fd x' per' qui' nT' np' nq' ∧ ma_R row ph' co S' ∧ ma_rm t nph' nw S' ∧ (∀ p, p < 16 → rc' p = c' p) ∧ (∀ p, p < 16 → rl' p = l' p) ∧ f_L_beater N kn (nI (ms_L x).length) x per qui ans places ph c l out v1 v2 v3 v4 = some (k, kn', nI (ms_L x').length, x', per', qui', ans', pl', ph', c', l', out') ∧ f_X8_beater N nT np nph nq rc rl anR v1 v2 v3 v4 = some (v, k, nT', np', nph', nq', rc', rl', anR') ∧ (k = 0 → out' 0 = v.toInt64) := by
  have hT := fun q hq => (hf q hq).1
  have same : ∀ k : Int32, k ≠ 0 → f_L_beater N kn (nI (ms_L x).length) x per qui ans places ph c l out v1 v2 v3 v4 = some (k, kn, nI (ms_L x).length, x, per, qui, ans, places, ph, c, l, out) → f_X8_beater N nT np nph nq rc rl anR v1 v2 v3 v4 = some (0, k, nT, np, nph, nq, rc, rl, anR) → ∃ (k v : Int32) (out' : Nat → Int64) (kn' x' : Int32) (per' qui' ans' pl' ph' c' l' nT' np' nph' nq' rc' rl' : Nat → Int32) (anR' : Nat → Nat → Int32) (S' : ma_S), (kn' = 0 ∨ (kn' = kn ∧ S' = S ∧ x' = x ∧ per' = per ∧ qui' = qui ∧ ans' = ans)) ∧ (∀ p, 16 ≤ p → bt x' p = false) ∧ ma_C x' n pl' ans' froms tos delays st fr to de ∧ ma_E x' n cap anR' (fun p q => ans' (p * 4 + q)) fromsR tosR delaysR strsR fr to de st ∧ ma_inv x' per' S' ∧ ma_fd x' per' qui' nT' np' nq' ∧ ma_R row ph' co S' ∧ ma_rm t nph' nw S' ∧ (∀ p, p < 16 → rc' p = c' p) ∧ (∀ p, p < 16 → rl' p = l' p) ∧ f_L_beater N kn (nI (ms_L x).length) x per qui ans places ph c l out v1 v2 v3 v4 = some (k, kn', nI (ms_L x').length, x', per', qui', ans', pl', ph', c', l', out') ∧ f_X8_beater N nT np nph nq rc rl anR v1 v2 v3 v4 = some (v, k, nT', np', nph', nq', rc', rl', anR') ∧ (k = 0 → out' 0 = v.toInt64) :=
    fun k hk h1 h2 => ⟨k, 0, out, kn, x, per, qui, ans, places, ph, c, l, nT, np, nph, nq, rc, rl, anR, S, Or.inr ⟨rfl, rfl, rfl, rfl, rfl, rfl⟩, hx, C, E, hinv, hf, hR, hrm, hc, hl, h1, h2, fun w => absurd w hk⟩
  have in01 : ∀ (w lo hi : Int64), (∃ v : Int32, w = v.toInt64) → ∃ o : Int32, f_X8_in N w lo hi = some o ∧ (o = 0 ∨ o = 1) := fun w lo hi hw => by
    obtain ⟨v, rfl⟩ := hw
    refine ⟨_, mx_in v lo hi, ?_⟩
    split
    · exact Or.inr rfl
    · exact Or.inl rfl
  by_cases hpl : 0 ≤ v1.toInt ∧ v1.toInt ≤ 19
  · have p1 : f_X5_checkPlace N v1 = some (.inr ()) := by rw [mx_checkPlace, if_pos hpl]
    have p2 : f_X8_isPlace N v1 = some 1 := by rw [mx_isPlace, if_pos hpl]
    rcases mx_range (N := N) v2 2 99 (by omega) (by omega) with ⟨r1, r2⟩ | ⟨P, hP1, hP2, rfl, r1, r2⟩
    · have r1 : f_X5_checkRange N v2 (2 : Int32) (99 : Int32) = _ := r1
      have r2 : f_X8_in N v2.toInt64 (2 : Int64) (99 : Int64) = _ := r2
      refine same 2 (by decide) ?_ ?_
      · unfold f_L_beater f_X5_beater
        rw [p1, Option.bind_some]
        simp only [Sum.elim_inr]
        rw [r1]
        rfl
      · unfold f_X8_beater
        rw [r2, Option.bind_some, if_pos rfl]
        rw [p2]
        rfl
    · have r1 : f_X5_checkRange N (nI P) (2 : Int32) (99 : Int32) = _ := r1
      have r2 : f_X8_in N (nI P).toInt64 (2 : Int64) (99 : Int64) = _ := r2
      have eP : nI P - (1 : Int32) = nI (P - 1) := nI_p1 (by omega)
      have eP2 : (nI (P - 1)).toInt64 = lN (P - 1) := nI_l (by omega)
      rcases mx_range (N := N) v3 0 (P - 1) (by omega) (by omega) with ⟨r3, r4⟩ | ⟨a, -, ha, rfl, r3, r4⟩
      · have r3 : f_X5_checkRange N v3 (0 : Int32) (nI P - (1 : Int32)) = some (.inl "java/lang/IllegalArgumentException") := by rw [eP]; exact r3
        have r4 : f_X8_in N v3.toInt64 (0 : Int64) (nI P - (1 : Int32)).toInt64 = some 0 := by rw [eP, eP2]; exact r4
        refine same 2 (by decide) ?_ ?_
        · unfold f_L_beater f_X5_beater
          rw [p1, Option.bind_some]
          simp only [Sum.elim_inr]
          rw [r1, Option.bind_some]
          simp only [Sum.elim_inr]
          rw [r3]
          rfl
        · unfold f_X8_beater
          rw [r2, Option.bind_some, if_neg (show ¬ (1 : Int32) = 0 by decide)]
          rw [r4, Option.bind_some, if_pos rfl]
          rw [p2]
          rfl
      · have r3 : f_X5_checkRange N (nI a) (0 : Int32) (nI P - (1 : Int32)) = some (.inr ()) := by rw [eP]; exact r3
        have r4 : f_X8_in N (nI a).toInt64 (0 : Int64) (nI P - (1 : Int32)).toInt64 = some 1 := by rw [eP, eP2]; exact r4
        rcases mx_range (N := N) v4 0 (P - 1) (by omega) (by omega) with ⟨r5, r6⟩ | ⟨b, -, hb, rfl, r5, r6⟩
        · have r5 : f_X5_checkRange N v4 (0 : Int32) (nI P - (1 : Int32)) = some (.inl "java/lang/IllegalArgumentException") := by rw [eP]; exact r5
          have r6 : f_X8_in N v4.toInt64 (0 : Int64) (nI P - (1 : Int32)).toInt64 = some 0 := by rw [eP, eP2]; exact r6
          refine same 2 (by decide) ?_ ?_
          · unfold f_L_beater f_X5_beater
            rw [p1, Option.bind_some]
            simp only [Sum.elim_inr]
            rw [r1, Option.bind_some]
            simp only [Sum.elim_inr]
            rw [r3, Option.bind_some]
            simp only [Sum.elim_inr]
            rw [r5]
            rfl
          · unfold f_X8_beater
            rw [r2, Option.bind_some, if_neg (show ¬ (1 : Int32) = 0 by decide)]
            rw [r4, Option.bind_some, if_neg (show ¬ (1 : Int32) = 0 by decide)]
            rw [r6, Option.bind_some, if_pos rfl]
            rw [p2]
            rfl
        · have r5 : f_X5_checkRange N (nI b) (0 : Int32) (nI P - (1 : Int32)) = some (.inr ()) := by rw [eP]; exact r5
          have r6 : f_X8_in N (nI b).toInt64 (0 : Int64) (nI P - (1 : Int32)).toInt64 = some 1 := by rw [eP, eP2]; exact r6
          rcases i32_cases v1 with hv | ⟨p, hp31, rfl⟩
          · rw [Int32.lt_iff_toInt_lt] at hv
            have e0 : (0 : Int32).toInt = 0 := by decide
            omega
          · by_cases hp : p < 16
            · have l16 : nI p < (16 : Int32) := nI_lt (b := 16) hp (by omega)
              have g1 : ∀ {α : Type} (x : Option α), zk_g (nI p) 16 x = x := fun x => mg_g hp (by omega) x
              have k1 : (nI p).toNatClampNeg = p := nI_clamp (by omega)
              obtain ⟨ans', pl', ep, C', h1⟩ := mx_put hN hp C (nI P) (nI b)
              obtain ⟨anR', er, h2⟩ := mx_be_161 (N := N) hp 4 0 N anR (by omega) (by omega)
              have er : f_X8_beater_161 N (nI p) N (0 : Int32) anR = _ := er
              have up : ∀ (f : Nat → Int32) (v : Int32) (q : Nat), upd f p v q = if q = p then v else f q := fun f v q => rfl
              have hbx : ∀ q, bt (x ||| ((1 : Int32) <<< (nI p &&& 31))) q = (bt x q || decide (q = p)) := fun q => mx_bit hp
              have hbo : ∀ q, q ≠ p → bt (x ||| ((1 : Int32) <<< (nI p &&& 31))) q = bt x q := fun q hq => by rw [hbx, decide_eq_false hq, Bool.or_false]
              have hbp : bt (x ||| ((1 : Int32) <<< (nI p &&& 31))) p = true := by rw [hbx, decide_eq_true rfl, Bool.or_true]
              refine ⟨0, if bt x p then 1 else 0, vp_updL out 0 (if bt x p then 1 else 0), 0, (x ||| ((1 : Int32) <<< (nI p &&& 31))), upd per p (nI P), upd qui p (nI b), ans', pl', upd ph p (nI a), upd c p 0, upd l p 0, upd nT p 1, upd np p (nI P), upd nph p (nI a), upd nq p (nI b), upd rc p 0, upd rl p 0, anR', (upd S.1 p (nI a), S.2), Or.inl rfl, fun q hq => ?_, C', ⟨E.1, E.2.1, E.2.2.1, E.2.2.2.1, fun q hq hbq d hd => ?_⟩, ⟨fun q hq hbq => ?_, hinv.2⟩, fun q hq => ?_, ?_, ?_, fun q hq => ?_, fun q hq => ?_, ?_, ?_, fun _ => ?_⟩
              · rw [hbo q (by omega)]; exact hx q hq
              · show anR' q d = ans' (q * 4 + d)
                rw [h2, h1]
                by_cases w : q = p
                · rw [if_pos ⟨w, by omega, hd⟩, if_pos (by omega)]
                · rw [if_neg (fun u => w u.1), if_neg (by omega)]
                  rw [hbo q w] at hbq
                  exact E.2.2.2.2 q hq hbq d hd
              · show ∃ a' c', upd S.1 p (nI a) q = nI a' ∧ upd per p (nI P) q = nI c' ∧ _
                rw [up, up]
                by_cases w : q = p
                · rw [if_pos w, if_pos w]
                  exact ⟨a, P, rfl, rfl, by omega, by omega⟩
                · rw [if_neg w, if_neg w]
                  rw [hbo q w] at hbq
                  exact hinv.1 q hq hbq
              · rw [up, up, up, up, up]
                by_cases w : q = p
                · simp only [if_pos w]
                  rw [w, hbp]
                  exact ⟨rfl, fun _ => by simp⟩
                · simp only [if_neg w]
                  rw [hbo q w]
                  exact hf q hq
              · obtain ⟨r, q1, q2, q3, q4⟩ := hR
                refine ⟨r, q1, q2, fun q hq => ?_, q4⟩
                show upd ph p (nI a) q = upd S.1 p (nI a) q
                rw [up, up, q3 q hq]
              · obtain ⟨q3, q4⟩ := hrm
                refine ⟨fun q hq => ?_, q4⟩
                show upd nph p (nI a) q = upd S.1 p (nI a) q
                rw [up, up, q3 q hq]
              · rw [up, up, hc q hq]
              · rw [up, up, hl q hq]
              · have ee : f_X5_beater N kn (nI (ms_L x).length) x per qui ans places ph c l (nI p) (nI P) (nI a) (nI b) = some (.inr (if bt x p then 1 else 0, 0, nI (ms_L (x ||| ((1 : Int32) <<< (nI p &&& 31)))).length, (x ||| ((1 : Int32) <<< (nI p &&& 31))), upd per p (nI P), upd qui p (nI b), ans', pl', upd ph p (nI a), upd c p 0, upd l p 0)) := by
                  unfold f_X5_beater
                  rw [p1, Option.bind_some]
                  simp only [Sum.elim_inr]
                  rw [r1, Option.bind_some]
                  simp only [Sum.elim_inr]
                  rw [r3, Option.bind_some]
                  simp only [Sum.elim_inr]
                  rw [r5, Option.bind_some]
                  simp only [Sum.elim_inr]
                  rw [if_pos l16, mx_has hp, Option.bind_some, ep, Option.bind_some, g1, g1, g1, k1]
                  cases bt x p <;> rfl
                unfold f_L_beater
                rw [ee]
                cases bt x p <;> rfl
              · unfold f_X8_beater
                rw [r2, Option.bind_some, if_neg (show ¬ (1 : Int32) = 0 by decide), r4, Option.bind_some, if_neg (show ¬ (1 : Int32) = 0 by decide), r6, Option.bind_some, if_neg (show ¬ (1 : Int32) = 0 by decide), p2, Option.bind_some, if_neg (show ¬ (1 : Int32) = 0 by decide), if_pos l16]
                simp only [g1, k1]
                rw [er, Option.bind_some, hT p hp, vn1]
                cases bt x p <;> rfl
              · unfold vp_updL
                rw [if_pos rfl]
                cases bt x p <;> rfl
            · have l16 : ¬ nI p < (16 : Int32) := nI_nlt (b := 16) (by omega) hp31
              refine same 3 (by decide) ?_ ?_
              · unfold f_L_beater f_X5_beater
                rw [p1, Option.bind_some]
                simp only [Sum.elim_inr]
                rw [r1, Option.bind_some]
                simp only [Sum.elim_inr]
                rw [r3, Option.bind_some]
                simp only [Sum.elim_inr]
                rw [r5, Option.bind_some]
                simp only [Sum.elim_inr]
                rw [if_neg l16]
                rfl
              · unfold f_X8_beater
                rw [r2, Option.bind_some, if_neg (show ¬ (1 : Int32) = 0 by decide), r4, Option.bind_some, if_neg (show ¬ (1 : Int32) = 0 by decide), r6, Option.bind_some, if_neg (show ¬ (1 : Int32) = 0 by decide), p2, Option.bind_some, if_neg (show ¬ (1 : Int32) = 0 by decide), if_neg l16]
  · have p1 : f_X5_checkPlace N v1 = some (.inl "java/lang/IndexOutOfBoundsException") := by rw [mx_checkPlace, if_neg hpl]
    have p2 : f_X8_isPlace N v1 = some 0 := by rw [mx_isPlace, if_neg hpl]
    refine same 1 (by decide) ?_ ?_
    · unfold f_L_beater f_X5_beater
      rw [p1]
      rfl
    · unfold f_X8_beater
      obtain ⟨o1, f1, g1⟩ := in01 v2.toInt64 2 99 ⟨v2, rfl⟩
      rw [f1, Option.bind_some]
      rcases g1 with rfl | rfl
      · rw [if_pos rfl, p2]; rfl
      · obtain ⟨o2, f2, g2⟩ := in01 v3.toInt64 0 (v2 - (1 : Int32)).toInt64 ⟨v3, rfl⟩
        rw [if_neg (show ¬ (1 : Int32) = 0 by decide), f2, Option.bind_some]
        rcases g2 with rfl | rfl
        · rw [if_pos rfl, p2]; rfl
        · obtain ⟨o3, f3, g3⟩ := in01 v4.toInt64 0 (v2 - (1 : Int32)).toInt64 ⟨v4, rfl⟩
          rw [if_neg (show ¬ (1 : Int32) = 0 by decide), f3, Option.bind_some]
          rcases g3 with rfl | rfl
          · rw [if_pos rfl, p2]; rfl
          · rw [if_neg (show ¬ (1 : Int32) = 0 by decide), p2]; rfl

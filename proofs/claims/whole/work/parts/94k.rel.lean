/-! rows of mine: map agrees and keeps the relation -/
theorem ma_F_eqv {y : Int32} {per qui : Nat → Int32} {an : Nat → Nat → Int32} {X Y : Nat → ma_S} (h : ∀ i, ma_eqv y (X i) (Y i)) (t p : Nat) (hp : p < 16) : ma_F y per qui an X t p = ma_F y per qui an Y t p := by
  unfold ma_F ma_flS
  cases hb : bt y p
  · rw [Bool.false_and, Bool.false_and]
  · obtain ⟨h1, h2⟩ := h t p hp hb
    have h3 := h2 1 (by omega) (by omega)
    unfold ma_fl ma_np ma_val
    simp only [h1, h3]
theorem ca_map {N n cap z t : Nat} (hN : 5100 ≤ N) (ht : t < 2 ^ 29) (hz : z < 2147483647) {x : Int32} {places per qui ans froms tos delays st : Nat → Int32} {fr to de : Nat → Nat} {S : ma_S} (C : ma_C x n places ans froms tos delays st fr to de) (hinv : ma_inv x per S) {anR : Nat → Nat → Int32} {fromsR tosR delaysR strsR : Nat → Int32} (E : ma_E x n cap anR (fun p q => ans (p * 4 + q)) fromsR tosR delaysR strsR fr to de st) {nT np nq : Nat → Int32} (hf : ma_fd x per qui nT np nq) {tr : Int32} (htr : ∃ r, tr = nI r ∧ r < 32) (b0 m0 l0 : Int32) (pl pper pqui pans pf pt pd ps tp tc nph nw : Nat → Int32) (ft : Int32) (fT fp fph fq fw ff : Nat → Int32) (out : Nat → Int64) (v1 v2 v3 : Int32) : ∃ (k v : Int32) (out' : Nat → Int64) (pb' pm' pn' : Int32) (g1' g2' g3' g4' g5' g6' g7' g8' : Nat → Int32) (tr' : Int32) (tp' tc' : Nat → Int32) (ft' : Int32) (fT' fp' fph' fq' fw' ff' : Nat → Int32), (∃ r, tr' = nI r ∧ r < 32) ∧ f_L_map N x (nI n) per b0 m0 l0 pl pper qui pqui ans pans froms tos delays st pf pt pd ps tr tp tc out v1 v2 v3 = some (k, pb', pm', pn', g1', g2', g3', g4', g5', g6', g7', g8', tr', tp', tc', out') ∧ f_X8_map N (lN z) (nI t) nT np ft fT fp nph fph nq fq fw nw ff anR (nI n) cap fromsR tosR delaysR strsR v1 v2 v3 = some (v, k, lN z, ft', fT', fp', fph', fq', fw', ff') ∧ (k = 0 → out' 0 = v.toInt64) := by
  have hT : ∀ q, q < 16 → nT q = if bt x q then 1 else 0 := fun q hq => (hf q hq).1
  have bad : ∀ (k : Int32) (ex : String), ¬ k = 0 → f_X5_map N x (nI n) per b0 m0 l0 pl pper qui pqui ans pans froms tos delays st pf pt pd ps tr tp tc v1 v2 v3 = some (.inl (ex, b0, m0, l0, pl, pper, pqui, pans, pf, pt, pd, ps, tr, tp, tc)) → f_L_map N x (nI n) per b0 m0 l0 pl pper qui pqui ans pans froms tos delays st pf pt pd ps tr tp tc out v1 v2 v3 = some (k, b0, m0, l0, pl, pper, pqui, pans, pf, pt, pd, ps, tr, tp, tc, out) → f_X8_map N (lN z) (nI t) nT np ft fT fp nph fph nq fq fw nw ff anR (nI n) cap fromsR tosR delaysR strsR v1 v2 v3 = some (0, k, lN z, ft, fT, fp, fph, fq, fw, ff) → (∃ (k v : Int32) (out' : Nat → Int64) (pb' pm' pn' : Int32) (g1' g2' g3' g4' g5' g6' g7' g8' : Nat → Int32) (tr' : Int32) (tp' tc' : Nat → Int32) (ft' : Int32) (fT' fp' fph' fq' fw' ff' : Nat → Int32), (∃ r, tr' = nI r ∧ r < 32) ∧ f_L_map N x (nI n) per b0 m0 l0 pl pper qui pqui ans pans froms tos delays st pf pt pd ps tr tp tc out v1 v2 v3 = some (k, pb', pm', pn', g1', g2', g3', g4', g5', g6', g7', g8', tr', tp', tc', out') ∧ f_X8_map N (lN z) (nI t) nT np ft fT fp nph fph nq fq fw nw ff anR (nI n) cap fromsR tosR delaysR strsR v1 v2 v3 = some (v, k, lN z, ft', fT', fp', fph', fq', fw', ff') ∧ (k = 0 → out' 0 = v.toInt64)) := fun k ex hk _ b c => ⟨k, 0, out, b0, m0, l0, pl, pper, pqui, pans, pf, pt, pd, ps, tr, tp, tc, ft, fT, fp, fph, fq, fw, ff, htr, b, c, fun q => absurd q hk⟩
  rcases mx_pair (N := N) v1 v2 hT with ⟨e1, e2⟩ | ⟨e1, e2⟩ | ⟨e1, e2⟩ | ⟨p, q, hp, hq, hpq, rfl, rfl, hbp, hbq, e1, e2⟩
  · have a : f_X5_map N x (nI n) per b0 m0 l0 pl pper qui pqui ans pans froms tos delays st pf pt pd ps tr tp tc v1 v2 v3 = some (.inl ("java/lang/IndexOutOfBoundsException", b0, m0, l0, pl, pper, pqui, pans, pf, pt, pd, ps, tr, tp, tc)) := by
      unfold f_X5_map
      rw [e1]
      rfl
    refine bad 1 _ (by decide) a ?_ ?_
    · unfold f_L_map
      rw [a]
      rfl
    · unfold f_X8_map
      rw [e2]
      rfl
  · have a : f_X5_map N x (nI n) per b0 m0 l0 pl pper qui pqui ans pans froms tos delays st pf pt pd ps tr tp tc v1 v2 v3 = some (.inl ("java/lang/IllegalArgumentException", b0, m0, l0, pl, pper, pqui, pans, pf, pt, pd, ps, tr, tp, tc)) := by
      unfold f_X5_map
      rw [e1]
      rfl
    refine bad 2 _ (by decide) a ?_ ?_
    · unfold f_L_map
      rw [a]
      rfl
    · unfold f_X8_map
      rw [e2]
      rfl
  · have a : f_X5_map N x (nI n) per b0 m0 l0 pl pper qui pqui ans pans froms tos delays st pf pt pd ps tr tp tc v1 v2 v3 = some (.inl ("java/util/NoSuchElementException", b0, m0, l0, pl, pper, pqui, pans, pf, pt, pd, ps, tr, tp, tc)) := by
      unfold f_X5_map
      rw [e1]
      rfl
    refine bad 3 _ (by decide) a ?_ ?_
    · unfold f_L_map
      rw [a]
      rfl
    · unfold f_X8_map
      rw [e2]
      rfl
  · obtain ⟨sq, cq, -, hcq, hsq, hcq2⟩ := hinv.1 q hq hbq
    obtain ⟨sp, cp, -, hcp, hsp, hcp2⟩ := hinv.1 p hp hbp
    have hnq : np q = nI cq := ((hf q hq).2 hbq).1.trans hcq
    have kq : ∀ {β : Type} (y : Option β), zk_g (nI q) 16 y = y := fun y => mg_g hq (by omega) y
    have kp : ∀ {β : Type} (y : Option β), zk_g (nI p) 16 y = y := fun y => mg_g hp (by omega) y
    have q31 : (nI q).toNatClampNeg = q := nI_clamp (by omega)
    have p31 : (nI p).toNatClampNeg = p := nI_clamp (by omega)
    have e0 : (0 : Int64).toInt = 0 := by decide
    have hin : f_X8_in N v3.toInt64 (0 : Int64) ((nI cq - (1 : Int32)).toInt64) = some (if 0 ≤ v3.toInt ∧ v3.toInt < (cq : Int) then 1 else 0) := by
      rw [mx_in, e0, Int32.toInt_toInt64, nI_p1 (by omega), nI_toInt (by omega)]
      by_cases w : 0 ≤ v3.toInt ∧ v3.toInt < (cq : Int)
      · rw [if_pos w, if_pos (by omega)]
      · rw [if_neg w, if_neg (by omega)]
    by_cases hv : 0 ≤ v3.toInt ∧ v3.toInt < (cq : Int)
    · rw [if_pos hv] at hin
      obtain ⟨v, hvc, rfl⟩ : ∃ v : Nat, v < cq ∧ v3 = nI v := ⟨v3.toInt.toNat, by omega, by
        apply Int32.toInt_inj.mp
        rw [nI_toInt (by omega)]
        omega⟩
      obtain ⟨c, g, pl2, F, T, D, ST, tp2, tc2, s1, C2, hg, hs, htp, htc⟩ := mx_setPair (N := N) (per := per) (qui := qui) (by omega) hp hq C pl pper pqui pans pf pt pd ps tp tc
      obtain ⟨a', b', c', d', w', s2, h1, h2⟩ := mx_takesTwo (N := N) (t := nI t) (w := nw) (by omega) hp hq (isT := nT) (fun i hi => by rw [hT i hi]; split; exact Or.inr rfl; exact Or.inl rfl) (per := np) (ph := nph) (qui := nq) fT fp fph fq fw
      have two : ∀ i, bt (ma_two p q) i = true ↔ i = p ∨ i = q := fun i => ma_two_t hp hq
      have cpy : ∀ i, i < 16 → va_cpy per pper 0 0 16 i = per i := fun i hi => va_cpy_at hi
      have cpq : ∀ i, i < 16 → va_cpy qui pqui 0 0 16 i = qui i := fun i hi => va_cpy_at hi
      have cpa : ∀ i, i < 64 → va_cpy ans pans 0 0 64 i = ans i := fun i hi => va_cpy_at hi
      have uq : ∀ (f : Nat → Int32) w, upd f q w q = w := fun f w => by simp [upd]
      have up : ∀ (f : Nat → Int32) w w2, upd (upd f p w) q w2 p = w := fun f w w2 => by simp [upd, hpq]
      have ok : ∀ f : Nat → Int32, ma_ok (ma_two p q) (va_cpy per pper 0 0 16) (ma_S0 (upd (upd f p 0) q (nI v))) := fun f i hi hb => by
        rcases (two i).mp hb with w | w
        · subst w
          exact ⟨0, cp, up f 0 (nI v), (cpy i hi).trans hcp, by omega, hcp2⟩
        · subst w
          exact ⟨v, cq, uq _ _, (cpy i hi).trans hcq, hvc, hcq2⟩
      have E2 : ma_E (ma_two p q) n cap anR (fun a b => va_cpy ans pans 0 0 64 (a * 4 + b)) fromsR tosR delaysR strsR fr to de st := ⟨E.1, E.2.1, E.2.2.1, E.2.2.2.1, fun i hi hb k hk => by
        show anR i k = va_cpy ans pans 0 0 64 (i * 4 + k)
        rw [cpa (i * 4 + k) (by omega)]
        rcases (two i).mp hb with w | w
        · subst w; exact E.2.2.2.2 i hi hbp k hk
        · subst w; exact E.2.2.2.2 i hi hbq k hk⟩
      have f2 : ma_fd (ma_two p q) (va_cpy per pper 0 0 16) (va_cpy qui pqui 0 0 16) a' b' d' := fun i hi => ⟨(h1 i hi).1, fun hb => by
        have hbx : bt x i = true := by
          rcases (two i).mp hb with w | w
          · subst w; exact hbp
          · subst w; exact hbq
        rw [(h1 i hi).2.1, (h1 i hi).2.2.2, cpy i hi, cpq i hi]
        exact (hf i hi).2 hbx⟩
      obtain ⟨r, rfl, hr⟩ := htr
      have han2 : ma_an (fun a b => va_cpy ans pans 0 0 64 (a * 4 + b)) := C2.2.2.2.1
      obtain ⟨X, hXd⟩ : ∃ X : Nat → ma_S, X = ma_X (ma_two p q) (va_cpy per pper 0 0 16) (va_cpy qui pqui 0 0 16) (fun a b => va_cpy ans pans 0 0 64 (a * 4 + b)) c (fun j => fr (g j)) (fun j => to (g j)) (fun j => de (g j)) ST (ma_S0 (upd (upd tp2 p 0) q (nI v))) := ⟨_, rfl⟩
      obtain ⟨Y, hYd⟩ : ∃ Y : Nat → ma_S, Y = ma_X (ma_two p q) (va_cpy per pper 0 0 16) (va_cpy qui pqui 0 0 16) (fun a b => va_cpy ans pans 0 0 64 (a * 4 + b)) n fr to de st (ma_S0 (upd (upd c' p 0) q (nI v))) := ⟨_, rfl⟩
      have hXY : ∀ i, ma_eqv (ma_two p q) (X i) (Y i) := by
        rw [hXd, hYd]
        refine ma_pair_X (fun k hk => (C.2.1 k hk).2.2.2.1) hg hs (fun i hi hb => ?_)
        rcases (two i).mp hb with w | w
        · subst w
          exact ⟨(up tp2 0 (nI v)).trans (up c' 0 (nI v)).symm, fun _ _ _ => rfl⟩
        · subst w
          exact ⟨(uq _ _).trans (uq _ _).symm, fun _ _ _ => rfl⟩
      have hX1 : ∀ i, X (i + 1) = ma_step (ma_two p q) (va_cpy per pper 0 0 16) (va_cpy qui pqui 0 0 16) (fun a b => va_cpy ans pans 0 0 64 (a * 4 + b)) c (fun j => fr (g j)) (fun j => to (g j)) (fun j => de (g j)) ST (X i) := fun i => by rw [hXd]; rfl
      have hY1 : ∀ i, Y (i + 1) = ma_step (ma_two p q) (va_cpy per pper 0 0 16) (va_cpy qui pqui 0 0 16) (fun a b => va_cpy ans pans 0 0 64 (a * 4 + b)) n fr to de st (Y i) := fun i => by rw [hYd]; rfl
      have iX : ∀ i, ma_inv (ma_two p q) (va_cpy per pper 0 0 16) (X i) := by rw [hXd]; exact ma_pr_X C2.1 han2 C2.2.2.2.2 (ma_inv_0 (ok tp2))
      have iY : ∀ i, ma_inv (ma_two p q) (va_cpy per pper 0 0 16) (Y i) := by rw [hYd]; exact ma_pr_X C.1 han2 C.2.2.2.2 (ma_inv_0 (ok c'))
      have R0 : ma_R (nI r) (upd (upd tp2 p 0) q (nI v)) tc2 (X 0) := by rw [hXd]; exact ⟨r, rfl, ma_rc_0 hr htc⟩
      have M0 : ma_rm (t + 0) (upd (upd c' p 0) q (nI v)) w' (Y 0) := by rw [hYd]; exact ma_rm_0 h2
      obtain ⟨o, m1, ho⟩ := mx_map_62 (N := N) (by omega) C2 hX1 iX hp 999 0 N (nI r) _ _ (by omega) (by omega) R0
      obtain ⟨o2, m2, ho2⟩ := mx_mapR_83 (N := N) hN ht E2 hY1 iY hz hp f2 999 0 N _ w' ff (by omega) (by omega) M0
      have m1 : f_X5_map_62 N (nI (ms_L (ma_two p q)).length) (nI c) pl2 (va_cpy per pper 0 0 16) (va_cpy qui pqui 0 0 16) (va_cpy ans pans 0 0 64) F T D ST (nI p) N (0 : Int32) (nI r) (upd (upd tp2 p 0) q (nI v)) tc2 = some o := m1
      have m2 : f_X8_map_83 N a' b' d' anR (nI n) cap fromsR tosR delaysR strsR (nI p) N (0 : Int32) (lN z) (nI t) (upd (upd c' p 0) q (nI v)) w' ff = some o2 := m2
      have hvlt : nI v < per q := by rw [hcq]; exact nI_lt hvc (by omega)
      have hL : ∀ o', o = o' → f_X5_map N x (nI n) per b0 m0 l0 pl pper qui pqui ans pans froms tos delays st pf pt pd ps (nI r) tp tc (nI p) (nI q) (nI v) = (Sum.elim (fun (u : Int32 × Int32 × (Nat → Int32) × (Nat → Int32)) => some (.inr (u.2.2.1 q, nI (ms_L (ma_two p q)).length, ma_two p q, nI c, pl2, va_cpy per pper 0 0 16, va_cpy qui pqui 0 0 16, va_cpy ans pans 0 0 64, F, T, D, ST, u.2.1, u.2.2.1, u.2.2.2))) (fun (u : Int32 × Int32 × (Nat → Int32) × (Nat → Int32)) => some (.inl ("java/lang/ArithmeticException", nI (ms_L (ma_two p q)).length, ma_two p q, nI c, pl2, va_cpy per pper 0 0 16, va_cpy qui pqui 0 0 16, va_cpy ans pans 0 0 64, F, T, D, ST, u.2.1, u.2.2.1, u.2.2.2))) o') := fun o' eo => by
        subst eo
        unfold f_X5_map
        rw [e1, Option.bind_some, Sum.elim_inr, if_neg (nI_pos (by omega)), kq, q31, if_pos hvlt, s1, Option.bind_some, kp, kq, p31]
        dsimp only
        rw [m1, Option.bind_some]
        cases o with
        | inl u => simp only [Sum.elim_inl, kq]
        | inr u => simp only [Sum.elim_inr]
      have hR9 : ∀ o', o2 = o' → f_X8_map N (lN z) (nI t) nT np ft fT fp nph fph nq fq fw nw ff anR (nI n) cap fromsR tosR delaysR strsR (nI p) (nI q) (nI v) = (Sum.elim (fun (u : Int32 × Int64 × Int32 × (Nat → Int32) × (Nat → Int32) × (Nat → Int32)) => some (u.2.2.2.1 q, (0 : Int32), u.2.1, u.2.2.1, a', b', u.2.2.2.1, d', u.2.2.2.2.1, u.2.2.2.2.2)) (fun (u : Int32 × Int64 × Int32 × (Nat → Int32) × (Nat → Int32) × (Nat → Int32)) => some ((0 : Int32), (4 : Int32), u.2.1, u.2.2.1, a', b', u.2.2.2.1, d', u.2.2.2.2.1, u.2.2.2.2.2)) o') := fun o' eo => by
        subst eo
        unfold f_X8_map
        rw [e2, Option.bind_some, if_pos rfl, kq, q31, hnq, hin, Option.bind_some, if_neg (show ¬ (1 : Int32) = 0 by decide), s2, Option.bind_some, kp, kq, p31]
        dsimp only
        rw [m2, Option.bind_some]
        cases o2 with
        | inl u => simp only [Sum.elim_inl, kq]
        | inr u => simp only [Sum.elim_inr]
      have hFF : ∀ s, ma_F (ma_two p q) (va_cpy per pper 0 0 16) (va_cpy qui pqui 0 0 16) (fun a b => va_cpy ans pans 0 0 64 (a * 4 + b)) X s p = ma_F (ma_two p q) (va_cpy per pper 0 0 16) (va_cpy qui pqui 0 0 16) (fun a b => va_cpy ans pans 0 0 64 (a * 4 + b)) Y s p := fun s => ma_F_eqv hXY s p hp
      rcases ho with ⟨j, row', ph', co', eo, -, hj, hFj, hFs, hRj⟩ | ⟨row', ph', co', eo, hFs, hRj⟩
      · rcases ho2 with ⟨j2, ph2, w2, f9, eo2, -, hj2, hFj2, hFs2, hMj⟩ | ⟨ph2, w2, f9, eo2, hFs2⟩
        · have hjj : j2 = j := by
            rcases Nat.lt_trichotomy j2 j with w | w | w
            · have := hFs j2 (by omega) w
              rw [hFF, hFj2] at this
              exact absurd this (by decide)
            · exact w
            · have := hFs2 j (by omega) w
              rw [← hFF, hFj] at this
              exact absurd this (by decide)
          subst hjj
          have ev : ph' q = ph2 q := by
            rw [ma_R_ph hRj hq, hMj.1 q hq]
            exact (hXY (j2 + 1) q hq ((two q).mpr (Or.inr rfl))).1
          obtain ⟨r', er', hrc'⟩ := hRj
          refine ⟨0, ph' q, vp_updL out 0 (ph' q).toInt64, nI (ms_L (ma_two p q)).length, ma_two p q, nI c, pl2, va_cpy per pper 0 0 16, va_cpy qui pqui 0 0 16, va_cpy ans pans 0 0 64, F, T, D, ST, row', ph', co', nI (t + (j2 + 1)), a', b', ph2, d', w2, f9, ⟨r', er', hrc'.1⟩, ?_, ?_, fun _ => lr_u0 out _⟩
          · unfold f_L_map
            rw [hL _ eo]
            rfl
          · rw [hR9 _ eo2, ev]
            rfl
        · have := hFs2 j (by omega) hj
          rw [← hFF, hFj] at this
          exact absurd this (by decide)
      · rcases ho2 with ⟨j2, ph2, w2, f9, eo2, -, hj2, hFj2, hFs2, hMj⟩ | ⟨ph2, w2, f9, eo2, hFs2⟩
        · have := hFs j2 (by omega) hj2
          rw [hFF, hFj2] at this
          exact absurd this (by decide)
        · obtain ⟨r', er', hrc'⟩ := hRj
          refine ⟨4, 0, out, nI (ms_L (ma_two p q)).length, ma_two p q, nI c, pl2, va_cpy per pper 0 0 16, va_cpy qui pqui 0 0 16, va_cpy ans pans 0 0 64, F, T, D, ST, row', ph', co', nI (t + 999), a', b', ph2, d', w2, f9, ⟨r', er', hrc'.1⟩, ?_, ?_, fun w => absurd w (by decide)⟩
          · unfold f_L_map
            rw [hL _ eo]
            rfl
          · rw [hR9 _ eo2]
            rfl
    · rw [if_neg hv] at hin
      have a : f_X5_map N x (nI n) per b0 m0 l0 pl pper qui pqui ans pans froms tos delays st pf pt pd ps tr tp tc (nI p) (nI q) v3 = some (.inl ("java/lang/ArithmeticException", b0, m0, l0, pl, pper, pqui, pans, pf, pt, pd, ps, tr, tp, tc)) := by
        unfold f_X5_map
        rw [e1, Option.bind_some, Sum.elim_inr]
        by_cases w : v3 < 0
        · rw [if_pos w]
        · rw [if_neg w, kq, q31, if_neg (show ¬ v3 < per q from fun w2 => ?_)]
          have a1 := Int32.lt_iff_toInt_lt.mp w2
          have a2 : ¬ v3.toInt < (0 : Int32).toInt := fun y => w (Int32.lt_iff_toInt_lt.mpr y)
          rw [hcq, nI_toInt (by omega)] at a1
          have y : (0 : Int32).toInt = 0 := by decide
          omega
      refine bad 4 _ (by decide) a ?_ ?_
      · unfold f_L_map
        rw [a]
        rfl
      · unfold f_X8_map
        rw [e2, Option.bind_some, if_pos rfl, kq, q31, hnq, hin]
        rfl

set_option maxHeartbeats 2000000 in
theorem lr_map : lw_S_map ma_Rel := by
  intro j hj v_x_ticksPassed v_x_noiseShare v_x_lot v_x_aheadKnown v_x_aheadEnds v_x_swings_stiffness v_x_swings_pull v_x_swings_there v_x_swings_angles v_x_setting_beaters v_x_setting_mask v_x_setting_links v_x_setting_answers v_x_setting_periods v_x_setting_quiets v_x_setting_places v_x_now_row v_x_now_phases v_x_flashCounts v_x_lastFlashes v_x_ahead_leadTicks v_x_ahead_cycleTicks v_x_ahead_behind_row v_x_ahead_behind_phases v_x_now_coming v_x_ahead_behind_coming v_x_ahead_front_row v_x_ahead_front_phases v_x_ahead_front_coming v_x_setting_froms v_x_setting_delays v_x_setting_tos v_x_setting_strengths v_x_ahead_flashed v_x_swings_speeds v_x_marks_count v_x_marks_ticks v_x_ahead_groupNumbers v_x_trial_leadTicks v_x_trial_cycleTicks v_x_trial_behind_row v_x_trial_behind_phases v_x_trial_behind_coming v_x_trial_front_row v_x_trial_front_phases v_x_trial_front_coming v_x_trial_flashed v_x_trial_groupNumbers v_x_trialStart_row v_x_trialStart_phases v_x_trialStart_coming v_x_pair_beaters v_x_pair_mask v_x_pair_links v_x_pair_places v_x_pair_periods v_x_pair_quiets v_x_pair_answers v_x_pair_froms v_x_pair_tos v_x_pair_delays v_x_pair_strengths v_t_thrown v_t_noise v_t_z v_t_lead v_t_cycle v_t_stiffness v_t_pull v_t_swings v_t_angles v_t_now_time v_t_now_isThere v_t_answers v_t_now_period v_t_now_phase v_t_now_quiet v_t_flashed v_t_last v_t_start_time v_t_start_isThere v_t_start_period v_t_start_phase v_t_start_quiet v_t_start_waiting v_t_now_waiting v_t_slow_time v_t_slow_isThere v_t_slow_period v_t_slow_phase v_t_slow_quiet v_t_slow_waiting v_t_fast_time v_t_fast_isThere v_t_fast_period v_t_fast_phase v_t_fast_quiet v_t_fast_waiting v_t_fast_flashes v_t_slow_flashes v_t_beats v_t_areApart v_t_speeds v_t_now_flashes nl fr tt de st nk vv hR v_out v_outD ml mk cl hl1 hl2 x1 x2 x3
  obtain ⟨h, t, z, fr0, to0, de0, S, ⟨r1, r2, r3, r4⟩, hx, ⟨rfl, rfl, rfl, rfl, rfl, rfl, rfl, rfl⟩, C, E, hf, hinv, hR, hrm, hA, hc, hl, htr, hmk, hsw, hqb⟩ := hR
  have E' : ma_E v_x_setting_mask nl cl v_t_answers (fun p q => v_x_setting_answers (p * 4 + q)) fr tt de st fr0 to0 de0 v_x_setting_strengths := ⟨E.1, hl1, E.2.2⟩
  obtain ⟨k, v, out9, pb9, pm9, pn9, g19, g29, g39, g49, g59, g69, g79, g89, tr9, tp9, tc9, ft9, fT9, fp9, fph9, fq9, fw9, ff9, htr2, h1, h2, ho⟩ := ca_map (N := 6000) (n := nl) (cap := cl) (z := z) (t := t) (hN := (by decide)) (ht := (by omega)) (hz := r4) (x := v_x_setting_mask) (per := v_x_setting_periods) (qui := v_x_setting_quiets) (ans := v_x_setting_answers) (froms := v_x_setting_froms) (tos := v_x_setting_tos) (delays := v_x_setting_delays) (st := v_x_setting_strengths) (fr := fr0) (to := to0) (de := de0) (S := S) (C := C) (hinv := hinv) (anR := v_t_answers) (fromsR := fr) (tosR := tt) (delaysR := de) (strsR := st) (E := E') (nT := v_t_now_isThere) (np := v_t_now_period) (nq := v_t_now_quiet) (hf := hf) (tr := v_x_trialStart_row) (htr := htr) (b0 := v_x_pair_beaters) (m0 := v_x_pair_mask) (l0 := v_x_pair_links) (pl := v_x_pair_places) (pper := v_x_pair_periods) (pqui := v_x_pair_quiets) (pans := v_x_pair_answers) (pf := v_x_pair_froms) (pt := v_x_pair_tos) (pd := v_x_pair_delays) (ps := v_x_pair_strengths) (tp := v_x_trialStart_phases) (tc := v_x_trialStart_coming) (nph := v_t_now_phase) (nw := v_t_now_waiting) (ft := v_t_fast_time) (fT := v_t_fast_isThere) (fp := v_t_fast_period) (fph := v_t_fast_phase) (fq := v_t_fast_quiet) (fw := v_t_fast_waiting) (ff := v_t_fast_flashes) (out := v_out) (v1 := x1) (v2 := x2) (v3 := x3)
  refine ⟨6000, 6000, _, _, h1, h2, ⟨rfl, ho⟩, h, t, z, fr0, to0, de0, S, ⟨by omega, by omega, r3, r4⟩, hx, ⟨rfl, rfl, rfl, rfl, rfl, rfl, rfl, rfl⟩, C, E, hf, hinv, hR, hrm, ?_, hc, hl, htr2, hmk, hsw, hqb⟩
  exact hA

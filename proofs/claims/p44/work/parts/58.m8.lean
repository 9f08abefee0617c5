/-! rows of mine (pure): the class's search for lead and cycle -/
theorem pr_same {α : Type} {r : α → α → Prop} {X : Nat → α} (h : pr_ok r X) {b c l d : Nat} (hc : 1 ≤ c) (hb : pr_ret r X b c) (hm : ∀ e, 1 ≤ e → e < c → ¬ pr_ret r X b e) (hl : pr_min r X l d) : c = d := by
  obtain ⟨d1, d2, d3, d4⟩ := hl
  rcases Nat.lt_trichotomy c d with g | g | g
  · exact absurd (pr_any h d1 d2 hb) (d3 c hc g)
  · exact g
  · exact absurd (pr_any h hc hb d2) (hm d d1 g)
def ma_C (x : Int32) (n : Nat) (places ans froms tos delays st : Nat → Int32) (fr to de : Nat → Nat) : Prop := n ≤ 60 ∧ ma_lk n froms tos delays fr to de ∧ (∀ i, i < (ms_L x).length → places i = nI ((ms_L x).getD i 0)) ∧ ma_an (fun p q => ans (p * 4 + q)) ∧ ma_st n st
abbrev ma_step (x : Int32) (per qui : Nat → Int32) (an : Nat → Nat → Int32) (n : Nat) (fr to de : Nat → Nat) (st : Nat → Int32) (S : ma_S) : ma_S := ma_tick x per qui an n fr to de st (fun _ => 0) S
abbrev ma_X (x : Int32) (per qui : Nat → Int32) (an : Nat → Nat → Int32) (n : Nat) (fr to de : Nat → Nat) (st : Nat → Int32) (S : ma_S) : Nat → ma_S := pr_it (ma_step x per qui an n fr to de st) S
def ma_R (row : Int32) (ph co : Nat → Int32) (S : ma_S) : Prop := ∃ r, row = nI r ∧ ma_rc r ph co S
/-- the flashes of a tick, as bits -/
def ma_bits (x : Int32) (per qui : Nat → Int32) (an : Nat → Nat → Int32) (fb : Int32) (S : ma_S) : Prop := ∀ q, q < 32 → bt fb q = (decide (q < 16) && ma_flS x per qui an (fun _ => 0) S q)
theorem ma_X_inv {x : Int32} {per qui ans froms tos delays places st : Nat → Int32} {n : Nat} {fr to de : Nat → Nat} {S : ma_S} (C : ma_C x n places ans froms tos delays st fr to de) (h : ma_inv x per S) : ∀ k, ma_inv x per (ma_X x per qui (fun p q => ans (p * 4 + q)) n fr to de st S k)
  | 0 => h
  | k + 1 => ma_inv_tick C.1 C.2.2.2.1 C.2.2.2.2 (fun _ => Or.inl rfl) (ma_X_inv C h k)
theorem ma_X_ok {x : Int32} {per qui ans froms tos delays places st : Nat → Int32} {n : Nat} {fr to de : Nat → Nat} {S : ma_S} (C : ma_C x n places ans froms tos delays st fr to de) : pr_ok (ma_eqv x) (ma_X x per qui (fun p q => ans (p * 4 + q)) n fr to de st S) :=
  ⟨ma_eqv_equiv x, fun i j h => ma_eqv_tick (fun k hk => (C.2.1 k hk).2.2.2.1) h⟩
theorem mx_adv0 {N n : Nat} (hN : 61 ≤ N) {x : Int32} {places per qui ans froms tos delays st ph co : Nat → Int32} {row : Int32} {fr to de : Nat → Nat} {S : ma_S} (C : ma_C x n places ans froms tos delays st fr to de) (hinv : ma_inv x per S) (hR : ma_R row ph co S) :
    ∃ (fb row' : Int32) (ph' co' : Nat → Int32), f_X2_advance N row (nI (ms_L x).length) (nI n) places ph co per qui ans froms delays tos st (0 : Int32) = some (fb, row', ph', co') ∧ ma_bits x per qui (fun p q => ans (p * 4 + q)) fb S ∧ ma_R row' ph' co' (ma_step x per qui (fun p q => ans (p * 4 + q)) n fr to de st S) := by
  obtain ⟨r, rfl, hrc⟩ := hR
  obtain ⟨c1, c2, c3, c4, c5⟩ := C
  have hb : (fun p => if bt 0 p = true then (1 : Int32) else 0) = fun _ => 0 := by
    funext p
    rw [b_0]
    rfl
  obtain ⟨fb, ph', co', e, h1, h2⟩ := mx_advance (qui := qui) (ans := ans) (x2 := 0) (st := st) hN c1 c2 c3 hinv.1 hrc
  rw [hb] at h1 h2
  exact ⟨fb, _, ph', co', e, h1, _, rfl, h2⟩
theorem mx_copy {N : Nat} {row : Int32} {ph co pd cd : Nat → Int32} {S : ma_S} (hR : ma_R row ph co S) : ∃ ph' co' : Nat → Int32, f_X2_copy N row ph pd co cd = some (row, ph', co') ∧ ma_R row ph' co' S := by
  obtain ⟨r, rfl, h0, h1, h2, h3, h4⟩ := hR
  have hc : ∀ j, j < 512 → va_cpy co cd 0 0 512 j = co j := fun j hj => by
    unfold va_cpy
    rw [if_pos ⟨by omega, by omega⟩]
    simp
  refine ⟨_, _, rfl, r, rfl, h0, ?_, ?_, ?_, ?_⟩
  · intro p hp
    unfold va_cpy
    rw [if_pos ⟨by omega, by omega⟩, ← h1 p hp]
    simp
  · intro p d hp hd1 hd2
    rw [hc _ (by omega)]; exact h2 p d hp hd1 hd2
  · intro p hp
    rw [hc _ (by omega)]; exact h3 p hp
  · intro p hp
    rw [hc _ (by omega)]; exact h4 p hp
theorem mx_isLikeR {N : Nat} (hN : 61 ≤ N) {x row1 row2 : Int32} {places p1 c1 p2 c2 : Nat → Int32} {S T : ma_S} (hpl : ∀ i, i < (ms_L x).length → places i = nI ((ms_L x).getD i 0)) (h1 : ma_R row1 p1 c1 S) (h2 : ma_R row2 p2 c2 T) : ∃ v : Int32, f_X2_isLike N (nI (ms_L x).length) places row1 p1 row2 p2 c1 c2 = some v ∧ ((v = 1 ∧ ma_eqv x S T) ∨ (v = 0 ∧ ¬ ma_eqv x S T)) := by
  obtain ⟨r1, rfl, h1⟩ := h1
  obtain ⟨r2, rfl, h2⟩ := h2
  exact mx_isLike hN hpl h1 h2
theorem mx_findLead_18 {N n c : Nat} (hN : 61 ≤ N) (hc : c < 2 ^ 30) {x : Int32} {places per qui ans froms tos delays st : Nat → Int32} {fr to de : Nat → Nat} {S : ma_S} (C : ma_C x n places ans froms tos delays st fr to de) (hinv : ma_inv x per S) : ∀ (k i m : Nat) (row : Int32) (ph co : Nat → Int32), i + k = c → k < m → ma_R row ph co (ma_X x per qui (fun p q => ans (p * 4 + q)) n fr to de st S i) → ∃ (row' : Int32) (ph' co' : Nat → Int32), f_X4_findLead_18 N (nI c) (nI (ms_L x).length) (nI n) places per qui ans froms delays tos st m (nI i) row ph co = some (nI c, row', ph', co') ∧ ma_R row' ph' co' (ma_X x per qui (fun p q => ans (p * 4 + q)) n fr to de st S c)
  | 0, i, m, row, ph, co, hi, hm, h => by
    obtain ⟨m, rfl⟩ : ∃ j, m = j + 1 := ⟨m - 1, by omega⟩
    have hi : i = c := by omega
    subst hi
    exact ⟨row, ph, co, by rw [f_X4_findLead_18, if_pos (nI_le (Nat.le_refl _) (by omega))], h⟩
  | k + 1, i, m, row, ph, co, hi, hm, h => by
    obtain ⟨m, rfl⟩ : ∃ j, m = j + 1 := ⟨m - 1, by omega⟩
    obtain ⟨fb, row1, ph1, co1, e, -, hR⟩ := mx_adv0 (qui := qui) hN C (ma_X_inv C hinv i) h
    rw [f_X4_findLead_18, if_neg (nI_ge (show i < c by omega) (by omega)), e, Option.bind_some]
    show ∃ (row' : Int32) (ph' co' : Nat → Int32), f_X4_findLead_18 N (nI c) (nI (ms_L x).length) (nI n) places per qui ans froms delays tos st m (nI i + 1) row1 ph1 co1 = _ ∧ _
    rw [nI_1]
    exact mx_findLead_18 hN hc C hinv k (i + 1) m row1 ph1 co1 (by omega) (by omega) hR
theorem mx_findLead_47 {N n c : Nat} (hN : 61 ≤ N) (hc : c ≤ 2000) {x : Int32} {places per qui ans froms tos delays st : Nat → Int32} {fr to de : Nat → Nat} {S : ma_S} (C : ma_C x n places ans froms tos delays st fr to de) (hinv : ma_inv x per S) {X : Nat → ma_S} (hX : X = ma_X x per qui (fun p q => ans (p * 4 + q)) n fr to de st S) : ∀ (k l m : Nat) (rb : Int32) (pb cb : Nat → Int32) (rf : Int32) (pf cf : Nat → Int32), l + k = 1001 → k < m → ma_R rb pb cb (X l) → ma_R rf pf cf (X (l + c)) → ∃ o, f_X4_findLead_47 N (nI c) (nI (ms_L x).length) (nI n) places per qui ans froms delays tos st m (nI l) rb pb cb rf pf cf = some o ∧ ((∃ (l' : Nat) (z : Int32 × (Nat → Int32) × (Nat → Int32) × Int32 × (Nat → Int32) × (Nat → Int32)), o = .inl (nI l', z) ∧ l ≤ l' ∧ l' + c ≤ 1000 ∧ pr_ret (ma_eqv x) X l' c ∧ ∀ j, l ≤ j → j < l' → ¬ pr_ret (ma_eqv x) X j c) ∨ (∃ z, o = .inr z) ∧ ∀ j, l ≤ j → j + c ≤ 1000 → ¬ pr_ret (ma_eqv x) X j c)
  | 0, l, m, rb, pb, cb, rf, pf, cf, hl, hm, hb, hf => by
    obtain ⟨m, rfl⟩ : ∃ j, m = j + 1 := ⟨m - 1, by omega⟩
    refine ⟨_, by rw [f_X4_findLead_47, nI_add, if_pos (show (1000 : Int32) < nI (l + c) from nI_lt (a := 1000) (by omega) (by omega))], Or.inr ⟨⟨_, rfl⟩, fun j h1 h2 => by omega⟩⟩
  | k + 1, l, m, rb, pb, cb, rf, pf, cf, hl, hm, hb, hf => by
    obtain ⟨m, rfl⟩ : ∃ j, m = j + 1 := ⟨m - 1, by omega⟩
    rw [f_X4_findLead_47, nI_add]
    by_cases hlc : 1000 < l + c
    · rw [if_pos (show (1000 : Int32) < nI (l + c) from nI_lt (a := 1000) hlc (by omega))]
      exact ⟨_, rfl, Or.inr ⟨⟨_, rfl⟩, fun j h1 h2 => by omega⟩⟩
    · rw [if_neg (show ¬ (1000 : Int32) < nI (l + c) from nI_nlt (a := 1000) (by omega) (by omega))]
      obtain ⟨v, e, hv⟩ := mx_isLikeR hN C.2.2.1 hf hb
      rw [e, Option.bind_some]
      rcases hv with ⟨rfl, hv⟩ | ⟨rfl, hv⟩
      · rw [if_neg (by decide)]
        exact ⟨_, rfl, Or.inl ⟨l, _, rfl, by omega, by omega, hv, fun j h1 h2 => by omega⟩⟩
      · rw [if_pos rfl]
        have iv : ∀ i, ma_inv x per (X i) := by rw [hX]; exact ma_X_inv C hinv
        obtain ⟨fb, row1, ph1, co1, e1, -, hR1⟩ := mx_adv0 (qui := qui) hN C (iv (l + c)) hf
        obtain ⟨fb2, row2, ph2, co2, e2, -, hR2⟩ := mx_adv0 (qui := qui) hN C (iv l) hb
        rw [e1, Option.bind_some, e2, Option.bind_some]
        have s1 : ma_step x per qui (fun p q => ans (p * 4 + q)) n fr to de st (X (l + c)) = X (l + 1 + c) := by rw [hX, show l + 1 + c = l + c + 1 by omega]; rfl
        have s2 : ma_step x per qui (fun p q => ans (p * 4 + q)) n fr to de st (X l) = X (l + 1) := by rw [hX]; rfl
        rw [s1] at hR1
        rw [s2] at hR2
        obtain ⟨o, eo, ho⟩ := mx_findLead_47 hN hc C hinv hX k (l + 1) m row2 ph2 co2 row1 ph1 co1 (by omega) (by omega) hR2 hR1
        refine ⟨o, ?_, ?_⟩
        · show f_X4_findLead_47 N (nI c) (nI (ms_L x).length) (nI n) places per qui ans froms delays tos st m (nI l + 1) row2 ph2 co2 row1 ph1 co1 = some o
          rw [nI_1]
          exact eo
        · rcases ho with ⟨l', z, q1, q2, q3, q4, q5⟩ | ⟨q1, q2⟩
          · refine Or.inl ⟨l', z, q1, by omega, q3, q4, fun j h1 h2 => ?_⟩
            by_cases g : j = l
            · subst g; exact hv
            · exact q5 j (by omega) h2
          · refine Or.inr ⟨q1, fun j h1 h2 => ?_⟩
            by_cases g : j = l
            · subst g; exact hv
            · exact q2 j (by omega) h2

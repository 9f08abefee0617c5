/-! rows of mine (pure): the reference's tick, whole -/
theorem mx_t234 {N t n cap : Nat} (ht : t < 2 ^ 30) (hn : n ≤ 60) (hcap : n ≤ cap) {froms tos delays st flv : Nat → Int32} {fr to de : Nat → Nat} {F : Nat → Bool} (hl : ma_lk n froms tos delays fr to de) (hfl : ∀ q, q < 16 → flv q = if F q then 1 else 0) (c0 : Nat → Int32) : ∀ (k i m : Nat) (w : Nat → Int32), i + k = n → k < m → (∀ j, w j = c0 j + ma_sum (fun k => if F (fr k) = true ∧ to k * 31 + (t + de k) % 31 = j then st k else 0) i) → ∃ w' : Nat → Int32, f_X6_tick_234 N (nI t) flv (nI n) cap froms tos delays st m (nI i) w = some (nI n, w') ∧ ∀ j, w' j = c0 j + ma_sum (fun k => if F (fr k) = true ∧ to k * 31 + (t + de k) % 31 = j then st k else 0) n
  | 0, i, m, w, hi, hm, h => by
    obtain ⟨m, rfl⟩ : ∃ j, m = j + 1 := ⟨m - 1, by omega⟩
    have hi : i = n := by omega
    subst hi
    refine ⟨w, ?_, h⟩
    rw [f_X6_tick_234]
    show (if nI i ≤ nI i then _ else _) = _
    rw [if_pos (nI_le (Nat.le_refl _) (by omega))]
  | k + 1, i, m, w, hi, hm, h => by
    obtain ⟨m, rfl⟩ : ∃ j, m = j + 1 := ⟨m - 1, by omega⟩
    obtain ⟨e1, e2, e3, b1, b2, b3, b4⟩ := hl i (by omega)
    have h31 : (t + de i) % 31 < 31 := Nat.mod_lt _ (by omega)
    have cn : (nI n).toNatClampNeg = n := nI_clamp (by omega)
    have ci : (nI i).toNatClampNeg = i := nI_clamp (by omega)
    have cf : (nI (fr i)).toNatClampNeg = fr i := nI_clamp (by omega)
    have g1 : ∀ {α : Type} (x : Option α), zk_g (nI i) n x = x := fun x => mg_g (by omega) (by omega) x
    have g2 : ∀ {α : Type} (x : Option α), zk_le n cap x = x := fun x => if_pos hcap
    have g3 : ∀ {α : Type} (x : Option α), zk_g (nI (fr i)) 16 x = x := fun x => mg_g b1 (by omega) x
    have g4 : ∀ {α : Type} (x : Option α), zk_g (nI (to i * 31 + (t + de i) % 31)) 496 x = x := fun x => mg_g (by omega) (by omega) x
    have c4 : (nI (to i * 31 + (t + de i) % 31)).toNatClampNeg = to i * 31 + (t + de i) % 31 := nI_clamp (by omega)
    have eidx : nI (to i) * (31 : Int32) + (nI t + nI (de i) - (nI t + nI (de i)) / (31 : Int32) * (31 : Int32)) = nI (to i * 31 + (t + de i) % 31) := by
      rw [show (31 : Int32) = nI 31 from rfl, pk_mul, nI_add, pk_rem (by omega) (by omega) (by omega), nI_add]
    rw [f_X6_tick_234]
    show ∃ w' : Nat → Int32, (if nI n ≤ nI i then _ else _) = _ ∧ _
    rw [if_neg (nI_ge (show i < n by omega) (by omega))]
    simp only [cn, ci, g1, g2, e1, e2, e3, eidx, g3, g4, cf, c4, hfl (fr i) b1, nI_1]
    cases hF : F (fr i) with
    | false =>
      rw [show (if (false = true) then (1 : Int32) else 0) = 0 from rfl, if_pos rfl]
      refine mx_t234 ht hn hcap hl hfl c0 k (i + 1) m w (by omega) (by omega) ?_
      intro j
      rw [h j]
      show _ = c0 j + (ma_sum _ i + (if F (fr i) = true ∧ _ then st i else 0))
      rw [if_neg (by simp [hF]), Int32.add_zero]
    | true =>
      rw [show (if (true = true) then (1 : Int32) else 0) = 1 from rfl, if_neg (show ¬ (1 : Int32) = 0 by decide)]
      refine mx_t234 ht hn hcap hl hfl c0 k (i + 1) m _ (by omega) (by omega) ?_
      intro j
      show _ = c0 j + (ma_sum _ i + (if F (fr i) = true ∧ _ then st i else 0))
      unfold upd
      by_cases e : j = to i * 31 + (t + de i) % 31
      · subst e
        rw [if_pos rfl, if_pos ⟨hF, rfl⟩, h, Int32.add_assoc]
      · rw [if_neg e, if_neg (fun z => e z.2.symm), h, Int32.add_zero]
/-- a field of the reference, at its time -/
def ma_rm (t : Nat) (ph w : Nat → Int32) (S : ma_S) : Prop := (∀ p, p < 16 → ph p = S.1 p) ∧ (∀ p d, p < 16 → 1 ≤ d → d ≤ 30 → w (p * 31 + (t + d) % 31) = S.2 p d) ∧ ∀ p, p < 16 → w (p * 31 + t % 31) = 0
theorem mx_tick {N t n cap h z : Nat} (hN : 61 ≤ N) (ht : t + 1 < 2 ^ 30) (hn : n ≤ 60) (hcap : n ≤ cap) (hh : h < 100) (hz : z < 2147483647) {x : Int32} {isT ph w per qui fl froms tos delays st : Nat → Int32} {an : Nat → Nat → Int32} {fr to de : Nat → Nat} {S : ma_S} (hl : ma_lk n froms tos delays fr to de) (hT : ∀ p, p < 16 → isT p = if bt x p then 1 else 0) (hok : ma_ok x per S) (hrm : ma_rm t ph w S) :
    ∃ w' fl' ph' : Nat → Int32, f_X6_tick N (nI t) w fl isT ph per qui (lN z) an (nI n) cap froms tos delays st (nI h) = some (nI ((List.range 16).countP (ma_flS x per qui an (ma_b x h z) S)), nI (t + 1), w', fl', ph', lN (ma_ze x h z 16)) ∧ (∀ q, q < 16 → fl' q = if ma_flS x per qui an (ma_b x h z) S q then 1 else 0) ∧ ma_rm (t + 1) ph' w' (ma_tick x per qui an n fr to de st (ma_b x h z) S) := by
  obtain ⟨h1, h2, h3⟩ := hrm
  obtain ⟨w1, fl1, ph1, e14, hw1, hf1, hp1⟩ := mx_t14 (N := N) (t := t + 1) (z0 := z) (an := an) (qui := qui) (w0 := w) ht hh hz hT hok (fun p hp => h2 p 1 hp (by omega) (by omega)) rfl rfl 16 0 N w fl ph (by omega) (by omega) (fun j => by rw [if_neg (by omega)]) (fun q hq => by omega) (fun q hq => by rw [if_neg (by omega)]; exact h1 q hq)
  obtain ⟨w2, e234, hw2⟩ := mx_t234 (N := N) (t := t + 1) (st := st) ht hn hcap hl hf1 w1 n 0 N w1 (by omega) (by omega) (fun j => by show _ = w1 j + 0; rw [Int32.add_zero])
  have ez : ma_ze x h z 0 = z := by unfold ma_ze; split <;> rfl
  have e14 : f_X6_tick_14 N (nI (t + 1)) isT per qui an (nI h) N (0 : Int32) (0 : Int32) w fl ph (lN z) = some (nI ((List.range 16).countP (ma_flS x per qui an (ma_b x h z) S)), nI 16, w1, fl1, ph1, lN (ma_ze x h z 16)) := by
    rw [ez] at e14
    exact e14
  have e234 : f_X6_tick_234 N (nI (t + 1)) fl1 (nI n) cap froms tos delays st N (0 : Int32) w1 = some (nI n, w2) := e234
  refine ⟨w2, fl1, ph1, ?_, hf1, ?_, ?_, ?_⟩
  · unfold f_X6_tick
    rw [nI_1, e14, Option.bind_some, e234]
    rfl
  · intro p hp
    exact hp1 p hp
  · intro p d hp hd1 hd2
    have hs : ma_sum (fun k => if ma_flS x per qui an (ma_b x h z) S (fr k) = true ∧ to k * 31 + (t + 1 + de k) % 31 = p * 31 + (t + 1 + d) % 31 then st k else 0) n = ma_sum (fun k => if ma_flS x per qui an (ma_b x h z) S (fr k) = true ∧ to k = p ∧ de k = d then st k else 0) n := by
      apply ma_sum_congr
      intro k hk
      obtain ⟨-, -, -, b1, b2, b3, b4⟩ := hl k hk
      have : (to k * 31 + (t + 1 + de k) % 31 = p * 31 + (t + 1 + d) % 31) ↔ (to k = p ∧ de k = d) := by
        constructor
        · intro q; omega
        · rintro ⟨rfl, rfl⟩; rfl
      simp only [this]
    rw [hw2, hs, hw1, if_neg (by omega)]
    show _ = (if d < 30 then S.2 p (d + 1) else 0) + _
    by_cases hd : d < 30
    · rw [if_pos hd, ← h2 p (d + 1) hp (by omega) (by omega), show (t + 1 + d) % 31 = (t + (d + 1)) % 31 by omega]
    · rw [if_neg hd, ← h3 p hp, show (t + 1 + d) % 31 = t % 31 by omega]
  · intro p hp
    rw [hw2, hw1, if_pos (by omega), ma_sum_0]
    · rfl
    · intro k hk
      obtain ⟨-, -, -, b1, b2, b3, b4⟩ := hl k hk
      rw [if_neg]
      rintro ⟨-, q⟩
      omega

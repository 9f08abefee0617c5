/-! rows of mine: sets' sizes, the next set, a set pushed (class) -/
theorem lp_bt {a : Nat} (ha : a < 65536) (p : Nat) : bt (nI a) p = a.testBit p := by
  show (BitVec.ofNat 32 a).getLsbD p = _
  rw [BitVec.getLsbD_ofNat]
  by_cases h : p < 32
  · rw [decide_eq_true h, Bool.true_and]
  · rw [decide_eq_false h, Bool.false_and]
    symm
    apply Nat.testBit_lt_two_pow
    exact Nat.lt_of_lt_of_le (show a < 2 ^ 16 from ha) (Nat.pow_le_pow_right (by decide) (show 16 ≤ p by omega))
theorem lp_hi {a : Nat} (ha : a < 65536) (p : Nat) (hp : 16 ≤ p) : a.testBit p = false := by
  apply Nat.testBit_lt_two_pow
  exact Nat.lt_of_lt_of_le (show a < 2 ^ 16 from ha) (Nat.pow_le_pow_right (by decide) hp)
theorem lp_bc {N a : Nat} (ha : a < 65536) : f_J6_bitCount_0f7a4 N (nI a) = some (nI (pn a)) := by
  rw [mb_c (x := nI a) (fun p hp => by rw [lp_bt ha]; exact lp_hi ha p hp)]
  unfold pn
  congr 3
  funext p
  exact lp_bt ha p
def pj : Nat → Nat → Nat
  | 0, _ => 0
  | k + 1, a => a % 2 + pj k (a / 2)
theorem pj_c : ∀ k a : Nat, (List.range k).countP (fun p => a.testBit p) = pj k a := by
  intro k
  induction k with
  | zero => intro a; rfl
  | succ k ih =>
    intro a
    rw [List.range_succ_eq_map, List.countP_cons, List.countP_map]
    have e : (List.range k).countP ((fun p => a.testBit p) ∘ Nat.succ) = (List.range k).countP (fun p => (a / 2).testBit p) := by
      congr 1
      funext p
      exact Nat.testBit_succ a p
    rw [e, ih, Nat.testBit_zero]
    show _ = a % 2 + pj k (a / 2)
    by_cases h : a % 2 = 1
    · rw [h]
      simp
      omega
    · rw [show a % 2 = 0 by omega]
      simp
theorem pj_mul (y : Nat) : ∀ p k, pj (k + p) (2 ^ p * y) = pj k y := by
  intro p
  induction p with
  | zero => intro k; rw [Nat.pow_zero, Nat.one_mul, Nat.add_zero]
  | succ p ih =>
    intro k
    show 2 ^ (p + 1) * y % 2 + pj (k + p) (2 ^ (p + 1) * y / 2) = _
    have e : 2 ^ (p + 1) * y = 2 * (2 ^ p * y) := by rw [Nat.pow_succ]; ac_rfl
    rw [e, Nat.mul_mod_right, Nat.mul_div_cancel_left _ (by decide), Nat.zero_add, ih]
theorem pj_0 : ∀ m, pj m 0 = 0 := by
  intro m
  induction m with
  | zero => rfl
  | succ m ih => show 0 % 2 + pj m (0 / 2) = 0; rw [Nat.zero_div, ih]
theorem pj_st : ∀ k m a, a < 2 ^ k → pj (k + m) a = pj k a := by
  intro k
  induction k with
  | zero =>
    intro m a h
    rw [show a = 0 by simp at h; omega, pj_0, pj_0]
  | succ k ih =>
    intro m a h
    rw [show k + 1 + m = (k + m) + 1 by omega]
    show a % 2 + pj (k + m) (a / 2) = a % 2 + pj k (a / 2)
    rw [ih m (a / 2) (by rw [Nat.pow_succ] at h; omega)]
theorem ps_pj : ∀ (l : List Nat), l.Pairwise (· < ·) → ∀ K i, (∀ p, p ∈ l → p < K) → i < 2 ^ l.length → pj K (ps l i) = pj l.length i := by
  intro l
  induction l with
  | nil =>
    intro _ K i _ hi
    show pj K 0 = _
    rw [pj_0]
    rfl
  | cons p r ih =>
    intro hl K i hK hi
    have hr := (List.pairwise_cons.mp hl).2
    have hlt := (List.pairwise_cons.mp hl).1
    obtain ⟨y, hy⟩ := ps_dvd r (p + 1) (i / 2) (fun q hq => hlt q hq)
    have hpK := hK p List.mem_cons_self
    have hi2 : i / 2 < 2 ^ r.length := by rw [List.length_cons, Nat.pow_succ] at hi; omega
    have g := ih hr K (i / 2) (fun q hq => hK q (List.mem_cons_of_mem _ hq)) hi2
    obtain ⟨d, rfl⟩ : ∃ d, K = d + (p + 1) := ⟨K - (p + 1), by omega⟩
    rw [hy, pj_mul] at g
    show pj (d + (p + 1)) (i % 2 * 2 ^ p + ps r (i / 2)) = i % 2 + pj r.length (i / 2)
    have e : i % 2 * 2 ^ p + 2 ^ (p + 1) * y = 2 ^ p * (i % 2 + 2 * y) := by
      rw [Nat.mul_add, Nat.pow_succ, Nat.mul_comm (i % 2)]
      rw [Nat.mul_assoc]
    rw [hy, e, show d + (p + 1) = (d + 1) + p by omega, pj_mul]
    show (i % 2 + 2 * y) % 2 + pj d ((i % 2 + 2 * y) / 2) = _
    rw [show (i % 2 + 2 * y) % 2 = i % 2 by omega, show (i % 2 + 2 * y) / 2 = y by omega, g]
theorem ps_pn {l : List Nat} (hl : l.Pairwise (· < ·)) (h16 : ∀ p, p ∈ l → p < 16) {i : Nat} (hi : i < 2 ^ l.length) (hn : l.length ≤ 16) : pn (ps l i) = pn i := by
  unfold pn
  rw [pj_c, pj_c, ps_pj l hl 16 i h16 hi]
  have := pj_st l.length (16 - l.length) i hi
  rw [show l.length + (16 - l.length) = 16 by omega] at this
  exact this.symm
theorem ps_16 {l : List Nat} (hl : l.Pairwise (· < ·)) (h16 : ∀ p, p ∈ l → p < 16) (i : Nat) : ps l i < 65536 := ps_lt hl h16 i
theorem pm_pn {l : List Nat} (hl : l.Pairwise (· < ·)) (h16 : ∀ p, p ∈ l → p < 16) (hn : l.length ≤ 16) : pn (pm l) = l.length := by
  have h := Nat.two_pow_pos l.length
  unfold pm
  rw [ps_pn hl h16 (by omega) hn]
  unfold pn
  rw [pj_c]
  have g : ∀ k m, pj (k + m) (2 ^ k - 1) = k := by
    intro k
    induction k with
    | zero => intro m; exact pj_0 _
    | succ k ih =>
      intro m
      have h := Nat.two_pow_pos k
      rw [show k + 1 + m = (k + m) + 1 by omega]
      show (2 ^ (k + 1) - 1) % 2 + pj (k + m) ((2 ^ (k + 1) - 1) / 2) = k + 1
      rw [Nat.pow_succ, show (2 ^ k * 2 - 1) % 2 = 1 by omega, show (2 ^ k * 2 - 1) / 2 = 2 ^ k - 1 by omega, ih m]
      omega
  have := g l.length (16 - l.length)
  rwa [show l.length + (16 - l.length) = 16 by omega] at this
theorem ps_compl {l : List Nat} (hl : l.Pairwise (· < ·)) {i : Nat} (hi : i < 2 ^ l.length) (q : Nat) : (ps l (2 ^ l.length - (i + 1))).testBit q = ((pm l).testBit q && !(ps l i).testBit q) := by
  apply Bool.eq_iff_iff.mpr
  rw [ps_bit l _ q hl, Bool.and_eq_true, pm_bit hl, Bool.not_eq_true', ← Bool.not_eq_true, ps_bit l i q hl]
  constructor
  · rintro ⟨j, hj, e, hb⟩
    rw [Nat.testBit_two_pow_sub_succ hi, decide_eq_true hj, Bool.true_and, Bool.not_eq_true'] at hb
    refine ⟨by rw [← e]; exact List.getElem_mem hj, ?_⟩
    rintro ⟨k, hk, e2, hb2⟩
    have : k = j := by
      rcases Nat.lt_trichotomy k j with w | w | w
      · have := List.pairwise_iff_getElem.mp hl k j hk hj w; omega
      · exact w
      · have := List.pairwise_iff_getElem.mp hl j k hj hk w; omega
    subst this
    rw [hb] at hb2
    cases hb2
  · rintro ⟨hm, hb⟩
    obtain ⟨j, hj, e⟩ := List.getElem_of_mem hm
    refine ⟨j, hj, e, ?_⟩
    rw [Nat.testBit_two_pow_sub_succ hi, decide_eq_true hj, Bool.true_and, Bool.not_eq_true']
    cases hb2 : i.testBit j with
    | false => rfl
    | true => exact absurd ⟨j, hj, e, hb2⟩ hb
theorem ps_add : ∀ (l : List Nat) (i : Nat), i < 2 ^ l.length → ps l i + ps l (2 ^ l.length - (i + 1)) = pm l := by
  intro l
  induction l with
  | nil => intro i _; rfl
  | cons p r ih =>
    intro i hi
    rw [List.length_cons, Nat.pow_succ] at hi
    have h1 := Nat.two_pow_pos r.length
    have g := ih (i / 2) (by omega)
    unfold pm at g ⊢
    show i % 2 * 2 ^ p + ps r (i / 2) + ((2 ^ (p :: r).length - (i + 1)) % 2 * 2 ^ p + ps r ((2 ^ (p :: r).length - (i + 1)) / 2)) = (2 ^ (p :: r).length - 1) % 2 * 2 ^ p + ps r ((2 ^ (p :: r).length - 1) / 2)
    rw [List.length_cons, Nat.pow_succ, show (2 ^ r.length * 2 - (i + 1)) / 2 = 2 ^ r.length - (i / 2 + 1) by omega, show (2 ^ r.length * 2 - 1) % 2 = 1 by omega, show (2 ^ r.length * 2 - 1) / 2 = 2 ^ r.length - 1 by omega, ← g]
    rcases Nat.mod_two_eq_zero_or_one i with w | w
    · rw [w, show (2 ^ r.length * 2 - (i + 1)) % 2 = 1 by omega]
      omega
    · rw [w, show (2 ^ r.length * 2 - (i + 1)) % 2 = 0 by omega]
      omega
theorem ps_next {l : List Nat} (hl : l.Pairwise (· < ·)) (h16 : ∀ p, p ∈ l → p < 16) {i : Nat} (hi : i + 1 < 2 ^ l.length) : (nI (ps l i) - nI (pm l)) &&& nI (pm l) = nI (ps l (i + 1)) := by
  have hm : pm l < 65536 := ps_16 hl h16 _
  have ha : ps l i < 65536 := ps_16 hl h16 _
  have hb : ps l (i + 1) < 65536 := ps_16 hl h16 _
  have hlt : ps l i < pm l := ps_mono l hl i (2 ^ l.length - 1) (by omega) (by omega)
  -- what is missing
  obtain ⟨d1, d2⟩ := ps_dec l hl (2 ^ l.length - (i + 1)) (by omega) (by omega)
  have hsum := ps_add l i (by omega)
  apply Int32.toBitVec_inj.mp
  rw [Int32.toBitVec_and, Int32.toBitVec_sub]
  apply BitVec.eq_of_toNat_eq
  rw [BitVec.toNat_and, BitVec.toNat_sub]
  show (2 ^ 32 - (BitVec.ofNat 32 (pm l)).toNat + (BitVec.ofNat 32 (ps l i)).toNat) % 2 ^ 32 &&& (BitVec.ofNat 32 (pm l)).toNat = (BitVec.ofNat 32 (ps l (i + 1))).toNat
  rw [BitVec.toNat_ofNat, BitVec.toNat_ofNat, BitVec.toNat_ofNat, Nat.mod_eq_of_lt (show pm l < 2 ^ 32 by omega), Nat.mod_eq_of_lt (show ps l i < 2 ^ 32 by omega), Nat.mod_eq_of_lt (show ps l (i + 1) < 2 ^ 32 by omega), Nat.mod_eq_of_lt (by omega)]
  rw [show 2 ^ 32 - pm l + ps l i = 2 ^ 32 - ((ps l (2 ^ l.length - (i + 1)) - 1) + 1) by omega]
  apply Nat.eq_of_testBit_eq
  intro q
  have hc : ps l (2 ^ l.length - (i + 1)) - 1 < 2 ^ 32 := by omega
  rw [Nat.testBit_and, Nat.testBit_two_pow_sub_succ hc]
  have e2 := ps_compl hl (i := 2 ^ l.length - (i + 1) - 1) (by omega) q
  rw [show 2 ^ l.length - (2 ^ l.length - (i + 1) - 1 + 1) = i + 1 by omega, ← d1, Nat.testBit_and] at e2
  rw [e2]
  cases hmq : (pm l).testBit q with
  | false => simp
  | true =>
    have hq : q < 32 := by
      rcases Nat.lt_or_ge q 32 with w | w
      · exact w
      · have := Nat.testBit_lt_two_pow (x := pm l) (i := q) (Nat.lt_of_lt_of_le (show pm l < 2 ^ 32 by omega) (Nat.pow_le_pow_right (by decide) w))
        rw [this] at hmq
        cases hmq
    rw [decide_eq_true hq]
    simp

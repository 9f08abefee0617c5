/-! rows of mine (pure): a run of the class and of the reference -/
theorem mx_advB {N n : Nat} (hN : 61 ≤ N) {x y : Int32} {places per qui ans froms tos delays st ph co b : Nat → Int32} {row : Int32} {fr to de : Nat → Nat} {S : ma_S} (C : ma_C x n places ans froms tos delays st fr to de) (hinv : ma_inv x per S) (hR : ma_R row ph co S) (hb : ∀ p, bt x p = true → (if bt y p then (1 : Int32) else 0) = b p) :
    ∃ (fb row' : Int32) (ph' co' : Nat → Int32), f_X2_advance N row (nI (ms_L x).length) (nI n) places ph co per qui ans froms delays tos st y = some (fb, row', ph', co') ∧ (∀ q, q < 32 → bt fb q = (decide (q < 16) && ma_flS x per qui (fun p q => ans (p * 4 + q)) b S q)) ∧ ma_R row' ph' co' (ma_tick x per qui (fun p q => ans (p * 4 + q)) n fr to de st b S) := by
  obtain ⟨r, rfl, hrc⟩ := hR
  obtain ⟨c1, c2, c3, c4, c5⟩ := C
  obtain ⟨fb, ph', co', e, h1, h2⟩ := mx_advance (qui := qui) (ans := ans) (x2 := y) (st := st) hN c1 c2 c3 hinv.1 hrc
  obtain ⟨t1, t2⟩ := ma_tick_b (per := per) (qui := qui) (an := fun p q => ans (p * 4 + q)) (n := n) (fr := fr) (to := to) (de := de) (st := st) (S := S) hb
  rw [t1] at h2
  refine ⟨fb, _, ph', co', e, fun q hq => ?_, _, rfl, h2⟩
  rw [h1 q hq, t2]
theorem ma_ze_lt {x : Int32} {h z p : Nat} (hz : z < 2147483647) : ma_ze x h z p < 2147483647 := by
  unfold ma_ze
  split
  · exact hz
  · exact ma_z_lt hz _
theorem ma_b_01 (x : Int32) (h z p : Nat) : ma_b x h z p = 0 ∨ ma_b x h z p = 1 := by
  unfold ma_b
  split
  · exact Or.inr rfl
  · exact Or.inl rfl

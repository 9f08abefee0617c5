/-! rows of mine: lists that are read -/
/-- a list's row: its n addresses, then nulls -/
def zl_a (n : Nat) (r : Nat → Nat) : Nat → Option Nat := fun i => if i < n then some (r i) else none
/-- the row's own cell; none while the list has the shared empty row -/
def zo (c : Nat) (x : Nat × va_E) : va_W := zb (if c = 0 then 0 else 1) (fun _ => x)
theorem zo_pos {c : Nat} {x : Nat × va_E} (h : c ≠ 0) : zo c x = [x] := by
  unfold zo zb
  rw [if_neg h]
  rfl
theorem zo_0 {x : Nat × va_E} : zo 0 x = [] := rfl
def zk_le {α : Type} (a b : Nat) (x : Option α) : Option α := if a ≤ b then x else none
theorem zk_le_spec {α : Type} {a b : Nat} {x : Option α} {o : α} (h : zk_le a b x = some o) : a ≤ b ∧ x = some o := by
  unfold zk_le at h
  split at h
  · rename_i hn; exact ⟨hn, h⟩
  · cases h
theorem zl_ne {k : Int32} {n c : Nat} (h : vp_in k n) (hc : n ≤ c) : c ≠ 0 := by
  have := zw_lt h
  omega
theorem zl_get_f {N : Nat} {sz k : Int32} {c : Nat} {r : Nat → Nat} (h : vp_in k sz.toNatClampNeg) (hc : sz.toNatClampNeg ≤ c) : f_Jx4a65c_get_915e3 N sz c (zl_a sz.toNatClampNeg r) k = some (r k.toNatClampNeg) := by
  have h1 := zw_lt h
  have h0 : ¬ k < 0 := fun q => h (Or.inl q)
  have hn : ¬ (k < 0 ∨ c ≤ k.toNatClampNeg) := by
    rintro (q | q)
    · exact h0 q
    · omega
  have hlt : k < sz := by
    rw [Int32.lt_iff_toInt_lt]
    rw [Int32.lt_iff_toInt_lt] at h0
    have e1 : k.toNatClampNeg = k.toInt.toNat := rfl
    have e2 : sz.toNatClampNeg = sz.toInt.toNat := rfl
    have e3 : (0 : Int32).toInt = 0 := by decide
    omega
  simp [f_Jx4a65c_get_915e3, f_J15_checkIndex_7cf53, f_J3_checkIndex_8e157, f_Jx4a65c_elementData_915e3, zk_g, zl_a, h0, hlt, h1, show k.toNatClampNeg < c by omega]
theorem zl_recv {D : va_G} {tys : List (ClassId × FieldType)} {s : State} {H : Heap} {ws : va_W} {q0 a ci : Nat} {q : vw_C} {fs : List Value} (hK : va_K D vwCl tys s) (hP : va_P D vwCl ws H) (hc : vwCl[ci]? = some q) (he : ws[q0]? = some (a, .inr (ci, fs))) : ∃ cell : Cell, H[a]? = some cell ∧ cell.vm.isStatics = false ∧ s.vm.findClass q.1 = some cell.cls := va_recv hK hP hc he

/-! rows of mine: the law's calls of the class, and what they catch -/
def zn_nc : List (String × String) := [("java/lang/ArithmeticException", "java/lang/IllegalArgumentException"), ("java/lang/ArithmeticException", "java/lang/IllegalStateException"), ("java/lang/ArithmeticException", "java/lang/IndexOutOfBoundsException"), ("java/lang/ArithmeticException", "java/lang/UnsupportedOperationException"), ("java/lang/IllegalArgumentException", "java/lang/IndexOutOfBoundsException"), ("java/lang/IllegalStateException", "java/lang/IllegalArgumentException"), ("java/lang/IllegalStateException", "java/lang/IndexOutOfBoundsException"), ("java/lang/UnsupportedOperationException", "java/lang/IllegalArgumentException"), ("java/lang/UnsupportedOperationException", "java/lang/IllegalStateException"), ("java/lang/UnsupportedOperationException", "java/lang/IndexOutOfBoundsException"), ("java/util/NoSuchElementException", "java/lang/ArithmeticException"), ("java/util/NoSuchElementException", "java/lang/IllegalArgumentException"), ("java/util/NoSuchElementException", "java/lang/IllegalStateException"), ("java/util/NoSuchElementException", "java/lang/IndexOutOfBoundsException"), ("java/util/NoSuchElementException", "java/lang/UnsupportedOperationException")]
def zn_K (U : State) : Prop := ∀ q ∈ zn_nc, va_Nc q.1 q.2 U
theorem zn_K_moved {u U : State} (hvm : u.vm.Alike U.vm) (h : zn_K u) : zn_K U := fun q hq => (h q hq).moved hvm
def zn_Pc (D : va_G) (T : Nat → ClassId) (av : List Value) (w : va_W) (sz : Nat) : Array Value → State → Prop := va_Pc av (fun U => U.heap.size = sz ∧ va_P D vwCl w U.heap ∧ va_K D vwCl (zk_ty T) U ∧ zk_N U ∧ va_D (fun _ => True) w ∧ zx_K (va_A w sz) U U.heap ∧ zn_K U)
theorem zn_blind {D : va_G} {T : Nat → ClassId} {av : List Value} {w : va_W} {sz : Nat} : FrameBlind (zn_Pc D T av w sz) := fun a U g mk q => by
  obtain ⟨q0, q1, qP, qK, qN, qD, qX, qC⟩ := q
  exact ⟨q0, q1, qP, va_K.moved (u := U) (U := U.calling g mk a) (Vm.Alike.refl U.vm) qK, zk_N_same (u := U) (U := U.calling g mk a) rfl qN, qD, zx_K_same (u := U) (U := U.calling g mk a) rfl rfl qX, zn_K_moved (u := U) (U := U.calling g mk a) (Vm.Alike.refl U.vm) qC⟩
theorem zn_pass1 {α : Type} {C P : α → Prop} {a : α} (h : P a) : ∀ z ∈ [a], C z ∨ P z := fun z hz => by
  rw [List.mem_singleton] at hz
  subst hz
  exact Or.inr h
theorem zn_pass2 {α : Type} {C P : α → Prop} {a b : α} (h : P a) (h2 : P b) : ∀ z ∈ [a, b], C z ∨ P z := fun z hz => by
  rcases List.mem_cons.mp hz with rfl | hz
  · exact Or.inr h
  · exact zn_pass1 h2 z hz
theorem zn_pass3 {α : Type} {C P : α → Prop} {a b c : α} (h : P a) (h2 : P b) (h3 : P c) : ∀ z ∈ [a, b, c], C z ∨ P z := fun z hz => by
  rcases List.mem_cons.mp hz with rfl | hz
  · exact Or.inr h
  · exact zn_pass2 h2 h3 z hz

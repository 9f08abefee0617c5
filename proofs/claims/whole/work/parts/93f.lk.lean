/-! rows of mine: calls out of a world, places told -/
/-- the chunks at the places is are now ds -/
def zsl (zs : List va_W) : List Nat → List va_W → List va_W
  | i :: is, d :: ds => zsl (zs.set i d) is ds
  | _, _ => zs
theorem zsl_len (zs : List va_W) (is : List Nat) (ds : List va_W) : (zsl zs is ds).length = zs.length := by
  induction is generalizing zs ds with
  | nil => simp [zsl]
  | cons i is ih =>
    cases ds with
    | nil => simp [zsl]
    | cons d ds => simp [zsl, ih]
theorem zsl_out (zs : List va_W) (is : List Nat) (ds : List va_W) (k : Nat) (h : k ∉ is) : (zsl zs is ds)[k]? = zs[k]? := by
  induction is generalizing zs ds with
  | nil => simp [zsl]
  | cons i is ih =>
    cases ds with
    | nil => simp [zsl]
    | cons d ds =>
      have h1 : k ≠ i := fun q => h (by rw [q]; exact List.mem_cons_self)
      have h2 : k ∉ is := fun q => h (List.mem_cons_of_mem _ q)
      show (zsl (zs.set i d) is ds)[k]? = zs[k]?
      rw [ih _ _ h2, List.getElem?_set_ne (Ne.symm h1)]
theorem zsl_in (zs : List va_W) (is : List Nat) (ds : List va_W) (hn : is.Nodup) (hl : ds.length = is.length) (hb : ∀ i ∈ is, i < zs.length) (j : Nat) (hj : j < is.length) : (zsl zs is ds)[is[j]]? = ds[j]? := by
  induction is generalizing zs ds j with
  | nil => exact absurd hj (Nat.not_lt_zero _)
  | cons i is ih =>
    cases ds with
    | nil => simp at hl
    | cons d ds =>
      have hn' := List.nodup_cons.mp hn
      show (zsl (zs.set i d) is ds)[(i :: is)[j]]? = (d :: ds)[j]?
      cases j with
      | zero =>
        show (zsl (zs.set i d) is ds)[i]? = some d
        rw [zsl_out _ _ _ _ hn'.1, List.getElem?_set_self (hb i List.mem_cons_self)]
      | succ j =>
        have hj' : j < is.length := Nat.lt_of_succ_lt_succ hj
        exact ih (zs.set i d) ds hn'.2 (Nat.succ.inj hl) (fun q hq => by rw [List.length_set]; exact hb q (List.mem_cons_of_mem _ hq)) j hj'
theorem zsl_back {D : va_G} {A : Nat → Prop} {H H1 : Heap} {zs cs ds : List va_W} {wc w' : va_W} (hP : va_P D vwCl zs.flatten H) (hD : va_D A zs.flatten) (is : List Nat) (hn : is.Nodup) (hl : ds.length = is.length) (hC : is.map (fun i => zs[i]?) = cs.map some) (hcw : cs.flatten = wc) (hdw : ds.flatten = w') (hf : ∀ q, va_A wc H.size q → A q) (hP1 : va_P D vwCl w' H1) (hD1 : va_D (va_A wc H.size) w') (hk : ∀ q : Nat, q < H.size → ¬ va_A wc H.size q → H1[q]? = H[q]?) : va_P D vwCl (zsl zs is ds).flatten H1 ∧ va_D A (zsl zs is ds).flatten := by
  subst hcw hdw
  have hb : ∀ i ∈ is, i < zs.length := by
    intro i hi
    have h1 : zs[i]? ∈ cs.map some := by rw [← hC]; exact List.mem_map.mpr ⟨i, hi, rfl⟩
    obtain ⟨c, -, hc⟩ := List.mem_map.mp h1
    exact (List.getElem?_eq_some_iff.mp hc.symm).1
  have hcs : ∀ c ∈ cs, ∃ i ∈ is, zs[i]? = some c := by
    intro c hc
    have h1 : some c ∈ is.map (fun i => zs[i]?) := by rw [hC]; exact List.mem_map.mpr ⟨c, hc, rfl⟩
    obtain ⟨i, hi, he⟩ := List.mem_map.mp h1
    exact ⟨i, hi, he⟩
  -- a chunk of the new world: an old one at a place that isn't told, or one of ds
  have hch : ∀ k c, (zsl zs is ds)[k]? = some c → (k ∉ is ∧ zs[k]? = some c) ∨ ∃ j : Nat, is[j]? = some k ∧ ds[j]? = some c := by
    intro k c hc
    by_cases hki : k ∈ is
    · obtain ⟨j, hj, rfl⟩ := List.mem_iff_getElem.mp hki
      right
      rw [zsl_in zs is ds hn hl hb j hj] at hc
      exact ⟨j, List.getElem?_eq_getElem hj, hc⟩
    · left
      rw [zsl_out zs is ds k hki] at hc
      exact ⟨hki, hc⟩
  have hD' := zw_D_iff.mp hD
  have hD1' := zw_D_iff.mp hD1
  have hP' := zw_P_iff.mp hP
  have hP1' := zw_P_iff.mp hP1
  -- an old cell at a place that isn't told isn't the callee's
  have hnot : ∀ k c, k ∉ is → zs[k]? = some c → ∀ p ∈ c, ¬ va_A cs.flatten H.size p.1 := by
    intro k c hki hc p hp
    rintro (⟨i, e, he⟩ | hle)
    · obtain ⟨d, hd, hmd⟩ := List.mem_flatten.mp (List.mem_of_getElem? he)
      obtain ⟨i2, hi2, hz⟩ := hcs d hd
      exact zw_apart hD'.1 hc hz (fun q => hki (q ▸ hi2)) p hp _ hmd rfl
    · have := (hP' p (List.mem_flatten.mpr ⟨c, List.mem_of_getElem? hc, hp⟩)).lt
      omega
  constructor
  · rw [zw_P_iff]
    intro q hq
    obtain ⟨c, hc, hqc⟩ := List.mem_flatten.mp hq
    obtain ⟨k, hk2⟩ := List.getElem?_of_mem hc
    rcases hch k c hk2 with ⟨h1, h2⟩ | ⟨j, -, h2⟩
    · have h3 := hP' q (List.mem_flatten.mpr ⟨c, List.mem_of_getElem? h2, hqc⟩)
      exact h3.kept (hk q.1 h3.lt (hnot k c h1 h2 q hqc))
    · exact hP1' q (List.mem_flatten.mpr ⟨c, List.mem_of_getElem? h2, hqc⟩)
  · rw [zw_D_iff]
    constructor
    · rw [List.pairwise_flatten]
      constructor
      · intro c hc
        obtain ⟨k, hk2⟩ := List.getElem?_of_mem hc
        rcases hch k c hk2 with ⟨-, h2⟩ | ⟨j, -, h2⟩
        · exact (List.pairwise_flatten.mp hD'.1).1 c (List.mem_of_getElem? h2)
        · exact (List.pairwise_flatten.mp hD1'.1).1 c (List.mem_of_getElem? h2)
      · rw [List.pairwise_iff_getElem]
        intro a b ha hb2 hab p hp q hq
        have ga := List.getElem?_eq_getElem ha
        have gb := List.getElem?_eq_getElem hb2
        rcases hch a _ ga with ⟨h1, h2⟩ | ⟨j, h1, h2⟩
        · rcases hch b _ gb with ⟨h3, h4⟩ | ⟨j2, h3, h4⟩
          · exact zw_apart hD'.1 h2 h4 (by omega) p hp q hq
          · intro e
            exact hnot a _ h1 h2 p hp (e ▸ hD1'.2 q (List.mem_flatten.mpr ⟨_, List.mem_of_getElem? h4, hq⟩))
        · rcases hch b _ gb with ⟨h3, h4⟩ | ⟨j2, h3, h4⟩
          · intro e
            exact hnot b _ h3 h4 q hq (e ▸ hD1'.2 p (List.mem_flatten.mpr ⟨_, List.mem_of_getElem? h2, hp⟩))
          · have hne : j ≠ j2 := by
              rintro rfl
              rw [h1] at h3
              have := Option.some.inj h3
              omega
            exact zw_apart hD1'.1 h2 h4 hne p hp q hq
    · intro q hq
      obtain ⟨c, hc, hqc⟩ := List.mem_flatten.mp hq
      obtain ⟨k, hk2⟩ := List.getElem?_of_mem hc
      rcases hch k c hk2 with ⟨-, h2⟩ | ⟨j, -, h2⟩
      · exact hD'.2 q (List.mem_flatten.mpr ⟨c, List.mem_of_getElem? h2, hqc⟩)
      · exact hf _ (hD1'.2 q (List.mem_flatten.mpr ⟨c, List.mem_of_getElem? h2, hqc⟩))
section ZLW
variable {p : Program} {l : Launch} {e : Env} {R : Room} {s : State} {m : MethodId} {args : Array Value} {below : List Frame} {meth : Method} {c : Code} {H : Heap} {locs : List Loc} {cells slots mc ms : Nat} {Q : State → Prop} {g : JFrame} {rest : List Value} {Qa : State → Outcome → State → Prop} {free : Addr → Prop}
theorem zn_run (hr : vx_Run p l e R s m args below meth c H locs cells slots mc ms g rest Qa (fun _ _ _ => False) free) : va_Run p l e R s m args below meth c H locs cells slots mc ms g rest Qa free := by
  intro T hT X
  rcases hr T hT X with h | ⟨q, st0, t, T', L, E, ce, h0, X', hL, e1, e2, hx, -⟩
  · exact h
  · exact hx.elim
end ZLW
theorem zn_preS {D : va_G} {T : Nat → ClassId} {s : State} {H : Heap} {locs : List Loc} {As : List Value} {A : Nat → Prop} {wc : va_W} (hK : va_K D vwCl (zr_ty T) s) (hN : zr_N s) (hX : zx_K A s s.heap) (hNc : zn_K s) (hS : va_S A s.heap H locs) (hF : ∀ q, va_A wc H.size q → A q) (hP : va_P D vwCl wc H) (hD : va_D A wc) : PreS s H (zn_Pc D T As wc H.size) As := ⟨zn_blind, fun U hU hW => ⟨rfl, by rw [hU], by rw [hU]; exact hP, va_K.moved hW.alike (hK.sub [0, 1, 2, 3, 4] rfl), zk_N_warm hW hN.1, hD.weaken (fun _ _ _ _ => trivial), zx_K_go hX hS hF hU hW, zn_K_moved hW.alike hNc⟩⟩

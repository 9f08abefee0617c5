/-! rows of mine: the words of ask, the handlers of the law -/
theorem goodIn_tr {a b c : List Cond} (h1 : GoodIn a b) (h2 : GoodIn b c) : GoodIn a c := fun w h => ⟨(h1 w (h2 w h).1).1, (h2 w h).2⟩
def wsK : List Cond := Cond.codeWith yL_ask cL_ask 4 (some .int) [(0, 260, 418, 71), (261, 279, 418, 71), (280, 287, 418, 71), (288, 298, 418, 71), (299, 312, 418, 71), (313, 329, 418, 71), (330, 337, 418, 71), (338, 352, 418, 71), (353, 360, 418, 71), (361, 368, 418, 71), (369, 376, 418, 71), (377, 384, 418, 71), (385, 392, 418, 71), (393, 397, 418, 71), (398, 402, 418, 71), (403, 410, 418, 71), (411, 417, 418, 71), (0, 260, 422, 74), (261, 279, 422, 74), (280, 287, 422, 74), (288, 298, 422, 74), (299, 312, 422, 74), (313, 329, 422, 74), (330, 337, 422, 74), (338, 352, 422, 74), (353, 360, 422, 74), (361, 368, 422, 74), (369, 376, 422, 74), (377, 384, 422, 74), (385, 392, 422, 74), (393, 397, 422, 74), (398, 402, 422, 74), (403, 410, 422, 74), (411, 417, 422, 74), (0, 260, 426, 77), (261, 279, 426, 77), (280, 287, 426, 77), (288, 298, 426, 77), (299, 312, 426, 77), (313, 329, 426, 77), (330, 337, 426, 77), (338, 352, 426, 77), (353, 360, 426, 77), (361, 368, 426, 77), (369, 376, 426, 77), (377, 384, 426, 77), (385, 392, 426, 77), (393, 397, 426, 77), (398, 402, 426, 77), (403, 410, 426, 77), (411, 417, 426, 77), (0, 260, 430, 80), (261, 279, 430, 80), (280, 287, 430, 80), (288, 298, 430, 80), (299, 312, 430, 80), (313, 329, 430, 80), (330, 337, 430, 80), (338, 352, 430, 80), (353, 360, 430, 80), (361, 368, 430, 80), (369, 376, 430, 80), (377, 384, 430, 80), (385, 392, 430, 80), (393, 397, 430, 80), (398, 402, 430, 80), (403, 410, 430, 80), (411, 417, 430, 80), (0, 260, 434, 83), (261, 279, 434, 83), (280, 287, 434, 83), (288, 298, 434, 83), (299, 312, 434, 83), (313, 329, 434, 83), (330, 337, 434, 83), (338, 352, 434, 83), (353, 360, 434, 83), (361, 368, 434, 83), (369, 376, 434, 83), (377, 384, 434, 83), (385, 392, 434, 83), (393, 397, 434, 83), (398, 402, 434, 83), (403, 410, 434, 83), (411, 417, 434, 83), (0, 260, 438, 86), (261, 279, 438, 86), (280, 287, 438, 86), (288, 298, 438, 86), (299, 312, 438, 86), (313, 329, 438, 86), (330, 337, 438, 86), (338, 352, 438, 86), (353, 360, 438, 86), (361, 368, 438, 86), (369, 376, 438, 86), (377, 384, 438, 86), (385, 392, 438, 86), (393, 397, 438, 86), (398, 402, 438, 86), (403, 410, 438, 86), (411, 417, 438, 86)] :: (wsL_ask ++ va_wsS RL 65 yL_asked wsL_asked)
set_option maxRecDepth 100000 in
theorem gK_L_ask : GoodIn wsK (wsL_ask) := goodIn_sub (fun _ h => List.mem_cons_of_mem _ (List.mem_append_left _ h)) (by decide +kernel)
set_option maxRecDepth 100000 in
theorem gK_L_asked : GoodIn wsK (va_wsS RL 65 yL_asked wsL_asked) := goodIn_sub (fun _ h => List.mem_cons_of_mem _ (List.mem_append_right _ h)) (by decide +kernel)
theorem gK_X5_beater : GoodIn wsK (wsV RL 7 RX5 yX5_beater wsX5_beater) := goodIn_tr gK_L_ask gL_ask_X5_beater
theorem gK_X5_swing : GoodIn wsK (wsV RL 13 RX5 yX5_swing wsX5_swing) := goodIn_tr gK_L_ask gL_ask_X5_swing
theorem gK_X5_phase : GoodIn wsK (wsV RL 17 RX5 yX5_phase wsX5_phase) := goodIn_tr gK_L_ask gL_ask_X5_phase
theorem gK_X5_period : GoodIn wsK (wsV RL 21 RX5 yX5_period wsX5_period) := goodIn_tr gK_L_ask gL_ask_X5_period
theorem gK_X5_answer : GoodIn wsK (wsV RL 25 RX5 yX5_answer wsX5_answer) := goodIn_tr gK_L_ask gL_ask_X5_answer
theorem gK_X5_link : GoodIn wsK (wsV RL 29 RX5 yX5_link wsX5_link) := goodIn_tr gK_L_ask gL_ask_X5_link
theorem gK_X5_cut : GoodIn wsK (wsV RL 33 RX5 yX5_cut wsX5_cut) := goodIn_tr gK_L_ask gL_ask_X5_cut
theorem gK_X5_net : GoodIn wsK (wsV RL 36 RX5 yX5_net wsX5_net) := goodIn_tr gK_L_ask gL_ask_X5_net
theorem gK_X5_run : GoodIn wsK (wsV RL 40 RX5 yX5_run wsX5_run) := goodIn_tr gK_L_ask gL_ask_X5_run
theorem gK_X5_flashes : GoodIn wsK (wsV RL 43 RX5 yX5_flashes wsX5_flashes) := goodIn_tr gK_L_ask gL_ask_X5_flashes
theorem gK_X5_last : GoodIn wsK (wsV RL 46 RX5 yX5_last wsX5_last) := goodIn_tr gK_L_ask gL_ask_X5_last
theorem gK_X5_waiting : GoodIn wsK (wsV RL 49 RX5 yX5_waiting wsX5_waiting) := goodIn_tr gK_L_ask gL_ask_X5_waiting
theorem gK_X5_strip : GoodIn wsK (wsV RL 52 RX5 yX5_strip wsX5_strip) := goodIn_tr gK_L_ask gL_ask_X5_strip
theorem gK_X5_cycle : GoodIn wsK (wsV RL 55 RX5 yX5_cycle wsX5_cycle) := goodIn_tr gK_L_ask gL_ask_X5_cycle
theorem gK_X5_lead : GoodIn wsK (wsV RL 59 RX5 yX5_lead wsX5_lead) := goodIn_tr gK_L_ask gL_ask_X5_lead
theorem gK_X5_beats : GoodIn wsK (wsV RL 62 RX5 yX5_beats wsX5_beats) := goodIn_tr gK_L_ask gL_ask_X5_beats
def tb_L_ask : List ExceptionTableEntry := tableOf [(0, 260, 418, 71), (261, 279, 418, 71), (280, 287, 418, 71), (288, 298, 418, 71), (299, 312, 418, 71), (313, 329, 418, 71), (330, 337, 418, 71), (338, 352, 418, 71), (353, 360, 418, 71), (361, 368, 418, 71), (369, 376, 418, 71), (377, 384, 418, 71), (385, 392, 418, 71), (393, 397, 418, 71), (398, 402, 418, 71), (403, 410, 418, 71), (411, 417, 418, 71), (0, 260, 422, 74), (261, 279, 422, 74), (280, 287, 422, 74), (288, 298, 422, 74), (299, 312, 422, 74), (313, 329, 422, 74), (330, 337, 422, 74), (338, 352, 422, 74), (353, 360, 422, 74), (361, 368, 422, 74), (369, 376, 422, 74), (377, 384, 422, 74), (385, 392, 422, 74), (393, 397, 422, 74), (398, 402, 422, 74), (403, 410, 422, 74), (411, 417, 422, 74), (0, 260, 426, 77), (261, 279, 426, 77), (280, 287, 426, 77), (288, 298, 426, 77), (299, 312, 426, 77), (313, 329, 426, 77), (330, 337, 426, 77), (338, 352, 426, 77), (353, 360, 426, 77), (361, 368, 426, 77), (369, 376, 426, 77), (377, 384, 426, 77), (385, 392, 426, 77), (393, 397, 426, 77), (398, 402, 426, 77), (403, 410, 426, 77), (411, 417, 426, 77), (0, 260, 430, 80), (261, 279, 430, 80), (280, 287, 430, 80), (288, 298, 430, 80), (299, 312, 430, 80), (313, 329, 430, 80), (330, 337, 430, 80), (338, 352, 430, 80), (353, 360, 430, 80), (361, 368, 430, 80), (369, 376, 430, 80), (377, 384, 430, 80), (385, 392, 430, 80), (393, 397, 430, 80), (398, 402, 430, 80), (403, 410, 430, 80), (411, 417, 430, 80), (0, 260, 434, 83), (261, 279, 434, 83), (280, 287, 434, 83), (288, 298, 434, 83), (299, 312, 434, 83), (313, 329, 434, 83), (330, 337, 434, 83), (338, 352, 434, 83), (353, 360, 434, 83), (361, 368, 434, 83), (369, 376, 434, 83), (377, 384, 434, 83), (385, 392, 434, 83), (393, 397, 434, 83), (398, 402, 434, 83), (403, 410, 434, 83), (411, 417, 434, 83), (0, 260, 438, 86), (261, 279, 438, 86), (280, 287, 438, 86), (288, 298, 438, 86), (299, 312, 438, 86), (313, 329, 438, 86), (330, 337, 438, 86), (338, 352, 438, 86), (353, 360, 438, 86), (361, 368, 438, 86), (369, 376, 438, 86), (377, 384, 438, 86), (385, 392, 438, 86), (393, 397, 438, 86), (398, 402, 438, 86), (403, 410, 438, 86), (411, 417, 438, 86)]
theorem ac_catch_L_ask_0 {p : Program} {l : Launch} {e : Env} {R : Room} {s : State} {m : MethodId} {args : Array Value} {below : List Frame} {meth : Method} {c : Code} {H : Heap} {locs : List Loc} {cells slots : Nat} {Q : State → Prop} {pc : Nat} {ls : Array Slot} {rest : List Value} {name : String} {ce : Cell} {q : Addr} {x : ExceptionTableEntry} (hown : s.vm.findClass RL = some m.cls) (htab : c.exceptionTable.toList = tb_L_ask) (k : Nat) (hk : tb_L_ask[k]? = some x) (hpre : ((tb_L_ask.take k).all fun z => !(covers z pc) || [].contains z.catchType) = true) (hx : covers x pc = true) (h0 : x.catchType ≠ 0)
    (hlink : (Cond.classLink RL x.catchType name).before args s = true) (hts : ∀ w ∈ wsK, w.before args s = true) (hNc : zn_K s) (hcast : (Cond.castable "java/lang/IndexOutOfBoundsException" name).before args s = true) (hcell : H[q]? = some ce) (hv : ce.vm = .none) (hcl : s.vm.findClass "java/lang/IndexOutOfBoundsException" = some ce.cls)
    (kk : W p l e R s m args below meth c H locs cells slots Q (F0 m x.handlerPc ls [.ref q])) : vx_W p l e R s m args below meth c H locs cells slots Q (F0 m pc ls rest) q := by
  refine vx_catch (own := RL) (name := name) (E := "java/lang/IndexOutOfBoundsException") hown (tb_L_ask.take k) x (tb_L_ask.drop (k + 1)) (htab.trans ?_) (fun z hz => ?_) hx h0 hlink hcast hcell hv hcl kk
  · obtain ⟨hlt, rfl⟩ := List.getElem?_eq_some_iff.mp hk
    exact (List.take_append_drop k _).symm.trans (congrArg _ (List.drop_eq_getElem_cons hlt))
  · have h1 := List.all_eq_true.mp hpre z hz
    rcases Bool.or_eq_true_iff.mp h1 with h2 | h2
    · exact Or.inl ((Bool.not_eq_true' _).mp h2)
    · have h3 : z.catchType ∈ [] := by simpa using h2
      exact absurd h3 List.not_mem_nil
theorem ac_catch_L_ask_1 {p : Program} {l : Launch} {e : Env} {R : Room} {s : State} {m : MethodId} {args : Array Value} {below : List Frame} {meth : Method} {c : Code} {H : Heap} {locs : List Loc} {cells slots : Nat} {Q : State → Prop} {pc : Nat} {ls : Array Slot} {rest : List Value} {name : String} {ce : Cell} {q : Addr} {x : ExceptionTableEntry} (hown : s.vm.findClass RL = some m.cls) (htab : c.exceptionTable.toList = tb_L_ask) (k : Nat) (hk : tb_L_ask[k]? = some x) (hpre : ((tb_L_ask.take k).all fun z => !(covers z pc) || [71].contains z.catchType) = true) (hx : covers x pc = true) (h0 : x.catchType ≠ 0)
    (hlink : (Cond.classLink RL x.catchType name).before args s = true) (hts : ∀ w ∈ wsK, w.before args s = true) (hNc : zn_K s) (hcast : (Cond.castable "java/lang/IllegalArgumentException" name).before args s = true) (hcell : H[q]? = some ce) (hv : ce.vm = .none) (hcl : s.vm.findClass "java/lang/IllegalArgumentException" = some ce.cls)
    (kk : W p l e R s m args below meth c H locs cells slots Q (F0 m x.handlerPc ls [.ref q])) : vx_W p l e R s m args below meth c H locs cells slots Q (F0 m pc ls rest) q := by
  refine vx_catch (own := RL) (name := name) (E := "java/lang/IllegalArgumentException") hown (tb_L_ask.take k) x (tb_L_ask.drop (k + 1)) (htab.trans ?_) (fun z hz => ?_) hx h0 hlink hcast hcell hv hcl kk
  · obtain ⟨hlt, rfl⟩ := List.getElem?_eq_some_iff.mp hk
    exact (List.take_append_drop k _).symm.trans (congrArg _ (List.drop_eq_getElem_cons hlt))
  · have h1 := List.all_eq_true.mp hpre z hz
    rcases Bool.or_eq_true_iff.mp h1 with h2 | h2
    · exact Or.inl ((Bool.not_eq_true' _).mp h2)
    · have h3 : z.catchType ∈ [71] := by simpa using h2
      exact Or.inr (by
        simp only [List.mem_cons, List.not_mem_nil, or_false] at h3
        rcases h3 with h3
        · exact ⟨by rw [h3]; decide, "java/lang/IndexOutOfBoundsException", by rw [h3]; exact hts (.classLink RL 71 "java/lang/IndexOutOfBoundsException") (by decide +kernel), hNc ("java/lang/IllegalArgumentException", "java/lang/IndexOutOfBoundsException") (by decide +kernel)⟩)
theorem ac_catch_L_ask_2 {p : Program} {l : Launch} {e : Env} {R : Room} {s : State} {m : MethodId} {args : Array Value} {below : List Frame} {meth : Method} {c : Code} {H : Heap} {locs : List Loc} {cells slots : Nat} {Q : State → Prop} {pc : Nat} {ls : Array Slot} {rest : List Value} {name : String} {ce : Cell} {q : Addr} {x : ExceptionTableEntry} (hown : s.vm.findClass RL = some m.cls) (htab : c.exceptionTable.toList = tb_L_ask) (k : Nat) (hk : tb_L_ask[k]? = some x) (hpre : ((tb_L_ask.take k).all fun z => !(covers z pc) || [71, 74].contains z.catchType) = true) (hx : covers x pc = true) (h0 : x.catchType ≠ 0)
    (hlink : (Cond.classLink RL x.catchType name).before args s = true) (hts : ∀ w ∈ wsK, w.before args s = true) (hNc : zn_K s) (hcast : (Cond.castable "java/lang/IllegalStateException" name).before args s = true) (hcell : H[q]? = some ce) (hv : ce.vm = .none) (hcl : s.vm.findClass "java/lang/IllegalStateException" = some ce.cls)
    (kk : W p l e R s m args below meth c H locs cells slots Q (F0 m x.handlerPc ls [.ref q])) : vx_W p l e R s m args below meth c H locs cells slots Q (F0 m pc ls rest) q := by
  refine vx_catch (own := RL) (name := name) (E := "java/lang/IllegalStateException") hown (tb_L_ask.take k) x (tb_L_ask.drop (k + 1)) (htab.trans ?_) (fun z hz => ?_) hx h0 hlink hcast hcell hv hcl kk
  · obtain ⟨hlt, rfl⟩ := List.getElem?_eq_some_iff.mp hk
    exact (List.take_append_drop k _).symm.trans (congrArg _ (List.drop_eq_getElem_cons hlt))
  · have h1 := List.all_eq_true.mp hpre z hz
    rcases Bool.or_eq_true_iff.mp h1 with h2 | h2
    · exact Or.inl ((Bool.not_eq_true' _).mp h2)
    · have h3 : z.catchType ∈ [71, 74] := by simpa using h2
      exact Or.inr (by
        simp only [List.mem_cons, List.not_mem_nil, or_false] at h3
        rcases h3 with h3 | h3
        · exact ⟨by rw [h3]; decide, "java/lang/IndexOutOfBoundsException", by rw [h3]; exact hts (.classLink RL 71 "java/lang/IndexOutOfBoundsException") (by decide +kernel), hNc ("java/lang/IllegalStateException", "java/lang/IndexOutOfBoundsException") (by decide +kernel)⟩
        · exact ⟨by rw [h3]; decide, "java/lang/IllegalArgumentException", by rw [h3]; exact hts (.classLink RL 74 "java/lang/IllegalArgumentException") (by decide +kernel), hNc ("java/lang/IllegalStateException", "java/lang/IllegalArgumentException") (by decide +kernel)⟩)
theorem ac_catch_L_ask_3 {p : Program} {l : Launch} {e : Env} {R : Room} {s : State} {m : MethodId} {args : Array Value} {below : List Frame} {meth : Method} {c : Code} {H : Heap} {locs : List Loc} {cells slots : Nat} {Q : State → Prop} {pc : Nat} {ls : Array Slot} {rest : List Value} {name : String} {ce : Cell} {q : Addr} {x : ExceptionTableEntry} (hown : s.vm.findClass RL = some m.cls) (htab : c.exceptionTable.toList = tb_L_ask) (k : Nat) (hk : tb_L_ask[k]? = some x) (hpre : ((tb_L_ask.take k).all fun z => !(covers z pc) || [71, 74, 77].contains z.catchType) = true) (hx : covers x pc = true) (h0 : x.catchType ≠ 0)
    (hlink : (Cond.classLink RL x.catchType name).before args s = true) (hts : ∀ w ∈ wsK, w.before args s = true) (hNc : zn_K s) (hcast : (Cond.castable "java/lang/UnsupportedOperationException" name).before args s = true) (hcell : H[q]? = some ce) (hv : ce.vm = .none) (hcl : s.vm.findClass "java/lang/UnsupportedOperationException" = some ce.cls)
    (kk : W p l e R s m args below meth c H locs cells slots Q (F0 m x.handlerPc ls [.ref q])) : vx_W p l e R s m args below meth c H locs cells slots Q (F0 m pc ls rest) q := by
  refine vx_catch (own := RL) (name := name) (E := "java/lang/UnsupportedOperationException") hown (tb_L_ask.take k) x (tb_L_ask.drop (k + 1)) (htab.trans ?_) (fun z hz => ?_) hx h0 hlink hcast hcell hv hcl kk
  · obtain ⟨hlt, rfl⟩ := List.getElem?_eq_some_iff.mp hk
    exact (List.take_append_drop k _).symm.trans (congrArg _ (List.drop_eq_getElem_cons hlt))
  · have h1 := List.all_eq_true.mp hpre z hz
    rcases Bool.or_eq_true_iff.mp h1 with h2 | h2
    · exact Or.inl ((Bool.not_eq_true' _).mp h2)
    · have h3 : z.catchType ∈ [71, 74, 77] := by simpa using h2
      exact Or.inr (by
        simp only [List.mem_cons, List.not_mem_nil, or_false] at h3
        rcases h3 with h3 | h3 | h3
        · exact ⟨by rw [h3]; decide, "java/lang/IndexOutOfBoundsException", by rw [h3]; exact hts (.classLink RL 71 "java/lang/IndexOutOfBoundsException") (by decide +kernel), hNc ("java/lang/UnsupportedOperationException", "java/lang/IndexOutOfBoundsException") (by decide +kernel)⟩
        · exact ⟨by rw [h3]; decide, "java/lang/IllegalArgumentException", by rw [h3]; exact hts (.classLink RL 74 "java/lang/IllegalArgumentException") (by decide +kernel), hNc ("java/lang/UnsupportedOperationException", "java/lang/IllegalArgumentException") (by decide +kernel)⟩
        · exact ⟨by rw [h3]; decide, "java/lang/IllegalStateException", by rw [h3]; exact hts (.classLink RL 77 "java/lang/IllegalStateException") (by decide +kernel), hNc ("java/lang/UnsupportedOperationException", "java/lang/IllegalStateException") (by decide +kernel)⟩)
theorem ac_catch_L_ask_4 {p : Program} {l : Launch} {e : Env} {R : Room} {s : State} {m : MethodId} {args : Array Value} {below : List Frame} {meth : Method} {c : Code} {H : Heap} {locs : List Loc} {cells slots : Nat} {Q : State → Prop} {pc : Nat} {ls : Array Slot} {rest : List Value} {name : String} {ce : Cell} {q : Addr} {x : ExceptionTableEntry} (hown : s.vm.findClass RL = some m.cls) (htab : c.exceptionTable.toList = tb_L_ask) (k : Nat) (hk : tb_L_ask[k]? = some x) (hpre : ((tb_L_ask.take k).all fun z => !(covers z pc) || [71, 74, 77, 80].contains z.catchType) = true) (hx : covers x pc = true) (h0 : x.catchType ≠ 0)
    (hlink : (Cond.classLink RL x.catchType name).before args s = true) (hts : ∀ w ∈ wsK, w.before args s = true) (hNc : zn_K s) (hcast : (Cond.castable "java/lang/ArithmeticException" name).before args s = true) (hcell : H[q]? = some ce) (hv : ce.vm = .none) (hcl : s.vm.findClass "java/lang/ArithmeticException" = some ce.cls)
    (kk : W p l e R s m args below meth c H locs cells slots Q (F0 m x.handlerPc ls [.ref q])) : vx_W p l e R s m args below meth c H locs cells slots Q (F0 m pc ls rest) q := by
  refine vx_catch (own := RL) (name := name) (E := "java/lang/ArithmeticException") hown (tb_L_ask.take k) x (tb_L_ask.drop (k + 1)) (htab.trans ?_) (fun z hz => ?_) hx h0 hlink hcast hcell hv hcl kk
  · obtain ⟨hlt, rfl⟩ := List.getElem?_eq_some_iff.mp hk
    exact (List.take_append_drop k _).symm.trans (congrArg _ (List.drop_eq_getElem_cons hlt))
  · have h1 := List.all_eq_true.mp hpre z hz
    rcases Bool.or_eq_true_iff.mp h1 with h2 | h2
    · exact Or.inl ((Bool.not_eq_true' _).mp h2)
    · have h3 : z.catchType ∈ [71, 74, 77, 80] := by simpa using h2
      exact Or.inr (by
        simp only [List.mem_cons, List.not_mem_nil, or_false] at h3
        rcases h3 with h3 | h3 | h3 | h3
        · exact ⟨by rw [h3]; decide, "java/lang/IndexOutOfBoundsException", by rw [h3]; exact hts (.classLink RL 71 "java/lang/IndexOutOfBoundsException") (by decide +kernel), hNc ("java/lang/ArithmeticException", "java/lang/IndexOutOfBoundsException") (by decide +kernel)⟩
        · exact ⟨by rw [h3]; decide, "java/lang/IllegalArgumentException", by rw [h3]; exact hts (.classLink RL 74 "java/lang/IllegalArgumentException") (by decide +kernel), hNc ("java/lang/ArithmeticException", "java/lang/IllegalArgumentException") (by decide +kernel)⟩
        · exact ⟨by rw [h3]; decide, "java/lang/IllegalStateException", by rw [h3]; exact hts (.classLink RL 77 "java/lang/IllegalStateException") (by decide +kernel), hNc ("java/lang/ArithmeticException", "java/lang/IllegalStateException") (by decide +kernel)⟩
        · exact ⟨by rw [h3]; decide, "java/lang/UnsupportedOperationException", by rw [h3]; exact hts (.classLink RL 80 "java/lang/UnsupportedOperationException") (by decide +kernel), hNc ("java/lang/ArithmeticException", "java/lang/UnsupportedOperationException") (by decide +kernel)⟩)
theorem ac_catch_L_ask_5 {p : Program} {l : Launch} {e : Env} {R : Room} {s : State} {m : MethodId} {args : Array Value} {below : List Frame} {meth : Method} {c : Code} {H : Heap} {locs : List Loc} {cells slots : Nat} {Q : State → Prop} {pc : Nat} {ls : Array Slot} {rest : List Value} {name : String} {ce : Cell} {q : Addr} {x : ExceptionTableEntry} (hown : s.vm.findClass RL = some m.cls) (htab : c.exceptionTable.toList = tb_L_ask) (k : Nat) (hk : tb_L_ask[k]? = some x) (hpre : ((tb_L_ask.take k).all fun z => !(covers z pc) || [71, 74, 77, 80, 83].contains z.catchType) = true) (hx : covers x pc = true) (h0 : x.catchType ≠ 0)
    (hlink : (Cond.classLink RL x.catchType name).before args s = true) (hts : ∀ w ∈ wsK, w.before args s = true) (hNc : zn_K s) (hcast : (Cond.castable "java/util/NoSuchElementException" name).before args s = true) (hcell : H[q]? = some ce) (hv : ce.vm = .none) (hcl : s.vm.findClass "java/util/NoSuchElementException" = some ce.cls)
    (kk : W p l e R s m args below meth c H locs cells slots Q (F0 m x.handlerPc ls [.ref q])) : vx_W p l e R s m args below meth c H locs cells slots Q (F0 m pc ls rest) q := by
  refine vx_catch (own := RL) (name := name) (E := "java/util/NoSuchElementException") hown (tb_L_ask.take k) x (tb_L_ask.drop (k + 1)) (htab.trans ?_) (fun z hz => ?_) hx h0 hlink hcast hcell hv hcl kk
  · obtain ⟨hlt, rfl⟩ := List.getElem?_eq_some_iff.mp hk
    exact (List.take_append_drop k _).symm.trans (congrArg _ (List.drop_eq_getElem_cons hlt))
  · have h1 := List.all_eq_true.mp hpre z hz
    rcases Bool.or_eq_true_iff.mp h1 with h2 | h2
    · exact Or.inl ((Bool.not_eq_true' _).mp h2)
    · have h3 : z.catchType ∈ [71, 74, 77, 80, 83] := by simpa using h2
      exact Or.inr (by
        simp only [List.mem_cons, List.not_mem_nil, or_false] at h3
        rcases h3 with h3 | h3 | h3 | h3 | h3
        · exact ⟨by rw [h3]; decide, "java/lang/IndexOutOfBoundsException", by rw [h3]; exact hts (.classLink RL 71 "java/lang/IndexOutOfBoundsException") (by decide +kernel), hNc ("java/util/NoSuchElementException", "java/lang/IndexOutOfBoundsException") (by decide +kernel)⟩
        · exact ⟨by rw [h3]; decide, "java/lang/IllegalArgumentException", by rw [h3]; exact hts (.classLink RL 74 "java/lang/IllegalArgumentException") (by decide +kernel), hNc ("java/util/NoSuchElementException", "java/lang/IllegalArgumentException") (by decide +kernel)⟩
        · exact ⟨by rw [h3]; decide, "java/lang/IllegalStateException", by rw [h3]; exact hts (.classLink RL 77 "java/lang/IllegalStateException") (by decide +kernel), hNc ("java/util/NoSuchElementException", "java/lang/IllegalStateException") (by decide +kernel)⟩
        · exact ⟨by rw [h3]; decide, "java/lang/UnsupportedOperationException", by rw [h3]; exact hts (.classLink RL 80 "java/lang/UnsupportedOperationException") (by decide +kernel), hNc ("java/util/NoSuchElementException", "java/lang/UnsupportedOperationException") (by decide +kernel)⟩
        · exact ⟨by rw [h3]; decide, "java/lang/ArithmeticException", by rw [h3]; exact hts (.classLink RL 83 "java/lang/ArithmeticException") (by decide +kernel), hNc ("java/util/NoSuchElementException", "java/lang/ArithmeticException") (by decide +kernel)⟩)
def tb_L_mean : List ExceptionTableEntry := tableOf [(0, 18, 19, 80), (0, 18, 23, 83)]
theorem ac_catch_L_mean_0 {p : Program} {l : Launch} {e : Env} {R : Room} {s : State} {m : MethodId} {args : Array Value} {below : List Frame} {meth : Method} {c : Code} {H : Heap} {locs : List Loc} {cells slots : Nat} {Q : State → Prop} {pc : Nat} {ls : Array Slot} {rest : List Value} {name : String} {ce : Cell} {q : Addr} {x : ExceptionTableEntry} (hown : s.vm.findClass RL = some m.cls) (htab : c.exceptionTable.toList = tb_L_mean) (k : Nat) (hk : tb_L_mean[k]? = some x) (hpre : ((tb_L_mean.take k).all fun z => !(covers z pc) || [].contains z.catchType) = true) (hx : covers x pc = true) (h0 : x.catchType ≠ 0)
    (hlink : (Cond.classLink RL x.catchType name).before args s = true) (hts : ∀ w ∈ wsL_mean, w.before args s = true) (hNc : zn_K s) (hcast : (Cond.castable "java/lang/UnsupportedOperationException" name).before args s = true) (hcell : H[q]? = some ce) (hv : ce.vm = .none) (hcl : s.vm.findClass "java/lang/UnsupportedOperationException" = some ce.cls)
    (kk : W p l e R s m args below meth c H locs cells slots Q (F0 m x.handlerPc ls [.ref q])) : vx_W p l e R s m args below meth c H locs cells slots Q (F0 m pc ls rest) q := by
  refine vx_catch (own := RL) (name := name) (E := "java/lang/UnsupportedOperationException") hown (tb_L_mean.take k) x (tb_L_mean.drop (k + 1)) (htab.trans ?_) (fun z hz => ?_) hx h0 hlink hcast hcell hv hcl kk
  · obtain ⟨hlt, rfl⟩ := List.getElem?_eq_some_iff.mp hk
    exact (List.take_append_drop k _).symm.trans (congrArg _ (List.drop_eq_getElem_cons hlt))
  · have h1 := List.all_eq_true.mp hpre z hz
    rcases Bool.or_eq_true_iff.mp h1 with h2 | h2
    · exact Or.inl ((Bool.not_eq_true' _).mp h2)
    · have h3 : z.catchType ∈ [] := by simpa using h2
      exact absurd h3 List.not_mem_nil
theorem ac_catch_L_mean_1 {p : Program} {l : Launch} {e : Env} {R : Room} {s : State} {m : MethodId} {args : Array Value} {below : List Frame} {meth : Method} {c : Code} {H : Heap} {locs : List Loc} {cells slots : Nat} {Q : State → Prop} {pc : Nat} {ls : Array Slot} {rest : List Value} {name : String} {ce : Cell} {q : Addr} {x : ExceptionTableEntry} (hown : s.vm.findClass RL = some m.cls) (htab : c.exceptionTable.toList = tb_L_mean) (k : Nat) (hk : tb_L_mean[k]? = some x) (hpre : ((tb_L_mean.take k).all fun z => !(covers z pc) || [80].contains z.catchType) = true) (hx : covers x pc = true) (h0 : x.catchType ≠ 0)
    (hlink : (Cond.classLink RL x.catchType name).before args s = true) (hts : ∀ w ∈ wsL_mean, w.before args s = true) (hNc : zn_K s) (hcast : (Cond.castable "java/lang/ArithmeticException" name).before args s = true) (hcell : H[q]? = some ce) (hv : ce.vm = .none) (hcl : s.vm.findClass "java/lang/ArithmeticException" = some ce.cls)
    (kk : W p l e R s m args below meth c H locs cells slots Q (F0 m x.handlerPc ls [.ref q])) : vx_W p l e R s m args below meth c H locs cells slots Q (F0 m pc ls rest) q := by
  refine vx_catch (own := RL) (name := name) (E := "java/lang/ArithmeticException") hown (tb_L_mean.take k) x (tb_L_mean.drop (k + 1)) (htab.trans ?_) (fun z hz => ?_) hx h0 hlink hcast hcell hv hcl kk
  · obtain ⟨hlt, rfl⟩ := List.getElem?_eq_some_iff.mp hk
    exact (List.take_append_drop k _).symm.trans (congrArg _ (List.drop_eq_getElem_cons hlt))
  · have h1 := List.all_eq_true.mp hpre z hz
    rcases Bool.or_eq_true_iff.mp h1 with h2 | h2
    · exact Or.inl ((Bool.not_eq_true' _).mp h2)
    · have h3 : z.catchType ∈ [80] := by simpa using h2
      exact Or.inr (by
        simp only [List.mem_cons, List.not_mem_nil, or_false] at h3
        rcases h3 with h3
        · exact ⟨by rw [h3]; decide, "java/lang/UnsupportedOperationException", by rw [h3]; exact hts (.classLink RL 80 "java/lang/UnsupportedOperationException") (by decide +kernel), hNc ("java/lang/ArithmeticException", "java/lang/UnsupportedOperationException") (by decide +kernel)⟩)

/-! THE START: Throwable's statics; the classes. -/
theorem l_lay {s V : State} {C n d : String} {args ar : Array Value} (hl : (Cond.laysStatic C n d).before args s = true) (hr : (Cond.isRef (.static C n d)).before args s = true) :
    ∃ (c : ClassId) (k : Class) (a : Nat) (cell : Cell), s.vm.findClass C = some c ∧ s.vm.classes[c]? = some k ∧ k.statics = some a ∧ s.heap[a]? = some cell ∧
      (s.vm.Alike V.vm → V.heap[a]? = some cell → (Cond.laysStatic C n d).before ar V = true ∧ (Cond.isRef (.static C n d)).before ar V = true) := by
  obtain ⟨c, k, i, f, a, cell, hc, hi, hst, ha, hcell, hs, hcls, hlt, hty⟩ := Cond.laysStatic_spec hl
  refine ⟨c, k, a, cell, hc, (State.fieldFound?_spec hi).1, ha, hcell, fun hal hV => ?_⟩
  obtain ⟨k', hi', he⟩ := State.fieldFound?_setVm hal hi
  have hiV : V.fieldFound? C n d = some (c, k', i, f) := hi'
  have hcV : V.vm.findClass C = some c := (hal.findClass C _).trans hc
  have haV : k'.statics = some a := by rw [he]; exact ha
  have htV : k'.staticTypes[f.slot]? = some f.type := by rw [he]; exact hty
  refine ⟨by simp [Cond.before, Cond.holds, Cond.value, hcV, hiV, hst, haV, hV, hs, hcls, hlt, htV], ?_⟩
  have e1 : (Term.static C n d).eval args s none [] s = cell.slots[f.slot]? := by simp [Term.eval, State.fieldNamed?, hi, hst, ha, hcell, hs]
  have e2 : (Term.static C n d).eval ar V none [] V = cell.slots[f.slot]? := by simp [Term.eval, State.fieldNamed?, hiV, hst, haV, hV, hs]
  simp only [Cond.before, Cond.holds, Cond.value] at hr ⊢
  rw [e1] at hr
  rw [e2]
  exact hr
theorem l_cast {s V : State} {C T : String} {args ar : Array Value} (h : (Cond.castable C T).before args s = true) (hal : s.vm.Alike V.vm) : (Cond.castable C T).before ar V = true :=
  va_tabs rfl (rfl : (s.setVm V.vm).vm = V.vm) (by rw [Cond.castable_setVm hal]; exact h)
theorem l_decl {s V : State} {x : MethodName} {args ar : Array Value} (h : (Cond.declares x).before args s = true) (hal : s.vm.Alike V.vm) : (Cond.declares x).before ar V = true :=
  va_tabs rfl (rfl : (s.setVm V.vm).vm = V.vm) (by rw [Cond.declares_setVm hal]; exact h)
theorem l_th {s : State} {args : Array Value} (hts : ∀ w ∈ tables_1, w.before args s = true) (hr1 : (Cond.isRef (.static Bundle.tN "UNASSIGNED_STACK" Bundle.steD)).before args s = true) (hr2 : (Cond.isRef (.static Bundle.tN "SUPPRESSED_SENTINEL" Bundle.listD)).before args s = true) : xTh (lA s) s s.heap := by
  have m2 : ∀ {w : Cond} {i : Nat}, tables_1_2[i]? = some w → w ∈ tables_1 := fun h => List.mem_append_right _ (List.mem_append_left _ (List.mem_of_getElem? h))
  have w1 := hts (.laysStatic Bundle.tN "UNASSIGNED_STACK" Bundle.steD) (m2 (i := 67) rfl)
  have w2 := hts (.laysStatic Bundle.tN "SUPPRESSED_SENTINEL" Bundle.listD) (m2 (i := 69) rfl)
  have w3 := hts (.castable "java/util/NoSuchElementException" "java/util/NoSuchElementException") (m2 (i := 42) rfl)
  have w4 := hts (.castable "java/lang/IllegalStateException" "java/lang/IllegalStateException") (m2 (i := 113) rfl)
  have w5 := hts (.castable "java/lang/IllegalArgumentException" "java/lang/IllegalArgumentException") (m2 (i := 142) rfl)
  have w6 := hts (.declares ⟨"java/lang/RuntimeException", "<init>", "()V"⟩) (m2 (i := 43) rfl)
  have w7 := hts (.declares ⟨"java/lang/Exception", "<init>", "()V"⟩) (m2 (i := 45) rfl)
  have w8 := hts (.declares ⟨"java/lang/Throwable", "<init>", "()V"⟩) (m2 (i := 47) rfl)
  obtain ⟨c, k, a, cell, g1, g2, g3, g4, -⟩ := l_lay (V := s) (ar := args) w1 hr1
  refine ⟨a, cell, g4, fun h => absurd (Array.getElem?_eq_some_iff.mp g4).1 (Nat.not_lt.mpr h), fun V hal hV w hw ar => ?_⟩
  obtain ⟨c1, k1, a1, cell1, f1, f2, f3, f4, f5⟩ := l_lay (V := V) (ar := ar) w1 hr1
  cases g1.symm.trans f1
  cases g2.symm.trans f2
  cases g3.symm.trans f3
  cases g4.symm.trans f4
  obtain ⟨c2, k2, a2, cell2, e1, e2, e3, e4, e5⟩ := l_lay (V := V) (ar := ar) w2 hr2
  cases g1.symm.trans e1
  cases g2.symm.trans e2
  cases g3.symm.trans e3
  cases g4.symm.trans e4
  simp only [xTw, List.mem_cons, List.not_mem_nil, or_false] at hw
  rcases hw with rfl | rfl | rfl | rfl | rfl | rfl | rfl | rfl | rfl | rfl
  · exact (f5 hal hV).1
  · exact (e5 hal hV).1
  · exact (f5 hal hV).2
  · exact (e5 hal hV).2
  · exact l_cast w3 hal
  · exact l_cast w4 hal
  · exact l_cast w5 hal
  · exact l_decl w6 hal
  · exact l_decl w7 hal
  · exact l_decl w8 hal

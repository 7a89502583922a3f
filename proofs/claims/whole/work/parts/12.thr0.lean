/-! X: new E(); athrow, of an exception class of the JDK's, where the launch has no stack traces. -/
abbrev xNs : List String := ["java/lang/RuntimeException", "java/lang/Exception"]
def xTw : List Cond := [.laysStatic Bundle.tN "UNASSIGNED_STACK" Bundle.steD, .laysStatic Bundle.tN "SUPPRESSED_SENTINEL" Bundle.listD, .isRef (.static Bundle.tN "UNASSIGNED_STACK" Bundle.steD), .isRef (.static Bundle.tN "SUPPRESSED_SENTINEL" Bundle.listD), .castable "java/util/NoSuchElementException" "java/util/NoSuchElementException", .castable "java/lang/IllegalStateException" "java/lang/IllegalStateException", .castable "java/lang/IllegalArgumentException" "java/lang/IllegalArgumentException", .declares ⟨"java/lang/RuntimeException", "<init>", "()V"⟩, .declares ⟨"java/lang/Exception", "<init>", "()V"⟩, .declares ⟨"java/lang/Throwable", "<init>", "()V"⟩]
/-- Throwable's statics, in a cell that nobody writes -/
def xTh (A : Nat → Prop) (U : State) (H : Heap) : Prop := ∃ (a : Nat) (cell : Cell), H[a]? = some cell ∧ ¬ A a ∧ ∀ V : State, U.vm.Alike V.vm → V.heap[a]? = some cell → ∀ w ∈ xTw, ∀ ar : Array Value, w.before ar V = true
theorem xTh.moved {A : Nat → Prop} {u U : State} {H : Heap} (hvm : u.vm.Alike U.vm) (h : xTh A u H) : xTh A U H := by
  obtain ⟨a, cell, h1, h2, h3⟩ := h
  exact ⟨a, cell, h1, h2, fun V hV => h3 V (hvm.trans hV)⟩
theorem xTh.kept {A : Nat → Prop} {U : State} {H H1 : Heap} (h : xTh A U H) (hq : ∀ q : Nat, q < H.size → ¬ A q → H1[q]? = H[q]?) : xTh A U H1 := by
  obtain ⟨a, cell, h1, h2, h3⟩ := h
  exact ⟨a, cell, by rw [hq a (Array.getElem?_eq_some_iff.mp h1).1 h2]; exact h1, h2, h3⟩
theorem xTh.narrow {A B : Nat → Prop} {U : State} {H : Heap} (h : xTh A U H) (hAB : ∀ q, B q → A q) : xTh B U H := by
  obtain ⟨a, cell, h1, h2, h3⟩ := h
  exact ⟨a, cell, h1, fun z => h2 (hAB a z), h3⟩
section XF
variable {p : Program} {l : Launch} {e : Env} {R : Room} {s : State} {m : MethodId} {args : Array Value} {below : List Frame} {meth : Method} {c : Code} {H : Heap} {locs : List Loc} {cells slots : Nat}
variable {Qc : Array Value → State → Outcome → State → Prop} {free : Addr → Prop} {cc : ByteArray} {pc : Nat} {ls : Array Slot} {rest : List Value} {A : Nat → Prop} {own cls : String} {ia ic : Nat}
set_option maxHeartbeats 1000000 in
theorem W.throw0 (hx : p.tables.exec = Jvm.exec) (hb : c.code = cc) (hml : ls.size = c.maxLocals) (hown : s.vm.findClass own = some m.cls) (hno : c.exceptionTable.isEmpty = true) (hlocks : meth.locks = false) (hl : l.stackTraces = false)
    (hts : ∀ w ∈ tG, w.before args s = true) (hcls : Bundle.fit cls = true) (how : ∀ w ∈ Bundle.ownAtoms0 own ic cls xNs, w ∈ xTw ∨ w ∈ tG)
    (hcl : (.classLink own ia cls : Cond) ∈ tG) (hinst : (.instantiable cls 6 : Cond) ∈ tG) (hini : (.initialized cls : Cond) ∈ tG)
    (hth : xTh A s s.heap) (hS : va_S A s.heap H locs)
    (hd0 : decode cc pc = .ok (.new ia, 3)) (hd3 : decode cc (pc + 3) = .ok (.dup, 1)) (hd4 : decode cc (pc + 3 + 1) = .ok (.invokespecial ic, 3)) (hd7 : decode cc (pc + 3 + 1 + 3) = .ok (.athrow, 1))
    (hRf : 6 ≤ R.frames) (hRl : (rest.map fun v => v.category).sum + 81 ≤ R.locals) (hRc : cells + 1 ≤ R.cells) (hRs : slots + 6 ≤ R.slots)
    (hq : ∀ (t : State) (x : Addr) (ce : Cell), H.size ≤ t.heap.size → (∀ q : Nat, q < H.size → t.heap[q]? = H[q]?) → t.heap[x]? = some ce → s.vm.findClass cls = some ce.cls → ce.vm.isStatics = false → s.WarmedH t.vm → Qc args s (.threw x) t)
    (hf : ∀ q ∈ locs, free q.base) :
    W p l e R s m args below meth c H locs cells slots (MQX below Qc args s (cells + 1) (slots + 6) free) (F0 m pc ls rest) := by
  intro T hT X
  have htr : e.platform.stackTraces = false := by rw [X.admits.platform]; exact hl
  have X0 := x_rebase X (R' := { frames := R.frames, cells := 1, slots := 6, locals := R.locals }) (Nat.le_refl _) (Nat.le_refl _) hRc hRs
  have hwd : ∀ w ∈ tG, w.before args (T.setFrames s.frames) = true := fun w hw => word_at (U := T.setFrames s.frames) X.warmed (good_of_word (List.mem_filter.mp hw).2) (hts w hw)
  have hown' : (T.setFrames s.frames).vm.findClass own = some m.cls := (X.warmed.alike.findClass own _).trans hown
  obtain ⟨aT, cellT, hT1, hT2, hT3⟩ := hth.kept hS.2.1
  have hth' : ∀ w ∈ xTw, w.before args (T.setFrames s.frames) = true := fun w hw => hT3 (T.setFrames s.frames) X.warmed.alike (by show T.heap[aT]? = _; rw [hT]; exact hT1) w hw args
  have hA : ∀ w ∈ Bundle.ownAtoms0 own ic cls xNs, w.before args (T.setFrames s.frames) = true := fun w hw => (how w hw).elim (hth' w) (hwd w)
  obtain ⟨vm1, cX, kX, f1, f2, f3, f4, X1, st1⟩ := X0.newCold hx hown' (hwd _ hcl) (hwd _ hinst) (hwd _ hini) (g := F0 m pc ls rest) rfl (by rw [hb]; exact hd0) (Nat.le_refl 1) (Nat.le_refl 6)
  have K : W p l e { frames := R.frames, cells := 1, slots := 6, locals := R.locals } (T.setFrames s.frames) m args below meth c ((T.setVm vm1).pushCell { cls := cX, slots := kX.instanceTypes.map defaultValue, vm := .none }).heap [] (0 + 1) (0 + 6)
      (fun U => U.status = .running ∧ Ended U below (.threw T.heap.size) ∧ (T.setFrames s.frames).WarmedH U.vm ∧ (T.setFrames s.frames).sameButNew ({ U with vm := (T.setFrames s.frames).vm } : State) [] 1 6 ∧ ∃ ce, U.heap[T.heap.size]? = some ce ∧ Bundle.OwnCell args (T.setFrames s.frames) cls T.heap.size .null ce) (F0 m (pc + 3) ls (.ref T.heap.size :: rest)) := by
    refine lv_dup hx hb hd3 rfl ?_
    intro T2 hT2 X2
    obtain ⟨U, h1, h2, h3, h4, h5, h6⟩ := X2.ctorThrow0 hx htr hown' hcls (names := xNs) (by decide +kernel) hA (fun x hx => by cases hx) f1 f2 (a := T.heap.size)
      (by rw [hT2]; exact State.heap_pushCell_size (T.setVm vm1) _) (Nat.le_refl _) (g := F0 m (pc + 3 + 1) ls (.ref T.heap.size :: .ref T.heap.size :: rest)) rfl hml rfl rfl (rest := rest) rfl (by rw [hb]; exact hd4) (by rw [hb]; exact hd7)
      (fun y hy => by rw [Array.isEmpty_iff.mp hno] at hy; cases hy) (by show 2 + 3 < R.frames; omega)
      (by show 2 * 0 + ((Value.ref T.heap.size :: rest).map fun v => v.category).sum + (13 * (2 + 1) + 41) ≤ R.locals; rw [List.map_cons, List.sum_cons]; show 2 * 0 + (1 + _) + _ ≤ _; omega) hlocks
    exact ⟨U, h1, h2, h3, h4, h5, h6⟩
  obtain ⟨U, stU, h2, h3, h4, h5, ce, h6, h7⟩ := K _ rfl X1
  have hold : ∀ q : Nat, q < H.size → U.heap[q]? = H[q]? := by
    intro q hq1
    have hcell : (T.setFrames s.frames).heap[q]? = some H[q] := by show T.heap[q]? = _; rw [hT]; exact Array.getElem?_eq_getElem hq1
    rw [Array.getElem?_eq_getElem hq1]
    exact State.sameButNew.old_cell h5 hcell
  have hsz : H.size ≤ U.heap.size := by
    have := h5.2.1
    rw [← hT]; exact this
  have hWU : s.WarmedH U.vm := State.WarmedH.trans X.warmed h4
  refine ⟨U, st1 U stU, .threw T.heap.size, h2, h3, hq U T.heap.size ce hsz hold h6 ((X.warmed.alike.findClass cls _).symm.trans h7.cls) (by rw [h7.vm]; rfl) hWU, locs, ⟨hWU, ?_⟩, hf⟩
  have h8 : (T.setVm s.vm).sameButNew ({ U with vm := s.vm } : State) [] 1 6 := by
    obtain ⟨e1, e2, e3, e4, e5, e6⟩ := h5.setVm s.vm
    refine ⟨?_, e2, e3, e4, e5, e6⟩
    refine e1.trans ?_
    have hff : ∀ (V : State) (F G : List Frame) , ((V.setFrames F).setVm s.vm).setFrames G = (V.setVm s.vm).setFrames G := fun V F G => by
      have h1 : (V.setFrames F).setVm s.vm = (V.setVm s.vm).setFrames F := rfl
      rw [h1, State.setFrames_setFrames]
    rw [hff]
    rfl
  have h9 := X.same.trans h8
  rw [List.append_nil] at h9
  exact h9
end XF

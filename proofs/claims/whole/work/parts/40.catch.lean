/-! X: an exception that is caught in the walked method, its catch types' entries cold or warm. -/
section XG
theorem x_go1 {Q : Handler → Jvm.Pre} {E : Jvm.CtlPost} {e : Env} {d : Bool} {acts : List Action} {s : State} {f : JFrame} {a : Addr} {x : ExceptionTableEntry} {t : List ExceptionTableEntry} {c : ClassId} {cell : Cell} (hx : covers x f.pc = true) (h0 : x.catchType ≠ 0)
    (hl : s.vm.ClassLinks e.platform f.method.cls x.catchType c) (hcell : s.heap[a]? = some cell) (hobj : ∀ k, cell.vm ≠ .statics k)
    (hk : ∃ k, s.vm.classes[cell.cls]? = some k) (hc : ∃ k, s.vm.classes[c]? = some k) :
    Jvm.Sem.wp (findHandler.go f a (x :: t)) Q E e d acts s ↔ if s.vm.assignable cell.cls c = true then Q (.found x.handlerPc) d acts (s.setVm (s.vm.noted f.method.cls x.catchType (.cls c))) else Jvm.Sem.wp (findHandler.go f a t) Q E e d acts (s.setVm (s.vm.noted f.method.cls x.catchType (.cls c))) := by
  simp only [covers] at hx
  obtain ⟨ha, ht⟩ := (resolveClass_links e.toSetting hl).op (op := VmOp.resolveClass f.method.cls x.catchType) rfl
  have hal : s.vm.Alike (s.vm.noted f.method.cls x.catchType (.cls c)) := (Vm.Alike.refl s.vm).noted _ _ _
  obtain ⟨k1, hk1⟩ := hk
  obtain ⟨k2, hk2⟩ := hc
  obtain ⟨k1', hk1', -⟩ := hal.2.2 _ _ hk1
  obtain ⟨k2', hk2', -⟩ := hal.2.2 _ _ hk2
  cases hfit : s.vm.assignable cell.cls c with
  | true =>
    have hfit' : (s.vm.noted f.method.cls x.catchType (.cls c)).assignable cell.cls c = true := by rw [hal.assignable]; exact hfit
    simp [findHandler.go, hx, h0, ha, ht, hcell, hobj, hk1', hk2', hfit', VmOp.dirties, VmOp.acts]
  | false =>
    have hfit' : (s.vm.noted f.method.cls x.catchType (.cls c)).assignable cell.cls c = false := by rw [hal.assignable]; exact hfit
    simp [findHandler.go, hx, h0, ha, ht, hcell, hobj, hk1', hk2', hfit', VmOp.dirties, VmOp.acts]
theorem x_go {e : Env} {s S : State} {f : JFrame} {a : Addr} {cell : Cell} {args : Array Value} {own : String} (hpl : e.platform.magicAccessors = ({} : Platform).magicAccessors) (hown : s.vm.findClass own = some f.method.cls) (hcell : S.heap[a]? = some cell) (hobj : ∀ k, cell.vm ≠ .statics k)
    (x : ExceptionTableEntry) (rest : List ExceptionTableEntry) (hx : covers x f.pc = true) (h0 : x.catchType ≠ 0) {nme : String} {cT : ClassId} (hl : (Cond.classLink own x.catchType nme).before args s = true) (hfc : s.vm.findClass nme = some cT) (hasg : s.vm.assignable cell.cls cT = true) :
    ∀ (pre : List ExceptionTableEntry), (∀ y ∈ pre, covers y f.pc = true ∧ y.catchType ≠ 0 ∧ ∃ (n2 : String) (c2 : ClassId), (Cond.classLink own y.catchType n2).before args s = true ∧ s.vm.findClass n2 = some c2 ∧ s.vm.assignable cell.cls c2 = false) →
      ∀ vm0, s.WarmedH vm0 → ∃ vm', s.WarmedH vm' ∧ ∀ (Q : Handler → Jvm.Pre) (E : Jvm.CtlPost) (d : Bool) (acts : List Action), Jvm.Sem.wp (findHandler.go f a (pre ++ x :: rest)) Q E e d acts (S.setVm vm0) ↔ Q (.found x.handlerPc) d acts (S.setVm vm') := by
  obtain ⟨c', hc', hcl⟩ := Cond.classLink_spec hown hl e.platform hpl
  cases hfc.symm.trans hc'
  obtain ⟨dk, _, _, kt, hd, _, _, _, _, hkt, _, hopen⟩ := hcl.here
  obtain ⟨kx, hkx⟩ := Vm.classAt_of_assignable hasg ⟨kt, hkt⟩
  intro pre
  induction pre with
  | nil =>
    intro _ vm0 hW
    refine ⟨_, hW.noted hd hopen (State.rightAt_cls hcl), fun Q E d acts => ?_⟩
    obtain ⟨k1, hk1, -⟩ := hW.alike.2.2 _ _ hkx
    obtain ⟨k2, hk2, -⟩ := hW.alike.2.2 _ _ hkt
    rw [List.nil_append, x_go1 (s := S.setVm vm0) (c := cT) (cell := cell) hx h0 (hW.classLinks hcl) hcell hobj ⟨k1, hk1⟩ ⟨k2, hk2⟩, if_pos (show (S.setVm vm0).vm.assignable cell.cls cT = true from (hW.alike.assignable _ _).trans hasg)]
    rfl
  | cons y ys ih =>
    intro hp vm0 hW
    obtain ⟨y1, y2, n2, c2, y3, y4, y5⟩ := hp y List.mem_cons_self
    obtain ⟨c3, hc3, hcl3⟩ := Cond.classLink_spec hown y3 e.platform hpl
    cases y4.symm.trans hc3
    obtain ⟨dk3, _, _, kt3, hd3, _, _, _, _, hkt3, _, hopen3⟩ := hcl3.here
    obtain ⟨vm', g1, g2⟩ := ih (fun z hz => hp z (List.mem_cons_of_mem _ hz)) _ (hW.noted hd3 hopen3 (State.rightAt_cls hcl3))
    refine ⟨vm', g1, fun Q E d acts => ?_⟩
    obtain ⟨k1, hk1, -⟩ := hW.alike.2.2 _ _ hkx
    obtain ⟨k2, hk2, -⟩ := hW.alike.2.2 _ _ hkt3
    rw [List.cons_append, x_go1 (s := S.setVm vm0) (c := c2) (cell := cell) y1 y2 (hW.classLinks hcl3) hcell hobj ⟨k1, hk1⟩ ⟨k2, hk2⟩, if_neg (show ¬ (S.setVm vm0).vm.assignable cell.cls c2 = true from fun hh => by rw [show (S.setVm vm0).vm.assignable cell.cls c2 = false from (hW.alike.assignable _ _).trans y5] at hh; cases hh)]
    exact g2 Q E d acts
theorem x_step {e : Env} {s : State} {a : Addr} {f : JFrame} {r : List Frame} {pc : Nat} {vm' : Vm} (hfind : ∀ (Q : Handler → Jvm.Pre) (E : Jvm.CtlPost) (d : Bool) (acts : List Action), Jvm.Sem.wp (findHandler f a) Q E e d acts s ↔ Q (.found pc) d acts (s.setVm vm')) :
    (stepThrowing e s a (.java f :: r)).Is ((s.setVm vm').setFrames (.java { f with pc := pc, stack := [.ref a] } :: r)) [] := by
  simp only [stepThrowing, searchFrame, vmDo]
  generalize hr : Sem.go _ e false [] s = res
  obtain ⟨as, rfl, ha⟩ := Sem.eq_ok_of hr (a := Handler.found pc) (s' := s.setVm vm') (acts' := []) (by simp [hfind _ _ _ _])
  exact ⟨rfl, ha⟩
variable {p : Program} {l : Launch} {e : Env} {R : Room} {s : State} {m : MethodId} {args : Array Value} {below : List Frame} {meth : Method} {c : Code} {H : Heap} {locs : List Loc} {cells slots : Nat} {Q : State → Prop}
theorem WT.catch {pc : Nat} {ls : Array Slot} {st0 : List Value} {x : Addr} {ce : Cell} {own : String} (hown : s.vm.findClass own = some m.cls) (hcell : H[x]? = some ce) (hobj : ce.vm.isStatics = false)
    (pre : List ExceptionTableEntry) (e0 : ExceptionTableEntry) (rest : List ExceptionTableEntry) (hsplit : c.exceptionTable.toList = pre ++ e0 :: rest)
    (hpre : ∀ y ∈ pre, covers y pc = true ∧ y.catchType ≠ 0 ∧ ∃ (n2 : String) (c2 : ClassId), (Cond.classLink own y.catchType n2).before args s = true ∧ s.vm.findClass n2 = some c2 ∧ s.vm.assignable ce.cls c2 = false)
    (he : covers e0 pc = true) (h0 : e0.catchType ≠ 0) {nme : String} {cT : ClassId} (hl : (Cond.classLink own e0.catchType nme).before args s = true) (hfc : s.vm.findClass nme = some cT) (hasg : s.vm.assignable ce.cls cT = true)
    (kk : W p l e R s m args below meth c H locs cells slots Q (F0 m e0.handlerPc ls [.ref x])) : WT p l e R s m args below meth c H locs cells slots Q (F0 m pc ls st0) x := by
  intro T hT X
  have hpl : e.platform.magicAccessors = ({} : Platform).magicAccessors := by rw [X.admits.platform]
  obtain ⟨vm', g1, g2⟩ := x_go (e := e) (s := s) (S := (T.setTop (F0 m pc ls st0)).pushFrame (.throwing x)) (f := F0 m pc ls st0) (a := x) (cell := ce) (args := args) hpl hown (by rw [Stand.throwing_heap, hT]; exact hcell) (VmData.ne_statics_of hobj) e0 rest he h0 hl hfc hasg pre hpre T.vm X.warmed
  obtain ⟨t, a1, b1⟩ := kk (T.setVm vm') hT (X.noted g1)
  refine ⟨t, ?_, b1⟩
  have hAt : At T (F0 m pc ls st0).method c below := X.here
  obtain ⟨hgo, hw⟩ := hAt.throwing (g := F0 m pc ls st0) x
  refine Steps.head hgo hw ?_
  have hSS : ((T.setTop (F0 m pc ls st0)).pushFrame (.throwing x)).setVm T.vm = (T.setTop (F0 m pc ls st0)).pushFrame (.throwing x) := by
    have h1 := Stand.throwing_vm T (F0 m pc ls st0) x
    have h2 : ((T.setTop (F0 m pc ls st0)).pushFrame (.throwing x)).setVm ((T.setTop (F0 m pc ls st0)).pushFrame (.throwing x)).vm = (T.setTop (F0 m pc ls st0)).pushFrame (.throwing x) := rfl
    rw [h1] at h2
    exact h2
  rw [hSS] at g2
  have hm : ((T.setTop (F0 m pc ls st0)).pushFrame (.throwing x)).vm.method? (F0 m pc ls st0).method = some meth := by rw [Stand.throwing_vm]; exact X.method'
  rw [stepThread_throwing (frames_entered hAt.top _), (x_step (s := (T.setTop (F0 m pc ls st0)).pushFrame (.throwing x)) (fun Q E d acts => by rw [W.findHandler_eq hm X.code, hsplit]; exact g2 Q E d acts)).1]
  obtain ⟨g₀, hg⟩ := Option.isSome_iff_exists.mp hAt.top
  obtain ⟨r, hr⟩ := State.topJava?_eq_some.mp hg
  have hr' : (T.setVm vm').frames = .java g₀ :: r := hr
  have hvf : ∀ (V : State) (F G : List Frame), ((V.setFrames F).setVm vm').setFrames G = (V.setVm vm').setFrames G := fun V F G => by
    have h1 : (V.setFrames F).setVm vm' = (V.setVm vm').setFrames F := rfl
    rw [h1, State.setFrames_setFrames]
  rw [State.setTop_of_frames _ hr'] at a1
  rw [hr, List.tail_cons, State.pushFrame, hvf, State.setTop_of_frames _ hr, hvf]
  exact a1
end XG

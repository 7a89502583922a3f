/-! THE HOUSE'S WORLD: cell 0 the house, 1 to 10 its parts, 11 .. 33 their arrays. Numbers st.1: 0 today, 1 refusedBy, 2 .. 10 how many of kinds 1 .. 9. -/
def hW (ca : Nat → ClassId) (ad : Nat → Nat) (st : pu_St) : va_W := [(ad 0, .inr (0, [.ref (ad 1), .ref (ad 2), .ref (ad 3), .ref (ad 4), .ref (ad 5), .ref (ad 6), .ref (ad 7), .ref (ad 8), .ref (ad 9), .ref (ad 10), .int (st.1 0), .int (st.1 1)])),
  (ad 1, .inr (1, [.int 100, .int 6, .int (st.1 2), .ref (ad 11)])),
  (ad 2, .inr (2, [.int 200, .int 4, .int (st.1 3)])),
  (ad 3, .inr (3, [.int 300, .int 20, .int (st.1 4), .ref (ad 12), .ref (ad 13), .ref (ad 14), .ref (ad 15)])),
  (ad 4, .inr (4, [.int 400, .int 30, .int (st.1 5), .ref (ad 16), .ref (ad 17)])),
  (ad 5, .inr (5, [.int 500, .int 30, .int (st.1 6), .ref (ad 18), .ref (ad 19)])),
  (ad 6, .inr (6, [.ref (ad 20), .ref (ad 21), .ref (ad 22)])),
  (ad 7, .inr (7, [.int 600, .int 16, .int (st.1 7), .ref (ad 23)])),
  (ad 8, .inr (8, [.int 700, .int 40, .int (st.1 8), .ref (ad 24), .ref (ad 25), .ref (ad 26)])),
  (ad 9, .inr (9, [.int 800, .int 10, .int (st.1 9), .ref (ad 27), .ref (ad 28), .ref (ad 29), .ref (ad 30)])),
  (ad 10, .inr (10, [.int 900, .int 20, .int (st.1 10), .ref (ad 31), .ref (ad 32), .ref (ad 33)])),
  (ad 11, .inl (ca 0, 6, .inl (st.2 0))),
  (ad 12, .inl (ca 1, 20, .inl (st.2 1))),
  (ad 13, .inl (ca 2, 20, .inl (st.2 2))),
  (ad 14, .inl (ca 3, 20, .inl (st.2 3))),
  (ad 15, .inl (ca 4, 20, .inl (st.2 4))),
  (ad 16, .inl (ca 5, 30, .inl (st.2 5))),
  (ad 17, .inl (ca 6, 30, .inl (st.2 6))),
  (ad 18, .inl (ca 7, 30, .inl (st.2 7))),
  (ad 19, .inl (ca 8, 30, .inl (st.2 8))),
  (ad 20, .inl (ca 9, 360, .inl (st.2 9))),
  (ad 21, .inl (ca 10, 360, .inl (st.2 10))),
  (ad 22, .inl (ca 11, 30, .inl (st.2 11))),
  (ad 23, .inl (ca 12, 16, .inl (st.2 12))),
  (ad 24, .inl (ca 13, 40, .inl (st.2 13))),
  (ad 25, .inl (ca 14, 40, .inl (st.2 14))),
  (ad 26, .inl (ca 15, 40, .inl (st.2 15))),
  (ad 27, .inl (ca 16, 10, .inl (st.2 16))),
  (ad 28, .inl (ca 17, 10, .inl (st.2 17))),
  (ad 29, .inl (ca 18, 10, .inl (st.2 18))),
  (ad 30, .inl (ca 19, 10, .inl (st.2 19))),
  (ad 31, .inl (ca 20, 20, .inl (st.2 20))),
  (ad 32, .inl (ca 21, 20, .inl (st.2 21))),
  (ad 33, .inl (ca 22, 20, .inl (st.2 22)))]
def hT (ca : Nat → ClassId) : List (ClassId × FieldType) := [(ca 0, .int), (ca 1, .int), (ca 2, .int), (ca 3, .int), (ca 4, .int), (ca 5, .int), (ca 6, .int), (ca 7, .int), (ca 8, .int), (ca 9, .int), (ca 10, .int), (ca 11, .int), (ca 12, .int), (ca 13, .int), (ca 14, .int), (ca 15, .int), (ca 16, .int), (ca 17, .int), (ca 18, .int), (ca 19, .int), (ca 20, .int), (ca 21, .int), (ca 22, .boolean)]
/-- the house's cells, and what is new -/
def hA (ad : Nat → Nat) (sz : Nat) : Nat → Prop := fun q => (∃ k, k < 34 ∧ q = ad k) ∨ sz ≤ q
def hI (ad : Nat → Nat) : Prop := ∀ i j, i < 34 → j < 34 → ad i = ad j → i = j
theorem hW_fst (ca : Nat → ClassId) (ad : Nat → Nat) (st : pu_St) : (hW ca ad st).map (fun q => q.1) = (List.range 34).map ad := rfl
theorem hW_ix {ca : Nat → ClassId} {ad : Nat → Nat} {st : pu_St} {i : Nat} {q : Nat × va_E} (h : (hW ca ad st)[i]? = some q) : i < 34 ∧ q.1 = ad i := by
  have h1 : ((hW ca ad st).map (fun q => q.1))[i]? = some q.1 := by rw [List.getElem?_map, h]; rfl
  rw [hW_fst, List.getElem?_map] at h1
  cases h2 : (List.range 34)[i]? with
  | none => rw [h2] at h1; cases h1
  | some k =>
    rw [h2] at h1
    obtain ⟨h3, h4⟩ := List.getElem?_eq_some_iff.mp h2
    rw [List.getElem_range] at h4
    rw [List.length_range] at h3
    subst h4
    exact ⟨h3, (Option.some.inj h1).symm⟩
theorem hW_D {ca : Nat → ClassId} {ad : Nat → Nat} {st : pu_St} {A : Nat → Prop} (hi : hI ad) (hA0 : ∀ k, k < 34 → A (ad k)) : va_D A (hW ca ad st) := by
  refine ⟨fun i j p q hp hq e => ?_, fun k q hq => ?_⟩
  · obtain ⟨a1, a2⟩ := hW_ix hp
    obtain ⟨b1, b2⟩ := hW_ix hq
    exact hi i j a1 b1 (by rw [← a2, ← b2]; exact e)
  · obtain ⟨a1, a2⟩ := hW_ix hq
    rw [a2]; exact hA0 k a1
abbrev nestLo : Cond := .methodLinkNest "MuseumHouse$Loans" 32 ⟨"MuseumHouse", "daysMeet", "(IIII)Z"⟩ "MuseumHouse"
abbrev nestSh : Cond := .methodLinkNest "MuseumHouse$Shows" 39 ⟨"MuseumHouse", "daysMeet", "(IIII)Z"⟩ "MuseumHouse"
/-- a method of the house's, at its start -/
def hPc (D : va_G) (ca : Nat → ClassId) (ad : Nat → Nat) (st : pu_St) (sz : Nat) (U : State) : Prop :=
  U.heap.size = sz ∧ va_P D hcl (hW ca ad st) U.heap ∧ va_K D hcl (hT ca) U ∧ hI ad ∧ xTh (hA ad sz) U U.heap ∧ va_Nw nestLo U ∧ va_Nw nestSh U
/-- what a walk of the house's knows all along -/
def hX (D : va_G) (ca : Nat → ClassId) (ad : Nat → Nat) (A : Nat → Prop) (s : State) : Prop :=
  va_K D hcl (hT ca) s ∧ hI ad ∧ (∀ k, k < 34 → A (ad k)) ∧ (∀ q, s.heap.size ≤ q → A q) ∧ xTh A s s.heap ∧ va_Nw nestLo s ∧ va_Nw nestSh s
theorem hX.of {D : va_G} {ca : Nat → ClassId} {ad : Nat → Nat} {st : pu_St} {sz : Nat} {s : State} (h : hPc D ca ad st sz s) : hX D ca ad (hA ad s.heap.size) s ∧ va_P D hcl (hW ca ad st) s.heap ∧ s.heap.size = sz := by
  obtain ⟨h1, h2, h3, h4, h5, h6, h7⟩ := h
  subst h1
  exact ⟨⟨h3, h4, fun k hk => Or.inl ⟨k, hk, rfl⟩, fun q h => Or.inr h, h5, h6, h7⟩, h2, rfl⟩
theorem hX.D {D : va_G} {ca : Nat → ClassId} {ad : Nat → Nat} {st : pu_St} {A : Nat → Prop} {s : State} (h : hX D ca ad A s) : va_D A (hW ca ad st) := hW_D h.2.1 h.2.2.1
theorem hX.sub {D : va_G} {ca : Nat → ClassId} {ad : Nat → Nat} {A : Nat → Prop} {s : State} (h : hX D ca ad A s) {H : Heap} {locs : List Loc} (hS : va_S A s.heap H locs) : ∀ q, hA ad H.size q → A q := by
  intro q hq
  rcases hq with ⟨k, hk, rfl⟩ | hq
  · exact h.2.2.1 k hk
  · exact h.2.2.2.1 q (Nat.le_trans hS.1 hq)
theorem hX.pre {D : va_G} {ca : Nat → ClassId} {ad : Nat → Nat} {st : pu_St} {A : Nat → Prop} {s : State} {H : Heap} {locs : List Loc} (h : hX D ca ad A s) (hP : va_P D hcl (hW ca ad st) H) (hS : va_S A s.heap H locs) (U : State) (hU : U.heap = H) (hw : s.WarmedH U.vm) : hPc D ca ad st H.size U := by
  obtain ⟨h1, h2, h3, h4, h5, h6, h7⟩ := id h
  refine ⟨by rw [hU], by rw [hU]; exact hP, va_K.moved hw.alike h1, h2, ?_, va_Nw.warmM hw h6, va_Nw.warmM hw h7⟩
  rw [hU]
  exact ((h5.kept hS.2.1).moved hw.alike).narrow (h.sub hS)
theorem hPc_blind {D : va_G} {ca : Nat → ClassId} {ad : Nat → Nat} {st : pu_St} {sz : Nat} {av : List Value} : FrameBlind (va_Pc av (hPc D ca ad st sz)) := by
  intro a U g mk hq
  obtain ⟨q0, h1, h2, h3, h4, h5, h6, h7⟩ := hq
  exact ⟨q0, h1, h2, va_K.moved (u := U) (U := U.calling g mk a) (Vm.Alike.refl U.vm) h3, h4, xTh.moved (u := U) (U := U.calling g mk a) (Vm.Alike.refl U.vm) h5, va_Nw.same (u := U) (U := U.calling g mk a) rfl rfl h6, va_Nw.same (u := U) (U := U.calling g mk a) rfl rfl h7⟩
/-- a call of a method of the house's: what it asks of the heap -/
theorem hX.preV {D : va_G} {ca : Nat → ClassId} {ad : Nat → Nat} {st : pu_St} {A : Nat → Prop} {s : State} {H : Heap} {locs : List Loc} (h : hX D ca ad A s) (hP : va_P D hcl (hW ca ad st) H) (hS : va_S A s.heap H locs) {ci N : Nat} {C : String} {T : u_T} {fs : List Value} (q0 : Nat) {b : Nat} (hq : (hW ca ad st)[q0]? = some (b, .inr (ci, fs))) (hc : hcl[ci]? = some (C, T, N)) {As : List Value} :
    PreV s H C b (va_Pc (.ref b :: As) (hPc D ca ad st H.size)) As :=
  ⟨hPc_blind, va_recv h.1 hP (ci := ci) (q0 := q0) hc hq, fun U hU hw => ⟨rfl, h.pre hP hS U hU hw⟩⟩
theorem hX.preS {D : va_G} {ca : Nat → ClassId} {ad : Nat → Nat} {st : pu_St} {A : Nat → Prop} {s : State} {H : Heap} {locs : List Loc} (h : hX D ca ad A s) (hP : va_P D hcl (hW ca ad st) H) (hS : va_S A s.heap H locs) {As : List Value} :
    PreS s H (va_Pc As (hPc D ca ad st H.size)) As :=
  ⟨hPc_blind, fun U hU hw => ⟨rfl, h.pre hP hS U hU hw⟩⟩
/-- the machine's side of a walk: code, tables -/
def hC (p : Program) (s : State) (m : MethodId) (meth : Method) (c : Code) (args : Array Value) (bytes : ByteArray) (maxL : Nat) (ret : Option FieldType) (own : String) : Prop :=
  p.tables.exec = Jvm.exec ∧ c.code = bytes ∧ c.maxLocals = maxL ∧ meth.sig.returnType = ret ∧ meth.locks = false ∧ c.exceptionTable.isEmpty = true ∧ s.vm.findClass own = some m.cls ∧ ∀ w ∈ tG, w.before args s = true
/-- a method that only reads -/
theorem hRead {l : Launch} {y : MethodName} {bytes : ByteArray} {maxL : Nat} {ret : Option FieldType} {rm : Room} {D : va_G} {ca : Nat → ClassId} {ad : Nat → Nat} {st : pu_St} {sz : Nat} {av : List Value} {r : Int32} (hy : plainName y.cls = true)
    (body : ∀ p e s m below meth c, hC p s m meth c av.toArray bytes maxL ret y.cls → hX D ca ad (hA ad s.heap.size) s → va_P D hcl (hW ca ad st) s.heap → W p l e rm s m av.toArray below meth c s.heap [] 0 0 (MQ below (QcRead r) av.toArray s 0 0 (fun _ => False)) (entryFrame m av.toArray maxL)) :
    Met l y (.code y bytes maxL ret :: tG) rm (va_Pc av (hPc D ca ad st sz)) (QcRead r) 0 0 (fun _ => False) := by
  refine Met.ofW (cc := bytes) (maxL := maxL) (ret := ret) hy rfl ?_
  intro p e s m args below meth c s₁ B hml hv
  obtain ⟨rfl, hv⟩ := hv
  obtain ⟨G, hP, -⟩ := hX.of hv
  have hts := atoms_spec (ws := .code y bytes maxL ret :: tG) B.pre
  exact body p e s m below meth c ⟨B.exec, B.bytes, hml, B.returns, B.notSynchronized, B.noHandlers (hts _ List.mem_cons_self), findClass_of_methodNamed B.named, fun w hw => hts w (List.mem_cons_of_mem _ hw)⟩ G hP
/-- kinds of exceptions -/
def xE (k : Nat) : String := if k = 1 then "java/util/NoSuchElementException" else if k = 2 then "java/lang/IllegalStateException" else "java/lang/IllegalArgumentException"
/-- how a method ended -/
def hO (ov : Int32 → Option Value) (r : Int32 ⊕ Nat) (oc : Outcome) (t : State) : Prop := match r with
  | .inl v => oc = .returned (ov v)
  | .inr k => ∃ (x : Addr) (ce : Cell), oc = .threw x ∧ t.heap[x]? = some ce ∧ ce.vm.isStatics = false ∧ t.vm.findClass (xE k) = some ce.cls
def xc (r : Int32 ⊕ Nat) : Nat := match r with | .inl _ => 0 | .inr _ => 1
def xs (r : Int32 ⊕ Nat) : Nat := match r with | .inl _ => 0 | .inr _ => 6
def hQ (D : va_G) (ca : Nat → ClassId) (ad : Nat → Nat) (ov : Int32 → Option Value) (r : Int32 ⊕ Nat) (st : pu_St) (sz : Nat) : Array Value → State → Outcome → State → Prop := fun _ st0 oc t =>
  hO ov r oc t ∧ va_P D hcl (hW ca ad st) t.heap ∧ va_F (hA ad sz) st0 t
/-- a method that may write and throw -/
theorem hMet {l : Launch} {y : MethodName} {bytes : ByteArray} {maxL : Nat} {ret : Option FieldType} {rm : Room} {D : va_G} {ca : Nat → ClassId} {ad : Nat → Nat} {st st' : pu_St} {sz : Nat} {av : List Value} {ov : Int32 → Option Value} {r : Int32 ⊕ Nat} {mc ms : Nat} (hy : plainName y.cls = true)
    (body : ∀ p e s m below meth c, s.heap.size = sz → hC p s m meth c av.toArray bytes maxL ret y.cls → hX D ca ad (hA ad s.heap.size) s → va_P D hcl (hW ca ad st) s.heap → W p l e rm s m av.toArray below meth c s.heap [] 0 0 (MQX below (hQ D ca ad ov r st' s.heap.size) av.toArray s mc ms (hA ad s.heap.size)) (entryFrame m av.toArray maxL)) :
    MetX l y (.code y bytes maxL ret :: tG) rm (va_Pc av (hPc D ca ad st sz)) (hQ D ca ad ov r st' sz) mc ms (hA ad sz) := by
  refine MetX.ofW (cc := bytes) (maxL := maxL) (ret := ret) hy rfl ?_
  intro p e s m args below meth c s₁ B hml hno hv
  obtain ⟨rfl, hv⟩ := hv
  obtain ⟨G, hP, hz⟩ := hX.of hv
  have hts := atoms_spec (ws := .code y bytes maxL ret :: tG) B.pre
  have h := body p e s m below meth c hz ⟨B.exec, B.bytes, hml, B.returns, B.notSynchronized, hno, findClass_of_methodNamed B.named, fun w hw => hts w (List.mem_cons_of_mem _ hw)⟩ G hP
  rw [hz] at h
  exact h
/-- the words of a call -/
theorem xCW {R : Room} {s : State} {args : Array Value} {own C : String} {index maxL : Nat} {y : MethodName} {bytes : ByteArray} {ret : Option FieldType} {rm : Room} (n : Nat) (hts : ∀ w ∈ tG, w.before args s = true) (hc : (.code y bytes maxL ret : Cond) ∈ tG) (hini : (.initialized y.cls : Cond) ∈ tG) (hl : (.methodLink own index y : Cond) ∈ tG) (hin : (.instanceMethod y : Cond) ∈ tG) (hsel : (.selects C y y : Cond) ∈ tG)
    (hd : y.cls ≠ "java/lang/invoke/MethodHandle" ∧ y.cls ≠ "java/lang/invoke/VarHandle" ∧ (parseMethodDescriptor y.desc).map (fun d => d.parameters.length) = some n) (hR : rm.frames + 1 ≤ R.frames ∧ 8 + (maxL + 11) + rm.locals ≤ R.locals) :
    CallW R s args own C index y bytes maxL ret (.code y bytes maxL ret :: tG) rm rm.cells rm.slots n := by
  have hG : GoodIn tG (.code y bytes maxL ret :: tG) := fun w hw => by
    have hw' : w ∈ tG := (List.mem_cons.mp hw).elim (fun e => by rw [e]; exact hc) (fun h => h)
    exact ⟨hw', good_of_word (List.mem_filter.mp hw').2⟩
  exact ⟨callB_of n hts hG rfl rfl rfl (hts _ hini) (hts _ hl) hd hR, hts _ hin, hts _ hsel⟩
theorem xCS {R : Room} {s : State} {args : Array Value} {own : String} {index maxL : Nat} {y : MethodName} {bytes : ByteArray} {ret : Option FieldType} {rm : Room} (n : Nat) (hts : ∀ w ∈ tG, w.before args s = true) (hc : (.code y bytes maxL ret : Cond) ∈ tG) (hini : (.initialized y.cls : Cond) ∈ tG) (hl : (.methodLink own index y : Cond) ∈ tG) (hst : (.static y : Cond) ∈ tG)
    (hd : y.cls ≠ "java/lang/invoke/MethodHandle" ∧ y.cls ≠ "java/lang/invoke/VarHandle" ∧ (parseMethodDescriptor y.desc).map (fun d => d.parameters.length) = some n) (hR : rm.frames + 1 ≤ R.frames ∧ 8 + (maxL + 11) + rm.locals ≤ R.locals) :
    CallB R s args own index y bytes maxL ret (.code y bytes maxL ret :: tG) rm rm.cells rm.slots n ∧ (Cond.static y).before args s = true := by
  have hG : GoodIn tG (.code y bytes maxL ret :: tG) := fun w hw => by
    have hw' : w ∈ tG := (List.mem_cons.mp hw).elim (fun e => by rw [e]; exact hc) (fun h => h)
    exact ⟨hw', good_of_word (List.mem_filter.mp hw').2⟩
  exact ⟨callB_of n hts hG rfl rfl rfl (hts _ hini) (hts _ hl) hd hR, hts _ hst⟩
/-- of an inherited method -/
theorem xCU {R : Room} {s : State} {args : Array Value} {own C owner : String} {index maxL : Nat} {x y : MethodName} {bytes : ByteArray} {ret : Option FieldType} {rm : Room} (n : Nat) (hts : ∀ w ∈ tG, w.before args s = true) (hc : (.code y bytes maxL ret : Cond) ∈ tG) (hini : (.initialized y.cls : Cond) ∈ tG) (hl : (.methodLink own index x : Cond) ∈ tG) (hsm : (.sameMethod x.cls owner x.name x.desc : Cond) ∈ tG) (hin : (.instanceMethod y : Cond) ∈ tG) (hsel : (.selects C x y : Cond) ∈ tG)
    (hyx : y = ⟨owner, x.name, x.desc⟩) (hd : owner ≠ "java/lang/invoke/MethodHandle" ∧ owner ≠ "java/lang/invoke/VarHandle" ∧ (parseMethodDescriptor x.desc).map (fun d => d.parameters.length) = some n) (hR : rm.frames + 1 ≤ R.frames ∧ 8 + (maxL + 11) + rm.locals ≤ R.locals) :
    va_CU R s args own C owner index x y bytes maxL ret (.code y bytes maxL ret :: tG) rm rm.cells rm.slots n := by
  have hg : ∀ w, w ∈ tG → w ∈ tG ∧ ((w.onTables && w.keeps) = true ∨ ∃ ty, w = .arrayClass ty) := fun w hw => ⟨hw, good_of_word (List.mem_filter.mp hw).2⟩
  refine va_cwU (Ts := tG) n hts ?_ rfl rfl rfl hyx hd hR
  intro w hw
  simp only [va_wsU, List.cons_append, List.nil_append, List.mem_cons] at hw
  rcases hw with rfl | rfl | rfl | rfl | rfl | rfl | hw
  · exact hg _ hl
  · exact hg _ hsm
  · exact hg _ hsel
  · exact hg _ hin
  · exact hg _ hini
  · exact hg _ hc
  · exact hg _ hw

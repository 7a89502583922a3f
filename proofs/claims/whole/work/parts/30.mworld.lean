/-! THE REFERENCE'S WORLD: cell 0 the model, 1 .. its arrays. Numbers st.1: 0 thrown, 1 rule, 2 today. -/
def mW (ca : Nat → ClassId) (ad : Nat → Nat) (st : pu_St) : va_W := [(ad 0, .inr (11, [.int (st.1 0), .int (st.1 1), .int (st.1 2), .ref (ad 1), .ref (ad 2), .ref (ad 3), .ref (ad 4), .ref (ad 5), .ref (ad 6), .ref (ad 7), .ref (ad 8), .ref (ad 9), .ref (ad 10), .ref (ad 11), .ref (ad 12), .ref (ad 13), .ref (ad 14), .ref (ad 15), .ref (ad 16), .ref (ad 17), .ref (ad 18), .ref (ad 19), .ref (ad 20), .ref (ad 21), .ref (ad 22), .ref (ad 23), .ref (ad 24)])),
  (ad 1, .inl (ca 0, 10, .inl (st.2 0))),
  (ad 2, .inl (ca 1, 6, .inl (st.2 1))),
  (ad 3, .inl (ca 2, 20, .inl (st.2 2))),
  (ad 4, .inl (ca 3, 20, .inl (st.2 3))),
  (ad 5, .inl (ca 4, 20, .inl (st.2 4))),
  (ad 6, .inl (ca 5, 400, .inl (st.2 5))),
  (ad 7, .inl (ca 6, 400, .inl (st.2 6))),
  (ad 8, .inl (ca 7, 30, .inl (st.2 7))),
  (ad 9, .inl (ca 8, 30, .inl (st.2 8))),
  (ad 10, .inl (ca 9, 30, .inl (st.2 9))),
  (ad 11, .inl (ca 10, 16, .inl (st.2 10))),
  (ad 12, .inl (ca 11, 30, .inl (st.2 11))),
  (ad 13, .inl (ca 12, 360, .inl (st.2 12))),
  (ad 14, .inl (ca 13, 360, .inl (st.2 13))),
  (ad 15, .inl (ca 14, 40, .inl (st.2 14))),
  (ad 16, .inl (ca 15, 40, .inl (st.2 15))),
  (ad 17, .inl (ca 16, 40, .inl (st.2 16))),
  (ad 18, .inl (ca 17, 10, .inl (st.2 17))),
  (ad 19, .inl (ca 18, 10, .inl (st.2 18))),
  (ad 20, .inl (ca 19, 10, .inl (st.2 19))),
  (ad 21, .inl (ca 20, 300, .inl (st.2 20))),
  (ad 22, .inl (ca 21, 20, .inl (st.2 21))),
  (ad 23, .inl (ca 22, 20, .inl (st.2 22))),
  (ad 24, .inl (ca 23, 20, .inl (st.2 23)))]
def mT (ca : Nat → ClassId) : List (ClassId × FieldType) := [(ca 0, .int), (ca 1, .int), (ca 2, .int), (ca 3, .int), (ca 4, .int), (ca 5, .boolean), (ca 6, .boolean), (ca 7, .int), (ca 8, .int), (ca 9, .int), (ca 10, .int), (ca 11, .int), (ca 12, .int), (ca 13, .int), (ca 14, .int), (ca 15, .int), (ca 16, .int), (ca 17, .int), (ca 18, .int), (ca 19, .int), (ca 20, .boolean), (ca 21, .int), (ca 22, .int), (ca 23, .boolean)]
/-- the reference's cells, and what is new -/
def mA (ad : Nat → Nat) (sz : Nat) : Nat → Prop := fun q => (∃ k, k < 25 ∧ q = ad k) ∨ sz ≤ q
def mI (ad : Nat → Nat) : Prop := ∀ i j, i < 25 → j < 25 → ad i = ad j → i = j
theorem mW_fst (ca : Nat → ClassId) (ad : Nat → Nat) (st : pu_St) : (mW ca ad st).map (fun q => q.1) = (List.range 25).map ad := rfl
theorem mW_ix {ca : Nat → ClassId} {ad : Nat → Nat} {st : pu_St} {i : Nat} {q : Nat × va_E} (h : (mW ca ad st)[i]? = some q) : i < 25 ∧ q.1 = ad i := by
  have h1 : ((mW ca ad st).map (fun q => q.1))[i]? = some q.1 := by rw [List.getElem?_map, h]; rfl
  rw [mW_fst, List.getElem?_map] at h1
  cases h2 : (List.range 25)[i]? with
  | none => rw [h2] at h1; cases h1
  | some k =>
    rw [h2] at h1
    obtain ⟨h3, h4⟩ := List.getElem?_eq_some_iff.mp h2
    rw [List.getElem_range] at h4
    rw [List.length_range] at h3
    subst h4
    exact ⟨h3, (Option.some.inj h1).symm⟩
theorem mW_D {ca : Nat → ClassId} {ad : Nat → Nat} {st : pu_St} {A : Nat → Prop} (hi : mI ad) (hA0 : ∀ k, k < 25 → A (ad k)) : va_D A (mW ca ad st) := by
  refine ⟨fun i j p q hp hq e => ?_, fun k q hq => ?_⟩
  · obtain ⟨a1, a2⟩ := mW_ix hp
    obtain ⟨b1, b2⟩ := mW_ix hq
    exact hi i j a1 b1 (by rw [← a2, ← b2]; exact e)
  · obtain ⟨a1, a2⟩ := mW_ix hq
    rw [a2]; exact hA0 k a1
/-- a method of the reference's, at its start -/
def mPc (D : va_G) (ca : Nat → ClassId) (ad : Nat → Nat) (st : pu_St) (sz : Nat) (U : State) : Prop :=
  U.heap.size = sz ∧ va_P D hcl (mW ca ad st) U.heap ∧ va_K D hcl (mT ca) U ∧ mI ad
/-- what a walk of the reference's knows all along -/
def mX (D : va_G) (ca : Nat → ClassId) (ad : Nat → Nat) (A : Nat → Prop) (s : State) : Prop :=
  va_K D hcl (mT ca) s ∧ mI ad ∧ (∀ k, k < 25 → A (ad k)) ∧ (∀ q, s.heap.size ≤ q → A q)
theorem mX.of {D : va_G} {ca : Nat → ClassId} {ad : Nat → Nat} {st : pu_St} {sz : Nat} {s : State} (h : mPc D ca ad st sz s) : mX D ca ad (mA ad s.heap.size) s ∧ va_P D hcl (mW ca ad st) s.heap ∧ s.heap.size = sz := by
  obtain ⟨h1, h2, h3, h4⟩ := h
  subst h1
  exact ⟨⟨h3, h4, fun k hk => Or.inl ⟨k, hk, rfl⟩, fun q h => Or.inr h⟩, h2, rfl⟩
theorem mX.D {D : va_G} {ca : Nat → ClassId} {ad : Nat → Nat} {st : pu_St} {A : Nat → Prop} {s : State} (h : mX D ca ad A s) : va_D A (mW ca ad st) := mW_D h.2.1 h.2.2.1
theorem mX.sub {D : va_G} {ca : Nat → ClassId} {ad : Nat → Nat} {A : Nat → Prop} {s : State} (h : mX D ca ad A s) {H : Heap} {locs : List Loc} (hS : va_S A s.heap H locs) : ∀ q, mA ad H.size q → A q := by
  intro q hq
  rcases hq with ⟨k, hk, rfl⟩ | hq
  · exact h.2.2.1 k hk
  · exact h.2.2.2 q (Nat.le_trans hS.1 hq)
theorem mX.pre {D : va_G} {ca : Nat → ClassId} {ad : Nat → Nat} {st : pu_St} {A : Nat → Prop} {s : State} {H : Heap} {locs : List Loc} (h : mX D ca ad A s) (hP : va_P D hcl (mW ca ad st) H) (hS : va_S A s.heap H locs) (U : State) (hU : U.heap = H) (hw : s.WarmedH U.vm) : mPc D ca ad st H.size U := by
  exact ⟨by rw [hU], by rw [hU]; exact hP, va_K.moved hw.alike h.1, h.2.1⟩
theorem mPc_blind {D : va_G} {ca : Nat → ClassId} {ad : Nat → Nat} {st : pu_St} {sz : Nat} {av : List Value} : FrameBlind (va_Pc av (mPc D ca ad st sz)) := by
  intro a U g mk hq
  obtain ⟨q0, h1, h2, h3, h4⟩ := hq
  exact ⟨q0, h1, h2, va_K.moved (u := U) (U := U.calling g mk a) (Vm.Alike.refl U.vm) h3, h4⟩
/-- a call of a method of the reference's: what it asks of the heap -/
theorem mX.preV {D : va_G} {ca : Nat → ClassId} {ad : Nat → Nat} {st : pu_St} {A : Nat → Prop} {s : State} {H : Heap} {locs : List Loc} (h : mX D ca ad A s) (hP : va_P D hcl (mW ca ad st) H) (hS : va_S A s.heap H locs) {ci N : Nat} {C : String} {T : u_T} {fs : List Value} (q0 : Nat) {b : Nat} (hq : (mW ca ad st)[q0]? = some (b, .inr (ci, fs))) (hc : hcl[ci]? = some (C, T, N)) {As : List Value} :
    PreV s H C b (va_Pc (.ref b :: As) (mPc D ca ad st H.size)) As :=
  ⟨mPc_blind, va_recv h.1 hP (ci := ci) (q0 := q0) hc hq, fun U hU hw => ⟨rfl, h.pre hP hS U hU hw⟩⟩
theorem mX.preS {D : va_G} {ca : Nat → ClassId} {ad : Nat → Nat} {st : pu_St} {A : Nat → Prop} {s : State} {H : Heap} {locs : List Loc} (h : mX D ca ad A s) (hP : va_P D hcl (mW ca ad st) H) (hS : va_S A s.heap H locs) {As : List Value} :
    PreS s H (va_Pc As (mPc D ca ad st H.size)) As :=
  ⟨mPc_blind, fun U hU hw => ⟨rfl, h.pre hP hS U hU hw⟩⟩
/-- a method that only reads -/
theorem mRead {l : Launch} {y : MethodName} {bytes : ByteArray} {maxL : Nat} {ret : Option FieldType} {rm : Room} {D : va_G} {ca : Nat → ClassId} {ad : Nat → Nat} {st : pu_St} {sz : Nat} {av : List Value} {r : Int32} (hy : plainName y.cls = true)
    (body : ∀ p e s m below meth c, hC p s m meth c av.toArray bytes maxL ret y.cls → mX D ca ad (mA ad s.heap.size) s → va_P D hcl (mW ca ad st) s.heap → W p l e rm s m av.toArray below meth c s.heap [] 0 0 (MQ below (QcRead r) av.toArray s 0 0 (fun _ => False)) (entryFrame m av.toArray maxL)) :
    Met l y (.code y bytes maxL ret :: tG) rm (va_Pc av (mPc D ca ad st sz)) (QcRead r) 0 0 (fun _ => False) := by
  refine Met.ofW (cc := bytes) (maxL := maxL) (ret := ret) hy rfl ?_
  intro p e s m args below meth c s₁ B hml hv
  obtain ⟨rfl, hv⟩ := hv
  obtain ⟨G, hP, -⟩ := mX.of hv
  have hts := atoms_spec (ws := .code y bytes maxL ret :: tG) B.pre
  exact body p e s m below meth c ⟨B.exec, B.bytes, hml, B.returns, B.notSynchronized, B.noHandlers (hts _ List.mem_cons_self), findClass_of_methodNamed B.named, fun w hw => hts w (List.mem_cons_of_mem _ hw)⟩ G hP
def mQ (D : va_G) (ca : Nat → ClassId) (ad : Nat → Nat) (ov : Int32 → Option Value) (r : Int32 ⊕ Nat) (st : pu_St) (sz : Nat) : Array Value → State → Outcome → State → Prop := fun _ st0 oc t =>
  hO ov r oc t ∧ va_P D hcl (mW ca ad st) t.heap ∧ va_F (mA ad sz) st0 t
/-- a method that may write and throw -/
theorem mMet {l : Launch} {y : MethodName} {bytes : ByteArray} {maxL : Nat} {ret : Option FieldType} {rm : Room} {D : va_G} {ca : Nat → ClassId} {ad : Nat → Nat} {st st' : pu_St} {sz : Nat} {av : List Value} {ov : Int32 → Option Value} {r : Int32 ⊕ Nat} {mc ms : Nat} (hy : plainName y.cls = true)
    (body : ∀ p e s m below meth c, s.heap.size = sz → hC p s m meth c av.toArray bytes maxL ret y.cls → mX D ca ad (mA ad s.heap.size) s → va_P D hcl (mW ca ad st) s.heap → W p l e rm s m av.toArray below meth c s.heap [] 0 0 (MQX below (mQ D ca ad ov r st' s.heap.size) av.toArray s mc ms (mA ad s.heap.size)) (entryFrame m av.toArray maxL)) :
    MetX l y (.code y bytes maxL ret :: tG) rm (va_Pc av (mPc D ca ad st sz)) (mQ D ca ad ov r st' sz) mc ms (mA ad sz) := by
  refine MetX.ofW (cc := bytes) (maxL := maxL) (ret := ret) hy rfl ?_
  intro p e s m args below meth c s₁ B hml hno hv
  obtain ⟨rfl, hv⟩ := hv
  obtain ⟨G, hP, hz⟩ := mX.of hv
  have hts := atoms_spec (ws := .code y bytes maxL ret :: tG) B.pre
  have h := body p e s m below meth c hz ⟨B.exec, B.bytes, hml, B.returns, B.notSynchronized, hno, findClass_of_methodNamed B.named, fun w hw => hts w (List.mem_cons_of_mem _ hw)⟩ G hP
  rw [hz] at h
  exact h
section RB
variable {p : Program} {l : Launch} {e : Env} {R : Room} {s : State} {m : MethodId} {args : Array Value} {below : List Frame} {meth : Method} {c : Code} {H : Heap} {locs : List Loc} {cells slots : Nat} {Q : State → Prop}
variable {cc : ByteArray} {pc : Nat} {ls : Array Slot} {rest st0 : List Value} {D : va_G} {ca : Nat → ClassId} {ad : Nat → Nat} {A : Nat → Prop} {st st' : pu_St}
theorem mCallI {v : Int32} {aa : Array Value} (G : mX D ca ad A s) (hS : va_S A s.heap H locs) (hr : va_Run p l e R s m args below meth c H locs cells slots 0 0 (F0 m pc ls st0) rest (mQ D ca ad (fun v => some (.int v)) (.inl v) st' H.size aa) (mA ad H.size))
    (kk : ∀ (H1 : Heap) (locs1 : List Loc), va_P D hcl (mW ca ad st') H1 → va_S A s.heap H1 locs1 → W p l e R s m args below meth c H1 locs1 cells slots Q (F0 m (pc + 3) ls (.int v :: rest))) : W p l e R s m args below meth c H locs cells slots Q (F0 m pc ls st0) := by
  intro T mT X
  obtain ⟨v', st₀, t, T', L, h0, X', hL, e1, e2, ⟨hv, hP1, hF⟩, st⟩ := hr T mT X
  have hv : Outcome.returned v' = .returned (some (.int v)) := hv
  cases hv
  obtain ⟨hz, hk⟩ := hF
  rw [h0] at hz hk
  rw [← e1] at hP1 hz
  obtain ⟨t2, a1, b1⟩ := kk T'.heap (locs ++ L) hP1 ⟨Nat.le_trans hS.1 hz, fun q h1 h2 => by
      rw [e1, hk q (Nat.lt_of_lt_of_le h1 hS.1) (fun z => h2 (G.sub hS q z))]; exact hS.2.1 q h1 h2, fun q hq => by
      rcases List.mem_append.mp hq with h | h
      · exact hS.2.2 q h
      · exact G.sub hS _ (hL q h)⟩ T' rfl X'
  exact ⟨t2, st t2 a1, b1⟩
theorem mCallU {v : Int32} {aa : Array Value} (G : mX D ca ad A s) (hS : va_S A s.heap H locs) (hr : va_Run p l e R s m args below meth c H locs cells slots 0 0 (F0 m pc ls st0) rest (mQ D ca ad (fun _ => none) (.inl v) st' H.size aa) (mA ad H.size))
    (kk : ∀ (H1 : Heap) (locs1 : List Loc), va_P D hcl (mW ca ad st') H1 → va_S A s.heap H1 locs1 → W p l e R s m args below meth c H1 locs1 cells slots Q (F0 m (pc + 3) ls rest)) : W p l e R s m args below meth c H locs cells slots Q (F0 m pc ls st0) := by
  intro T mT X
  obtain ⟨v', st₀, t, T', L, h0, X', hL, e1, e2, ⟨hv, hP1, hF⟩, st⟩ := hr T mT X
  have hv : Outcome.returned v' = .returned none := hv
  cases hv
  obtain ⟨hz, hk⟩ := hF
  rw [h0] at hz hk
  rw [← e1] at hP1 hz
  obtain ⟨t2, a1, b1⟩ := kk T'.heap (locs ++ L) hP1 ⟨Nat.le_trans hS.1 hz, fun q h1 h2 => by
      rw [e1, hk q (Nat.lt_of_lt_of_le h1 hS.1) (fun z => h2 (G.sub hS q z))]; exact hS.2.1 q h1 h2, fun q hq => by
      rcases List.mem_append.mp hq with h | h
      · exact hS.2.2 q h
      · exact G.sub hS _ (hL q h)⟩ T' rfl X'
  exact ⟨t2, st t2 a1, b1⟩
end RB

/-! THE LAW'S WRAPPERS: the house, and the array of one long that takes the answer. -/
def wA (ad : Nat → Nat) (o sz : Nat) : Nat → Prop := fun q => hA ad sz q ∨ q = o
abbrev wO (co : ClassId) (o : Nat) (f : Nat → Int64) : va_W := [(o, .inl (co, 1, .inr (.inl f)))]
/-- what of the exceptions' classes the handlers ask -/
def xNc (U : State) : Prop := va_Nc (xE 2) (xE 1) U ∧ va_Nc (xE 3) (xE 1) U ∧ va_Nc (xE 3) (xE 2) U ∧ va_Nw (.castable (xE 1) (xE 1)) U ∧ va_Nw (.castable (xE 2) (xE 2)) U ∧ va_Nw (.castable (xE 3) (xE 3)) U
theorem xNc.warm {s U : State} (hw : s.WarmedH U.vm) (h : xNc s) : xNc U := by
  obtain ⟨h1, h2, h3, h4, h5, h6⟩ := h
  exact ⟨h1.moved hw.alike, h2.moved hw.alike, h3.moved hw.alike, va_Nw.warmC hw h4, va_Nw.warmC hw h5, va_Nw.warmC hw h6⟩
theorem xNc.same {s U : State} (hw : s.vm = U.vm) (h : xNc s) : xNc U := by
  obtain ⟨h1, h2, h3, h4, h5, h6⟩ := h
  have ha : s.vm.Alike U.vm := by rw [hw]; exact Vm.Alike.refl _
  exact ⟨h1.moved ha, h2.moved ha, h3.moved ha, va_Nw.same rfl hw h4, va_Nw.same rfl hw h5, va_Nw.same rfl hw h6⟩
def wPc (D : va_G) (ca : Nat → ClassId) (co : ClassId) (ad : Nat → Nat) (o : Nat) (st : pu_St) (f : Nat → Int64) (sz : Nat) (U : State) : Prop :=
  hPc D ca ad st sz U ∧ va_P D hcl (wO co o f) U.heap ∧ va_K D hcl [(co, .long)] U ∧ (∀ k, k < 34 → ad k ≠ o) ∧ xTh (wA ad o sz) U U.heap ∧ xNc U
def wX (D : va_G) (ca : Nat → ClassId) (co : ClassId) (ad : Nat → Nat) (o : Nat) (s : State) : Prop :=
  hX D ca ad (wA ad o s.heap.size) s ∧ va_K D hcl [(co, .long)] s ∧ (∀ k, k < 34 → ad k ≠ o) ∧ xNc s
def wQ (D : va_G) (ca : Nat → ClassId) (co : ClassId) (ad : Nat → Nat) (o : Nat) (k : Int32) (st : pu_St) (f : Nat → Int64) (sz : Nat) : Array Value → State → Outcome → State → Prop := fun _ st0 oc t =>
  oc = .returned (some (.int k)) ∧ va_P D hcl (hW ca ad st) t.heap ∧ va_P D hcl (wO co o f) t.heap ∧ va_F (wA ad o sz) st0 t
/-- the wrapper's answer: 0, or the place of the exception's kind among those it catches -/
def wk (ks : List Nat) (r : Int32 ⊕ Nat) : Int32 := match r with
  | .inl _ => 0
  | .inr k => nI (ks.idxOf k + 1)
def wfI (f : Nat → Int64) (r : Int32 ⊕ Nat) : Nat → Int64 := match r with
  | .inl v => vp_updL f (0 : Int32).toNatClampNeg v.toInt64
  | .inr _ => f
def wfZ (f : Nat → Int64) (r : Int32 ⊕ Nat) : Nat → Int64 := match r with
  | .inl v => vp_updL f (0 : Int32).toNatClampNeg (if v = 0 then 0 else 1)
  | .inr _ => f
theorem va_P.left {D : va_G} {cl : List vw_C} {w1 w2 : va_W} {H : Heap} (h : va_P D cl (w1 ++ w2) H) : va_P D cl w1 H := fun k q hk => h k q (by
  have hl : k < w1.length := (List.getElem?_eq_some_iff.mp hk).1
  rw [List.getElem?_append_left hl]; exact hk)
theorem va_P.right {D : va_G} {cl : List vw_C} {w1 w2 : va_W} {H : Heap} (h : va_P D cl (w1 ++ w2) H) : va_P D cl w2 H := fun k q hk => h (w1.length + k) q (by
  rw [List.getElem?_append_right (Nat.le_add_right _ _), Nat.add_sub_cancel_left]; exact hk)
theorem wPc_blind {D : va_G} {ca : Nat → ClassId} {co : ClassId} {ad : Nat → Nat} {o : Nat} {st : pu_St} {f : Nat → Int64} {sz : Nat} {av : List Value} : FrameBlind (va_Pc av (wPc D ca co ad o st f sz)) := by
  intro a U g mk hq
  obtain ⟨q0, h1, h2, h3, h4, h5, h6⟩ := hq
  exact ⟨q0, (hPc_blind (av := av) a U g mk ⟨q0, h1⟩).2, h2, va_K.moved (u := U) (U := U.calling g mk a) (Vm.Alike.refl U.vm) h3, h4, xTh.moved (u := U) (U := U.calling g mk a) (Vm.Alike.refl U.vm) h5, xNc.same (s := U) (U := U.calling g mk a) rfl h6⟩
theorem wMet {l : Launch} {y : MethodName} {bytes : ByteArray} {maxL : Nat} {hh : List (Nat × Nat × Nat × Nat)} {rm : Room} {D : va_G} {ca : Nat → ClassId} {co : ClassId} {ad : Nat → Nat} {o : Nat} {st st' : pu_St} {f f' : Nat → Int64} {sz : Nat} {av : List Value} {k : Int32} {mc ms : Nat} (hy : plainName y.cls = true)
    (body : ∀ p e s m below meth c, p.tables.exec = Jvm.exec → c.code = bytes → c.maxLocals = maxL → meth.sig.returnType = some .int → meth.locks = false → s.vm.findClass y.cls = some m.cls → (∀ w ∈ tG, w.before av.toArray s = true) → c.exceptionTable.toList = tableOf hh → wX D ca co ad o s → va_P D hcl (hW ca ad st) s.heap → va_P D hcl (wO co o f) s.heap →
      W p l e rm s m av.toArray below meth c s.heap [] 0 0 (MQ below (wQ D ca co ad o k st' f' s.heap.size) av.toArray s mc ms (wA ad o s.heap.size)) (entryFrame m av.toArray maxL)) :
    Met l y (.codeWith y bytes maxL (some .int) hh :: tG) rm (va_Pc av (wPc D ca co ad o st f sz)) (wQ D ca co ad o k st' f' sz) mc ms (wA ad o sz) := by
  refine va_MetW (cc := bytes) (maxL := maxL) (ret := some .int) (hh := hh) hy rfl ?_
  intro p e s m args below meth c s₁ B hml hv
  obtain ⟨rfl, hv⟩ := hv
  obtain ⟨h1, h2, h3, h4, h5, h6⟩ := hv
  have hts := atoms_spec (ws := .codeWith y bytes maxL (some .int) hh :: tG) B.pre
  obtain ⟨m9, meth9, c9, hn9, hm9, hc9, -, -, htab, -, -, -⟩ := Cond.codeWith_spec (hts _ List.mem_cons_self)
  cases B.named.symm.trans hn9
  cases B.method.symm.trans hm9
  cases (Stand.of_body B).code.symm.trans hc9
  obtain ⟨G, hP, hz⟩ := hX.of h1
  have ht : c.exceptionTable.toList = tableOf hh := by rw [← htab, table_eq]
  have h := body p e s m below meth c B.exec B.bytes hml B.returns B.notSynchronized (findClass_of_methodNamed B.named) (fun w hw => hts w (List.mem_cons_of_mem _ hw)) ht
    ⟨⟨G.1, G.2.1, fun k hk => Or.inl (G.2.2.1 k hk), fun q hq => Or.inl (G.2.2.2.1 q hq), by rw [hz]; exact h5, G.2.2.2.2.2.1, G.2.2.2.2.2.2⟩, h3, h4, h6⟩ hP h2
  rw [hz] at h
  exact h
section LA
variable {p : Program} {l : Launch} {e : Env} {R : Room} {s : State} {m : MethodId} {args : Array Value} {below : List Frame} {meth : Method} {c : Code} {H : Heap} {locs : List Loc} {cells slots : Nat} {Q : State → Prop}
variable {cc : ByteArray} {pc : Nat} {ls : Array Slot} {rest st0 : List Value} {D : va_G} {ca : Nat → ClassId} {ad : Nat → Nat} {A : Nat → Prop} {st st' : pu_St}
/-- a call of the house's that returns, seen by one who has more cells than the house -/
theorem wCallI {v : Int32} {aa : Array Value} (G : hX D ca ad A s) (hS : va_S A s.heap H locs) (hr : va_Run p l e R s m args below meth c H locs cells slots 0 0 (F0 m pc ls st0) rest (hQ D ca ad (fun v => some (.int v)) (.inl v) st' H.size aa) (hA ad H.size))
    (kk : ∀ (H1 : Heap) (locs1 : List Loc), va_P D hcl (hW ca ad st') H1 → va_S A s.heap H1 locs1 → (∀ q : Nat, q < H.size → ¬ hA ad H.size q → H1[q]? = H[q]?) → W p l e R s m args below meth c H1 locs1 cells slots Q (F0 m (pc + 3) ls (.int v :: rest))) : W p l e R s m args below meth c H locs cells slots Q (F0 m pc ls st0) := by
  intro T hT X
  obtain ⟨v', st₀, t, T', L, h0, X', hL, e1, e2, ⟨hv, hP1, hF⟩, st⟩ := hr T hT X
  have hv : Outcome.returned v' = .returned (some (.int v)) := hv
  cases hv
  obtain ⟨hz, hk⟩ := hF
  rw [h0] at hz hk
  rw [← e1] at hP1 hz
  obtain ⟨t2, a1, b1⟩ := kk T'.heap (locs ++ L) hP1 ⟨Nat.le_trans hS.1 hz, fun q h1 h2 => by
      rw [e1, hk q (Nat.lt_of_lt_of_le h1 hS.1) (fun z => h2 (G.sub hS q z))]; exact hS.2.1 q h1 h2, fun q hq => by
      rcases List.mem_append.mp hq with h | h
      · exact hS.2.2 q h
      · exact G.sub hS _ (hL q h)⟩ (fun q h1 h2 => by rw [e1]; exact hk q h1 h2) T' rfl X'
  exact ⟨t2, st t2 a1, b1⟩
variable {y : MethodName} {bytes : ByteArray} {maxL nL mc ms n index : Nat} {ret : Option FieldType} {ws : List Cond} {rm : Room} {Pc : Array Value → State → Prop} {Ts : List Cond} {own C : String} {b : Addr} {As : List Value} {ov2 : Int32 → Option Value} {k : Nat}
/-- a call of the house's that throws, caught -/
theorem wThrV (G : hX D ca ad A s) (hS : va_S A s.heap H locs) (hown : s.vm.findClass own = some m.cls) (hts : ∀ w ∈ tG, w.before args s = true) (S : CallFix p m c cc nL s args Ts own)
    (hM : MetX l y ws rm Pc (hQ D ca ad ov2 (.inr k) st' H.size) mc ms (hA ad H.size)) (cw : CallW R s args own C index y bytes maxL ret ws rm mc ms n) (hp : PreV s H C b Pc As)
    (hg0 : (F0 m pc ls st0).method = m) (hn : As.length = n) (hsize : ls.size = nL) (hstack : st0 = As.reverse ++ .ref b :: rest) (hW0 : 2 * (F0 m pc ls st0).monitorRoom + (rest.map fun v => v.category).sum ≤ 8) (hdg : decode cc pc = .ok (.invokevirtual index, 3)) (hf : cells + mc ≤ R.cells ∧ slots + ms ≤ R.slots)
    (pre : List ExceptionTableEntry) (e0 : ExceptionTableEntry) (rst : List ExceptionTableEntry) (hsplit : c.exceptionTable.toList = pre ++ e0 :: rst)
    (hpre : ∀ y ∈ pre, covers y pc = true ∧ y.catchType ≠ 0 ∧ ∃ n2 : String, (.classLink own y.catchType n2 : Cond) ∈ tG ∧ va_Nc (xE k) n2 s)
    (he : covers e0 pc = true) (h0 : e0.catchType ≠ 0) {nme : String} (hl : (.classLink own e0.catchType nme : Cond) ∈ tG) (hcast : va_Nw (.castable (xE k) nme) s)
    (kk : ∀ (x : Addr) (H1 : Heap) (locs1 : List Loc), va_P D hcl (hW ca ad st') H1 → va_S A s.heap H1 locs1 → (∀ q : Nat, q < H.size → ¬ hA ad H.size q → H1[q]? = H[q]?) → W p l e R s m args below meth c H1 locs1 (cells + mc) (slots + ms) Q (F0 m e0.handlerPc ls [.ref x])) :
    W p l e R s m args below meth c H locs cells slots Q (F0 m pc ls st0) := by
  refine W.thrV S hM (fun _ _ _ _ q => ?_) cw hp hg0 hn hsize hstack hW0 hdg hf (fun x st₀ t L h0' hal hL hq => ?_)
  · obtain ⟨x, ce, hx, -⟩ := q.1
    exact ⟨x, hx⟩
  · obtain ⟨⟨x', ce, hx', h1, h2, h3⟩, hP', hz, hk⟩ := hq
    cases hx'
    rw [h0'] at hz hk
    have h3' : s.vm.findClass (xE k) = some ce.cls := by rw [← hal.findClass]; exact h3
    obtain ⟨c3, cT, hc3, hcT, hasg⟩ := Cond.castable_spec hcast
    cases h3'.symm.trans hc3
    refine WT.catch hown h1 h2 pre e0 rst hsplit (fun y hy => ?_) he h0 (hts _ hl) hcT hasg (kk x t.heap (locs ++ L) hP' ⟨Nat.le_trans hS.1 hz, fun q g1 g2 => ?_, fun q hq => ?_⟩ hk)
    · obtain ⟨y1, y2, n2, y3, c1, t1, y4, y5, y6⟩ := hpre y hy
      cases h3'.symm.trans y4
      exact ⟨y1, y2, n2, t1, hts _ y3, y5, y6⟩
    · rw [hk q (Nat.lt_of_lt_of_le g1 hS.1) (fun z => g2 (G.sub hS q z))]; exact hS.2.1 q g1 g2
    · rcases List.mem_append.mp hq with h | h
      · exact hS.2.2 q h
      · exact G.sub hS _ (hL q h)
end LA

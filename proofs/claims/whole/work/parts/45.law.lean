/-! THE LAW'S OWN LEVEL: the house, the reference, the array of one long; all of them made since the law began. -/
section LB
variable {p : Program} {l : Launch} {e : Env} {R : Room} {s : State} {m : MethodId} {args : Array Value} {below : List Frame} {meth : Method} {c : Code} {H : Heap} {locs : List Loc} {cells slots : Nat} {Q : State → Prop}
theorem va_runSW {y : MethodName} {bytes cc : ByteArray} {maxL nL mc ms n index : Nat} {ret : Option FieldType} {hh : List (Nat × Nat × Nat × Nat)} {rm : Room} {Pc : Array Value → State → Prop} {Qc : Array Value → State → Outcome → State → Prop} {free : Addr → Prop} {own : String} {As rest : List Value} {g : JFrame}
    (S : CallFix p m c cc nL s args tG own) (hM : Met l y (.codeWith y bytes maxL ret hh :: tG) rm Pc Qc mc ms free) (hrc : rm.cells = mc) (hrs : rm.slots = ms) (hR : rm.frames + 1 ≤ R.frames ∧ 8 + (maxL + 11) + rm.locals ≤ R.locals)
    (hcw : (.codeWith y bytes maxL ret hh : Cond) ∈ tG) (hini : (.initialized y.cls : Cond) ∈ tG) (hl : (.methodLink own index y : Cond) ∈ tG) (hst : (.static y : Cond) ∈ tG)
    (hd : y.cls ≠ "java/lang/invoke/MethodHandle" ∧ y.cls ≠ "java/lang/invoke/VarHandle" ∧ (parseMethodDescriptor y.desc).map (fun d => d.parameters.length) = some n) (hp : PreS s H Pc As)
    (hg : g.method = m) (hn : As.length = n) (hsize : g.locals.size = nL) (hstack : g.stack = As.reverse ++ rest) (hW : 2 * g.monitorRoom + (rest.map fun v => v.category).sum ≤ 8) (hdg : decode cc g.pc = .ok (.invokestatic index, 3)) (hf : cells + mc ≤ R.cells ∧ slots + ms ≤ R.slots) :
    va_Run p l e R s m args below meth c H locs cells slots mc ms g rest (Qc As.toArray) (free) := by
  obtain ⟨hx, hb, hml, ho, hts⟩ := S
  have hws : ∀ w ∈ (.codeWith y bytes maxL ret hh :: tG : List Cond), ∀ (a' : Array Value) (U : State), s.WarmedH U.vm → w.before a' U = true := by
    intro w hw a' U hU
    have hw' : w ∈ tG := (List.mem_cons.mp hw).elim (fun e => by rw [e]; exact hcw) (fun h => h)
    exact word_at hU (good_of_word (List.mem_filter.mp hw').2) (hts w hw')
  have hK : Back l R p e below s args y 3 8 (PreOf R mc ms Pc) (PostOf Qc mc ms free) := va_backW (hh := hh) (bytes := bytes) (maxL := maxL) (ret := ret) hM hp.1 hrc hrs hR.1 hR.2 hws List.mem_cons_self (fun a' U hW => word_at hW (Or.inl (by first | rfl | simp [Cond.onTables, Cond.keeps, Cond.steady])) (hts _ hini))
  obtain ⟨mk, methM, cM, hnamed, hmethM, -, -, -, -, -, -, hsigM⟩ := Cond.codeWith_spec (hts _ hcw)
  have hstatic : methM.isStatic = true := Cond.static_spec hnamed hmethM (hts _ hst)
  obtain ⟨kP, hkP, -⟩ := className_of_methodNamed hnamed
  have hinitP : kP.init = .initialized := Cond.initialized_spec (findClass_of_methodNamed hnamed) hkP (hts _ hini)
  have hlen : As.length = methM.sig.parameters.length := by
    have h2 := hd.2.2
    rw [hsigM] at h2
    exact hn.trans (Option.some.inj h2).symm
  intro T hT X
  subst hb
  obtain ⟨vm₁, X₁, hstep₁⟩ := X.invokestatic hx ho (hts _ hl) hnamed hmethM hstatic hkP hinitP ⟨hd.1, hd.2.1⟩ (g := g) hg (argsL := As) (rest := rest) hlen hstack hdg
  obtain ⟨v, ⟨U', l2, c2, s2⟩, X', ⟨g', mk', t, L, e1, e2, hq, h1, hL, h2, h3⟩, hsteps⟩ := hK m meth c ⟨T.setVm vm₁, locs, cells, slots⟩ { g with stack := rest } (.invokestatic index) mk As.toArray X₁ hg (hsize.trans hml.symm) hdg hW (X₁.named hnamed) ⟨hf.1, hf.2, hp.2 (T.setVm vm₁) hT X₁.warmed⟩
  dsimp only [Pt.U, Pt.locs, Pt.cells, Pt.slots] at X' e1 e2 h1 h2 h3 hsteps
  subst h1; subst h2; subst h3
  exact ⟨v, (T.setVm vm₁).calling g' mk' As.toArray, t, U', L, hT, X', hL, e1, e2, hq, fun target h => hstep₁ _ fun acts => by rw [doInvoke_state]; exact hsteps.trans h⟩
end LB
def lI (ad bd : Nat → Nat) (o : Nat) : Prop := (∀ i j, i < 34 → j < 25 → ad i ≠ bd j) ∧ (∀ i, i < 34 → ad i ≠ o) ∧ ∀ j, j < 25 → bd j ≠ o
def lA (s : State) : Nat → Prop := fun q => s.heap.size ≤ q
def lX (D : va_G) (ca cb : Nat → ClassId) (co : ClassId) (ad bd : Nat → Nat) (o : Nat) (s : State) : Prop :=
  hX D ca ad (lA s) s ∧ mX D cb bd (lA s) s ∧ va_K D hcl [(co, .long)] s ∧ lI ad bd o ∧ xNc s ∧ lA s o
def lW (D : va_G) (ca cb : Nat → ClassId) (co : ClassId) (ad bd : Nat → Nat) (o : Nat) (st sm : pu_St) (f : Nat → Int64) (H : Heap) : Prop :=
  va_P D hcl (hW ca ad st) H ∧ va_P D hcl (mW cb bd sm) H ∧ va_P D hcl (wO co o f) H
theorem hW_keep {D : va_G} {ca : Nat → ClassId} {ad : Nat → Nat} {st : pu_St} {B : Nat → Prop} {H H1 : Heap} (hP : va_P D hcl (hW ca ad st) H) (hB : ∀ k, k < 34 → ad k < H.size → ¬ B (ad k)) (hfr : ∀ q : Nat, q < H.size → ¬ B q → H1[q]? = H[q]?) : va_P D hcl (hW ca ad st) H1 :=
  hP.kept (fun k q hk => by
    obtain ⟨a1, a2⟩ := hW_ix hk
    have hlt := (hP k q hk).lt
    exact hfr q.1 hlt (by rw [a2] at hlt ⊢; exact hB k a1 hlt))
theorem mW_keep {D : va_G} {ca : Nat → ClassId} {ad : Nat → Nat} {st : pu_St} {B : Nat → Prop} {H H1 : Heap} (hP : va_P D hcl (mW ca ad st) H) (hB : ∀ k, k < 25 → ad k < H.size → ¬ B (ad k)) (hfr : ∀ q : Nat, q < H.size → ¬ B q → H1[q]? = H[q]?) : va_P D hcl (mW ca ad st) H1 :=
  hP.kept (fun k q hk => by
    obtain ⟨a1, a2⟩ := mW_ix hk
    have hlt := (hP k q hk).lt
    exact hfr q.1 hlt (by rw [a2] at hlt ⊢; exact hB k a1 hlt))
theorem wO_keep {D : va_G} {co : ClassId} {o : Nat} {f : Nat → Int64} {B : Nat → Prop} {H H1 : Heap} (hP : va_P D hcl (wO co o f) H) (hB : o < H.size → ¬ B o) (hfr : ∀ q : Nat, q < H.size → ¬ B q → H1[q]? = H[q]?) : va_P D hcl (wO co o f) H1 := by
  have hlt : o < H.size := (hP 0 _ rfl).lt
  refine hP.kept (fun k q hk => ?_)
  match k, hk with
  | 0, hk => cases hk; exact hfr o hlt (hB hlt)
section LC
variable {p : Program} {l : Launch} {e : Env} {R : Room} {s : State} {m : MethodId} {args : Array Value} {below : List Frame} {meth : Method} {c : Code} {H : Heap} {locs : List Loc} {cells slots mc ms : Nat} {Q : State → Prop}
variable {pc : Nat} {ls : Array Slot} {rest st0 : List Value} {D : va_G} {ca cb : Nat → ClassId} {co : ClassId} {ad bd : Nat → Nat} {o : Nat} {st st' sm sm' : pu_St} {f f' : Nat → Int64}
theorem lX.preW (G : lX D ca cb co ad bd o s) (w : lW D ca cb co ad bd o st sm f H) (hS : va_S (lA s) s.heap H locs) {As : List Value} : PreS s H (va_Pc As (wPc D ca co ad o st f H.size)) As := by
  obtain ⟨g1, g2, g3, g4, g5, g6⟩ := G
  refine ⟨wPc_blind, fun U hU hw => ⟨rfl, g1.pre w.1 hS U hU hw, by rw [hU]; exact w.2.2, va_K.moved hw.alike g3, g4.2.1, ?_, g5.warm hw⟩⟩
  rw [hU]
  refine ((g1.2.2.2.2.1.kept hS.2.1).moved hw.alike).narrow (fun q hq => ?_)
  rcases hq with hq | rfl
  · exact g1.sub hS q hq
  · exact g6
/-- a wrapper's call -/
theorem lWrap {k : Int32} {aa : Array Value} (G : lX D ca cb co ad bd o s) (w : lW D ca cb co ad bd o st sm f H) (hS : va_S (lA s) s.heap H locs)
    (hr : va_Run p l e R s m args below meth c H locs cells slots mc ms (F0 m pc ls st0) rest (wQ D ca co ad o k st' f' H.size aa) (wA ad o H.size))
    (kk : ∀ (H1 : Heap) (locs1 : List Loc), lW D ca cb co ad bd o st' sm f' H1 → va_S (lA s) s.heap H1 locs1 → W p l e R s m args below meth c H1 locs1 (cells + mc) (slots + ms) Q (F0 m (pc + 3) ls (.int k :: rest))) : W p l e R s m args below meth c H locs cells slots Q (F0 m pc ls st0) := by
  obtain ⟨g1, g2, g3, g4, g5, g6⟩ := G
  have hsub : ∀ q, wA ad o H.size q → lA s q := fun q hq => by
    rcases hq with hq | rfl
    · exact g1.sub hS q hq
    · exact g6
  intro T hT X
  obtain ⟨v', st₀, t, T', L, h0, X', hL, e1, e2, ⟨hv, hP1, hP2, hz, hk⟩, stp⟩ := hr T hT X
  cases hv
  rw [h0] at hz hk
  have hm := mW_keep w.2.1 (B := wA ad o H.size) (fun j hj hlt hh => by
    rcases hh with ⟨⟨i, hi, e⟩ | h⟩ | h
    · exact g4.1 i j hi hj e.symm
    · exact absurd hlt (Nat.not_lt.mpr h)
    · exact g4.2.2 j hj h) hk
  rw [← e1] at hP1 hP2 hm hz
  obtain ⟨t2, a1, b1⟩ := kk T'.heap (locs ++ L) ⟨hP1, hm, hP2⟩ ⟨Nat.le_trans hS.1 hz, fun q h1 h2 => by
      rw [e1, hk q (Nat.lt_of_lt_of_le h1 hS.1) (fun z => h2 (hsub q z))]; exact hS.2.1 q h1 h2, fun q hq => by
      rcases List.mem_append.mp hq with h | h
      · exact hS.2.2 q h
      · exact hsub _ (hL q h)⟩ T' rfl X'
  exact ⟨t2, stp t2 a1, b1⟩
/-- a call of the reference's -/
theorem lModI {v : Int32} {aa : Array Value} (G : lX D ca cb co ad bd o s) (w : lW D ca cb co ad bd o st sm f H) (hS : va_S (lA s) s.heap H locs)
    (hr : va_Run p l e R s m args below meth c H locs cells slots 0 0 (F0 m pc ls st0) rest (mQ D cb bd (fun v => some (.int v)) (.inl v) sm' H.size aa) (mA bd H.size))
    (kk : ∀ (H1 : Heap) (locs1 : List Loc), lW D ca cb co ad bd o st sm' f H1 → va_S (lA s) s.heap H1 locs1 → W p l e R s m args below meth c H1 locs1 cells slots Q (F0 m (pc + 3) ls (.int v :: rest))) : W p l e R s m args below meth c H locs cells slots Q (F0 m pc ls st0) := by
  obtain ⟨g1, g2, g3, g4, g5, g6⟩ := G
  intro T hT X
  obtain ⟨v', st₀, t, T', L, h0, X', hL, e1, e2, ⟨hv, hP1, hz, hk⟩, stp⟩ := hr T hT X
  have hv : Outcome.returned v' = .returned (some (.int v)) := hv
  cases hv
  rw [h0] at hz hk
  have hh := hW_keep w.1 (B := mA bd H.size) (fun i hi hlt hb => by
    rcases hb with ⟨j, hj, e⟩ | h
    · exact g4.1 i j hi hj e
    · exact absurd hlt (Nat.not_lt.mpr h)) hk
  have ho := wO_keep w.2.2 (B := mA bd H.size) (fun hlt hb => by
    rcases hb with ⟨j, hj, e⟩ | h
    · exact g4.2.2 j hj e.symm
    · exact absurd hlt (Nat.not_lt.mpr h)) hk
  rw [← e1] at hP1 hh ho hz
  obtain ⟨t2, a1, b1⟩ := kk T'.heap (locs ++ L) ⟨hh, hP1, ho⟩ ⟨Nat.le_trans hS.1 hz, fun q h1 h2 => by
      rw [e1, hk q (Nat.lt_of_lt_of_le h1 hS.1) (fun z => h2 (g2.sub hS q z))]; exact hS.2.1 q h1 h2, fun q hq => by
      rcases List.mem_append.mp hq with h | h
      · exact hS.2.2 q h
      · exact g2.sub hS _ (hL q h)⟩ T' rfl X'
  exact ⟨t2, stp t2 a1, b1⟩
end LC

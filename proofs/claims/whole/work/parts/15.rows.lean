/-! ROWS of the printed walks -/
def pu_fu : Nat := 100000
section RA
variable {p : Program} {l : Launch} {e : Env} {R : Room} {s : State} {m : MethodId} {args : Array Value} {below : List Frame} {meth : Method} {c : Code} {H : Heap} {locs : List Loc} {cells slots : Nat} {Q : State → Prop}
variable {cc : ByteArray} {pc : Nat} {ls : Array Slot} {rest st0 : List Value} {D : va_G} {cl : List vw_C} {A : Nat → Prop} {a : Nat} {tys : List (ClassId × FieldType)} {ws : va_W} {H0 : Heap}
theorem pu_iald (hexec : p.tables.exec = Jvm.exec) (hb : c.code = cc) (hK : va_K D cl tys s) (hP : va_P D cl ws H) (q0 t0 : Nat) {cA : ClassId} {n : Nat} {f : Nat → Int32} (ha : ws[q0]? = some (a, .inl (cA, n, .inl f))) (ht : tys[t0]? = some (cA, .int)) {i v : Int32} (h : pu_ld f n i = some v) (hdg : decode cc pc = .ok (.iaload, 1))
    (kk : W p l e R s m args below meth c H locs cells slots Q (F0 m (pc + 1) ls (.int v :: rest))) : W p l e R s m args below meth c H locs cells slots Q (F0 m pc ls (.int i :: .ref a :: rest)) := by
  obtain ⟨h1, h2⟩ := pu_ld_inv h
  subst h2
  exact va_iald hexec hb hK hP q0 t0 ha ht h1 hdg kk
theorem pu_zald (hexec : p.tables.exec = Jvm.exec) (hb : c.code = cc) (hK : va_K D cl tys s) (hP : va_P D cl ws H) (q0 t0 : Nat) {cA : ClassId} {n : Nat} {f : Nat → Int32} (ha : ws[q0]? = some (a, .inl (cA, n, .inl f))) (ht : tys[t0]? = some (cA, .boolean)) {i v : Int32} (h : pu_ld f n i = some v) (hdg : decode cc pc = .ok (.baload, 1))
    (kk : W p l e R s m args below meth c H locs cells slots Q (F0 m (pc + 1) ls (.int v :: rest))) : W p l e R s m args below meth c H locs cells slots Q (F0 m pc ls (.int i :: .ref a :: rest)) := by
  obtain ⟨h1, h2⟩ := pu_ld_inv h
  subst h2
  exact va_zald hexec hb hK hP q0 t0 ha ht h1 hdg kk
theorem pu_iast (hexec : p.tables.exec = Jvm.exec) (hb : c.code = cc) (hK : va_K D cl tys s) (hP : va_P D cl ws H) (hD : va_D A ws) (hS : va_S A H0 H locs) (q0 t0 : Nat) {cA : ClassId} {n : Nat} {f g : Nat → Int32} (ha : ws[q0]? = some (a, .inl (cA, n, .inl f))) (ht : tys[t0]? = some (cA, .int)) {i x : Int32} (h : pu_sd f n i x = some g) (hdg : decode cc pc = .ok (.iastore, 1))
    (kk : ∀ (H1 : Heap) (locs1 : List Loc), va_P D cl (ws.set q0 (a, .inl (cA, n, .inl g))) H1 → va_S A H0 H1 locs1 → W p l e R s m args below meth c H1 locs1 cells slots Q (F0 m (pc + 1) ls rest)) : W p l e R s m args below meth c H locs cells slots Q (F0 m pc ls (.int x :: .int i :: .ref a :: rest)) := by
  obtain ⟨h1, h2⟩ := pu_sd_inv h
  subst h2
  exact va_iast hexec hb hK hP hD hS q0 t0 ha ht h1 hdg (fun H1 locs1 hP _ hS => kk H1 locs1 hP hS)
theorem pu_zast (hexec : p.tables.exec = Jvm.exec) (hb : c.code = cc) (hK : va_K D cl tys s) (hP : va_P D cl ws H) (hD : va_D A ws) (hS : va_S A H0 H locs) (q0 t0 : Nat) {cA : ClassId} {n : Nat} {f g : Nat → Int32} (ha : ws[q0]? = some (a, .inl (cA, n, .inl f))) (ht : tys[t0]? = some (cA, .boolean)) {i x : Int32} (h : pu_sd f n i x = some g) (hn : vp_nar .boolean x = x) (hdg : decode cc pc = .ok (.bastore, 1))
    (kk : ∀ (H1 : Heap) (locs1 : List Loc), va_P D cl (ws.set q0 (a, .inl (cA, n, .inl g))) H1 → va_S A H0 H1 locs1 → W p l e R s m args below meth c H1 locs1 cells slots Q (F0 m (pc + 1) ls rest)) : W p l e R s m args below meth c H locs cells slots Q (F0 m pc ls (.int x :: .int i :: .ref a :: rest)) := by
  obtain ⟨h1, h2⟩ := pu_sd_inv h
  subst h2
  refine va_zast hexec hb hK hP hD hS q0 t0 ha ht h1 hdg (fun H1 locs1 hP _ hS => kk H1 locs1 ?_ hS)
  rw [hn] at hP
  exact hP
theorem pu_callR {r : Int32} {aa : Array Value} (hr : va_Run p l e R s m args below meth c H locs cells slots 0 0 (F0 m pc ls st0) rest (QcRead r aa) (fun _ => False)) (kk : W p l e R s m args below meth c H locs cells slots Q (F0 m (pc + 3) ls (.int r :: rest))) : W p l e R s m args below meth c H locs cells slots Q (F0 m pc ls st0) :=
  W.callR hr.run (W.eq rfl kk)
theorem pu_o9 {v : Int32} (h : ¬ v = 1 ∧ ¬ v = 2 ∧ ¬ v = 3 ∧ ¬ v = 4 ∧ ¬ v = 5 ∧ ¬ v = 6 ∧ ¬ v = 7 ∧ ¬ v = 8 ∧ ¬ v = 9) : v.toInt < 1 ∨ 9 < v.toInt := by
  by_cases h1 : v.toInt < 1
  · exact Or.inl h1
  by_cases h2 : 9 < v.toInt
  · exact Or.inr h2
  exfalso
  have e : v.toInt = 1 ∨ v.toInt = 2 ∨ v.toInt = 3 ∨ v.toInt = 4 ∨ v.toInt = 5 ∨ v.toInt = 6 ∨ v.toInt = 7 ∨ v.toInt = 8 ∨ v.toInt = 9 := by omega
  have k : ∀ w : Int32, v.toInt = w.toInt → v = w := fun w hw => Int32.toInt_inj.mp hw
  obtain ⟨a1, a2, a3, a4, a5, a6, a7, a8, a9⟩ := h
  rcases e with e | e | e | e | e | e | e | e | e
  · exact a1 (k 1 e)
  · exact a2 (k 2 e)
  · exact a3 (k 3 e)
  · exact a4 (k 4 e)
  · exact a5 (k 5 e)
  · exact a6 (k 6 e)
  · exact a7 (k 7 e)
  · exact a8 (k 8 e)
  · exact a9 (k 9 e)
theorem xCN {own host : String} {index maxL : Nat} {y : MethodName} {bytes : ByteArray} {ret : Option FieldType} {rm : Room} (n : Nat) (hts : ∀ w ∈ tG, w.before args s = true) (hc : (.code y bytes maxL ret : Cond) ∈ tG) (hini : (.initialized y.cls : Cond) ∈ tG) (hl : va_Nw (.methodLinkNest own index y host) s) (hst : (.static y : Cond) ∈ tG)
    (hd : y.cls ≠ "java/lang/invoke/MethodHandle" ∧ y.cls ≠ "java/lang/invoke/VarHandle" ∧ (parseMethodDescriptor y.desc).map (fun d => d.parameters.length) = some n) (hR : rm.frames + 1 ≤ R.frames ∧ 8 + (maxL + 11) + rm.locals ≤ R.locals) :
    va_CN R s args own index y host bytes maxL ret (.code y bytes maxL ret :: tG) rm rm.cells rm.slots n ∧ (Cond.static y).before args s = true ∧ True := by
  have hG : GoodIn tG (.code y bytes maxL ret :: tG) := fun w hw => by
    have hw' : w ∈ tG := (List.mem_cons.mp hw).elim (fun e => by rw [e]; exact hc) (fun h => h)
    exact ⟨hw', good_of_word (List.mem_filter.mp hw').2⟩
  exact ⟨va_cnB n hts hG rfl rfl rfl hl (hts _ hini) hd hR, hts _ hst, trivial⟩
end RA
section RB
variable {p : Program} {l : Launch} {e : Env} {R : Room} {s : State} {m : MethodId} {args : Array Value} {below : List Frame} {meth : Method} {c : Code} {H : Heap} {locs : List Loc} {cells slots : Nat} {Q : State → Prop}
variable {cc : ByteArray} {pc : Nat} {ls : Array Slot} {rest st0 : List Value} {D : va_G} {ca : Nat → ClassId} {ad : Nat → Nat} {A : Nat → Prop} {st st' : pu_St}
theorem hCallI {v : Int32} {aa : Array Value} (G : hX D ca ad A s) (hS : va_S A s.heap H locs) (hr : va_Run p l e R s m args below meth c H locs cells slots 0 0 (F0 m pc ls st0) rest (hQ D ca ad (fun v => some (.int v)) (.inl v) st' H.size aa) (hA ad H.size))
    (kk : ∀ (H1 : Heap) (locs1 : List Loc), va_P D hcl (hW ca ad st') H1 → va_S A s.heap H1 locs1 → W p l e R s m args below meth c H1 locs1 cells slots Q (F0 m (pc + 3) ls (.int v :: rest))) : W p l e R s m args below meth c H locs cells slots Q (F0 m pc ls st0) := by
  intro T hT X
  obtain ⟨v', st₀, t, T', L, h0, X', hL, e1, e2, ⟨hv, hP1, hF⟩, st⟩ := hr T hT X
  have hv : Outcome.returned v' = .returned (some (.int v)) := hv
  cases hv
  obtain ⟨hz, hk⟩ := hF
  rw [h0] at hz hk
  rw [← e1] at hP1 hz
  obtain ⟨t2, a1, b1⟩ := kk T'.heap (locs ++ L) hP1 ⟨Nat.le_trans hS.1 hz, fun q h1 h2 => by
      rw [e1, hk q (Nat.lt_of_lt_of_le h1 hS.1) (fun z => h2 (G.sub hS q z))]; exact hS.2.1 q h1 h2, fun q hq => by
      rcases List.mem_append.mp hq with h | h
      · exact hS.2.2 q h
      · exact G.sub hS _ (hL q h)⟩ T' rfl X'
  exact ⟨t2, st t2 a1, b1⟩
theorem hCallU {v : Int32} {aa : Array Value} (G : hX D ca ad A s) (hS : va_S A s.heap H locs) (hr : va_Run p l e R s m args below meth c H locs cells slots 0 0 (F0 m pc ls st0) rest (hQ D ca ad (fun _ => none) (.inl v) st' H.size aa) (hA ad H.size))
    (kk : ∀ (H1 : Heap) (locs1 : List Loc), va_P D hcl (hW ca ad st') H1 → va_S A s.heap H1 locs1 → W p l e R s m args below meth c H1 locs1 cells slots Q (F0 m (pc + 3) ls rest)) : W p l e R s m args below meth c H locs cells slots Q (F0 m pc ls st0) := by
  intro T hT X
  obtain ⟨v', st₀, t, T', L, h0, X', hL, e1, e2, ⟨hv, hP1, hF⟩, st⟩ := hr T hT X
  have hv : Outcome.returned v' = .returned none := hv
  cases hv
  obtain ⟨hz, hk⟩ := hF
  rw [h0] at hz hk
  rw [← e1] at hP1 hz
  obtain ⟨t2, a1, b1⟩ := kk T'.heap (locs ++ L) hP1 ⟨Nat.le_trans hS.1 hz, fun q h1 h2 => by
      rw [e1, hk q (Nat.lt_of_lt_of_le h1 hS.1) (fun z => h2 (G.sub hS q z))]; exact hS.2.1 q h1 h2, fun q hq => by
      rcases List.mem_append.mp hq with h | h
      · exact hS.2.2 q h
      · exact G.sub hS _ (hL q h)⟩ T' rfl X'
  exact ⟨t2, st t2 a1, b1⟩
variable {y : MethodName} {bytes : ByteArray} {maxL nL mc ms n index : Nat} {ret : Option FieldType} {ws : List Cond} {rm : Room} {Pc : Array Value → State → Prop} {Ts : List Cond} {own C : String} {b : Addr} {As : List Value} {ov ov2 : Int32 → Option Value} {k : Nat}
theorem hThrV (G : hX D ca ad (hA ad s.heap.size) s) (hS : va_S (hA ad s.heap.size) s.heap H locs) (hno : c.exceptionTable.isEmpty = true) (hlocks : meth.locks = false) (S : CallFix p m c cc nL s args Ts own)
    (hM : MetX l y ws rm Pc (hQ D ca ad ov2 (.inr k) st' H.size) mc ms (hA ad H.size)) (cw : CallW R s args own C index y bytes maxL ret ws rm mc ms n) (hp : PreV s H C b Pc As)
    (hg0 : (F0 m pc ls st0).method = m) (hn : As.length = n) (hsize : ls.size = nL) (hstack : st0 = As.reverse ++ .ref b :: rest) (hW0 : 2 * (F0 m pc ls st0).monitorRoom + (rest.map fun v => v.category).sum ≤ 8) (hdg : decode cc pc = .ok (.invokevirtual index, 3)) (hf : 0 + mc ≤ R.cells ∧ 0 + ms ≤ R.slots) :
    W p l e R s m args below meth c H locs 0 0 (MQX below (hQ D ca ad ov (.inr k) st' s.heap.size) args s mc ms (hA ad s.heap.size)) (F0 m pc ls st0) := by
  refine W.thrV S hM (fun _ _ _ _ q => ?_) cw hp hg0 hn hsize hstack hW0 hdg hf (fun x st₀ t L h0 hal hL hq => ?_)
  · obtain ⟨x, ce, hx, -⟩ := q.1
    exact ⟨x, hx⟩
  · obtain ⟨⟨x', ce, hx', h1, h2, h3⟩, hP', hz, hk⟩ := hq
    cases hx'
    rw [h0] at hz hk
    rw [Nat.zero_add, Nat.zero_add]
    refine WT.out hno hlocks (fun t' ht' hW' => ⟨⟨x, ce, rfl, by rw [ht']; exact h1, h2, ?_⟩, by rw [ht']; exact hP', by rw [ht']; exact Nat.le_trans hS.1 hz, fun q g1 g2 => ?_⟩) (fun q hq => ?_)
    · rw [hW'.alike.findClass, ← hal.findClass]; exact h3
    · rw [ht', hk q (Nat.lt_of_lt_of_le g1 hS.1) (fun z => g2 (G.sub hS q z))]; exact hS.2.1 q g1 g2
    · rcases List.mem_append.mp hq with h | h
      · exact hS.2.2 q h
      · exact G.sub hS _ (hL q h)
theorem hThrow {cls : String} {ia ic : Nat} (G : hX D ca ad (hA ad s.heap.size) s) (hx : p.tables.exec = Jvm.exec) (hb : c.code = cc) (hml : ls.size = c.maxLocals) (hown : s.vm.findClass own = some m.cls) (hno : c.exceptionTable.isEmpty = true) (hlocks : meth.locks = false) (hl : l.stackTraces = false)
    (hts : ∀ w ∈ tG, w.before args s = true) (hcls : Bundle.fit cls = true) (how : ∀ w ∈ Bundle.ownAtoms0 own ic cls xNs, w ∈ xTw ∨ w ∈ tG)
    (hcl0 : (.classLink own ia cls : Cond) ∈ tG) (hinst : (.instantiable cls 6 : Cond) ∈ tG) (hini : (.initialized cls : Cond) ∈ tG)
    (hP : va_P D hcl (hW ca ad st) H) (hS : va_S (hA ad s.heap.size) s.heap H locs)
    (hd0 : decode cc pc = .ok (.new ia, 3)) (hd3 : decode cc (pc + 3) = .ok (.dup, 1)) (hd4 : decode cc (pc + 3 + 1) = .ok (.invokespecial ic, 3)) (hd7 : decode cc (pc + 3 + 1 + 3) = .ok (.athrow, 1))
    (hRf : 6 ≤ R.frames) (hRl : (rest.map fun v => v.category).sum + 81 ≤ R.locals) (hRc : 0 + 1 ≤ R.cells) (hRs : 0 + 6 ≤ R.slots) (hk : xE k = cls) :
    W p l e R s m args below meth c H locs 0 0 (MQX below (hQ D ca ad ov (.inr k) st s.heap.size) args s (xc (.inr k)) (xs (.inr k)) (hA ad s.heap.size)) (F0 m pc ls rest) := by
  refine W.throw0 hx hb hml hown hno hlocks hl hts hcls how hcl0 hinst hini G.2.2.2.2.1 hS hd0 hd3 hd4 hd7 hRf hRl hRc hRs (fun t x ce hz hold hxe hfc hst hWt => ?_) hS.2.2
  refine ⟨⟨x, ce, rfl, hxe, hst, by rw [hk, hWt.alike.findClass]; exact hfc⟩, ?_, Nat.le_trans hS.1 hz, fun q g1 g2 => ?_⟩
  · exact hP.kept (fun i q hq => hold q.1 (hP i q hq).lt)
  · rw [hold q (Nat.lt_of_lt_of_le g1 hS.1)]; exact hS.2.1 q g1 g2
end RB

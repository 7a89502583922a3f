/-! X: the walk seen from where it stands now: what it has done so far counts as done before. -/
section XD
variable {p : Program} {l : Launch} {e : Env} {R : Room} {s : State} {m : MethodId} {args : Array Value} {below : List Frame} {meth : Method} {c : Code} {T : State} {locs : List Loc} {cells slots : Nat}
theorem x_rebase (X : Stand p l e R s m args below meth c T locs cells slots) {R' : Room} (h1 : R'.frames ≤ R.frames) (h2 : R'.locals ≤ R.locals) (h3 : cells + R'.cells ≤ R.cells) (h4 : slots + R'.slots ≤ R.slots) :
    Stand p l e R' (T.setFrames s.frames) m args below meth c T [] 0 0 := by
  obtain ⟨g₀, hfr⟩ := X.frames_eq
  have hcur : T.cur < T.threads.size := State.cur_lt_of_frames hfr
  have hF : (T.setFrames s.frames).frames = .invoking m args :: below := by rw [State.frames_setFrames _ hcur]; exact X.frames
  have hlim : e.platform.stackLimits T.me = e.platform.stackLimits (T.setFrames s.frames).me := by rw [State.stackLimits_setFrames]
  have hbytes : T.me.stackBytes = (T.setFrames s.frames).me.stackBytes := by rw [State.stackBytes_setFrames]
  have hroom : (T.setFrames s.frames).hasRoom e.platform R' = true := by
    have hr := X.room
    have hl1 := State.localsInUse_invoking X.frames X.method X.code
    have hl2 := State.localsInUse_invoking (s := T.setFrames s.frames) hF X.method' X.code
    have hb := X.book
    have hz := X.heapSize
    have hu := X.used
    simp only [State.hasRoom, Bool.and_eq_true, decide_eq_true_eq] at hr ⊢
    rw [hl1, X.frames] at hr
    rw [hl2, hF, ← hlim, ← hbytes, X.limits, X.bytes]
    obtain ⟨⟨⟨⟨a1, a2, a3, a4, a5, a6⟩, a7⟩, a8⟩, -⟩ := hr
    refine ⟨⟨⟨⟨by omega, by omega, by omega, by omega, by omega, a6⟩, ?_⟩, ?_⟩, hb⟩
    · show T.heap.size + R'.cells ≤ _; omega
    · show T.slotsUsed + R'.slots ≤ _; omega
  have hhears : (T.setFrames s.frames).hears m below = true := by
    have hh := X.hears
    have hm : (T.setFrames s.frames).vm.method? = s.vm.method? := by
      funext k
      exact X.warmed.alike.method? k
    rcases below with _ | ⟨y, r⟩
    · simp only [State.hears] at hh ⊢
      rw [hm]; exact hh
    · cases y <;> simp only [State.hears, State.code?_eq] at hh ⊢ <;> first | (rw [hm]; exact hh) | exact hh | trivial
  obtain ⟨t, ht, -⟩ := State.frames_cons hF
  obtain ⟨t2, ht2, -⟩ := State.frames_cons hfr
  refine ⟨X.admits, X.cas, X.clock, hF, hroom, hhears, X.method', X.code, X.here, X.tail, State.WarmedH.refl (T.setFrames s.frames), hlim, hbytes, ?_⟩
  have h := (State.sameButNew.refl (T.setFrames s.frames) ht).setFrames T.frames (State.cur_lt_of_frames hF)
  rw [State.setFrames_setFrames, State.setFrames_self ht2] at h
  exact h
end XD

/-! PURE: bits -/
theorem pb_two {j : Nat} (h : j < 32) : ((1 : Int32) <<< (nI j &&& 31)).toBitVec = BitVec.twoPow 32 j := by
  have k : ∀ j : Fin 32, ((1 : Int32) <<< (nI j.val &&& 31)).toBitVec = BitVec.twoPow 32 j.val := by decide +kernel
  exact k ⟨j, h⟩
theorem pb_off {x : Int32} {j : Nat} (h : j < 32) : pOff x j ↔ x.toBitVec.getLsbD j = false := by
  unfold pOff
  rw [← Int32.toBitVec_inj, Int32.toBitVec_and, pb_two h, BitVec.and_twoPow]
  by_cases c : x.toBitVec.getLsbD j
  · rw [if_pos c]
    refine ⟨fun e => ?_, fun e => (by rw [c] at e; cases e)⟩
    exfalso
    have k : ∀ j : Fin 32, ¬ BitVec.twoPow 32 j.val = (0 : Int32).toBitVec := by decide +kernel
    exact k ⟨j, h⟩ e
  · rw [if_neg c]
    exact ⟨fun _ => by simpa using c, fun _ => rfl⟩
theorem pb_or {x y : Int32} {j : Nat} (h : j < 32) : pOff (x ||| y) j ↔ pOff x j ∧ pOff y j := by
  rw [pb_off h, pb_off h, pb_off h, Int32.toBitVec_or, BitVec.getLsbD_or]
  simp
theorem pb_one {o j : Nat} (ho : o < 32) (h : j < 32) : pOff ((1 : Int32) <<< (nI o &&& 31)) j ↔ j ≠ o := by
  rw [pb_off h, pb_two ho, BitVec.getLsbD_twoPow]
  simp
  omega
theorem pb_not {x : Int32} {o j : Nat} (ho : o < 32) (h : j < 32) : pOff (x &&& (((1 : Int32) <<< (nI o &&& 31)) ^^^ (-1))) j ↔ pOff x j ∨ j = o := by
  have e : (-1 : Int32).toBitVec = BitVec.allOnes 32 := by decide
  rw [pb_off h, pb_off h, Int32.toBitVec_and, Int32.toBitVec_xor, pb_two ho, e, BitVec.getLsbD_and, BitVec.getLsbD_xor, BitVec.getLsbD_twoPow, BitVec.getLsbD_allOnes]
  by_cases c : j = o
  · subst c; simp [h]
  · have c' : ¬ o = j := fun q => c q.symm
    simp [h, c, c']
theorem pb_set {v x : Nat} (hv : v < 64) (hx : x < 64) : (nI v &&& nI x) = nI x ↔ (nI x &&& (nI v ^^^ (-1))) = 0 := by
  have h : ∀ v x : Fin 64, (nI v.val &&& nI x.val) = nI x.val ↔ (nI x.val &&& (nI v.val ^^^ (-1))) = 0 := by decide +kernel
  exact h ⟨v, hv⟩ ⟨x, hx⟩

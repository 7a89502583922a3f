/-! PURE: what the printed functions are made of. none: an index out of its array, a loop out of fuel, a number that is no boolean. -/
/-- a state: numbers, and arrays of numbers -/
abbrev pu_St : Type := (Nat → Int32) × (Nat → Nat → Int32)
/-- an end: .inl answer, or .inr kind of exception; and the state then -/
abbrev pu_R : Type := Option ((Int32 ⊕ Nat) × pu_St)
def pu_ld (f : Nat → Int32) (n : Nat) (i : Int32) : Option Int32 := if i < 0 ∨ n ≤ i.toNatClampNeg then none else some (f i.toNatClampNeg)
def pu_sd (f : Nat → Int32) (n : Nat) (i x : Int32) : Option (Nat → Int32) := if i < 0 ∨ n ≤ i.toNatClampNeg then none else some (upd f i.toNatClampNeg x)
/-- a number that is returned as a boolean -/
def pu_bo (x : Int32) : Option Int32 := if x = 0 then some 0 else if x = 1 then some 1 else none
def pu_xb (x : pu_R) (k : Int32 → pu_St → pu_R) : pu_R := match x with
  | none => none
  | some (.inl v, st) => k v st
  | some (.inr e, st) => some (.inr e, st)
theorem pu_ld_inv {f : Nat → Int32} {n : Nat} {i v : Int32} (h : pu_ld f n i = some v) : vp_in i n ∧ f i.toNatClampNeg = v := by
  unfold pu_ld at h
  by_cases c : i < 0 ∨ n ≤ i.toNatClampNeg
  · rw [if_pos c] at h; cases h
  · rw [if_neg c] at h; exact ⟨c, Option.some.inj h⟩
theorem pu_sd_inv {f g : Nat → Int32} {n : Nat} {i x : Int32} (h : pu_sd f n i x = some g) : vp_in i n ∧ upd f i.toNatClampNeg x = g := by
  unfold pu_sd at h
  by_cases c : i < 0 ∨ n ≤ i.toNatClampNeg
  · rw [if_pos c] at h; cases h
  · rw [if_neg c] at h; exact ⟨c, Option.some.inj h⟩
theorem pu_bo_inv {x v : Int32} (h : pu_bo x = some v) : x = v ∧ (v = 0 ∨ v = 1) := by
  unfold pu_bo at h
  by_cases c : x = 0
  · rw [if_pos c] at h; cases h; exact ⟨c, Or.inl rfl⟩
  · rw [if_neg c] at h
    by_cases d : x = 1
    · rw [if_pos d] at h; cases h; exact ⟨d, Or.inr rfl⟩
    · rw [if_neg d] at h; cases h
theorem pu_ob {α β : Type} {x : Option α} {k : α → Option β} {y : β} (h : x.bind k = some y) : ∃ v, x = some v ∧ k v = some y := by
  cases x with
  | none => cases h
  | some v => exact ⟨v, rfl, h⟩
theorem pu_xb_inv {x : pu_R} {k : Int32 → pu_St → pu_R} {y : (Int32 ⊕ Nat) × pu_St} (h : pu_xb x k = some y) : (∃ v st, x = some (.inl v, st) ∧ k v st = some y) ∨ ∃ e st, x = some (.inr e, st) ∧ (.inr e, st) = y := by
  match x, h with
  | some (.inl v, st), h => exact Or.inl ⟨v, st, rfl, h⟩
  | some (.inr e, st), h => exact Or.inr ⟨e, st, rfl, Option.some.inj h⟩
theorem pu_ld_nI {f : Nat → Int32} {n j : Nat} (h : j < n) (hn : n < 2 ^ 31) : pu_ld f n (nI j) = some (f j) := by
  unfold pu_ld
  rw [if_neg (nI_in h hn), nI_clamp (Nat.lt_trans h hn)]
theorem pu_sd_nI {f : Nat → Int32} {n j : Nat} {x : Int32} (h : j < n) (hn : n < 2 ^ 31) : pu_sd f n (nI j) x = some (upd f j x) := by
  unfold pu_sd
  rw [if_neg (nI_in h hn), nI_clamp (Nat.lt_trans h hn)]

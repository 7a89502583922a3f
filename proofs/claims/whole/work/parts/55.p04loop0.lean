/-! PURE: loops -/
/-- a loop that runs to its end, with what holds at each turn -/
theorem lo_inv {α β : Type} {n : Nat} {f : Nat → α → Nat → β} {out : α → β} (ok : Nat → α → Prop) (h0 : ∀ k a, ok n a → f (k + 1) a n = out a) (h1 : ∀ k a j, j < n → ok j a → ∃ a', ok (j + 1) a' ∧ f (k + 1) a j = f k a' (j + 1)) : ∀ {fuel : Nat} {a : α}, ok 0 a → n < fuel → ∃ a', ok n a' ∧ f fuel a 0 = out a' := by
  have go : ∀ m j fuel a, j + m = n → m < fuel → ok j a → ∃ a', ok n a' ∧ f fuel a j = out a' := by
    intro m
    induction m with
    | zero =>
      intro j fuel a e hf ha
      obtain ⟨k, rfl⟩ : ∃ k, fuel = k + 1 := ⟨fuel - 1, by omega⟩
      have : j = n := by omega
      subst this
      exact ⟨a, ha, h0 k a ha⟩
    | succ m ih =>
      intro j fuel a e hf ha
      obtain ⟨k, rfl⟩ : ∃ k, fuel = k + 1 := ⟨fuel - 1, by omega⟩
      obtain ⟨a1, q1, q2⟩ := h1 k a j (by omega) ha
      obtain ⟨a2, q3, q4⟩ := ih (j + 1) k a1 (by omega) (by omega) q1
      exact ⟨a2, q3, by rw [q2, q4]⟩
  intro fuel a ha hf
  exact go n 0 fuel a (by omega) hf ha
/-- a loop that stops at the first that fits -/
theorem lo_first {β : Type} {n : Nat} {f : Nat → Nat → β} {no : β} {yes : Nat → β} (M : Nat → Prop) (h0 : ∀ k, f (k + 1) n = no) (h1 : ∀ k j, j < n → M j → f (k + 1) j = yes j) (h2 : ∀ k j, j < n → ¬ M j → f (k + 1) j = f k (j + 1)) : ∀ {fuel : Nat}, n < fuel → (f fuel 0 = no ∧ ∀ i, i < n → ¬ M i) ∨ ∃ i, i < n ∧ M i ∧ f fuel 0 = yes i := by
  have go : ∀ m j fuel, j + m = n → m < fuel → (f fuel j = no ∧ ∀ i, j ≤ i → i < n → ¬ M i) ∨ ∃ i, i < n ∧ M i ∧ f fuel j = yes i := by
    intro m
    induction m with
    | zero =>
      intro j fuel e hf
      obtain ⟨k, rfl⟩ : ∃ k, fuel = k + 1 := ⟨fuel - 1, by omega⟩
      have : j = n := by omega
      subst this
      exact Or.inl ⟨h0 k, fun i a b => absurd b (by omega)⟩
    | succ m ih =>
      intro j fuel e hf
      obtain ⟨k, rfl⟩ : ∃ k, fuel = k + 1 := ⟨fuel - 1, by omega⟩
      by_cases c : M j
      · exact Or.inr ⟨j, by omega, c, h1 k j (by omega) c⟩
      · rw [h2 k j (by omega) c]
        rcases ih (j + 1) k (by omega) (by omega) with ⟨q1, q2⟩ | q
        · refine Or.inl ⟨q1, fun i a b => ?_⟩
          rcases Nat.eq_or_lt_of_le a with r | r
          · subst r; exact c
          · exact q2 i r b
        · exact Or.inr q
  intro fuel hf
  rcases go n 0 fuel (by omega) hf with ⟨q1, q2⟩ | q
  · exact Or.inl ⟨q1, fun i b => q2 i (Nat.zero_le _) b⟩
  · exact Or.inr q
/-- the last that fits, so far -/
def pLast (M : Nat → Prop) (a0 : Int32) (g : Nat → Int32) (j : Nat) (a : Int32) : Prop := (a = a0 ∧ ∀ i, i < j → ¬ M i) ∨ ∃ i, i < j ∧ M i ∧ a = g i
theorem pLast.z {M : Nat → Prop} {a0 : Int32} {g : Nat → Int32} : pLast M a0 g 0 a0 := Or.inl ⟨rfl, fun i h => absurd h (Nat.not_lt_zero _)⟩
theorem pLast.y {M : Nat → Prop} {a0 : Int32} {g : Nat → Int32} {j : Nat} (h : M j) : pLast M a0 g (j + 1) (g j) := Or.inr ⟨j, Nat.lt_succ_self _, h, rfl⟩
theorem pLast.n {M : Nat → Prop} {a0 : Int32} {g : Nat → Int32} {j : Nat} {a : Int32} (q : pLast M a0 g j a) (h : ¬ M j) : pLast M a0 g (j + 1) a := by
  rcases q with ⟨q1, q2⟩ | ⟨i, q1, q2, q3⟩
  · refine Or.inl ⟨q1, fun i hi => ?_⟩
    rcases pu_lt1 hi with r | rfl
    · exact q2 i r
    · exact h
  · exact Or.inr ⟨i, by omega, q2, q3⟩
/-- how many fit, so far -/
noncomputable def pCnt (M : Nat → Prop) : Nat → Nat
  | 0 => 0
  | n + 1 => pCnt M n + @ite Nat (M n) (Classical.propDecidable (M n)) 1 0
theorem pCnt_y {M : Nat → Prop} {n : Nat} (h : M n) : pCnt M (n + 1) = pCnt M n + 1 := by simp [pCnt, h]
theorem pCnt_n {M : Nat → Prop} {n : Nat} (h : ¬ M n) : pCnt M (n + 1) = pCnt M n := by simp [pCnt, h]
theorem pCnt_le (M : Nat → Prop) (n : Nat) : pCnt M n ≤ n := by
  induction n with
  | zero => exact Nat.le_refl _
  | succ n ih =>
    by_cases h : M n
    · rw [pCnt_y h]; omega
    · rw [pCnt_n h]; omega
theorem pCnt_0 {M : Nat → Prop} {n : Nat} : pCnt M n = 0 ↔ ∀ i, i < n → ¬ M i := by
  induction n with
  | zero => exact ⟨fun _ i h => absurd h (Nat.not_lt_zero _), fun _ => rfl⟩
  | succ n ih =>
    by_cases h : M n
    · rw [pCnt_y h]
      exact ⟨fun q => by omega, fun q => absurd h (q n (Nat.lt_succ_self _))⟩
    · rw [pCnt_n h, ih]
      refine ⟨fun q i hi => ?_, fun q i hi => q i (by omega)⟩
      rcases pu_lt1 hi with r | rfl
      · exact q i r
      · exact h
theorem pCnt_mono {M N : Nat → Prop} {n : Nat} (h : ∀ i, i < n → M i → N i) : pCnt M n ≤ pCnt N n := by
  induction n with
  | zero => exact Nat.le_refl _
  | succ n ih =>
    have k := ih (fun i hi => h i (by omega))
    by_cases a : M n
    · rw [pCnt_y a, pCnt_y (h n (Nat.lt_succ_self _) a)]; omega
    · rw [pCnt_n a]
      by_cases b : N n
      · rw [pCnt_y b]; omega
      · rw [pCnt_n b]; exact k
theorem pCnt_lt {M N : Nat → Prop} {n : Nat} (h : ∀ i, i < n → M i → N i) {k : Nat} (hk : k < n) (a : ¬ M k) (b : N k) : pCnt M n < pCnt N n := by
  induction n with
  | zero => exact absurd hk (Nat.not_lt_zero _)
  | succ n ih =>
    rcases pu_lt1 hk with r | rfl
    · have q := ih (fun i hi => h i (by omega)) r
      by_cases c : M n
      · rw [pCnt_y c, pCnt_y (h n (Nat.lt_succ_self _) c)]; omega
      · rw [pCnt_n c]
        by_cases d : N n
        · rw [pCnt_y d]; omega
        · rw [pCnt_n d]; exact q
    · rw [pCnt_n a, pCnt_y b]
      have := pCnt_mono (fun i hi => h i (by omega) : ∀ i, i < k → M i → N i)
      omega
theorem pu_big {m : Nat} (h : m ≤ 1000) : m < pu_fu := Nat.lt_of_le_of_lt h (by decide)

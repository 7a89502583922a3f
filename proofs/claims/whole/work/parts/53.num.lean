/-! PURE: handles -/
theorem pu_sub {a b : Nat} : nI (a + b) - nI a = nI b := by
  have h := pk_sub (a := a + b) (b := a) (Nat.le_add_right a b)
  rw [Nat.add_sub_cancel_left] at h
  exact h
theorem pn_m1 {j : Nat} (h : j < 2 ^ 31) : ¬ nI j = (-1) := by
  intro e
  have h1 := congrArg Int32.toInt e
  rw [nI_toInt h] at h1
  have h2 : (-1 : Int32).toInt = -1 := by decide
  omega
/-- a handle that is there -/
def pIs (k n : Nat) (a : Int32) : Prop := ∃ j, j < n ∧ a = nI (k + j)
theorem pIs_em (k n : Nat) (a : Int32) : pIs k n a ∨ ¬ pIs k n a := Classical.em _
theorem pn_no {k n : Nat} {a : Int32} (hk : k ≤ 1000) (hn : n ≤ 1000) (h : ¬ pIs k n a) : (a - nI k) < 0 ∨ nI n ≤ (a - nI k) := by
  by_cases h1 : (a - nI k) < 0
  · exact Or.inl h1
  by_cases h2 : nI n ≤ (a - nI k)
  · exact Or.inr h2
  exfalso
  obtain ⟨j, hj, e⟩ := nI_of h1
  rw [e] at h2
  have h3 : j < n := by
    rcases Nat.lt_or_ge j n with q | q
    · exact q
    · exact absurd (nI_le q hj) h2
  refine h ⟨j, h3, ?_⟩
  have h4 : a = (a - nI k) + nI k := by rw [Int32.sub_add_cancel]
  rw [h4, e, nI_add, Nat.add_comm]
theorem pm_no {k n : Nat} {a : Int32} (hk : k ≤ 1000) (hn : n ≤ 1000) (h : ¬ pIs k n a) : a < nI k ∨ nI (k + n) ≤ a := by
  by_cases h1 : a < nI k
  · exact Or.inl h1
  by_cases h2 : nI (k + n) ≤ a
  · exact Or.inr h2
  exfalso
  have ha : ¬ a < 0 := fun q => h1 (Int32.lt_of_lt_of_le q (nI_pos' (by omega)))
  obtain ⟨j, hj, e⟩ := nI_of ha
  subst e
  have h3 : j < k + n := by
    rcases Nat.lt_or_ge j (k + n) with q | q
    · exact q
    · exact absurd (nI_le q hj) h2
  have h4 : k ≤ j := by
    rcases Nat.lt_or_ge j k with q | q
    · exact absurd (nI_lt q (by omega)) h1
    · exact q
  exact h ⟨j - k, by omega, by rw [Nat.add_sub_cancel' h4]⟩
theorem pm_is0 {sm : pu_St} {a x : Int32} {k n : Nat} (hx : x = nI k) (hk9 : k < 10) (hn : n ≤ 100) (hm : sm.2 0 k = nI n) (h : ¬ pIs (100 * k) n a) : f_Md_is sm a x = some 0 := by
  subst hx
  have e1 : (100 : Int32) * nI k = nI (100 * k) := pk_mul 100 k
  unfold f_Md_is
  rw [e1, pu_ld_nI hk9 (by decide), hm]
  show (if a < nI (100 * k) then some 0 else if nI (100 * k) + nI n ≤ a then some 0 else some 1) = some 0
  rw [nI_add]
  rcases pm_no (by omega) (by omega) h with h1 | h1
  · rw [if_pos h1]
  · rw [if_pos h1]
    split <;> rfl
theorem pm_is1 {sm : pu_St} {x : Int32} {k n j : Nat} (hx : x = nI k) (hk9 : k < 10) (hn : n ≤ 100) (hm : sm.2 0 k = nI n) (h : j < n) : f_Md_is sm (nI (100 * k + j)) x = some 1 := by
  subst hx
  have e1 : (100 : Int32) * nI k = nI (100 * k) := pk_mul 100 k
  unfold f_Md_is
  rw [e1, pu_ld_nI hk9 (by decide), hm]
  show (if nI (100 * k + j) < nI (100 * k) then some 0 else if nI (100 * k) + nI n ≤ nI (100 * k + j) then some 0 else some 1) = some 1
  rw [nI_add, if_neg (nI_nlt (by omega) (by omega)), if_neg (nI_ge (by omega) (by omega))]
theorem pn_De0 {st : pu_St} {a : Int32} {n : Nat} (hn : n ≤ 100) (hs : st.1 2 = nI n) (h : ¬ pIs 100 n a) : f_Rg_numberFor_De st a = some (-1) := by
  unfold f_Rg_numberFor_De
  rw [hs]
  rcases pn_no (k := 100) (by omega) (by omega) h with h1 | h1
  · rw [if_pos (show (a - 100) < 0 from h1)]; rfl
  · by_cases h2 : (a - 100) < 0
    · rw [if_pos h2]; rfl
    · rw [if_neg h2, if_pos (show nI n ≤ (a - 100) from h1)]; rfl
theorem pn_De1 {st : pu_St} {n j : Nat} (hn : n ≤ 100) (hs : st.1 2 = nI n) (h : j < n) : f_Rg_numberFor_De st (nI (100 + j)) = some (nI j) := by
  unfold f_Rg_numberFor_De
  have e : nI (100 + j) - 100 = nI j := pu_sub
  rw [e, hs, if_neg (nI_pos (by omega)), if_neg (nI_ge h (by omega))]
theorem pq_De0 {st : pu_St} {a : Int32} {n : Nat} (hn : n ≤ 100) (hs : st.1 2 = nI n) (h : ¬ pIs 100 n a) : f_H_numberOf_De st a = some (.inr 1, (va_up st.1 1 1, st.2)) := by
  unfold f_H_numberOf_De
  rw [pn_De0 hn hs h]
  rfl
theorem pq_De1 {st : pu_St} {n j : Nat} (hn : n ≤ 100) (hs : st.1 2 = nI n) (h : j < n) : f_H_numberOf_De st (nI (100 + j)) = some (.inl (nI j), st) := by
  unfold f_H_numberOf_De
  rw [pn_De1 hn hs h]
  show (if nI j = (-1) then _ else _) = _
  rw [if_neg (pn_m1 (by omega))]
theorem pn_Si0 {st : pu_St} {a : Int32} {n : Nat} (hn : n ≤ 100) (hs : st.1 3 = nI n) (h : ¬ pIs 200 n a) : f_Rg_numberFor_Si st a = some (-1) := by
  unfold f_Rg_numberFor_Si
  rw [hs]
  rcases pn_no (k := 200) (by omega) (by omega) h with h1 | h1
  · rw [if_pos (show (a - 200) < 0 from h1)]; rfl
  · by_cases h2 : (a - 200) < 0
    · rw [if_pos h2]; rfl
    · rw [if_neg h2, if_pos (show nI n ≤ (a - 200) from h1)]; rfl
theorem pn_Si1 {st : pu_St} {n j : Nat} (hn : n ≤ 100) (hs : st.1 3 = nI n) (h : j < n) : f_Rg_numberFor_Si st (nI (200 + j)) = some (nI j) := by
  unfold f_Rg_numberFor_Si
  have e : nI (200 + j) - 200 = nI j := pu_sub
  rw [e, hs, if_neg (nI_pos (by omega)), if_neg (nI_ge h (by omega))]
theorem pq_Si0 {st : pu_St} {a : Int32} {n : Nat} (hn : n ≤ 100) (hs : st.1 3 = nI n) (h : ¬ pIs 200 n a) : f_H_numberOf_Si st a = some (.inr 1, (va_up st.1 1 1, st.2)) := by
  unfold f_H_numberOf_Si
  rw [pn_Si0 hn hs h]
  rfl
theorem pq_Si1 {st : pu_St} {n j : Nat} (hn : n ≤ 100) (hs : st.1 3 = nI n) (h : j < n) : f_H_numberOf_Si st (nI (200 + j)) = some (.inl (nI j), st) := by
  unfold f_H_numberOf_Si
  rw [pn_Si1 hn hs h]
  show (if nI j = (-1) then _ else _) = _
  rw [if_neg (pn_m1 (by omega))]
theorem pn_Co0 {st : pu_St} {a : Int32} {n : Nat} (hn : n ≤ 100) (hs : st.1 4 = nI n) (h : ¬ pIs 300 n a) : f_Rg_numberFor_Co st a = some (-1) := by
  unfold f_Rg_numberFor_Co
  rw [hs]
  rcases pn_no (k := 300) (by omega) (by omega) h with h1 | h1
  · rw [if_pos (show (a - 300) < 0 from h1)]; rfl
  · by_cases h2 : (a - 300) < 0
    · rw [if_pos h2]; rfl
    · rw [if_neg h2, if_pos (show nI n ≤ (a - 300) from h1)]; rfl
theorem pn_Co1 {st : pu_St} {n j : Nat} (hn : n ≤ 100) (hs : st.1 4 = nI n) (h : j < n) : f_Rg_numberFor_Co st (nI (300 + j)) = some (nI j) := by
  unfold f_Rg_numberFor_Co
  have e : nI (300 + j) - 300 = nI j := pu_sub
  rw [e, hs, if_neg (nI_pos (by omega)), if_neg (nI_ge h (by omega))]
theorem pq_Co0 {st : pu_St} {a : Int32} {n : Nat} (hn : n ≤ 100) (hs : st.1 4 = nI n) (h : ¬ pIs 300 n a) : f_H_numberOf_Co st a = some (.inr 1, (va_up st.1 1 1, st.2)) := by
  unfold f_H_numberOf_Co
  rw [pn_Co0 hn hs h]
  rfl
theorem pq_Co1 {st : pu_St} {n j : Nat} (hn : n ≤ 100) (hs : st.1 4 = nI n) (h : j < n) : f_H_numberOf_Co st (nI (300 + j)) = some (.inl (nI j), st) := by
  unfold f_H_numberOf_Co
  rw [pn_Co1 hn hs h]
  show (if nI j = (-1) then _ else _) = _
  rw [if_neg (pn_m1 (by omega))]
theorem pn_Fi0 {st : pu_St} {a : Int32} {n : Nat} (hn : n ≤ 100) (hs : st.1 5 = nI n) (h : ¬ pIs 400 n a) : f_Rg_numberFor_Fi st a = some (-1) := by
  unfold f_Rg_numberFor_Fi
  rw [hs]
  rcases pn_no (k := 400) (by omega) (by omega) h with h1 | h1
  · rw [if_pos (show (a - 400) < 0 from h1)]; rfl
  · by_cases h2 : (a - 400) < 0
    · rw [if_pos h2]; rfl
    · rw [if_neg h2, if_pos (show nI n ≤ (a - 400) from h1)]; rfl
theorem pn_Fi1 {st : pu_St} {n j : Nat} (hn : n ≤ 100) (hs : st.1 5 = nI n) (h : j < n) : f_Rg_numberFor_Fi st (nI (400 + j)) = some (nI j) := by
  unfold f_Rg_numberFor_Fi
  have e : nI (400 + j) - 400 = nI j := pu_sub
  rw [e, hs, if_neg (nI_pos (by omega)), if_neg (nI_ge h (by omega))]
theorem pq_Fi0 {st : pu_St} {a : Int32} {n : Nat} (hn : n ≤ 100) (hs : st.1 5 = nI n) (h : ¬ pIs 400 n a) : f_H_numberOf_Fi st a = some (.inr 1, (va_up st.1 1 1, st.2)) := by
  unfold f_H_numberOf_Fi
  rw [pn_Fi0 hn hs h]
  rfl
theorem pq_Fi1 {st : pu_St} {n j : Nat} (hn : n ≤ 100) (hs : st.1 5 = nI n) (h : j < n) : f_H_numberOf_Fi st (nI (400 + j)) = some (.inl (nI j), st) := by
  unfold f_H_numberOf_Fi
  rw [pn_Fi1 hn hs h]
  show (if nI j = (-1) then _ else _) = _
  rw [if_neg (pn_m1 (by omega))]
theorem pn_It0 {st : pu_St} {a : Int32} {n : Nat} (hn : n ≤ 100) (hs : st.1 6 = nI n) (h : ¬ pIs 500 n a) : f_Rg_numberFor_It st a = some (-1) := by
  unfold f_Rg_numberFor_It
  rw [hs]
  rcases pn_no (k := 500) (by omega) (by omega) h with h1 | h1
  · rw [if_pos (show (a - 500) < 0 from h1)]; rfl
  · by_cases h2 : (a - 500) < 0
    · rw [if_pos h2]; rfl
    · rw [if_neg h2, if_pos (show nI n ≤ (a - 500) from h1)]; rfl
theorem pn_It1 {st : pu_St} {n j : Nat} (hn : n ≤ 100) (hs : st.1 6 = nI n) (h : j < n) : f_Rg_numberFor_It st (nI (500 + j)) = some (nI j) := by
  unfold f_Rg_numberFor_It
  have e : nI (500 + j) - 500 = nI j := pu_sub
  rw [e, hs, if_neg (nI_pos (by omega)), if_neg (nI_ge h (by omega))]
theorem pq_It0 {st : pu_St} {a : Int32} {n : Nat} (hn : n ≤ 100) (hs : st.1 6 = nI n) (h : ¬ pIs 500 n a) : f_H_numberOf_It st a = some (.inr 1, (va_up st.1 1 1, st.2)) := by
  unfold f_H_numberOf_It
  rw [pn_It0 hn hs h]
  rfl
theorem pq_It1 {st : pu_St} {n j : Nat} (hn : n ≤ 100) (hs : st.1 6 = nI n) (h : j < n) : f_H_numberOf_It st (nI (500 + j)) = some (.inl (nI j), st) := by
  unfold f_H_numberOf_It
  rw [pn_It1 hn hs h]
  show (if nI j = (-1) then _ else _) = _
  rw [if_neg (pn_m1 (by omega))]
theorem pn_So0 {st : pu_St} {a : Int32} {n : Nat} (hn : n ≤ 100) (hs : st.1 7 = nI n) (h : ¬ pIs 600 n a) : f_Rg_numberFor_So st a = some (-1) := by
  unfold f_Rg_numberFor_So
  rw [hs]
  rcases pn_no (k := 600) (by omega) (by omega) h with h1 | h1
  · rw [if_pos (show (a - 600) < 0 from h1)]; rfl
  · by_cases h2 : (a - 600) < 0
    · rw [if_pos h2]; rfl
    · rw [if_neg h2, if_pos (show nI n ≤ (a - 600) from h1)]; rfl
theorem pn_So1 {st : pu_St} {n j : Nat} (hn : n ≤ 100) (hs : st.1 7 = nI n) (h : j < n) : f_Rg_numberFor_So st (nI (600 + j)) = some (nI j) := by
  unfold f_Rg_numberFor_So
  have e : nI (600 + j) - 600 = nI j := pu_sub
  rw [e, hs, if_neg (nI_pos (by omega)), if_neg (nI_ge h (by omega))]
theorem pq_So0 {st : pu_St} {a : Int32} {n : Nat} (hn : n ≤ 100) (hs : st.1 7 = nI n) (h : ¬ pIs 600 n a) : f_H_numberOf_So st a = some (.inr 1, (va_up st.1 1 1, st.2)) := by
  unfold f_H_numberOf_So
  rw [pn_So0 hn hs h]
  rfl
theorem pq_So1 {st : pu_St} {n j : Nat} (hn : n ≤ 100) (hs : st.1 7 = nI n) (h : j < n) : f_H_numberOf_So st (nI (600 + j)) = some (.inl (nI j), st) := by
  unfold f_H_numberOf_So
  rw [pn_So1 hn hs h]
  show (if nI j = (-1) then _ else _) = _
  rw [if_neg (pn_m1 (by omega))]
theorem pn_Lo0 {st : pu_St} {a : Int32} {n : Nat} (hn : n ≤ 100) (hs : st.1 8 = nI n) (h : ¬ pIs 700 n a) : f_Rg_numberFor_Lo st a = some (-1) := by
  unfold f_Rg_numberFor_Lo
  rw [hs]
  rcases pn_no (k := 700) (by omega) (by omega) h with h1 | h1
  · rw [if_pos (show (a - 700) < 0 from h1)]; rfl
  · by_cases h2 : (a - 700) < 0
    · rw [if_pos h2]; rfl
    · rw [if_neg h2, if_pos (show nI n ≤ (a - 700) from h1)]; rfl
theorem pn_Lo1 {st : pu_St} {n j : Nat} (hn : n ≤ 100) (hs : st.1 8 = nI n) (h : j < n) : f_Rg_numberFor_Lo st (nI (700 + j)) = some (nI j) := by
  unfold f_Rg_numberFor_Lo
  have e : nI (700 + j) - 700 = nI j := pu_sub
  rw [e, hs, if_neg (nI_pos (by omega)), if_neg (nI_ge h (by omega))]
theorem pq_Lo0 {st : pu_St} {a : Int32} {n : Nat} (hn : n ≤ 100) (hs : st.1 8 = nI n) (h : ¬ pIs 700 n a) : f_H_numberOf_Lo st a = some (.inr 1, (va_up st.1 1 1, st.2)) := by
  unfold f_H_numberOf_Lo
  rw [pn_Lo0 hn hs h]
  rfl
theorem pq_Lo1 {st : pu_St} {n j : Nat} (hn : n ≤ 100) (hs : st.1 8 = nI n) (h : j < n) : f_H_numberOf_Lo st (nI (700 + j)) = some (.inl (nI j), st) := by
  unfold f_H_numberOf_Lo
  rw [pn_Lo1 hn hs h]
  show (if nI j = (-1) then _ else _) = _
  rw [if_neg (pn_m1 (by omega))]
theorem pn_Sh0 {st : pu_St} {a : Int32} {n : Nat} (hn : n ≤ 100) (hs : st.1 9 = nI n) (h : ¬ pIs 800 n a) : f_Rg_numberFor_Sh st a = some (-1) := by
  unfold f_Rg_numberFor_Sh
  rw [hs]
  rcases pn_no (k := 800) (by omega) (by omega) h with h1 | h1
  · rw [if_pos (show (a - 800) < 0 from h1)]; rfl
  · by_cases h2 : (a - 800) < 0
    · rw [if_pos h2]; rfl
    · rw [if_neg h2, if_pos (show nI n ≤ (a - 800) from h1)]; rfl
theorem pn_Sh1 {st : pu_St} {n j : Nat} (hn : n ≤ 100) (hs : st.1 9 = nI n) (h : j < n) : f_Rg_numberFor_Sh st (nI (800 + j)) = some (nI j) := by
  unfold f_Rg_numberFor_Sh
  have e : nI (800 + j) - 800 = nI j := pu_sub
  rw [e, hs, if_neg (nI_pos (by omega)), if_neg (nI_ge h (by omega))]
theorem pq_Sh0 {st : pu_St} {a : Int32} {n : Nat} (hn : n ≤ 100) (hs : st.1 9 = nI n) (h : ¬ pIs 800 n a) : f_H_numberOf_Sh st a = some (.inr 1, (va_up st.1 1 1, st.2)) := by
  unfold f_H_numberOf_Sh
  rw [pn_Sh0 hn hs h]
  rfl
theorem pq_Sh1 {st : pu_St} {n j : Nat} (hn : n ≤ 100) (hs : st.1 9 = nI n) (h : j < n) : f_H_numberOf_Sh st (nI (800 + j)) = some (.inl (nI j), st) := by
  unfold f_H_numberOf_Sh
  rw [pn_Sh1 hn hs h]
  show (if nI j = (-1) then _ else _) = _
  rw [if_neg (pn_m1 (by omega))]
theorem pn_Cl0 {st : pu_St} {a : Int32} {n : Nat} (hn : n ≤ 100) (hs : st.1 10 = nI n) (h : ¬ pIs 900 n a) : f_Rg_numberFor_Cl st a = some (-1) := by
  unfold f_Rg_numberFor_Cl
  rw [hs]
  rcases pn_no (k := 900) (by omega) (by omega) h with h1 | h1
  · rw [if_pos (show (a - 900) < 0 from h1)]; rfl
  · by_cases h2 : (a - 900) < 0
    · rw [if_pos h2]; rfl
    · rw [if_neg h2, if_pos (show nI n ≤ (a - 900) from h1)]; rfl
theorem pn_Cl1 {st : pu_St} {n j : Nat} (hn : n ≤ 100) (hs : st.1 10 = nI n) (h : j < n) : f_Rg_numberFor_Cl st (nI (900 + j)) = some (nI j) := by
  unfold f_Rg_numberFor_Cl
  have e : nI (900 + j) - 900 = nI j := pu_sub
  rw [e, hs, if_neg (nI_pos (by omega)), if_neg (nI_ge h (by omega))]
theorem pq_Cl0 {st : pu_St} {a : Int32} {n : Nat} (hn : n ≤ 100) (hs : st.1 10 = nI n) (h : ¬ pIs 900 n a) : f_H_numberOf_Cl st a = some (.inr 1, (va_up st.1 1 1, st.2)) := by
  unfold f_H_numberOf_Cl
  rw [pn_Cl0 hn hs h]
  rfl
theorem pq_Cl1 {st : pu_St} {n j : Nat} (hn : n ≤ 100) (hs : st.1 10 = nI n) (h : j < n) : f_H_numberOf_Cl st (nI (900 + j)) = some (.inl (nI j), st) := by
  unfold f_H_numberOf_Cl
  rw [pn_Cl1 hn hs h]
  show (if nI j = (-1) then _ else _) = _
  rw [if_neg (pn_m1 (by omega))]

/-! PURE: loans, shows and claims that are met -/
def pML (I F T : Nat → Int32) (x a b : Int32) (i : Nat) : Prop := I i = x ∧ ¬ b < F i ∧ ¬ T i < a
theorem lh_loan {st : pu_St} {n : Nat} (hs : st.1 8 = nI n) (hn : n ≤ 40) (x a b : Int32) : (f_Lo_having st x a b = some (-1) ∧ ∀ i, i < n → ¬ pML (st.2 13) (st.2 14) (st.2 15) x a b i) ∨ ∃ i, i < n ∧ pML (st.2 13) (st.2 14) (st.2 15) x a b i ∧ f_Lo_having st x a b = some (nI i) := by
  refine lo_first (n := n) (f := fun k j => f_Lo_having_b3 k st x a b (nI j)) (no := some (-1)) (yes := fun i => some (nI i)) (pML (st.2 13) (st.2 14) (st.2 15) x a b) (fun k => ?_) (fun k j hj h => ?_) (fun k j hj h => ?_) (pu_big (by omega))
  · simp only [f_Lo_having_b3, f_Rg_size_Lo, hs, Int32.le_refl, pb_s, ↓reduceIte, pi_0, pi_1, px_l, px_r, pi_q, pi_r, pu_b0, pu_b1, if_true, if_false]
  · have c : ¬ nI n ≤ nI j := nI_ge hj (by omega)
    have l : ∀ f : Nat → Int32, pu_ld f 40 (nI j) = some (f j) := fun f => pu_ld_nI (by omega) (by decide)
    obtain ⟨m1, m2, m3⟩ := h
    simp only [f_Lo_having_b3, f_Rg_size_Lo, hs, c, l, m1, f_H_daysMeet, m2, m3, pb_s, ↓reduceIte, pi_0, pi_1, px_l, px_r, pi_q, pi_r, pu_b0, pu_b1, if_true, if_false]
  · have c : ¬ nI n ≤ nI j := nI_ge hj (by omega)
    have l : ∀ f : Nat → Int32, pu_ld f 40 (nI j) = some (f j) := fun f => pu_ld_nI (by omega) (by decide)
    simp only [f_Lo_having_b3, f_Rg_size_Lo, hs, c, l, nI_1, pb_s, ↓reduceIte, pi_0, pi_1, px_l, px_r, pi_q, pi_r, pu_b0, pu_b1, if_true, if_false]
    by_cases m1 : st.2 13 j = x
    · by_cases m2 : b < st.2 14 j
      · simp only [f_H_daysMeet, m1, m2, pb_s, ↓reduceIte, pi_0, pi_1, px_l, px_r, pi_q, pi_r, pu_b0, pu_b1, if_true, if_false]
      · by_cases m3 : st.2 15 j < a
        · simp only [f_H_daysMeet, m1, m2, m3, pb_s, ↓reduceIte, pi_0, pi_1, px_l, px_r, pi_q, pi_r, pu_b0, pu_b1, if_true, if_false]
        · exact absurd ⟨m1, m2, m3⟩ h
    · simp only [m1, pb_s, ↓reduceIte, pi_0, pi_1, px_l, px_r, pi_q, pi_r, pu_b0, pu_b1, if_true, if_false]
theorem lm_loan {sm : pu_St} {n : Nat} (hs : sm.2 0 7 = nI n) (hn : n ≤ 40) (x a b : Int32) : (f_Md_loanAt sm x a b = some 0 ∧ ∀ i, i < n → ¬ pML (sm.2 14) (sm.2 15) (sm.2 16) x a b i) ∨ ∃ i, i < n ∧ pML (sm.2 14) (sm.2 15) (sm.2 16) x a b i ∧ f_Md_loanAt sm x a b = some (nI (700 + i)) := by
  have l7 : pu_ld (sm.2 0) 10 7 = some (nI n) := by rw [← hs]; exact pu_ld_nI (j := 7) (by decide) (by decide)
  suffices key : ∃ r, pLast (pML (sm.2 14) (sm.2 15) (sm.2 16) x a b) 0 (fun i => nI (700 + i)) n r ∧ f_Md_loanAt sm x a b = some r by
    obtain ⟨r, h1, h2⟩ := key
    rcases h1 with ⟨rfl, q⟩ | ⟨i, q1, q2, rfl⟩
    · exact Or.inl ⟨h2, q⟩
    · exact Or.inr ⟨i, q1, q2, h2⟩
  refine lo_inv (n := n) (f := fun k c j => f_Md_loanAt_b6 k sm x a b c (nI j)) (out := fun c => some c) (pLast (pML (sm.2 14) (sm.2 15) (sm.2 16) x a b) 0 (fun i => nI (700 + i))) (fun k c _ => ?_) (fun k c j hj h => ?_) (fuel := pu_fu) (a := 0) pLast.z (pu_big (by omega))
  · simp only [f_Md_loanAt_b6, l7, Int32.le_refl, pb_s, ↓reduceIte, pi_0, pi_1, px_l, px_r, pi_q, pi_r, pu_b0, pu_b1, if_true, if_false]
  · have cc : ¬ nI n ≤ nI j := nI_ge hj (by omega)
    have l : ∀ f : Nat → Int32, pu_ld f 40 (nI j) = some (f j) := fun f => pu_ld_nI (by omega) (by decide)
    by_cases m1 : sm.2 14 j = x
    · by_cases m2 : b < sm.2 15 j
      · exact ⟨c, h.n (fun q => q.2.1 m2), by simp only [f_Md_loanAt_b6, l7, cc, l, m1, m2, nI_1, pb_s, ↓reduceIte, pi_0, pi_1, px_l, px_r, pi_q, pi_r, pu_b0, pu_b1, if_true, if_false]⟩
      · by_cases m3 : sm.2 16 j < a
        · exact ⟨c, h.n (fun q => q.2.2 m3), by simp only [f_Md_loanAt_b6, l7, cc, l, m1, m2, m3, nI_1, pb_s, ↓reduceIte, pi_0, pi_1, px_l, px_r, pi_q, pi_r, pu_b0, pu_b1, if_true, if_false]⟩
        · exact ⟨nI (700 + j), pLast.y ⟨m1, m2, m3⟩, by simp only [f_Md_loanAt_b6, l7, cc, l, m1, m2, m3, nI_1, pH_Lo, pb_s, ↓reduceIte, pi_0, pi_1, px_l, px_r, pi_q, pi_r, pu_b0, pu_b1, if_true, if_false]⟩
    · exact ⟨c, h.n (fun q => m1 q.1), by simp only [f_Md_loanAt_b6, l7, cc, l, m1, nI_1, pb_s, ↓reduceIte, pi_0, pi_1, px_l, px_r, pi_q, pi_r, pu_b0, pu_b1, if_true, if_false]⟩
/-- a loan that has the object: on both sides alike -/
theorem pl_free {st sm : pu_St} {n : Nat → Nat} (hN : qN n st.1 sm.1 (sm.2 0)) (hA : qA n st.2 sm.2) {o : Nat} (ho : o < n 5) (a b : Int32) :
    (f_Lo_having st (nI o) a b = some (-1) ∧ f_Md_loanAt sm (nI (500 + o)) a b = some 0 ∧ ∀ i, i < n 7 → ¬ pML (st.2 13) (st.2 14) (st.2 15) (nI o) a b i) ∨ (∃ i i', i < n 7 ∧ i' < n 7 ∧ pML (st.2 13) (st.2 14) (st.2 15) (nI o) a b i ∧ pML (st.2 13) (st.2 14) (st.2 15) (nI o) a b i' ∧ f_Lo_having st (nI o) a b = some (nI i) ∧ f_Md_loanAt sm (nI (500 + o)) a b = some (nI (700 + i'))) := by
  have c5 : n 5 ≤ 30 := hN.c (k := 5) (by decide) (by decide)
  have c7 : n 7 ≤ 40 := hN.c (k := 7) (by decide) (by decide)
  have eq : ∀ i, i < n 7 → (pML (sm.2 14) (sm.2 15) (sm.2 16) (nI (500 + o)) a b i ↔ pML (st.2 13) (st.2 14) (st.2 15) (nI o) a b i) := by
    intro i hi
    obtain ⟨I, F, T, k1, k2⟩ := hA.2.2.2.2.2.2.1
    obtain ⟨q1, q2, q3, q4, q5, q6, q7, q8, q9⟩ := k1 i hi
    unfold pML
    rw [q4, q5, q6, q7, q8, q9, nI_eq (by omega) (by omega), nI_eq (by omega) (by omega)]
    constructor
    · rintro ⟨r1, r2⟩; exact ⟨by omega, r2⟩
    · rintro ⟨r1, r2⟩; exact ⟨by omega, r2⟩
  rcases lh_loan (ps_Lo hN) c7 (nI o) a b with ⟨h1, h2⟩ | ⟨i, h1, h2, h3⟩
  · rcases lm_loan (sm := sm) (n := n 7) (hN.m (by decide) (by decide)) c7 (nI (500 + o)) a b with ⟨k1, k2⟩ | ⟨i', k1, k2, k3⟩
    · exact Or.inl ⟨h1, k1, h2⟩
    · exact absurd ((eq i' k1).mp k2) (h2 i' k1)
  · rcases lm_loan (sm := sm) (n := n 7) (hN.m (by decide) (by decide)) c7 (nI (500 + o)) a b with ⟨k1, k2⟩ | ⟨i', k1, k2, k3⟩
    · exact absurd ((eq i h1).mpr h2) (k2 i h1)
    · exact Or.inr ⟨i, i', h1, k1, h2, (eq i' k1).mp k2, h3, k3⟩
def pMS (F T : Nat → Int32) (U : Nat → Nat → Prop) (o : Nat) (a b : Int32) (i : Nat) : Prop := U i o ∧ ¬ b < F i ∧ ¬ T i < a
theorem lh_show {st : pu_St} {n : Nat} (hs : st.1 9 = nI n) (hn : n ≤ 10) {U : Nat → Nat → Prop} {o : Nat} (hU : ∀ i, i < n → (pOff (st.2 19 i) o ↔ ¬ U i o)) (a b : Int32) : (f_Sh_having st (nI o) a b = some (-1) ∧ ∀ i, i < n → ¬ pMS (st.2 17) (st.2 18) U o a b i) ∨ ∃ i, i < n ∧ pMS (st.2 17) (st.2 18) U o a b i ∧ f_Sh_having st (nI o) a b = some (nI i) := by
  refine lo_first (n := n) (f := fun k j => f_Sh_having_b3 k st (nI o) a b (nI j)) (no := some (-1)) (yes := fun i => some (nI i)) (pMS (st.2 17) (st.2 18) U o a b) (fun k => ?_) (fun k j hj h => ?_) (fun k j hj h => ?_) (pu_big (by omega))
  · simp only [f_Sh_having_b3, f_Rg_size_Sh, hs, Int32.le_refl, pb_s, ↓reduceIte, pi_0, pi_1, px_l, px_r, pi_q, pi_r, pu_b0, pu_b1, if_true, if_false]
  · have c : ¬ nI n ≤ nI j := nI_ge hj (by omega)
    have l : ∀ f : Nat → Int32, pu_ld f 10 (nI j) = some (f j) := fun f => pu_ld_nI (by omega) (by decide)
    obtain ⟨m1, m2, m3⟩ := h
    have m0 : ¬ (st.2 19 j &&& ((1 : Int32) <<< (nI o &&& 31))) = 0 := fun q => (hU j hj).mp q m1
    simp only [f_Sh_having_b3, f_Rg_size_Sh, hs, c, l, f_Sh_holds, m0, f_H_daysMeet, m2, m3, pb_s, ↓reduceIte, pi_0, pi_1, px_l, px_r, pi_q, pi_r, pu_b0, pu_b1, if_true, if_false]
  · have c : ¬ nI n ≤ nI j := nI_ge hj (by omega)
    have l : ∀ f : Nat → Int32, pu_ld f 10 (nI j) = some (f j) := fun f => pu_ld_nI (by omega) (by decide)
    by_cases m0 : (st.2 19 j &&& ((1 : Int32) <<< (nI o &&& 31))) = 0
    · simp only [f_Sh_having_b3, f_Rg_size_Sh, hs, c, l, f_Sh_holds, m0, nI_1, pb_s, ↓reduceIte, pi_0, pi_1, px_l, px_r, pi_q, pi_r, pu_b0, pu_b1, if_true, if_false]
    · have m1 : U j o := Classical.not_not.mp (fun q => m0 ((hU j hj).mpr q))
      by_cases m2 : b < st.2 17 j
      · simp only [f_Sh_having_b3, f_Rg_size_Sh, hs, c, l, f_Sh_holds, m0, f_H_daysMeet, m2, nI_1, pb_s, ↓reduceIte, pi_0, pi_1, px_l, px_r, pi_q, pi_r, pu_b0, pu_b1, if_true, if_false]
      · by_cases m3 : st.2 18 j < a
        · simp only [f_Sh_having_b3, f_Rg_size_Sh, hs, c, l, f_Sh_holds, m0, f_H_daysMeet, m2, m3, nI_1, pb_s, ↓reduceIte, pi_0, pi_1, px_l, px_r, pi_q, pi_r, pu_b0, pu_b1, if_true, if_false]
        · exact absurd ⟨m1, m2, m3⟩ h
theorem pu_row {j o : Nat} : ((30 : Int32) * nI j) + nI (500 + o) - 500 = nI (30 * j + o) := by
  have e : (30 : Int32) * nI j = nI (30 * j) := pk_mul 30 j
  have e3 : (500 : Int32) = nI 500 := (rfl)
  have e4 : 30 * j + (500 + o) - 500 = 30 * j + o := by omega
  rw [e, nI_add, e3, pk_sub (by omega), e4]
theorem lm_show {sm : pu_St} {n : Nat} (hs : sm.2 0 8 = nI n) (hn : n ≤ 10) {U : Nat → Nat → Prop} {o : Nat} (ho : o < 30) (hU : ∀ i, i < 10 → (sm.2 20 (30 * i + o) = 1 ∧ U i o) ∨ (sm.2 20 (30 * i + o) = 0 ∧ ¬ U i o)) (a b w : Int32) : (f_Md_showAt sm (nI (500 + o)) a b w = some 0 ∧ ∀ i, i < n → ¬ nI i = w → ¬ pMS (sm.2 18) (sm.2 19) U o a b i) ∨ ∃ i, i < n ∧ ¬ nI i = w ∧ pMS (sm.2 18) (sm.2 19) U o a b i ∧ f_Md_showAt sm (nI (500 + o)) a b w = some (nI (800 + i)) := by
  have l8 : pu_ld (sm.2 0) 10 8 = some (nI n) := by rw [← hs]; exact pu_ld_nI (j := 8) (by decide) (by decide)
  suffices key : ∃ r, pLast (fun i => ¬ nI i = w ∧ pMS (sm.2 18) (sm.2 19) U o a b i) 0 (fun i => nI (800 + i)) n r ∧ f_Md_showAt sm (nI (500 + o)) a b w = some r by
    obtain ⟨r, h1, h2⟩ := key
    rcases h1 with ⟨rfl, q⟩ | ⟨i, q1, q2, rfl⟩
    · exact Or.inl ⟨h2, fun i hi h3 h4 => q i hi ⟨h3, h4⟩⟩
    · exact Or.inr ⟨i, q1, q2.1, q2.2, h2⟩
  refine lo_inv (n := n) (f := fun k c j => f_Md_showAt_b6 k sm (nI (500 + o)) a b w c (nI j)) (out := fun c => some c) (pLast (fun i => ¬ nI i = w ∧ pMS (sm.2 18) (sm.2 19) U o a b i) 0 (fun i => nI (800 + i))) (fun k c _ => ?_) (fun k c j hj h => ?_) (fuel := pu_fu) (a := 0) pLast.z (pu_big (by omega))
  · simp only [f_Md_showAt_b6, l8, Int32.le_refl, pb_s, ↓reduceIte, pi_0, pi_1, px_l, px_r, pi_q, pi_r, pu_b0, pu_b1, if_true, if_false]
  · have cc : ¬ nI n ≤ nI j := nI_ge hj (by omega)
    have l : ∀ f : Nat → Int32, pu_ld f 10 (nI j) = some (f j) := fun f => pu_ld_nI (by omega) (by decide)
    have lr : ∀ f : Nat → Int32, pu_ld f 300 (((30 : Int32) * nI j) + nI (500 + o) - 500) = some (f (30 * j + o)) := fun f => by rw [pu_row]; exact pu_ld_nI (by omega) (by decide)
    by_cases m4 : nI j = w
    · exact ⟨c, h.n (fun q => q.1 m4), by subst m4; simp only [f_Md_showAt_b6, l8, cc, nI_1, pb_s, ↓reduceIte, pi_0, pi_1, px_l, px_r, pi_q, pi_r, pu_b0, pu_b1, if_true, if_false]⟩
    rcases hU j (by omega) with ⟨u1, u2⟩ | ⟨u1, u2⟩
    · by_cases m2 : b < sm.2 18 j
      · exact ⟨c, h.n (fun q => q.2.2.1 m2), by simp only [f_Md_showAt_b6, l8, cc, m4, lr, u1, l, m2, nI_1, pb_s, ↓reduceIte, pi_0, pi_1, px_l, px_r, pi_q, pi_r, pu_b0, pu_b1, if_true, if_false]⟩
      · by_cases m3 : sm.2 19 j < a
        · exact ⟨c, h.n (fun q => q.2.2.2 m3), by simp only [f_Md_showAt_b6, l8, cc, m4, lr, u1, l, m2, m3, nI_1, pb_s, ↓reduceIte, pi_0, pi_1, px_l, px_r, pi_q, pi_r, pu_b0, pu_b1, if_true, if_false]⟩
        · exact ⟨nI (800 + j), pLast.y ⟨m4, u2, m2, m3⟩, by simp only [f_Md_showAt_b6, l8, cc, m4, lr, u1, l, m2, m3, nI_1, pH_Sh, pb_s, ↓reduceIte, pi_0, pi_1, px_l, px_r, pi_q, pi_r, pu_b0, pu_b1, if_true, if_false]⟩
    · exact ⟨c, h.n (fun q => u2 q.2.1), by simp only [f_Md_showAt_b6, l8, cc, m4, lr, u1, nI_1, pb_s, ↓reduceIte, pi_0, pi_1, px_l, px_r, pi_q, pi_r, pu_b0, pu_b1, if_true, if_false]⟩

theorem ps_free {st sm : pu_St} {n : Nat → Nat} (hN : qN n st.1 sm.1 (sm.2 0)) {S F T : Nat → Nat} {U : Nat → Nat → Prop} (k1 : ∀ j, j < n 8 → S j < n 6 ∧ F j ≤ 9999 ∧ T j ≤ 9999 ∧ st.2 16 j = nI (S j) ∧ sm.2 17 j = nI (600 + S j) ∧ st.2 17 j = nI (F j) ∧ sm.2 18 j = nI (F j) ∧ st.2 18 j = nI (T j) ∧ sm.2 19 j = nI (T j)) (k3 : ∀ j o, j < 10 → o < 30 → (sm.2 20 (30 * j + o) = 1 ∧ U j o) ∨ (sm.2 20 (30 * j + o) = 0 ∧ ¬ U j o)) (k4 : ∀ j o, j < n 8 → o < 30 → (pOff (st.2 19 j) o ↔ ¬ U j o)) {o : Nat} (ho : o < 30) (a b w : Int32) (hw : ∀ i, i < n 8 → nI i = w → ¬ U i o) :
    (f_Sh_having st (nI o) a b = some (-1) ∧ f_Md_showAt sm (nI (500 + o)) a b w = some 0 ∧ ∀ i, i < n 8 → ¬ pMS (st.2 17) (st.2 18) U o a b i) ∨ (∃ i i', i < n 8 ∧ i' < n 8 ∧ pMS (st.2 17) (st.2 18) U o a b i ∧ pMS (st.2 17) (st.2 18) U o a b i' ∧ f_Sh_having st (nI o) a b = some (nI i) ∧ f_Md_showAt sm (nI (500 + o)) a b w = some (nI (800 + i'))) := by
  have c8 : n 8 ≤ 10 := hN.c (k := 8) (by decide) (by decide)
  have eq : ∀ i, i < n 8 → (pMS (sm.2 18) (sm.2 19) U o a b i ↔ pMS (st.2 17) (st.2 18) U o a b i) := by
    intro i hi
    obtain ⟨q1, q2, q3, q4, q5, q6, q7, q8, q9⟩ := k1 i hi
    unfold pMS
    rw [q6, q7, q8, q9]
  rcases lh_show (ps_Sh hN) c8 (U := U) (o := o) (fun i hi => k4 i o hi ho) a b with ⟨h1, h2⟩ | ⟨i, h1, h2, h3⟩
  · rcases lm_show (sm := sm) (n := n 8) (hN.m (by decide) (by decide)) c8 (U := U) ho (fun i hi => k3 i o hi ho) a b w with ⟨q1, q2⟩ | ⟨i', q1, q2, q3, q4⟩
    · exact Or.inl ⟨h1, q1, h2⟩
    · exact absurd ((eq i' q1).mp q3) (h2 i' q1)
  · rcases lm_show (sm := sm) (n := n 8) (hN.m (by decide) (by decide)) c8 (U := U) ho (fun i hi => k3 i o hi ho) a b w with ⟨q1, q2⟩ | ⟨i', q1, q2, q3, q4⟩
    · exact absurd ((eq i h1).mpr h2) (q2 i h1 (fun e => hw i h1 e h2.1))
    · exact Or.inr ⟨i, i', h1, q1, h2, (eq i' q1).mp q3, h3, q4⟩
/-- claims that stand, of an object -/
def pMC (I B : Nat → Int32) (x : Int32) (i : Nat) : Prop := ¬ B i = 0 ∧ I i = x
theorem lh_openFor {st : pu_St} {n : Nat} (hs : st.1 10 = nI n) (hn : n ≤ 20) (x : Int32) : f_Cl_openFor st x = some (nI (pCnt (pMC (st.2 20) (st.2 22) x) n)) := by
  suffices key : ∃ r, r = nI (pCnt (pMC (st.2 20) (st.2 22) x) n) ∧ f_Cl_openFor st x = some r by
    obtain ⟨r, rfl, h⟩ := key; exact h
  refine lo_inv (n := n) (f := fun k c j => f_Cl_openFor_b4 k st x c (nI j)) (out := fun c => some c) (fun j r => r = nI (pCnt (pMC (st.2 20) (st.2 22) x) j)) (fun k c _ => ?_) (fun k c j hj h => ?_) (fuel := pu_fu) (a := 0) rfl (pu_big (by omega))
  · simp only [f_Cl_openFor_b4, f_Rg_size_Cl, hs, Int32.le_refl, pb_s, ↓reduceIte, pi_0, pi_1, px_l, px_r, pi_q, pi_r, pu_b0, pu_b1, if_true, if_false]
  · have cc : ¬ nI n ≤ nI j := nI_ge hj (by omega)
    have l : ∀ f : Nat → Int32, pu_ld f 20 (nI j) = some (f j) := fun f => pu_ld_nI (by omega) (by decide)
    by_cases m1 : st.2 22 j = 0
    · exact ⟨c, by rw [h, pCnt_n (fun q => q.1 m1)], by simp only [f_Cl_openFor_b4, f_Rg_size_Cl, hs, cc, l, m1, nI_1, pb_s, ↓reduceIte, pi_0, pi_1, px_l, px_r, pi_q, pi_r, pu_b0, pu_b1, if_true, if_false]⟩
    · by_cases m2 : st.2 20 j = x
      · exact ⟨c + 1, by rw [h, pCnt_y ⟨m1, m2⟩, nI_1], by simp only [f_Cl_openFor_b4, f_Rg_size_Cl, hs, cc, l, m1, m2, nI_1, pb_s, ↓reduceIte, pi_0, pi_1, px_l, px_r, pi_q, pi_r, pu_b0, pu_b1, if_true, if_false]⟩
      · exact ⟨c, by rw [h, pCnt_n (fun q => m2 q.2)], by simp only [f_Cl_openFor_b4, f_Rg_size_Cl, hs, cc, l, m1, m2, nI_1, pb_s, ↓reduceIte, pi_0, pi_1, px_l, px_r, pi_q, pi_r, pu_b0, pu_b1, if_true, if_false]⟩
theorem lm_close {sm : pu_St} {n : Nat} (hs : sm.2 0 9 = nI n) (hn : n ≤ 20) (x1 x3 x4 : Int32) {q : Nat} (hq : q < n) : f_Md_close_b70 pu_fu sm x1 (nI (900 + q)) x3 x4 0 0 = some (nI (pCnt (pMC (sm.2 21) (sm.2 23) (sm.2 21 q)) n), sm) := by
  have l9 : pu_ld (sm.2 0) 10 9 = some (nI n) := by rw [← hs]; exact pu_ld_nI (j := 9) (by decide) (by decide)
  have lq : pu_ld (sm.2 21) 20 (nI (900 + q) - 900) = some (sm.2 21 q) := by
    have e : nI (900 + q) - 900 = nI q := pu_sub
    rw [e]; exact pu_ld_nI (by omega) (by decide)
  suffices key : ∃ r, r = nI (pCnt (pMC (sm.2 21) (sm.2 23) (sm.2 21 q)) n) ∧ f_Md_close_b70 pu_fu sm x1 (nI (900 + q)) x3 x4 0 0 = some (r, sm) by
    obtain ⟨r, rfl, h⟩ := key; exact h
  refine lo_inv (n := n) (f := fun k c j => f_Md_close_b70 k sm x1 (nI (900 + q)) x3 x4 c (nI j)) (out := fun c => some (c, sm)) (fun j r => r = nI (pCnt (pMC (sm.2 21) (sm.2 23) (sm.2 21 q)) j)) (fun k c _ => ?_) (fun k c j hj h => ?_) (fuel := pu_fu) (a := 0) rfl (pu_big (by omega))
  · simp only [f_Md_close_b70, l9, Int32.le_refl, pb_s, ↓reduceIte, pi_0, pi_1, px_l, px_r, pi_q, pi_r, pu_b0, pu_b1, if_true, if_false]
  · have cc : ¬ nI n ≤ nI j := nI_ge hj (by omega)
    have l : ∀ f : Nat → Int32, pu_ld f 20 (nI j) = some (f j) := fun f => pu_ld_nI (by omega) (by decide)
    by_cases m1 : sm.2 23 j = 0
    · exact ⟨c, by rw [h, pCnt_n (fun q => q.1 m1)], by simp only [f_Md_close_b70, l9, cc, l, lq, m1, nI_1, pb_s, ↓reduceIte, pi_0, pi_1, px_l, px_r, pi_q, pi_r, pu_b0, pu_b1, if_true, if_false]⟩
    · by_cases m2 : sm.2 21 j = sm.2 21 q
      · exact ⟨c + 1, by rw [h, pCnt_y ⟨m1, m2⟩, nI_1], by simp only [f_Md_close_b70, l9, cc, l, lq, m1, m2, nI_1, pb_s, ↓reduceIte, pi_0, pi_1, px_l, px_r, pi_q, pi_r, pu_b0, pu_b1, if_true, if_false]⟩
      · exact ⟨c, by rw [h, pCnt_n (fun q => m2 q.2)], by simp only [f_Md_close_b70, l9, cc, l, lq, m1, m2, nI_1, pb_s, ↓reduceIte, pi_0, pi_1, px_l, px_r, pi_q, pi_r, pu_b0, pu_b1, if_true, if_false]⟩
theorem lm_claimed {sm : pu_St} {n : Nat} (hs : sm.2 0 9 = nI n) (hn : n ≤ 20) (x : Int32) : (f_Md_isClaimed sm x = some 0 ∧ ∀ i, i < n → ¬ pMC (sm.2 21) (sm.2 23) x i) ∨ (f_Md_isClaimed sm x = some 1 ∧ ∃ i, i < n ∧ pMC (sm.2 21) (sm.2 23) x i) := by
  have l9 : pu_ld (sm.2 0) 10 9 = some (nI n) := by rw [← hs]; exact pu_ld_nI (j := 9) (by decide) (by decide)
  suffices key : ∃ r, pLast (pMC (sm.2 21) (sm.2 23) x) 0 (fun _ => 1) n r ∧ f_Md_isClaimed sm x = pu_bo r by
    obtain ⟨r, h1, h2⟩ := key
    rcases h1 with ⟨rfl, q⟩ | ⟨i, q1, q2, rfl⟩
    · exact Or.inl ⟨h2, q⟩
    · exact Or.inr ⟨h2, i, q1, q2⟩
  refine lo_inv (n := n) (f := fun k c j => f_Md_isClaimed_b4 k sm x c (nI j)) (out := fun c => pu_bo c) (pLast (pMC (sm.2 21) (sm.2 23) x) 0 (fun _ => 1)) (fun k c _ => ?_) (fun k c j hj h => ?_) (fuel := pu_fu) (a := 0) pLast.z (pu_big (by omega))
  · simp only [f_Md_isClaimed_b4, l9, Int32.le_refl, pb_s, ↓reduceIte, pi_0, pi_1, px_l, px_r, pi_q, pi_r, pu_b0, pu_b1, if_true, if_false]
  · have cc : ¬ nI n ≤ nI j := nI_ge hj (by omega)
    have l : ∀ f : Nat → Int32, pu_ld f 20 (nI j) = some (f j) := fun f => pu_ld_nI (by omega) (by decide)
    have hc : c = 0 ∨ c = 1 := by
      rcases h with ⟨rfl, _⟩ | ⟨_, _, _, rfl⟩
      · exact Or.inl rfl
      · exact Or.inr rfl
    by_cases m1 : sm.2 23 j = 0
    · refine ⟨c, h.n (fun q => q.1 m1), ?_⟩
      rcases hc with rfl | rfl <;> simp only [f_Md_isClaimed_b4, l9, cc, l, m1, nI_1, pb_s, ↓reduceIte, pi_0, pi_1, px_l, px_r, pi_q, pi_r, pu_b0, pu_b1, if_true, if_false]
    · by_cases m2 : sm.2 21 j = x
      · refine ⟨1, pLast.y (g := fun _ => 1) ⟨m1, m2⟩, ?_⟩
        rcases hc with rfl | rfl <;> simp only [f_Md_isClaimed_b4, l9, cc, l, m1, m2, nI_1, pb_s, ↓reduceIte, pi_0, pi_1, px_l, px_r, pi_q, pi_r, pu_b0, pu_b1, if_true, if_false]
      · refine ⟨c, h.n (fun q => m2 q.2), ?_⟩
        rcases hc with rfl | rfl <;> simp only [f_Md_isClaimed_b4, l9, cc, l, m1, m2, nI_1, pb_s, ↓reduceIte, pi_0, pi_1, px_l, px_r, pi_q, pi_r, pu_b0, pu_b1, if_true, if_false]
theorem pc_eq {n5 n9 : Nat} {hi hs ho mi ms mo : Nat → Int32} (h : qK n5 n9 hi hs ho mi ms mo) (h5 : n5 ≤ 30) {o : Nat} (hO : o < 30) {i : Nat} (hi' : i < n9) : pMC mi mo (nI (500 + o)) i ↔ pMC hi ho (nI o) i := by
  obtain ⟨j, s, b, q1, q2, q3, q4, q5, q6, q7, q8, q9⟩ := h i hi'
  unfold pMC
  rw [q4, q5, q8, q9, nI_eq (by omega) (by omega), nI_eq (by omega) (by omega)]
  constructor
  · rintro ⟨r1, r2⟩; exact ⟨r1, by omega⟩
  · rintro ⟨r1, r2⟩; exact ⟨r1, by omega⟩
theorem pCnt_congr {M N : Nat → Prop} {n : Nat} (h : ∀ i, i < n → (M i ↔ N i)) : pCnt M n = pCnt N n :=
  Nat.le_antisymm (pCnt_mono (fun i hi => (h i hi).mp)) (pCnt_mono (fun i hi => (h i hi).mpr))
/-- a claim that stands: on both sides alike -/
theorem pc_free {st sm : pu_St} {n : Nat → Nat} (hN : qN n st.1 sm.1 (sm.2 0)) (hA : qA n st.2 sm.2) {o : Nat} (ho : o < n 5) :
    (f_Cl_openFor st (nI o) = some 0 ∧ f_Md_isClaimed sm (nI (500 + o)) = some 0) ∨ (∃ x, ¬ x = 0 ∧ f_Cl_openFor st (nI o) = some x ∧ f_Md_isClaimed sm (nI (500 + o)) = some 1) := by
  have c5 : n 5 ≤ 30 := hN.c (k := 5) (by decide) (by decide)
  have c9 : n 9 ≤ 20 := hN.c (k := 9) (by decide) (by decide)
  have k := hA.2.2.2.2.2.2.2.2
  rw [lh_openFor (ps_Cl hN) c9]
  have cl := pCnt_le (pMC (st.2 20) (st.2 22) (nI o)) (n 9)
  rcases lm_claimed (sm := sm) (n := n 9) (hN.m (by decide) (by decide)) c9 (nI (500 + o)) with ⟨q1, q2⟩ | ⟨q1, i, q2, q3⟩
  · have e : pCnt (pMC (st.2 20) (st.2 22) (nI o)) (n 9) = 0 := pCnt_0.mpr (fun i hi q => q2 i hi ((pc_eq k c5 (by omega) hi).mpr q))
    rw [e]
    exact Or.inl ⟨rfl, q1⟩
  · refine Or.inr ⟨_, ?_, rfl, q1⟩
    refine nI_ne0 (Nat.pos_of_ne_zero (fun e => ?_)) (by omega)
    exact (pCnt_0.mp e) i q2 ((pc_eq k c5 (by omega) q2).mp q3)

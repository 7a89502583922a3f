theorem pd_dayOf {st sm : pu_St} {n : Nat → Nat} (hN : qN n st.1 sm.1 (sm.2 0)) (hA : qA n st.2 sm.2) {o : Nat} (ho : o < n 5) : ∃ d, d ≤ 9999 ∧ f_It_dayOf st (nI o) = some (nI d) ∧ f_Md_dayOf sm (nI (500 + o)) = some (nI d) := by
  have c4 : n 4 ≤ 30 := hN.c (k := 4) (by decide) (by decide)
  have c5 : n 5 ≤ 30 := hN.c (k := 5) (by decide) (by decide)
  obtain ⟨f, d, q1, q2, q3, q4, q5, q6⟩ := hA.2.2.2.1 o ho
  have e : nI (500 + o) - 500 = nI o := pu_sub
  have e' : nI (400 + f) - 400 = nI f := pu_sub
  refine ⟨d, q2, ?_, ?_⟩
  · simp only [f_It_dayOf, pu_ld_nI (show o < 30 by omega) (show 30 < 2 ^ 31 by decide), q5, pb_s, ↓reduceIte, pi_0, pi_1, px_l, px_r, pi_q, pi_r, pu_b0, pu_b1, if_true, if_false]
  · simp only [f_Md_dayOf, e, pu_ld_nI (show o < 30 by omega) (show 30 < 2 ^ 31 by decide), q4, e', pu_ld_nI (show f < 30 by omega) (show 30 < 2 ^ 31 by decide), q6, pb_s, ↓reduceIte, pi_0, pi_1, px_l, px_r, pi_q, pi_r, pu_b0, pu_b1, if_true, if_false]
/-- what a loan and a show ask alike -/
theorem pf_free {st sm : pu_St} {n : Nat → Nat} (hN : qN n st.1 sm.1 (sm.2 0)) (hA : qA n st.2 sm.2) {S F T : Nat → Nat} {U : Nat → Nat → Prop} (k1 : ∀ j, j < n 8 → S j < n 6 ∧ F j ≤ 9999 ∧ T j ≤ 9999 ∧ st.2 16 j = nI (S j) ∧ sm.2 17 j = nI (600 + S j) ∧ st.2 17 j = nI (F j) ∧ sm.2 18 j = nI (F j) ∧ st.2 18 j = nI (T j) ∧ sm.2 19 j = nI (T j)) (k3 : ∀ j o, j < 10 → o < 30 → (sm.2 20 (30 * j + o) = 1 ∧ U j o) ∨ (sm.2 20 (30 * j + o) = 0 ∧ ¬ U j o)) (k4 : ∀ j o, j < n 8 → o < 30 → (pOff (st.2 19 j) o ↔ ¬ U j o)) {o : Nat} (ho : o < n 5) (a b w : Int32) (hw : ∀ i, i < n 8 → nI i = w → ¬ U i o) :
    ∃ v, f_Md_dayOf sm (nI (500 + o)) = some v ∧ ((a < v ∧ f_H_askFree st (nI o) a b = some (.inr 3, (va_up st.1 1 11, st.2))) ∨ (¬ a < v ∧
      ((f_Md_isClaimed sm (nI (500 + o)) = some 1 ∧ f_H_askFree st (nI o) a b = some (.inr 3, (va_up st.1 1 13, st.2))) ∨ (f_Md_isClaimed sm (nI (500 + o)) = some 0 ∧
        ((∃ y, ¬ y = 0 ∧ f_Md_loanAt sm (nI (500 + o)) a b = some y ∧ f_H_askFree st (nI o) a b = some (.inr 3, (va_up st.1 1 14, st.2))) ∨ (f_Md_loanAt sm (nI (500 + o)) a b = some 0 ∧
          ((∃ y, ¬ y = 0 ∧ f_Md_showAt sm (nI (500 + o)) a b w = some y ∧ f_H_askFree st (nI o) a b = some (.inr 3, (va_up st.1 1 14, st.2))) ∨ (f_Md_showAt sm (nI (500 + o)) a b w = some 0 ∧ f_H_askFree st (nI o) a b = some (.inl 0, st) ∧
            (∀ i, i < n 7 → ¬ pML (st.2 13) (st.2 14) (st.2 15) (nI o) a b i) ∧ ∀ i, i < n 8 → ¬ pMS (st.2 17) (st.2 18) U o a b i)))))))) := by
  have c5 : n 5 ≤ 30 := hN.c (k := 5) (by decide) (by decide)
  have c7 : n 7 ≤ 40 := hN.c (k := 7) (by decide) (by decide)
  have c8 : n 8 ≤ 10 := hN.c (k := 8) (by decide) (by decide)
  obtain ⟨d, hd, d1, d2⟩ := pd_dayOf hN hA ho
  refine ⟨nI d, d2, ?_⟩
  by_cases m1 : a < nI d
  · exact Or.inl ⟨m1, by simp only [f_H_askFree, d1, m1, f_H_askFree_b20, pa_ask0, pb_s, ↓reduceIte, pi_0, pi_1, px_l, px_r, pi_q, pi_r, pu_b0, pu_b1, if_true, if_false]⟩
  refine Or.inr ⟨m1, ?_⟩
  rcases pc_free hN hA ho with ⟨h1, h2⟩ | ⟨x, h0, h1, h2⟩
  · refine Or.inr ⟨h2, ?_⟩
    rcases pl_free hN hA ho a b with ⟨g1, g2, g3⟩ | ⟨i, i', g1, g2, -, -, g3, g4⟩
    · refine Or.inr ⟨g2, ?_⟩
      rcases ps_free hN k1 k3 k4 (show o < 30 by omega) a b w hw with ⟨t1, t2, t3⟩ | ⟨i, i', t1, t2, -, -, t3, t4⟩
      · exact Or.inr ⟨t2, by simp only [f_H_askFree, d1, m1, f_H_askFree_b20, pa_ask1, h1, f_H_askFree_b42, g1, t1, f_H_askFree_b81, pb_s, ↓reduceIte, pi_0, pi_1, px_l, px_r, pi_q, pi_r, pu_b0, pu_b1, if_true, if_false], g3, t3⟩
      · exact Or.inl ⟨_, nI_ne0 (by omega) (by omega), t4, by simp only [f_H_askFree, d1, m1, f_H_askFree_b20, pa_ask1, h1, f_H_askFree_b42, g1, t3, pn_m1 (show i < 2 ^ 31 by omega), f_H_askFree_b80, f_H_askFree_b81, pa_ask0, pb_s, ↓reduceIte, pi_0, pi_1, px_l, px_r, pi_q, pi_r, pu_b0, pu_b1, if_true, if_false]⟩
    · exact Or.inl ⟨_, nI_ne0 (by omega) (by omega), g4, by simp only [f_H_askFree, d1, m1, f_H_askFree_b20, pa_ask1, h1, f_H_askFree_b42, g3, pn_m1 (show i < 2 ^ 31 by omega), f_H_askFree_b80, f_H_askFree_b81, pa_ask0, pb_s, ↓reduceIte, pi_0, pi_1, px_l, px_r, pi_q, pi_r, pu_b0, pu_b1, if_true, if_false]⟩
  · exact Or.inl ⟨h2, by simp only [f_H_askFree, d1, m1, f_H_askFree_b20, pa_ask1, h1, h0, f_H_askFree_b42, pa_ask0, pb_s, ↓reduceIte, pi_0, pi_1, px_l, px_r, pi_q, pi_r, pu_b0, pu_b1, if_true, if_false]⟩
theorem p_loan : ∀ st sm, pRel st sm → ∀ a1 a2 a3 a4 : Int32, pOk [1, 2, 3] pRel (f_H_loan st a1 a2 a3 a4) (f_Md_loan sm a1 a2 a3 a4) := by
  intro st sm R a b c d
  obtain ⟨n, hN, hA⟩ := id R
  have c5 : n 5 ≤ 30 := hN.c (k := 5) (by decide) (by decide)
  have hl : f_Md_isSpan sm c d = some 1 ∨ f_Md_isSpan sm c d = some 0 := by
    rcases pD_span st sm c d with ⟨_, _, _, _, _, _, k, _⟩ | ⟨k, _⟩
    · exact Or.inl k
    · exact Or.inr k
  rcases pk_De hN a with ⟨j, hj, hc, rfl, e1, e2⟩ | ⟨e1, e2⟩
  · rcases pk_It hN b with ⟨o, ho, hoc, rfl, g1, g2⟩ | ⟨g1, g2⟩
    · rcases pr_both hN hA.1 hj pB8 with ⟨r1, r2⟩ | ⟨r1, r2⟩
      · rcases pm_Lo hN with ⟨f1, f2, f3⟩ | ⟨f1, f2⟩
        · rcases pD_span st sm c d with ⟨f, t, hft, ht, rfl, rfl, d1, d2, d3, d4⟩ | ⟨d1, d2⟩
          · obtain ⟨S, F, T, U, k1, k2, k3, k4, k5⟩ := hA.2.2.2.2.2.2.2.1
            have c8 : n 8 ≤ 10 := hN.c (k := 8) (by decide) (by decide)
            obtain ⟨v, v1, ⟨v2, v3⟩ | ⟨v2, ⟨v3, v4⟩ | ⟨v3, ⟨y, v4, v5, v6⟩ | ⟨v4, ⟨y, v5, v6, v7⟩ | ⟨v5, v6, v7, v8⟩⟩⟩⟩⟩ := pf_free hN hA k1 k3 k4 ho (nI f) (nI t) (-1) (fun i hi e => absurd e (pn_m1 (by omega)))
            · refine pOk.thr R (k := 3) (ρ := 11) (κ := 3) ?_ ?_
              · simp only [f_H_loan, e1, g1, r1, f2, f_H_loan_b46, pa_room1, d2, d3, d4, f_H_loan_b77, pa_ask1, v3, pb_s, ↓reduceIte, pi_0, pi_1, px_l, px_r, pi_q, pi_r, pu_b0, pu_b1, if_true, if_false]
              · simp only [f_Md_loan, g2, pl_Lo hN, f3, f_Md_loan_b27, pf_A e2 r2, d1, pt_01, v1, v2, pb_s, ↓reduceIte, pi_0, pi_1, px_l, px_r, pi_q, pi_r, pu_b0, pu_b1, if_true, if_false, f_Md_loan_b67, pt_00, pi_p (show (0 : Int32) < 11 by decide), f_Md_loan_b89, f_Md_loan_b94, pt_11, f_Md_loan_b131, f_Md_loan_b136, ph_11]
            · refine pOk.thr R (k := 3) (ρ := 13) (κ := 3) ?_ ?_
              · simp only [f_H_loan, e1, g1, r1, f2, f_H_loan_b46, pa_room1, d2, d3, d4, f_H_loan_b77, pa_ask1, v4, pb_s, ↓reduceIte, pi_0, pi_1, px_l, px_r, pi_q, pi_r, pu_b0, pu_b1, if_true, if_false]
              · simp only [f_Md_loan, g2, pl_Lo hN, f3, f_Md_loan_b27, pf_A e2 r2, d1, pt_01, v1, v2, v3, pb_s, ↓reduceIte, pi_0, pi_1, px_l, px_r, pi_q, pi_r, pu_b0, pu_b1, if_true, if_false, f_Md_loan_b62, f_Md_loan_b67, f_Md_loan_b94, pt_00, pi_p (show (0 : Int32) < 13 by decide), f_Md_loan_b131, f_Md_loan_b136, pt_13, ph_13]
            · refine pOk.thr R (k := 3) (ρ := 14) (κ := 3) ?_ ?_
              · simp only [f_H_loan, e1, g1, r1, f2, f_H_loan_b46, pa_room1, d2, d3, d4, f_H_loan_b77, pa_ask1, v6, pb_s, ↓reduceIte, pi_0, pi_1, px_l, px_r, pi_q, pi_r, pu_b0, pu_b1, if_true, if_false]
              · simp only [f_Md_loan, g2, pl_Lo hN, f3, f_Md_loan_b27, pf_A e2 r2, d1, pt_01, v1, v2, v3, v4, v5, pb_s, ↓reduceIte, pi_0, pi_1, px_l, px_r, pi_q, pi_r, pu_b0, pu_b1, if_true, if_false, f_Md_loan_b62, f_Md_loan_b67, f_Md_loan_b89, f_Md_loan_b94, f_Md_loan_b135, f_Md_loan_b136, pt_00, ph_14]
            · refine pOk.thr R (k := 3) (ρ := 14) (κ := 3) ?_ ?_
              · simp only [f_H_loan, e1, g1, r1, f2, f_H_loan_b46, pa_room1, d2, d3, d4, f_H_loan_b77, pa_ask1, v7, pb_s, ↓reduceIte, pi_0, pi_1, px_l, px_r, pi_q, pi_r, pu_b0, pu_b1, if_true, if_false]
              · simp only [f_Md_loan, g2, pl_Lo hN, f3, f_Md_loan_b27, pf_A e2 r2, d1, pt_01, v1, v2, v3, v4, v5, v6, pb_s, ↓reduceIte, pi_0, pi_1, px_l, px_r, pi_q, pi_r, pu_b0, pu_b1, if_true, if_false, f_Md_loan_b62, f_Md_loan_b67, f_Md_loan_b89, f_Md_loan_b94, f_Md_loan_b135, f_Md_loan_b136, pt_00, ph_14]
            · refine pOk.ret (st' := (va_up st.1 8 (nI (n 7 + 1)), va_up (va_up (va_up st.2 13 (upd (st.2 13) (n 7) (nI o))) 14 (upd (st.2 14) (n 7) (nI f))) 15 (upd (st.2 15) (n 7) (nI t)))) (sm' := (va_up (va_up sm.1 1 (sm.1 1)) 0 0, va_up (va_up (va_up (va_up sm.2 14 (upd (sm.2 14) (n 7) (nI (500 + o)))) 15 (upd (sm.2 15) (n 7) (nI f))) 16 (upd (sm.2 16) (n 7) (nI t))) 0 (upd (sm.2 0) 7 (nI (n 7 + 1))))) (x := nI (700 + n 7)) ?_ ?_ ?_
              · exact ⟨va_up n 7 (n 7 + 1), hN.acc.one (k := 7) (by decide) (by decide) f1 rfl rfl, hA.1, hA.2.1, hA.2.2.1, hA.2.2.2.1, hA.2.2.2.2.1, hA.2.2.2.2.2.1, hA.2.2.2.2.2.2.1.add ho (by omega) ht (fun i hi e q => v7 i hi ⟨e, Int32.not_lt.mpr q.1, Int32.not_lt.mpr q.2⟩) c5, hA.2.2.2.2.2.2.2⟩
              · simp only [f_H_loan, e1, g1, r1, f2, f_H_loan_b46, pa_room1, d2, d3, d4, f_H_loan_b77, pa_ask1, v6, f_Lo_lend, f_Rg_enter_Lo, f_Rg_handleOf_Lo, ps_Lo hN, nI_1, pb_s, ↓reduceIte, pi_0, pi_1, px_l, px_r, pi_q, pi_r, pu_b0, pu_b1, if_true, if_false, pH_Lo, pu_sd_nI f1 (show 40 < 2 ^ 31 by decide)]
              · simp only [f_Md_loan, g2, pl_Lo hN, f3, f_Md_loan_b27, pf_A e2 r2, d1, pt_01, v1, v2, v3, v4, v5, pb_s, ↓reduceIte, pi_0, pi_1, px_l, px_r, pi_q, pi_r, pu_b0, pu_b1, if_true, if_false, f_Md_loan_b62, f_Md_loan_b67, f_Md_loan_b89, f_Md_loan_b94, f_Md_loan_b131, f_Md_loan_b136, ph_0, pu_sd_nI f1 (show 40 < 2 ^ 31 by decide)]
                exact pd_fin (pd_Lo hN rfl)
          · refine pOk.thr R (k := 3) (ρ := 4) (κ := 3) ?_ ?_
            · rcases d2 with d2 | ⟨d2, d3 | ⟨d3, d4⟩⟩
              · simp only [f_H_loan, e1, g1, r1, f2, f_H_loan_b46, pa_room1, d2, f_H_loan_b76, f_H_loan_b77, pa_ask0, pb_s, ↓reduceIte, pi_0, pi_1, px_l, px_r, pi_q, pi_r, pu_b0, pu_b1, if_true, if_false]
              · simp only [f_H_loan, e1, g1, r1, f2, f_H_loan_b46, pa_room1, d2, d3, f_H_loan_b76, f_H_loan_b77, pa_ask0, pb_s, ↓reduceIte, pi_0, pi_1, px_l, px_r, pi_q, pi_r, pu_b0, pu_b1, if_true, if_false]
              · simp only [f_H_loan, e1, g1, r1, f2, f_H_loan_b46, pa_room1, d2, d3, d4, f_H_loan_b76, f_H_loan_b77, pa_ask0, pb_s, ↓reduceIte, pi_0, pi_1, px_l, px_r, pi_q, pi_r, pu_b0, pu_b1, if_true, if_false]
            · simp only [f_Md_loan, g2, pl_Lo hN, f3, f_Md_loan_b27, pf_A e2 r2, d1, pt_00, pb_s, ↓reduceIte, pi_0, pi_1, px_l, px_r, pi_q, pi_r, pu_b0, pu_b1, if_true, if_false, pi_p (show (0 : Int32) < 4 by decide), f_Md_loan_b62, f_Md_loan_b67, f_Md_loan_b89, f_Md_loan_b94, f_Md_loan_b131, f_Md_loan_b136, pt_4, ph_4]
        · refine pOk.thr R (k := 2) (ρ := 3) (κ := 2) ?_ ?_
          · simp only [f_H_loan, e1, g1, r1, f1, f_H_loan_b46, pa_room0, pb_s, ↓reduceIte, pi_0, pi_1, px_l, px_r, pi_q, pi_r, pu_b0, pu_b1, if_true, if_false]
          · rcases hl with h | h <;> simp only [f_Md_loan, g2, pl_Lo hN, f2, f_Md_loan_b27, pf_3 e2 r2, h, pt_3, pb_s, ↓reduceIte, pi_0, pi_1, px_l, px_r, pi_q, pi_r, pu_b0, pu_b1, if_true, if_false, pi_p (show (0 : Int32) < 3 by decide), f_Md_loan_b62, f_Md_loan_b67, f_Md_loan_b89, f_Md_loan_b94, f_Md_loan_b131, f_Md_loan_b136, ph_3]
      · refine pOk.thr R (k := 2) (ρ := 2) (κ := 2) ?_ ?_
        · simp only [f_H_loan, e1, g1, r1, pb_s, ↓reduceIte, pi_0, pi_1, px_l, px_r, pi_q, pi_r, pu_b0, pu_b1, if_true, if_false]
        · rcases hl with h | h <;> by_cases f : (40 : Int32) ≤ nI (n 7) <;> simp only [f_Md_loan, g2, pl_Lo hN, f, f_Md_loan_b27, pf_2 e2 r2, h, pt_2, pb_s, ↓reduceIte, pi_0, pi_1, px_l, px_r, pi_q, pi_r, pu_b0, pu_b1, if_true, if_false, pi_p (show (0 : Int32) < 2 by decide), f_Md_loan_b62, f_Md_loan_b67, f_Md_loan_b89, f_Md_loan_b94, f_Md_loan_b131, f_Md_loan_b136, ph_2]
    · refine pOk.thr R (k := 1) (ρ := 1) (κ := 1) ?_ ?_
      · simp only [f_H_loan, e1, g1, pb_s, ↓reduceIte, pi_0, pi_1, px_l, px_r, pi_q, pi_r, pu_b0, pu_b1, if_true, if_false]
      · rcases hl with h | h <;> by_cases f : (40 : Int32) ≤ nI (n 7) <;> simp only [f_Md_loan, g2, pl_Lo hN, f, f_Md_loan_b27, pf_0, h, pt_1, pb_s, ↓reduceIte, pi_0, pi_1, px_l, px_r, pi_q, pi_r, pu_b0, pu_b1, if_true, if_false, pi_p (show (0 : Int32) < 1 by decide), f_Md_loan_b62, f_Md_loan_b67, f_Md_loan_b89, f_Md_loan_b94, f_Md_loan_b131, f_Md_loan_b136, ph_1]
  · refine pOk.thr R (k := 1) (ρ := 1) (κ := 1) ?_ ?_
    · simp only [f_H_loan, e1, pb_s, ↓reduceIte, pi_0, pi_1, px_l, px_r, pi_q, pi_r, pu_b0, pu_b1, if_true, if_false]
    · rcases pk_It hN b with ⟨s, hs, hsc, rfl, g1, g2⟩ | ⟨g1, g2⟩ <;> rcases hl with h | h <;> by_cases f : (40 : Int32) ≤ nI (n 7) <;> simp only [f_Md_loan, g2, pl_Lo hN, f, f_Md_loan_b27, pf_N e2, h, pt_1, pb_s, ↓reduceIte, pi_0, pi_1, px_l, px_r, pi_q, pi_r, pu_b0, pu_b1, if_true, if_false, pi_p (show (0 : Int32) < 1 by decide), f_Md_loan_b62, f_Md_loan_b67, f_Md_loan_b89, f_Md_loan_b94, f_Md_loan_b131, f_Md_loan_b136, ph_1]

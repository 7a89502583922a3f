theorem p_site : ∀ st sm, pRel st sm → ∀ a1 : Int32, pOk [1, 2] pRel (f_H_site st a1) (f_Md_site sm a1) := by
  intro st sm R a
  obtain ⟨n, hN, hA⟩ := id R
  rcases pk_De hN a with ⟨j, hj, hc, rfl, e1, e2⟩ | ⟨e1, e2⟩
  · rcases pr_both hN hA.1 hj pB2 with ⟨r1, r2⟩ | ⟨r1, r2⟩
    · rcases pm_Si hN with ⟨f1, f2, f3⟩ | ⟨f1, f2⟩
      · refine pOk.ret (st' := (va_up st.1 3 (nI (n 2 + 1)), st.2)) (sm' := (va_up (va_up sm.1 1 (sm.1 1)) 0 0, va_up sm.2 0 (upd (sm.2 0) 2 (nI (n 2 + 1))))) (x := nI (200 + n 2)) ?_ ?_ ?_
        · exact ⟨va_up n 2 (n 2 + 1), hN.acc.one (k := 2) (by decide) (by decide) f1 rfl rfl, hA.1, hA.2.1.mono (Nat.le_succ _), hA.2.2⟩
        · simp only [f_H_site, e1, r1, f2, f_H_site_b32, pa_room1, f_Si_stakeOut, f_Rg_enter_Si, f_Rg_handleOf_Si, ps_Si hN, nI_1, pb_s, ↓reduceIte, pi_0, pi_1, px_l, px_r, pi_q, pi_r, pu_b0, pu_b1, if_true, if_false, pH_Si]
        · simp only [f_Md_site, pl_Si hN, f3, f_Md_site_b20, pf_A e2 r2, ph_0, pb_s, ↓reduceIte, pi_0, pi_1, px_l, px_r, pi_q, pi_r, pu_b0, pu_b1, if_true, if_false]
          exact pd_fin (pd_Si hN rfl)
      · refine pOk.thr R (k := 2) (ρ := 3) (κ := 2) ?_ ?_
        · simp only [f_H_site, e1, r1, f1, f_H_site_b32, pa_room0, pb_s, ↓reduceIte, pi_0, pi_1, px_l, px_r, pi_q, pi_r, pu_b0, pu_b1, if_true, if_false]
        · simp only [f_Md_site, pl_Si hN, f2, f_Md_site_b20, pf_3 e2 r2, ph_3, pb_s, ↓reduceIte, pi_0, pi_1, px_l, px_r, pi_q, pi_r, pu_b0, pu_b1, if_true, if_false]
    · refine pOk.thr R (k := 2) (ρ := 2) (κ := 2) ?_ ?_
      · simp only [f_H_site, e1, r1, pb_s, ↓reduceIte, pi_0, pi_1, px_l, px_r, pi_q, pi_r, pu_b0, pu_b1, if_true, if_false]
      · by_cases f : (4 : Int32) ≤ nI (n 2) <;> simp only [f_Md_site, pl_Si hN, f, f_Md_site_b20, pf_2 e2 r2, ph_2, pb_s, ↓reduceIte, pi_0, pi_1, px_l, px_r, pi_q, pi_r, pu_b0, pu_b1, if_true, if_false]
  · refine pOk.thr R (k := 1) (ρ := 1) (κ := 1) ?_ ?_
    · simp only [f_H_site, e1, pb_s, ↓reduceIte, pi_0, pi_1, px_l, px_r, pi_q, pi_r, pu_b0, pu_b1, if_true, if_false]
    · by_cases f : (4 : Int32) ≤ nI (n 2) <;> simp only [f_Md_site, pl_Si hN, f, f_Md_site_b20, pf_N e2, ph_1, pb_s, ↓reduceIte, pi_0, pi_1, px_l, px_r, pi_q, pi_r, pu_b0, pu_b1, if_true, if_false]
theorem p_context : ∀ st sm, pRel st sm → ∀ a1 a2 : Int32, pOk [1, 2] pRel (f_H_context st a1 a2) (f_Md_context sm a1 a2) := by
  intro st sm R a b
  obtain ⟨n, hN, hA⟩ := id R
  rcases pk_De hN a with ⟨j, hj, hc, rfl, e1, e2⟩ | ⟨e1, e2⟩
  · rcases pk_Si hN b with ⟨s, hs, hsc, rfl, g1, g2⟩ | ⟨g1, g2⟩
    · rcases pr_both hN hA.1 hj pB2 with ⟨r1, r2⟩ | ⟨r1, r2⟩
      · rcases pm_Co hN with ⟨f1, f2, f3⟩ | ⟨f1, f2⟩
        · refine pOk.ret (st' := (va_up st.1 4 (nI (n 3 + 1)), va_up (va_up (va_up (va_up st.2 1 (upd (st.2 1) (n 3) (nI s))) 2 (upd (st.2 2) (n 3) 0)) 3 (upd (st.2 3) (n 3) 999)) 4 (upd (st.2 4) (n 3) 0))) (sm' := (va_up (va_up sm.1 1 (sm.1 1)) 0 0, va_up (va_up (va_up (va_up sm.2 2 (upd (sm.2 2) (n 3) (nI (200 + s)))) 3 (upd (sm.2 3) (n 3) 0)) 4 (upd (sm.2 4) (n 3) 999)) 0 (upd (sm.2 0) 3 (nI (n 3 + 1))))) (x := nI (300 + n 3)) ?_ ?_ ?_
          · exact ⟨va_up n 3 (n 3 + 1), hN.acc.one (k := 3) (by decide) (by decide) f1 rfl rfl, hA.1, hA.2.1.add hs, hA.2.2.1.mono (Nat.le_succ _), hA.2.2.2⟩
          · simp only [f_H_context, e1, g1, r1, f2, f_H_context_b43, pa_room1, f_Co_dig, f_Rg_enter_Co, f_Rg_handleOf_Co, ps_Co hN, nI_1, pb_s, ↓reduceIte, pi_0, pi_1, px_l, px_r, pi_q, pi_r, pu_b0, pu_b1, if_true, if_false, pH_Co, pu_sd_nI f1 (show 20 < 2 ^ 31 by decide)]
          · simp only [f_Md_context, g2, pl_Co hN, f3, f_Md_context_b26, pf_A e2 r2, ph_0, pb_s, ↓reduceIte, pi_0, pi_1, px_l, px_r, pi_q, pi_r, pu_b0, pu_b1, if_true, if_false, pu_sd_nI f1 (show 20 < 2 ^ 31 by decide)]
            exact pd_fin (pd_Co hN rfl)
        · refine pOk.thr R (k := 2) (ρ := 3) (κ := 2) ?_ ?_
          · simp only [f_H_context, e1, g1, r1, f1, f_H_context_b43, pa_room0, pb_s, ↓reduceIte, pi_0, pi_1, px_l, px_r, pi_q, pi_r, pu_b0, pu_b1, if_true, if_false]
          · simp only [f_Md_context, g2, pl_Co hN, f2, f_Md_context_b26, pf_3 e2 r2, ph_3, pb_s, ↓reduceIte, pi_0, pi_1, px_l, px_r, pi_q, pi_r, pu_b0, pu_b1, if_true, if_false]
      · refine pOk.thr R (k := 2) (ρ := 2) (κ := 2) ?_ ?_
        · simp only [f_H_context, e1, g1, r1, pb_s, ↓reduceIte, pi_0, pi_1, px_l, px_r, pi_q, pi_r, pu_b0, pu_b1, if_true, if_false]
        · by_cases f : (20 : Int32) ≤ nI (n 3) <;> simp only [f_Md_context, g2, pl_Co hN, f, f_Md_context_b26, pf_2 e2 r2, ph_2, pb_s, ↓reduceIte, pi_0, pi_1, px_l, px_r, pi_q, pi_r, pu_b0, pu_b1, if_true, if_false]
    · refine pOk.thr R (k := 1) (ρ := 1) (κ := 1) ?_ ?_
      · simp only [f_H_context, e1, g1, pb_s, ↓reduceIte, pi_0, pi_1, px_l, px_r, pi_q, pi_r, pu_b0, pu_b1, if_true, if_false]
      · by_cases f : (20 : Int32) ≤ nI (n 3) <;> simp only [f_Md_context, g2, pl_Co hN, f, f_Md_context_b26, pf_0, ph_1, pb_s, ↓reduceIte, pi_0, pi_1, px_l, px_r, pi_q, pi_r, pu_b0, pu_b1, if_true, if_false]
  · refine pOk.thr R (k := 1) (ρ := 1) (κ := 1) ?_ ?_
    · simp only [f_H_context, e1, pb_s, ↓reduceIte, pi_0, pi_1, px_l, px_r, pi_q, pi_r, pu_b0, pu_b1, if_true, if_false]
    · rcases pk_Si hN b with ⟨s, hs, hsc, rfl, g1, g2⟩ | ⟨g1, g2⟩ <;> by_cases f : (20 : Int32) ≤ nI (n 3) <;> simp only [f_Md_context, g2, pl_Co hN, f, f_Md_context_b26, pf_N e2, ph_1, pb_s, ↓reduceIte, pi_0, pi_1, px_l, px_r, pi_q, pi_r, pu_b0, pu_b1, if_true, if_false]

set_option maxRecDepth 20000 in
theorem p_back : ∀ st sm, pRel st sm → ∀ a1 a2 a3 : Int32, pOk [1, 2, 3] pRel (f_H_back st a1 a2 a3) (f_Md_back sm a1 a2 a3) := by
  intro st sm R a b c
  obtain ⟨n, hN, hA⟩ := id R
  have l0 : ∀ f : Nat → Int32, pu_ld f 40 0 = some (f 0) := fun f => pu_ld_nI (j := 0) (by decide) (by decide)
  have hd : f_Md_isDay sm c = some 1 ∨ f_Md_isDay sm c = some 0 := by
    rcases pD_day st sm c with ⟨_, _, _, _, k⟩ | ⟨_, k⟩
    · exact Or.inl k
    · exact Or.inr k
  rcases pk_De hN a with ⟨j, hj, hc, rfl, e1, e2⟩ | ⟨e1, e2⟩
  · rcases pk_Lo hN b with ⟨l, hl, hlc, rfl, g1, g2⟩ | ⟨g1, g2⟩
    · have e : nI (700 + l) - 700 = nI l := pu_sub
      have ll : ∀ f : Nat → Int32, pu_ld f 40 (nI l) = some (f l) := fun f => pu_ld_nI hlc (by decide)
      have m1 : sm.2 15 l = st.2 14 l := by
        obtain ⟨I, F, T, k1, k2⟩ := hA.2.2.2.2.2.2.1
        obtain ⟨q1, q2, q3, q4, q5, q6, q7, q8, q9⟩ := k1 l hl
        rw [q6, q7]
      have m2 : sm.2 16 l = st.2 15 l := by
        obtain ⟨I, F, T, k1, k2⟩ := hA.2.2.2.2.2.2.1
        obtain ⟨q1, q2, q3, q4, q5, q6, q7, q8, q9⟩ := k1 l hl
        rw [q8, q9]
      rcases pr_both hN hA.1 hj pB8 with ⟨r1, r2⟩ | ⟨r1, r2⟩
      · rcases pD_day st sm c with ⟨d, hd1, rfl, d1, d2⟩ | ⟨d1, d2⟩
        · by_cases c1 : nI d < st.2 14 l
          · refine pOk.thr R (k := 3) (ρ := 15) (κ := 3) ?_ ?_
            · simp only [f_H_back, e1, g1, r1, d1, pa_ask1, f_Lo_hasDay, ll, c1, pa_ask0, pb_s, ↓reduceIte, pi_0, pi_1, px_l, px_r, pi_q, pi_r, pu_b0, pu_b1, if_true, if_false]
            · simp only [f_Md_back, g2, f_Md_back_b23, pf_A e2 r2, d2, pt_01, e, ll, m1, m2, pL_0 (Or.inl c1), pt_00, ph_15, pb_s, ↓reduceIte, pi_0, pi_1, px_l, px_r, pi_q, pi_r, pu_b0, pu_b1, if_true, if_false]
          by_cases c2 : st.2 15 l < nI d
          · refine pOk.thr R (k := 3) (ρ := 15) (κ := 3) ?_ ?_
            · simp only [f_H_back, e1, g1, r1, d1, pa_ask1, f_Lo_hasDay, ll, c1, c2, pa_ask0, pb_s, ↓reduceIte, pi_0, pi_1, px_l, px_r, pi_q, pi_r, pu_b0, pu_b1, if_true, if_false]
            · simp only [f_Md_back, g2, f_Md_back_b23, pf_A e2 r2, d2, pt_01, e, ll, m1, m2, pL_0 (Or.inr c2), pt_00, ph_15, pb_s, ↓reduceIte, pi_0, pi_1, px_l, px_r, pi_q, pi_r, pu_b0, pu_b1, if_true, if_false]
          refine pOk.ret (st' := (st.1, va_up st.2 15 (upd (st.2 15) l (nI d)))) (sm' := (va_up (va_up sm.1 1 (sm.1 1)) 0 0, va_up sm.2 16 (upd (sm.2 16) l (nI d)))) (x := st.2 15 l) ?_ ?_ ?_
          · exact ⟨n, hN.acc, hA.1, hA.2.1, hA.2.2.1, hA.2.2.2.1, hA.2.2.2.2.1, hA.2.2.2.2.2.1, hA.2.2.2.2.2.2.1.back hd1 c1 c2 hl, hA.2.2.2.2.2.2.2⟩
          · simp only [f_H_back, e1, g1, r1, d1, pa_ask1, f_Lo_hasDay, ll, c1, c2, f_Lo_lastDayOf, f_Lo_endOn, pu_sd_nI hlc (show 40 < 2 ^ 31 by decide), pb_s, ↓reduceIte, pi_0, pi_1, px_l, px_r, pi_q, pi_r, pu_b0, pu_b1, if_true, if_false]
          · simp only [f_Md_back, g2, f_Md_back_b23, pf_A e2 r2, d2, pt_01, e, ll, m1, m2, pL_1 c1 c2, ph_0, pu_sd_nI hlc (show 40 < 2 ^ 31 by decide), pb_s, ↓reduceIte, pi_0, pi_1, px_l, px_r, pi_q, pi_r, pu_b0, pu_b1, if_true, if_false]
        · refine pOk.thr R (k := 3) (ρ := 4) (κ := 3) ?_ ?_
          · simp only [f_H_back, e1, g1, r1, d1, pa_ask0, pb_s, ↓reduceIte, pi_0, pi_1, px_l, px_r, pi_q, pi_r, pu_b0, pu_b1, if_true, if_false]
          · rcases pD_lies sm c (st.2 14 l) (st.2 15 l) with h | h <;> simp only [f_Md_back, g2, f_Md_back_b23, pf_A e2 r2, d2, pt_00, e, ll, m1, m2, h, pt_4, ph_4, pb_s, ↓reduceIte, pi_0, pi_1, px_l, px_r, pi_q, pi_r, pu_b0, pu_b1, if_true, if_false]
      · refine pOk.thr R (k := 2) (ρ := 2) (κ := 2) ?_ ?_
        · simp only [f_H_back, e1, g1, r1, pb_s, ↓reduceIte, pi_0, pi_1, px_l, px_r, pi_q, pi_r, pu_b0, pu_b1, if_true, if_false]
        · rcases hd with q | q <;> rcases pD_lies sm c (st.2 14 l) (st.2 15 l) with h | h <;> simp only [f_Md_back, g2, f_Md_back_b23, pf_2 e2 r2, q, pt_2, e, ll, m1, m2, h, ph_2, pb_s, ↓reduceIte, pi_0, pi_1, px_l, px_r, pi_q, pi_r, pu_b0, pu_b1, if_true, if_false]
    · refine pOk.thr R (k := 1) (ρ := 1) (κ := 1) ?_ ?_
      · simp only [f_H_back, e1, g1, pb_s, ↓reduceIte, pi_0, pi_1, px_l, px_r, pi_q, pi_r, pu_b0, pu_b1, if_true, if_false]
      · rcases hd with q | q <;> rcases pD_lies sm c (sm.2 15 0) (sm.2 16 0) with h | h <;> simp only [f_Md_back, g2, f_Md_back_b23, pf_0, q, pt_1, l0, h, ph_1, pb_s, ↓reduceIte, pi_0, pi_1, px_l, px_r, pi_q, pi_r, pu_b0, pu_b1, if_true, if_false]
  · refine pOk.thr R (k := 1) (ρ := 1) (κ := 1) ?_ ?_
    · simp only [f_H_back, e1, pb_s, ↓reduceIte, pi_0, pi_1, px_l, px_r, pi_q, pi_r, pu_b0, pu_b1, if_true, if_false]
    · rcases pk_Lo hN b with ⟨l, hl, hlc, rfl, g1, g2⟩ | ⟨g1, g2⟩
      · have e : nI (700 + l) - 700 = nI l := pu_sub
        have ll : ∀ f : Nat → Int32, pu_ld f 40 (nI l) = some (f l) := fun f => pu_ld_nI hlc (by decide)
        rcases hd with q | q <;> rcases pD_lies sm c (sm.2 15 l) (sm.2 16 l) with h | h <;> simp only [f_Md_back, g2, f_Md_back_b23, pf_N e2, q, pt_1, e, ll, h, ph_1, pb_s, ↓reduceIte, pi_0, pi_1, px_l, px_r, pi_q, pi_r, pu_b0, pu_b1, if_true, if_false]
      · rcases hd with q | q <;> rcases pD_lies sm c (sm.2 15 0) (sm.2 16 0) with h | h <;> simp only [f_Md_back, g2, f_Md_back_b23, pf_0, q, pt_1, l0, h, ph_1, pb_s, ↓reduceIte, pi_0, pi_1, px_l, px_r, pi_q, pi_r, pu_b0, pu_b1, if_true, if_false]

theorem p_desk : ∀ st sm, pRel st sm → ∀ a1 a2 : Int32, pOk [1, 2, 3] pRel (f_H_desk st a1 a2) (f_Md_desk sm a1 a2) := by
  intro st sm R a b
  obtain ⟨n, hN, hA⟩ := id R
  rcases pk_De hN a with ⟨j, hj, hc, rfl, e1, e2⟩ | ⟨e1, e2⟩
  · rcases pr_both hN hA.1 hj pB1 with ⟨r1, r2⟩ | ⟨r1, r2⟩
    · rcases pm_De hN with ⟨f1, f2, f3⟩ | ⟨f1, f2⟩
      · have thr4 : (b < 0 ∨ 63 < b) → pOk [1, 2, 3] pRel (f_H_desk st (nI (100 + j)) b) (f_Md_desk sm (nI (100 + j)) b) := by
          intro hb
          refine pOk.thr R (k := 3) (ρ := 4) (κ := 3) ?_ ?_
          · by_cases c1 : b < 0
            · simp only [f_H_desk, e1, r1, f2, f_H_desk_b32, pa_room1, pb_s, ↓reduceIte, pi_0, pi_1, px_l, px_r, pi_q, pi_r, pu_b0, pu_b1, if_true, if_false, c1, f_H_desk_b51, f_H_desk_b52, pa_ask0]
            · simp only [f_H_desk, e1, r1, f2, f_H_desk_b32, pa_room1, pb_s, ↓reduceIte, pi_0, pi_1, px_l, px_r, pi_q, pi_r, pu_b0, pu_b1, if_true, if_false, c1, hb.resolve_left c1, f_H_desk_b51, f_H_desk_b52, pa_ask0]
          · simp only [f_Md_desk, pl_De hN, f3, f_Md_desk_b20, pf_A e2 r2, pL_0 hb, pt_00, pb_s, ↓reduceIte, pi_0, pi_1, px_l, px_r, pi_q, pi_r, pu_b0, pu_b1, if_true, if_false, pi_p (show (0 : Int32) < 4 by decide), f_Md_desk_b58, f_Md_desk_b63, pt_4, ph_4]
        by_cases c1 : b < 0
        · exact thr4 (Or.inl c1)
        by_cases c2 : 63 < b
        · exact thr4 (Or.inr c2)
        obtain ⟨x, hx, rfl⟩ := pu_nat c1 (N := 63) rfl c2 (by decide)
        obtain ⟨v, hv, q1, q2⟩ := hA.1.2 j hj
        have e : nI (100 + j) - 100 = nI j := pu_sub
        by_cases c3 : (nI v &&& nI x) = nI x
        · refine pOk.ret (st' := (va_up st.1 2 (nI (n 1 + 1)), va_up st.2 0 (upd (st.2 0) (n 1) (nI x)))) (sm' := (va_up (va_up sm.1 1 (sm.1 1)) 0 0, va_up (va_up sm.2 1 (upd (sm.2 1) (n 1) (nI x))) 0 (upd (sm.2 0) 1 (nI (n 1 + 1))))) (x := nI (100 + n 1)) ?_ ?_ ?_
          · exact ⟨va_up n 1 (n 1 + 1), hN.acc.one (k := 1) (by decide) (by decide) f1 rfl rfl, hA.1.add (by omega), hA.2⟩
          · simp only [f_H_desk, e1, r1, f2, f_H_desk_b32, pa_room1, pb_s, ↓reduceIte, pi_0, pi_1, px_l, px_r, pi_q, pi_r, pu_b0, pu_b1, if_true, if_false, c1, c2, f_H_desk_b52, pa_ask1, f_De_hasAll, pu_ld_nI hc (show 6 < 2 ^ 31 by decide), q1, c3, f_De_open, f_Rg_enter_De, f_Rg_handleOf_De, ps_De hN, nI_1, pH_De, pu_sd_nI f1 (show 6 < 2 ^ 31 by decide)]
          · simp only [f_Md_desk, pl_De hN, f3, f_Md_desk_b20, pf_A e2 r2, pL_1 c1 c2, pt_01, pb_s, ↓reduceIte, pi_0, pi_1, px_l, px_r, pi_q, pi_r, pu_b0, pu_b1, if_true, if_false, e, pu_ld_nI hc (show 6 < 2 ^ 31 by decide), q2, (pb_set hv (by omega)).mp c3, f_Md_desk_b58, f_Md_desk_b63, ph_0, pu_sd_nI f1 (show 6 < 2 ^ 31 by decide)]
            exact pd_fin (pd_De hN rfl)
        · have c4 : ¬ (nI x &&& (nI v ^^^ (-1))) = 0 := fun q => c3 ((pb_set hv (by omega)).mpr q)
          refine pOk.thr R (k := 3) (ρ := 5) (κ := 3) ?_ ?_
          · simp only [f_H_desk, e1, r1, f2, f_H_desk_b32, pa_room1, pb_s, ↓reduceIte, pi_0, pi_1, px_l, px_r, pi_q, pi_r, pu_b0, pu_b1, if_true, if_false, c1, c2, f_H_desk_b52, pa_ask1, f_De_hasAll, pu_ld_nI hc (show 6 < 2 ^ 31 by decide), q1, c3, pa_ask0]
          · simp only [f_Md_desk, pl_De hN, f3, f_Md_desk_b20, pf_A e2 r2, pL_1 c1 c2, pt_01, pb_s, ↓reduceIte, pi_0, pi_1, px_l, px_r, pi_q, pi_r, pu_b0, pu_b1, if_true, if_false, e, pu_ld_nI hc (show 6 < 2 ^ 31 by decide), q2, c4, f_Md_desk_b63, pt_00, ph_5]
      · refine pOk.thr R (k := 2) (ρ := 3) (κ := 2) ?_ ?_
        · simp only [f_H_desk, e1, r1, f1, f_H_desk_b32, pa_room0, pb_s, ↓reduceIte, pi_0, pi_1, px_l, px_r, pi_q, pi_r, pu_b0, pu_b1, if_true, if_false]
        · rcases pD_lies sm b 0 63 with h | h <;> simp only [f_Md_desk, pl_De hN, f2, f_Md_desk_b20, pf_3 e2 r2, h, pt_3, pb_s, ↓reduceIte, pi_0, pi_1, px_l, px_r, pi_q, pi_r, pu_b0, pu_b1, if_true, if_false, pi_p (show (0 : Int32) < 3 by decide), f_Md_desk_b58, f_Md_desk_b63, ph_3]
    · refine pOk.thr R (k := 2) (ρ := 2) (κ := 2) ?_ ?_
      · simp only [f_H_desk, e1, r1, pb_s, ↓reduceIte, pi_0, pi_1, px_l, px_r, pi_q, pi_r, pu_b0, pu_b1, if_true, if_false]
      · rcases pD_lies sm b 0 63 with h | h <;> by_cases f : (6 : Int32) ≤ nI (n 1) <;> simp only [f_Md_desk, pl_De hN, f, f_Md_desk_b20, pf_2 e2 r2, h, pt_2, pb_s, ↓reduceIte, pi_0, pi_1, px_l, px_r, pi_q, pi_r, pu_b0, pu_b1, if_true, if_false, pi_p (show (0 : Int32) < 2 by decide), f_Md_desk_b58, f_Md_desk_b63, ph_2]
  · refine pOk.thr R (k := 1) (ρ := 1) (κ := 1) ?_ ?_
    · simp only [f_H_desk, e1, pb_s, ↓reduceIte, pi_0, pi_1, px_l, px_r, pi_q, pi_r, pu_b0, pu_b1, if_true, if_false]
    · rcases pD_lies sm b 0 63 with h | h <;> by_cases f : (6 : Int32) ≤ nI (n 1) <;> simp only [f_Md_desk, pl_De hN, f, f_Md_desk_b20, pf_N e2, h, pt_1, pb_s, ↓reduceIte, pi_0, pi_1, px_l, px_r, pi_q, pi_r, pu_b0, pu_b1, if_true, if_false, pi_p (show (0 : Int32) < 1 by decide), f_Md_desk_b58, f_Md_desk_b63, ph_1]
theorem p_find : ∀ st sm, pRel st sm → ∀ a1 a2 a3 : Int32, pOk [1, 2, 3] pRel (f_H_find st a1 a2 a3) (f_Md_find sm a1 a2 a3) := by
  intro st sm R a b c
  obtain ⟨n, hN, hA⟩ := id R
  have hl := pD_lies sm c 0 (sm.1 2)
  rcases pk_De hN a with ⟨j, hj, hc, rfl, e1, e2⟩ | ⟨e1, e2⟩
  · rcases pk_Co hN b with ⟨s, hs, hsc, rfl, g1, g2⟩ | ⟨g1, g2⟩
    · rcases pr_both hN hA.1 hj pB2 with ⟨r1, r2⟩ | ⟨r1, r2⟩
      · rcases pm_Fi hN with ⟨f1, f2, f3⟩ | ⟨f1, f2⟩
        · rcases pD_til hN c with ⟨d, hd, rfl, d1, d2, d3⟩ | ⟨d1, d2⟩
          · refine pOk.ret (st' := (va_up st.1 5 (nI (n 4 + 1)), va_up (va_up st.2 5 (upd (st.2 5) (n 4) (nI s))) 6 (upd (st.2 6) (n 4) (nI d)))) (sm' := (va_up (va_up sm.1 1 (sm.1 1)) 0 0, va_up (va_up (va_up sm.2 7 (upd (sm.2 7) (n 4) (nI (300 + s)))) 8 (upd (sm.2 8) (n 4) (nI d))) 0 (upd (sm.2 0) 4 (nI (n 4 + 1))))) (x := nI (400 + n 4)) ?_ ?_ ?_
            · exact ⟨va_up n 4 (n 4 + 1), hN.acc.one (k := 4) (by decide) (by decide) f1 rfl rfl, hA.1, hA.2.1, hA.2.2.1.add hs hd, hA.2.2.2.1.monoF _, hA.2.2.2.2⟩
            · simp only [f_H_find, e1, g1, r1, f2, f_H_find_b45, pa_room1, d1, d2, f_H_find_b70, pa_ask1, f_Fi_bringUp, f_Rg_enter_Fi, f_Rg_handleOf_Fi, ps_Fi hN, nI_1, pb_s, ↓reduceIte, pi_0, pi_1, px_l, px_r, pi_q, pi_r, pu_b0, pu_b1, if_true, if_false, pH_Fi, pu_sd_nI f1 (show 30 < 2 ^ 31 by decide)]
            · simp only [f_Md_find, g2, pl_Fi hN, f3, f_Md_find_b25, pf_A e2 r2, d3, pt_01, ph_0, pb_s, ↓reduceIte, pi_0, pi_1, px_l, px_r, pi_q, pi_r, pu_b0, pu_b1, if_true, if_false, pu_sd_nI f1 (show 30 < 2 ^ 31 by decide)]
              exact pd_fin (pd_Fi hN rfl)
          · refine pOk.thr R (k := 3) (ρ := 4) (κ := 3) ?_ ?_
            · rcases d2 with d2 | ⟨d2, d3⟩
              · simp only [f_H_find, e1, g1, r1, f2, f_H_find_b45, pa_room1, d2, f_H_find_b69, f_H_find_b70, pa_ask0, pb_s, ↓reduceIte, pi_0, pi_1, px_l, px_r, pi_q, pi_r, pu_b0, pu_b1, if_true, if_false]
              · simp only [f_H_find, e1, g1, r1, f2, f_H_find_b45, pa_room1, d2, d3, f_H_find_b69, f_H_find_b70, pa_ask0, pb_s, ↓reduceIte, pi_0, pi_1, px_l, px_r, pi_q, pi_r, pu_b0, pu_b1, if_true, if_false]
            · simp only [f_Md_find, g2, pl_Fi hN, f3, f_Md_find_b25, pf_A e2 r2, d1, pt_00, ph_4, pb_s, ↓reduceIte, pi_0, pi_1, px_l, px_r, pi_q, pi_r, pu_b0, pu_b1, if_true, if_false]
        · refine pOk.thr R (k := 2) (ρ := 3) (κ := 2) ?_ ?_
          · simp only [f_H_find, e1, g1, r1, f1, f_H_find_b45, pa_room0, pb_s, ↓reduceIte, pi_0, pi_1, px_l, px_r, pi_q, pi_r, pu_b0, pu_b1, if_true, if_false]
          · rcases hl with h | h <;> simp only [f_Md_find, g2, pl_Fi hN, f2, f_Md_find_b25, pf_3 e2 r2, h, pt_3, ph_3, pb_s, ↓reduceIte, pi_0, pi_1, px_l, px_r, pi_q, pi_r, pu_b0, pu_b1, if_true, if_false]
      · refine pOk.thr R (k := 2) (ρ := 2) (κ := 2) ?_ ?_
        · simp only [f_H_find, e1, g1, r1, pb_s, ↓reduceIte, pi_0, pi_1, px_l, px_r, pi_q, pi_r, pu_b0, pu_b1, if_true, if_false]
        · rcases hl with h | h <;> by_cases f : (30 : Int32) ≤ nI (n 4) <;> simp only [f_Md_find, g2, pl_Fi hN, f, f_Md_find_b25, pf_2 e2 r2, h, pt_2, ph_2, pb_s, ↓reduceIte, pi_0, pi_1, px_l, px_r, pi_q, pi_r, pu_b0, pu_b1, if_true, if_false]
    · refine pOk.thr R (k := 1) (ρ := 1) (κ := 1) ?_ ?_
      · simp only [f_H_find, e1, g1, pb_s, ↓reduceIte, pi_0, pi_1, px_l, px_r, pi_q, pi_r, pu_b0, pu_b1, if_true, if_false]
      · rcases hl with h | h <;> by_cases f : (30 : Int32) ≤ nI (n 4) <;> simp only [f_Md_find, g2, pl_Fi hN, f, f_Md_find_b25, pf_0, h, pt_1, ph_1, pb_s, ↓reduceIte, pi_0, pi_1, px_l, px_r, pi_q, pi_r, pu_b0, pu_b1, if_true, if_false]
  · refine pOk.thr R (k := 1) (ρ := 1) (κ := 1) ?_ ?_
    · simp only [f_H_find, e1, pb_s, ↓reduceIte, pi_0, pi_1, px_l, px_r, pi_q, pi_r, pu_b0, pu_b1, if_true, if_false]
    · rcases pk_Co hN b with ⟨s, hs, hsc, rfl, g1, g2⟩ | ⟨g1, g2⟩ <;> rcases hl with h | h <;> by_cases f : (30 : Int32) ≤ nI (n 4) <;> simp only [f_Md_find, g2, pl_Fi hN, f, f_Md_find_b25, pf_N e2, h, pt_1, ph_1, pb_s, ↓reduceIte, pi_0, pi_1, px_l, px_r, pi_q, pi_r, pu_b0, pu_b1, if_true, if_false]
theorem p_show : ∀ st sm, pRel st sm → ∀ a1 a2 a3 a4 : Int32, pOk [1, 2, 3] pRel (f_H_show st a1 a2 a3 a4) (f_Md_show sm a1 a2 a3 a4) := by
  intro st sm R a b c d
  obtain ⟨n, hN, hA⟩ := id R
  have hl : f_Md_isSpan sm c d = some 1 ∨ f_Md_isSpan sm c d = some 0 := by
    rcases pD_span st sm c d with ⟨_, _, _, _, _, _, k, _⟩ | ⟨k, _⟩
    · exact Or.inl k
    · exact Or.inr k
  rcases pk_De hN a with ⟨j, hj, hc, rfl, e1, e2⟩ | ⟨e1, e2⟩
  · rcases pk_So hN b with ⟨s, hs, hsc, rfl, g1, g2⟩ | ⟨g1, g2⟩
    · rcases pr_both hN hA.1 hj pB16 with ⟨r1, r2⟩ | ⟨r1, r2⟩
      · rcases pm_Sh hN with ⟨f1, f2, f3⟩ | ⟨f1, f2⟩
        · rcases pD_span st sm c d with ⟨f, t, hft, ht, rfl, rfl, d1, d2, d3, d4⟩ | ⟨d1, d2⟩
          · refine pOk.ret (st' := (va_up st.1 9 (nI (n 8 + 1)), va_up (va_up (va_up (va_up st.2 16 (upd (st.2 16) (n 8) (nI s))) 17 (upd (st.2 17) (n 8) (nI f))) 18 (upd (st.2 18) (n 8) (nI t))) 19 (upd (st.2 19) (n 8) 0))) (sm' := (va_up (va_up sm.1 1 (sm.1 1)) 0 0, va_up (va_up (va_up (va_up sm.2 17 (upd (sm.2 17) (n 8) (nI (600 + s)))) 18 (upd (sm.2 18) (n 8) (nI f))) 19 (upd (sm.2 19) (n 8) (nI t))) 0 (upd (sm.2 0) 8 (nI (n 8 + 1))))) (x := nI (800 + n 8)) ?_ ?_ ?_
            · exact ⟨va_up n 8 (n 8 + 1), hN.acc.one (k := 8) (by decide) (by decide) f1 rfl rfl, hA.1, hA.2.1, hA.2.2.1, hA.2.2.2.1, hA.2.2.2.2.1, hA.2.2.2.2.2.1, hA.2.2.2.2.2.2.1, hA.2.2.2.2.2.2.2.1.add hs (by omega) ht, hA.2.2.2.2.2.2.2.2⟩
            · simp only [f_H_show, e1, g1, r1, f2, f_H_show_b46, pa_room1, d2, d3, d4, f_H_show_b77, pa_ask1, f_Sh_plan, f_Rg_enter_Sh, f_Rg_handleOf_Sh, ps_Sh hN, nI_1, pb_s, ↓reduceIte, pi_0, pi_1, px_l, px_r, pi_q, pi_r, pu_b0, pu_b1, if_true, if_false, pH_Sh, pu_sd_nI f1 (show 10 < 2 ^ 31 by decide)]
            · simp only [f_Md_show, g2, pl_Sh hN, f3, f_Md_show_b28, pf_A e2 r2, d1, pt_01, ph_0, pb_s, ↓reduceIte, pi_0, pi_1, px_l, px_r, pi_q, pi_r, pu_b0, pu_b1, if_true, if_false, pu_sd_nI f1 (show 10 < 2 ^ 31 by decide)]
              exact pd_fin (pd_Sh hN rfl)
          · refine pOk.thr R (k := 3) (ρ := 4) (κ := 3) ?_ ?_
            · rcases d2 with d2 | ⟨d2, d3 | ⟨d3, d4⟩⟩
              · simp only [f_H_show, e1, g1, r1, f2, f_H_show_b46, pa_room1, d2, f_H_show_b76, f_H_show_b77, pa_ask0, pb_s, ↓reduceIte, pi_0, pi_1, px_l, px_r, pi_q, pi_r, pu_b0, pu_b1, if_true, if_false]
              · simp only [f_H_show, e1, g1, r1, f2, f_H_show_b46, pa_room1, d2, d3, f_H_show_b76, f_H_show_b77, pa_ask0, pb_s, ↓reduceIte, pi_0, pi_1, px_l, px_r, pi_q, pi_r, pu_b0, pu_b1, if_true, if_false]
              · simp only [f_H_show, e1, g1, r1, f2, f_H_show_b46, pa_room1, d2, d3, d4, f_H_show_b76, f_H_show_b77, pa_ask0, pb_s, ↓reduceIte, pi_0, pi_1, px_l, px_r, pi_q, pi_r, pu_b0, pu_b1, if_true, if_false]
            · simp only [f_Md_show, g2, pl_Sh hN, f3, f_Md_show_b28, pf_A e2 r2, d1, pt_00, ph_4, pb_s, ↓reduceIte, pi_0, pi_1, px_l, px_r, pi_q, pi_r, pu_b0, pu_b1, if_true, if_false]
        · refine pOk.thr R (k := 2) (ρ := 3) (κ := 2) ?_ ?_
          · simp only [f_H_show, e1, g1, r1, f1, f_H_show_b46, pa_room0, pb_s, ↓reduceIte, pi_0, pi_1, px_l, px_r, pi_q, pi_r, pu_b0, pu_b1, if_true, if_false]
          · rcases hl with h | h <;> simp only [f_Md_show, g2, pl_Sh hN, f2, f_Md_show_b28, pf_3 e2 r2, h, pt_3, ph_3, pb_s, ↓reduceIte, pi_0, pi_1, px_l, px_r, pi_q, pi_r, pu_b0, pu_b1, if_true, if_false]
      · refine pOk.thr R (k := 2) (ρ := 2) (κ := 2) ?_ ?_
        · simp only [f_H_show, e1, g1, r1, pb_s, ↓reduceIte, pi_0, pi_1, px_l, px_r, pi_q, pi_r, pu_b0, pu_b1, if_true, if_false]
        · rcases hl with h | h <;> by_cases f : (10 : Int32) ≤ nI (n 8) <;> simp only [f_Md_show, g2, pl_Sh hN, f, f_Md_show_b28, pf_2 e2 r2, h, pt_2, ph_2, pb_s, ↓reduceIte, pi_0, pi_1, px_l, px_r, pi_q, pi_r, pu_b0, pu_b1, if_true, if_false]
    · refine pOk.thr R (k := 1) (ρ := 1) (κ := 1) ?_ ?_
      · simp only [f_H_show, e1, g1, pb_s, ↓reduceIte, pi_0, pi_1, px_l, px_r, pi_q, pi_r, pu_b0, pu_b1, if_true, if_false]
      · rcases hl with h | h <;> by_cases f : (10 : Int32) ≤ nI (n 8) <;> simp only [f_Md_show, g2, pl_Sh hN, f, f_Md_show_b28, pf_0, h, pt_1, ph_1, pb_s, ↓reduceIte, pi_0, pi_1, px_l, px_r, pi_q, pi_r, pu_b0, pu_b1, if_true, if_false]
  · refine pOk.thr R (k := 1) (ρ := 1) (κ := 1) ?_ ?_
    · simp only [f_H_show, e1, pb_s, ↓reduceIte, pi_0, pi_1, px_l, px_r, pi_q, pi_r, pu_b0, pu_b1, if_true, if_false]
    · rcases pk_So hN b with ⟨s, hs, hsc, rfl, g1, g2⟩ | ⟨g1, g2⟩ <;> rcases hl with h | h <;> by_cases f : (10 : Int32) ≤ nI (n 8) <;> simp only [f_Md_show, g2, pl_Sh hN, f, f_Md_show_b28, pf_N e2, h, pt_1, ph_1, pb_s, ↓reduceIte, pi_0, pi_1, px_l, px_r, pi_q, pi_r, pu_b0, pu_b1, if_true, if_false]

theorem p_origin : ∀ st sm, pRel st sm → ∀ a1 : Int32, pOk [1] pRel (f_H_origin st a1) (f_Md_origin sm a1) := by
  intro st sm R a
  obtain ⟨n, hN, hA⟩ := id R
  have c2 : n 2 ≤ 4 := hN.c (k := 2) (by decide) (by decide)
  have c3 : n 3 ≤ 20 := hN.c (k := 3) (by decide) (by decide)
  have c4 : n 4 ≤ 30 := hN.c (k := 4) (by decide) (by decide)
  have c5 : n 5 ≤ 30 := hN.c (k := 5) (by decide) (by decide)
  have h3 : st.1 4 = nI (n 3) := ps_Co hN
  have h4 : st.1 5 = nI (n 4) := ps_Fi hN
  have m3 : sm.2 0 3 = nI (n 3) := hN.m (by decide) (by decide)
  have m4 : sm.2 0 4 = nI (n 4) := hN.m (by decide) (by decide)
  rcases pIs_em 300 (n 3) a with ⟨j, hj, rfl⟩ | h
  · obtain ⟨S, F, L, T, k1, -⟩ := hA.2.1
    obtain ⟨s1, s2, s3⟩ := k1 j hj
    have i3 : f_Md_is sm (nI (300 + j)) 3 = some 1 := pm_is1 (x := 3) (k := 3) rfl (by decide) (by omega) m3 hj
    have e : nI (300 + j) - 300 = nI j := pu_sub
    have c : ¬ (400 : Int32) ≤ nI (300 + j) := nI_ge (b := 400) (by omega) (by decide)
    refine pOk.ret R.acc (x := nI (200 + S j)) ?_ ?_
    · simp only [f_H_origin, pn_Co1 (show n 3 ≤ 100 by omega) h3 hj, pn_m1 (show j < 2 ^ 31 by omega), f_Co_siteOf, pu_ld_nI (show j < 20 by omega) (show 20 < 2 ^ 31 by decide), s2, f_Rg_handleOf_Si, pH_Si, pb_s, ↓reduceIte, pi_0, pi_1, px_l, px_r, pi_q, pi_r, pu_b0, pu_b1, if_true, if_false]
    · simp only [f_Md_origin, i3, f_Md_origin_b28, f_Md_origin_b33, ph_0, c, e, pu_ld_nI (show j < 20 by omega) (show 20 < 2 ^ 31 by decide), s3, pb_s, ↓reduceIte, pi_0, pi_1, px_l, px_r, pi_q, pi_r, pu_b0, pu_b1, if_true, if_false]
  have i3 : f_Md_is sm a 3 = some 0 := pm_is0 (x := 3) (k := 3) rfl (by decide) (by omega) m3 h
  have u3 := pn_Co0 (show n 3 ≤ 100 by omega) h3 h
  rcases pIs_em 400 (n 4) a with ⟨j, hj, rfl⟩ | h'
  · obtain ⟨s, d, s1, s2, s3, s4, -⟩ := hA.2.2.1 j hj
    have i4 : f_Md_is sm (nI (400 + j)) 4 = some 1 := pm_is1 (x := 4) (k := 4) rfl (by decide) (by omega) m4 hj
    have e : nI (400 + j) - 400 = nI j := pu_sub
    have c : (400 : Int32) ≤ nI (400 + j) := nI_le (a := 400) (by omega) (by omega)
    have c' : ¬ (500 : Int32) ≤ nI (400 + j) := nI_ge (b := 500) (by omega) (by decide)
    refine pOk.ret R.acc (x := nI (300 + s)) ?_ ?_
    · simp only [f_H_origin, u3, pn_Fi1 (show n 4 ≤ 100 by omega) h4 hj, pn_m1 (show j < 2 ^ 31 by omega), f_Fi_contextOf, pu_ld_nI (show j < 30 by omega) (show 30 < 2 ^ 31 by decide), s3, f_Rg_handleOf_Co, pH_Co, pb_s, ↓reduceIte, pi_0, pi_1, px_l, px_r, pi_q, pi_r, pu_b0, pu_b1, if_true, if_false]
    · simp only [f_Md_origin, i3, i4, f_Md_origin_b28, f_Md_origin_b33, ph_0, c, c', e, pu_ld_nI (show j < 30 by omega) (show 30 < 2 ^ 31 by decide), s4, pb_s, ↓reduceIte, pi_0, pi_1, px_l, px_r, pi_q, pi_r, pu_b0, pu_b1, if_true, if_false]
  have i4 : f_Md_is sm a 4 = some 0 := pm_is0 (x := 4) (k := 4) rfl (by decide) (by omega) m4 h'
  have u4 := pn_Fi0 (show n 4 ≤ 100 by omega) h4 h'
  rcases pk_It hN a with ⟨j, hj, hc, rfl, e1, e2⟩ | ⟨e1, e2⟩
  · obtain ⟨f, d, s1, s2, s3, s4, -⟩ := hA.2.2.2.1 j hj
    have e : nI (500 + j) - 500 = nI j := pu_sub
    have c : (400 : Int32) ≤ nI (500 + j) := nI_le (a := 400) (by omega) (by omega)
    have c' : (500 : Int32) ≤ nI (500 + j) := nI_le (a := 500) (by omega) (by omega)
    refine pOk.ret R.acc (x := nI (400 + f)) ?_ ?_
    · simp only [f_H_origin, u3, u4, e1, f_It_findOf, pu_ld_nI hc (show 30 < 2 ^ 31 by decide), s3, f_Rg_handleOf_Fi, pH_Fi, pb_s, ↓reduceIte, pi_0, pi_1, px_l, px_r, pi_q, pi_r, pu_b0, pu_b1, if_true, if_false]
    · simp only [f_Md_origin, i3, i4, e2, f_Md_origin_b28, f_Md_origin_b33, ph_0, c, c', e, pu_ld_nI hc (show 30 < 2 ^ 31 by decide), s4, pb_s, ↓reduceIte, pi_0, pi_1, px_l, px_r, pi_q, pi_r, pu_b0, pu_b1, if_true, if_false]
  · refine pOk.thr R (k := 1) (ρ := 1) (κ := 1) ?_ ?_
    · simp only [f_H_origin, u3, u4, e1, pb_s, ↓reduceIte, pi_0, pi_1, px_l, px_r, pi_q, pi_r, pu_b0, pu_b1, if_true, if_false]
    · simp only [f_Md_origin, i3, i4, e2, f_Md_origin_b33, ph_1, pb_s, ↓reduceIte, pi_0, pi_1, px_l, px_r, pi_q, pi_r, pu_b0, pu_b1, if_true, if_false]

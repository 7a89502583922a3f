theorem p_stored : ∀ st sm, pRel st sm → ∀ a1 a2 : Int32, pOk [1, 3] pRel (f_H_stored st a1 a2) (f_Md_stored sm a1 a2) := by
  intro st sm R a x
  obtain ⟨n, hN, hA⟩ := id R
  have c5 : n 5 ≤ 30 := hN.c (k := 5) (by decide) (by decide)
  have c6 : n 6 ≤ 16 := hN.c (k := 6) (by decide) (by decide)
  rcases pk_So hN a with ⟨s, hs, hsc, rfl, e1, e2⟩ | ⟨e1, e2⟩
  · have e : nI (600 + s) - 600 = nI s := pu_sub
    rcases pD_day st sm x with ⟨d, hd, rfl, d1, d2⟩ | ⟨d1, d2⟩
    · have hN' : qN n st.1 (va_up (va_up sm.1 1 (sm.1 1)) 0 0, sm.2).1 ((va_up (va_up sm.1 1 (sm.1 1)) 0 0, sm.2).2 0) := hN.acc
      obtain ⟨P, h1, h2, h3⟩ := hA.2.2.2.2.2.1
      have l5 : pu_ld ((va_up (va_up sm.1 1 (sm.1 1)) 0 0, sm.2).2 0) 10 5 = some (nI (n 5)) := pl_It hN'
      have go : ∀ m j fuel (c : Int32), j + m = n 5 → m < fuel → ∃ r, f_H_stored_b25 fuel st (nI (600 + s)) (nI d) (nI s) c (nI j) = some (.inl r, st) ∧ f_Md_stored_b37 fuel (va_up (va_up sm.1 1 (sm.1 1)) 0 0, sm.2) (nI (600 + s)) (nI d) c (nI j) = some (r, (va_up (va_up sm.1 1 (sm.1 1)) 0 0, sm.2)) := by
        intro m
        induction m with
        | zero =>
          intro j fuel c ej hf
          obtain ⟨k, rfl⟩ : ∃ k, fuel = k + 1 := ⟨fuel - 1, by omega⟩
          have : j = n 5 := by omega
          subst this
          exact ⟨c, by simp only [f_H_stored_b25, f_Rg_size_It, ps_It hN, Int32.le_refl, pb_s, ↓reduceIte, pi_0, pi_1, px_l, px_r, pi_q, pi_r, pu_b0, pu_b1, if_true, if_false], by simp only [f_Md_stored_b37, l5, Int32.le_refl, pb_s, ↓reduceIte, pi_0, pi_1, px_l, px_r, pi_q, pi_r, pu_b0, pu_b1, if_true, if_false]⟩
        | succ m ih =>
          intro j fuel c ej hf
          obtain ⟨k, rfl⟩ : ∃ k, fuel = k + 1 := ⟨fuel - 1, by omega⟩
          have q : ¬ nI (n 5) ≤ nI j := nI_ge (by omega) (by omega)
          obtain ⟨u, hu, t1, t2, t3, t4⟩ := hA.2.2.2.2.1 j (by omega)
          obtain ⟨r0, y1, y2⟩ := ih (j + 1) k c (by omega) (by omega)
          obtain ⟨r1, z1, z2⟩ := ih (j + 1) k (c + 1) (by omega) (by omega)
          rcases pm_place (st := st) (sm := (va_up (va_up sm.1 1 (sm.1 1)) 0 0, sm.2)) c6 (show j < 30 by omega) hu t1 t2 t3 (nI d) with ⟨q1, q2⟩ | ⟨t, q0, q1, q2⟩
          · have nz : ¬ (0 : Int32) = nI (600 + s) := fun q => nI_ne0 (show 0 < 600 + s by omega) (by omega) q.symm
            exact ⟨r0, by simp only [f_H_stored_b25, f_Rg_size_It, ps_It hN, q, q1, nI_1, y1, pb_s, ↓reduceIte, pi_0, pi_1, px_l, px_r, pi_q, pi_r, pu_b0, pu_b1, if_true, if_false], by simp only [f_Md_stored_b37, l5, q, q2, nz, nI_1, y2, pb_s, ↓reduceIte, pi_0, pi_1, px_l, px_r, pi_q, pi_r, pu_b0, pu_b1, if_true, if_false]⟩
          · have nm := pn_m1 (show t < 2 ^ 31 by omega)
            have nl := nI_nle (show 0 < 600 + t by omega) (show 600 + t < 2 ^ 31 by omega)
            have et : nI (600 + t) - 600 = nI t := pu_sub
            by_cases ts : t = s
            · subst ts
              exact ⟨r1, by simp only [f_H_stored_b25, f_Rg_size_It, ps_It hN, q, q1, nm, f_So_isAtOrIn, nI_1, z1, pb_s, ↓reduceIte, pi_0, pi_1, px_l, px_r, pi_q, pi_r, pu_b0, pu_b1, if_true, if_false], by simp only [f_Md_stored_b37, l5, q, q2, nI_1, z2, pb_s, ↓reduceIte, pi_0, pi_1, px_l, px_r, pi_q, pi_r, pu_b0, pu_b1, if_true, if_false]⟩
            · have n1 : ¬ nI t = nI s := fun w => ts ((nI_eq (by omega) (by omega)).mp w)
              have n2 : ¬ nI (600 + t) = nI (600 + s) := fun w => ts (by have := (nI_eq (by omega) (by omega)).mp w; omega)
              rcases pI_in (st := st) (sm := (va_up (va_up sm.1 1 (sm.1 1)) 0 0, sm.2)) c6 h1 h2 h3 q0 hs with ⟨w1, w2, -⟩ | ⟨w1, w2, -⟩
              · exact ⟨r1, by simp only [f_H_stored_b25, f_Rg_size_It, ps_It hN, q, q1, nm, f_So_isAtOrIn, n1, w1, nI_1, z1, pb_s, ↓reduceIte, pi_0, pi_1, px_l, px_r, pi_q, pi_r, pu_b0, pu_b1, if_true, if_false], by simp only [f_Md_stored_b37, l5, q, q2, n2, nl, et, e, w2, nI_1, z2, pb_s, ↓reduceIte, pi_0, pi_1, px_l, px_r, pi_q, pi_r, pu_b0, pu_b1, if_true, if_false]⟩
              · exact ⟨r0, by simp only [f_H_stored_b25, f_Rg_size_It, ps_It hN, q, q1, nm, f_So_isAtOrIn, n1, w1, nI_1, y1, pb_s, ↓reduceIte, pi_0, pi_1, px_l, px_r, pi_q, pi_r, pu_b0, pu_b1, if_true, if_false], by simp only [f_Md_stored_b37, l5, q, q2, n2, nl, et, e, w2, nI_1, y2, pb_s, ↓reduceIte, pi_0, pi_1, px_l, px_r, pi_q, pi_r, pu_b0, pu_b1, if_true, if_false]⟩
      obtain ⟨r, g1, g2⟩ := go (n 5) 0 pu_fu 0 (by omega) (pu_big (by omega))
      refine pOk.ret R.acc (x := r) ?_ ?_
      · simp only [f_H_stored, e1, d1, pa_ask1, pb_s, ↓reduceIte, pi_0, pi_1, px_l, px_r, pi_q, pi_r, pu_b0, pu_b1, if_true, if_false]; exact g1
      · simp only [f_Md_stored, e2, f_Md_stored_b16, d2, pt_01, ph_s0, pb_s, ↓reduceIte, pi_0, pi_1, px_l, px_r, pi_q, pi_r, pu_b0, pu_b1, if_true, if_false]; exact g2
    · refine pOk.thr R (k := 3) (ρ := 4) (κ := 2) ?_ ?_
      · simp only [f_H_stored, e1, d1, pa_ask0, pb_s, ↓reduceIte, pi_0, pi_1, px_l, px_r, pi_q, pi_r, pu_b0, pu_b1, if_true, if_false]
      · simp only [f_Md_stored, e2, f_Md_stored_b16, d2, pt_00, ph_s4, pb_s, ↓reduceIte, pi_0, pi_1, px_l, px_r, pi_q, pi_r, pu_b0, pu_b1, if_true, if_false]
  · refine pOk.thr R (k := 1) (ρ := 1) (κ := 1) ?_ ?_
    · simp only [f_H_stored, e1, pb_s, ↓reduceIte, pi_0, pi_1, px_l, px_r, pi_q, pi_r, pu_b0, pu_b1, if_true, if_false]
    · rcases pD_day st sm x with ⟨d, hd, rfl, d1, d2⟩ | ⟨d1, d2⟩ <;> simp only [f_Md_stored, e2, f_Md_stored_b16, d2, pt_1, ph_s1, pb_s, ↓reduceIte, pi_0, pi_1, px_l, px_r, pi_q, pi_r, pu_b0, pu_b1, if_true, if_false]

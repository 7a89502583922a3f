theorem lh_hasFind {st : pu_St} {n : Nat} (hs : st.1 6 = nI n) (hn : n ≤ 30) (x : Int32) : (f_It_hasFind st x = some 0 ∧ ∀ i, i < n → ¬ st.2 7 i = x) ∨ ∃ i, i < n ∧ st.2 7 i = x ∧ f_It_hasFind st x = some 1 := by
  refine lo_first (n := n) (f := fun k j => f_It_hasFind_b2 k st x (nI j)) (no := some 0) (yes := fun i => some 1) (fun i => st.2 7 i = x) (fun k => ?_) (fun k j hj h => ?_) (fun k j hj h => ?_) (pu_big (by omega))
  · simp only [f_It_hasFind_b2, f_Rg_size_It, hs, Int32.le_refl, pb_s, ↓reduceIte, pi_0, pi_1, px_l, px_r, pi_q, pi_r, pu_b0, pu_b1, if_true, if_false]
  · have c : ¬ nI n ≤ nI j := nI_ge hj (by omega)
    have l : ∀ f : Nat → Int32, pu_ld f 30 (nI j) = some (f j) := fun f => pu_ld_nI (by omega) (by decide)
    simp only [f_It_hasFind_b2, f_Rg_size_It, hs, c, l, h, pb_s, ↓reduceIte, pi_0, pi_1, px_l, px_r, pi_q, pi_r, pu_b0, pu_b1, if_true, if_false]
  · have c : ¬ nI n ≤ nI j := nI_ge hj (by omega)
    have l : ∀ f : Nat → Int32, pu_ld f 30 (nI j) = some (f j) := fun f => pu_ld_nI (by omega) (by decide)
    simp only [f_It_hasFind_b2, f_Rg_size_It, hs, c, l, h, nI_1, pb_s, ↓reduceIte, pi_0, pi_1, px_l, px_r, pi_q, pi_r, pu_b0, pu_b1, if_true, if_false]
theorem lm_object {sm : pu_St} {n : Nat} (hs : sm.2 0 5 = nI n) (hn : n ≤ 30) (x1 x2 x3 : Int32) : (f_Md_object_b35 pu_fu sm x1 x2 x3 0 0 = f_Md_object_b87 sm x1 x2 x3 0 (nI n) 1 x3 ∧ ∀ i, i < n → ¬ sm.2 9 i = x2) ∨ (f_Md_object_b35 pu_fu sm x1 x2 x3 0 0 = f_Md_object_b87 sm x1 x2 x3 1 (nI n) 0 x3 ∧ ∃ i, i < n ∧ sm.2 9 i = x2) := by
  have l5 : pu_ld (sm.2 0) 10 5 = some (nI n) := by rw [← hs]; exact pu_ld_nI (j := 5) (by decide) (by decide)
  suffices key : ∃ r, pLast (fun i => sm.2 9 i = x2) 0 (fun _ => 1) n r ∧ f_Md_object_b35 pu_fu sm x1 x2 x3 0 0 = (if r = 0 then f_Md_object_b87 sm x1 x2 x3 r (nI n) 1 x3 else f_Md_object_b87 sm x1 x2 x3 r (nI n) 0 x3) by
    obtain ⟨r, h1, h2⟩ := key
    rcases h1 with ⟨rfl, q⟩ | ⟨i, q1, q2, rfl⟩
    · exact Or.inl ⟨h2, q⟩
    · exact Or.inr ⟨h2, i, q1, q2⟩
  refine lo_inv (n := n) (f := fun k c j => f_Md_object_b35 k sm x1 x2 x3 c (nI j)) (out := fun r => if r = 0 then f_Md_object_b87 sm x1 x2 x3 r (nI n) 1 x3 else f_Md_object_b87 sm x1 x2 x3 r (nI n) 0 x3) (pLast (fun i => sm.2 9 i = x2) 0 (fun _ => 1)) (fun k c _ => ?_) (fun k c j hj h => ?_) (fuel := pu_fu) (a := 0) pLast.z (pu_big (by omega))
  · simp only [f_Md_object_b35, l5, Int32.le_refl, pb_s, ↓reduceIte, pi_0, pi_1, px_l, px_r, pi_q, pi_r, pu_b0, pu_b1, if_true, if_false]
  · have cc : ¬ nI n ≤ nI j := nI_ge hj (by omega)
    have l : ∀ f : Nat → Int32, pu_ld f 30 (nI j) = some (f j) := fun f => pu_ld_nI (by omega) (by decide)
    have hc : c = 0 ∨ c = 1 := by
      rcases h with ⟨rfl, _⟩ | ⟨_, _, _, rfl⟩
      · exact Or.inl rfl
      · exact Or.inr rfl
    by_cases m2 : sm.2 9 j = x2
    · refine ⟨1, pLast.y (g := fun _ => 1) m2, ?_⟩
      rcases hc with rfl | rfl <;> simp only [f_Md_object_b35, l5, cc, l, m2, nI_1, pb_s, ↓reduceIte, pi_0, pi_1, px_l, px_r, pi_q, pi_r, pu_b0, pu_b1, if_true, if_false]
    · refine ⟨c, h.n m2, ?_⟩
      rcases hc with rfl | rfl <;> simp only [f_Md_object_b35, l5, cc, l, m2, nI_1, pb_s, ↓reduceIte, pi_0, pi_1, px_l, px_r, pi_q, pi_r, pu_b0, pu_b1, if_true, if_false]
theorem lm_object' {sm : pu_St} {n : Nat} (hs : sm.2 0 5 = nI n) (hn : n ≤ 30) (x1 x2 : Int32) (y : Int32) (hy : 0 < y) : f_Md_object_b35 pu_fu sm x1 x2 y 0 0 = (f_Md_holds sm y).bind fun q12 => if q12.1 = 0 then some (0, q12.2) else (pu_ld (q12.2.2 0) 10 5).bind fun v14 => (pu_sd (q12.2.2 9) 30 v14 x2).bind fun g15 => (f_Md_made (q12.2.1, va_up q12.2.2 9 g15) 5).bind fun q16 => some (q16.1, q16.2) := by
  rcases lm_object hs hn x1 x2 y with ⟨h, _⟩ | ⟨h, _⟩
  · rw [h]; simp only [f_Md_object_b87, pt_n hy, pb_s, ↓reduceIte, pi_0, pi_1, px_l, px_r, pi_q, pi_r, pu_b0, pu_b1, if_true, if_false]
  · rw [h]; simp only [f_Md_object_b87, pt_n hy, pb_s, ↓reduceIte, pi_0, pi_1, px_l, px_r, pi_q, pi_r, pu_b0, pu_b1, if_true, if_false]
theorem p_object : ∀ st sm, pRel st sm → ∀ a1 a2 : Int32, pOk [1, 2, 3] pRel (f_H_object st a1 a2) (f_Md_object sm a1 a2) := by
  intro st sm R a b
  obtain ⟨n, hN, hA⟩ := id R
  have c5 : n 5 ≤ 30 := hN.c (k := 5) (by decide) (by decide)
  have c4 : n 4 ≤ 30 := hN.c (k := 4) (by decide) (by decide)
  have m5 : sm.2 0 5 = nI (n 5) := hN.m (by decide) (by decide)
  rcases pk_De hN a with ⟨j, hj, hc, rfl, e1, e2⟩ | ⟨e1, e2⟩
  · rcases pk_Fi hN b with ⟨f, hf, hfc, rfl, g1, g2⟩ | ⟨g1, g2⟩
    · rcases pr_both hN hA.1 hj pB4 with ⟨r1, r2⟩ | ⟨r1, r2⟩
      · rcases pm_It hN with ⟨f1, f2, f3⟩ | ⟨f1, f2⟩
        · have eq : ∀ i, i < n 5 → (sm.2 9 i = nI (400 + f) ↔ st.2 7 i = nI f) := by
            intro i hi
            obtain ⟨f', d, q1, q2, q3, q4, q5, q6⟩ := hA.2.2.2.1 i hi
            rw [q3, q4, nI_eq (by omega) (by omega), nI_eq (by omega) (by omega)]
            omega
          rcases lh_hasFind (ps_It hN) c5 (nI f) with ⟨h1, h2⟩ | ⟨i, h1, h2, h3⟩
          · rcases lm_object m5 c5 (nI (100 + j)) (nI (400 + f)) 0 with ⟨k1, k2⟩ | ⟨k1, i, k2, k3⟩
            · obtain ⟨c, d, q1, q2, q3, q4, q5, q6⟩ := hA.2.2.1 f hf
              refine pOk.ret (st' := (va_up st.1 6 (nI (n 5 + 1)), va_up (va_up st.2 7 (upd (st.2 7) (n 5) (nI f))) 8 (upd (st.2 8) (n 5) (nI d)))) (sm' := (va_up (va_up sm.1 1 (sm.1 1)) 0 0, va_up (va_up sm.2 9 (upd (sm.2 9) (n 5) (nI (400 + f)))) 0 (upd (sm.2 0) 5 (nI (n 5 + 1))))) (x := nI (500 + n 5)) ?_ ?_ ?_
              · exact ⟨va_up n 5 (n 5 + 1), hN.acc.one (k := 5) (by decide) (by decide) f1 rfl rfl, hA.1, hA.2.1, hA.2.2.1, hA.2.2.2.1.add hf q2 q6, hA.2.2.2.2.1, hA.2.2.2.2.2.1, hA.2.2.2.2.2.2.1.mono (Nat.le_succ _), hA.2.2.2.2.2.2.2.1.mono (Nat.le_succ _) (Nat.le_refl _), hA.2.2.2.2.2.2.2.2.mono (Nat.le_succ _)⟩
              · simp only [f_H_object, e1, g1, r1, f2, f_H_object_b43, pa_room1, h1, f_H_object_b66, pa_ask1, f_Fi_dayOf, pu_ld_nI hfc (show 30 < 2 ^ 31 by decide), q5, f_It_accept, f_Rg_enter_It, f_Rg_handleOf_It, ps_It hN, nI_1, pb_s, ↓reduceIte, pi_0, pi_1, px_l, px_r, pi_q, pi_r, pu_b0, pu_b1, if_true, if_false, pH_It, pu_sd_nI f1 (show 30 < 2 ^ 31 by decide)]
              · simp only [f_Md_object, g2, pl_It hN, f3, f_Md_object_b25, pf_A e2 r2, pb_s, ↓reduceIte, pi_0, pi_1, px_l, px_r, pi_q, pi_r, pu_b0, pu_b1, if_true, if_false, k1, f_Md_object_b87, pt_01, ph_0, pu_sd_nI f1 (show 30 < 2 ^ 31 by decide)]
                exact pd_fin (pd_It hN rfl)
            · exact absurd ((eq i k2).mp k3) (h2 i k2)
          · rcases lm_object m5 c5 (nI (100 + j)) (nI (400 + f)) 0 with ⟨k1, k2⟩ | ⟨k1, i', k2, k3⟩
            · exact absurd ((eq i h1).mpr h2) (k2 i h1)
            · refine pOk.thr R (k := 3) (ρ := 9) (κ := 3) ?_ ?_
              · simp only [f_H_object, e1, g1, r1, f2, f_H_object_b43, pa_room1, h3, f_H_object_b66, pa_ask0, pb_s, ↓reduceIte, pi_0, pi_1, px_l, px_r, pi_q, pi_r, pu_b0, pu_b1, if_true, if_false]
              · simp only [f_Md_object, g2, pl_It hN, f3, f_Md_object_b25, pf_A e2 r2, pb_s, ↓reduceIte, pi_0, pi_1, px_l, px_r, pi_q, pi_r, pu_b0, pu_b1, if_true, if_false, k1, f_Md_object_b87, pt_00, ph_9]
        · refine pOk.thr R (k := 2) (ρ := 3) (κ := 2) ?_ ?_
          · simp only [f_H_object, e1, g1, r1, f1, f_H_object_b43, pa_room0, pb_s, ↓reduceIte, pi_0, pi_1, px_l, px_r, pi_q, pi_r, pu_b0, pu_b1, if_true, if_false]
          · simp only [f_Md_object, g2, pl_It hN, f2, f_Md_object_b25, pf_3 e2 r2, pb_s, ↓reduceIte, pi_0, pi_1, px_l, px_r, pi_q, pi_r, pu_b0, pu_b1, if_true, if_false, lm_object' m5 c5 _ _ 3 (by decide), ph_3]
      · refine pOk.thr R (k := 2) (ρ := 2) (κ := 2) ?_ ?_
        · simp only [f_H_object, e1, g1, r1, pb_s, ↓reduceIte, pi_0, pi_1, px_l, px_r, pi_q, pi_r, pu_b0, pu_b1, if_true, if_false]
        · by_cases f : (30 : Int32) ≤ nI (n 5) <;> simp only [f_Md_object, g2, pl_It hN, f, f_Md_object_b25, pf_2 e2 r2, pb_s, ↓reduceIte, pi_0, pi_1, px_l, px_r, pi_q, pi_r, pu_b0, pu_b1, if_true, if_false, lm_object' m5 c5 _ _ 2 (by decide), ph_2]
    · refine pOk.thr R (k := 1) (ρ := 1) (κ := 1) ?_ ?_
      · simp only [f_H_object, e1, g1, pb_s, ↓reduceIte, pi_0, pi_1, px_l, px_r, pi_q, pi_r, pu_b0, pu_b1, if_true, if_false]
      · by_cases f : (30 : Int32) ≤ nI (n 5) <;> simp only [f_Md_object, g2, pl_It hN, f, f_Md_object_b25, pf_0, pb_s, ↓reduceIte, pi_0, pi_1, px_l, px_r, pi_q, pi_r, pu_b0, pu_b1, if_true, if_false, lm_object' m5 c5 _ _ 1 (by decide), ph_1]
  · refine pOk.thr R (k := 1) (ρ := 1) (κ := 1) ?_ ?_
    · simp only [f_H_object, e1, pb_s, ↓reduceIte, pi_0, pi_1, px_l, px_r, pi_q, pi_r, pu_b0, pu_b1, if_true, if_false]
    · rcases pk_Fi hN b with ⟨s, hs, hsc, rfl, g1, g2⟩ | ⟨g1, g2⟩ <;> by_cases f : (30 : Int32) ≤ nI (n 5) <;> simp only [f_Md_object, g2, pl_It hN, f, f_Md_object_b25, pf_N e2, pb_s, ↓reduceIte, pi_0, pi_1, px_l, px_r, pi_q, pi_r, pu_b0, pu_b1, if_true, if_false, lm_object' m5 c5 _ _ 1 (by decide), ph_1]

/-! PURE: what lies above what, and the years of a context -/
theorem qA.six {n : Nat → Nat} {h m : Nat → Nat → Int32} (hA : qA n h m) (g : Nat → Int32) : qA n h (va_up m 6 g) := ⟨hA.1, hA.2.1, hA.2.2.1, hA.2.2.2.1, hA.2.2.2.2.1, hA.2.2.2.2.2.1, hA.2.2.2.2.2.2.1, hA.2.2.2.2.2.2.2.1, hA.2.2.2.2.2.2.2.2⟩
theorem pRel.six {st sm : pu_St} (R : pRel st sm) (g : Nat → Int32) : pRel st (sm.1, va_up sm.2 6 g) := by
  obtain ⟨n, hN, hA⟩ := R
  exact ⟨n, hN, hA.six g⟩
theorem pu_row20 {i j : Nat} : (((20 : Int32) * nI i) + nI (300 + j)) - 300 = nI (20 * i + j) := by
  have e3 : (300 : Int32) = nI 300 := (rfl)
  have e4 : 20 * i + (300 + j) - 300 = 20 * i + j := by omega
  rw [pu_c20, e3, pk_sub (by omega), e4]
theorem p_isAbove : ∀ st sm, pRel st sm → ∀ a1 a2 : Int32, pOk [1] pRel (f_H_isAbove st a1 a2) (f_Md_isAbove sm a1 a2) := by
  intro st sm R a b
  obtain ⟨n, hN, hA⟩ := id R
  have c3 : n 3 ≤ 20 := hN.c (k := 3) (by decide) (by decide)
  rcases pk_Co hN a with ⟨i, hi, hic, rfl, e1, e2⟩ | ⟨e1, e2⟩
  · have e : nI (300 + i) - 300 = nI i := pu_sub
    rcases pk_Co hN b with ⟨j, hj, hjc, rfl, g1, g2⟩ | ⟨g1, g2⟩
    · obtain ⟨S, F, L, T, h1, h2, h3, h4, h5, h6, h7, h8, h9⟩ := hA.2.1
      obtain ⟨g, q1, q2⟩ := pfo_follow (A := va_up (va_up sm.1 1 (sm.1 1)) 0 0) (B := sm.2) (T := T) (fun i j t => by have := h4 i j t; omega) h5
      have l : pu_ld (va_up sm.2 6 g 6) 400 (nI (20 * i + j)) = some (g (20 * i + j)) := pu_ld_nI (by omega) (by decide)
      rcases co_over (st := st) c3 h6 hi hjc with ⟨w1, w2⟩ | ⟨w1, w2⟩
      · refine pOk.ret (R.acc.six g) (x := 1) ?_ ?_
        · simp only [f_H_isAbove, e1, g1, w1, pb_s, ↓reduceIte, pi_0, pi_1, px_l, px_r, pi_q, pi_r, pu_b0, pu_b1, if_true, if_false]
        · rcases q2 i j hic hjc with ⟨u, _⟩ | ⟨_, u⟩
          · simp only [f_Md_isAbove, e2, g2, f_Md_isAbove_b24, ph_0, q1, e, pu_row20, l, u, pb_s, ↓reduceIte, pi_0, pi_1, px_l, px_r, pi_q, pi_r, pu_b0, pu_b1, if_true, if_false]
          · exact absurd w2 u
      · refine pOk.ret (R.acc.six g) (x := 0) ?_ ?_
        · simp only [f_H_isAbove, e1, g1, w1, pb_s, ↓reduceIte, pi_0, pi_1, px_l, px_r, pi_q, pi_r, pu_b0, pu_b1, if_true, if_false]
        · rcases q2 i j hic hjc with ⟨_, u⟩ | ⟨u, _⟩
          · exact absurd u w2
          · simp only [f_Md_isAbove, e2, g2, f_Md_isAbove_b24, ph_0, q1, e, pu_row20, l, u, pb_s, ↓reduceIte, pi_0, pi_1, px_l, px_r, pi_q, pi_r, pu_b0, pu_b1, if_true, if_false]
    · refine pOk.thr R (k := 1) (ρ := 1) (κ := 1) ?_ ?_
      · simp only [f_H_isAbove, e1, g1, pb_s, ↓reduceIte, pi_0, pi_1, px_l, px_r, pi_q, pi_r, pu_b0, pu_b1, if_true, if_false]
      · simp only [f_Md_isAbove, e2, g2, f_Md_isAbove_b23, f_Md_isAbove_b24, ph_1, pb_s, ↓reduceIte, pi_0, pi_1, px_l, px_r, pi_q, pi_r, pu_b0, pu_b1, if_true, if_false]
  · refine pOk.thr R (k := 1) (ρ := 1) (κ := 1) ?_ ?_
    · simp only [f_H_isAbove, e1, pb_s, ↓reduceIte, pi_0, pi_1, px_l, px_r, pi_q, pi_r, pu_b0, pu_b1, if_true, if_false]
    · simp only [f_Md_isAbove, e2, f_Md_isAbove_b23, f_Md_isAbove_b24, ph_1, pb_s, ↓reduceIte, pi_0, pi_1, px_l, px_r, pi_q, pi_r, pu_b0, pu_b1, if_true, if_false]
theorem pu_01 (x : Int32) : x = 0 ∨ x = 1 ∨ (¬ x = 0 ∧ ¬ x = 1 ∧ (x < 0 ∨ 1 < x)) := by
  by_cases h0 : x = 0
  · exact Or.inl h0
  by_cases h1 : x = 1
  · exact Or.inr (Or.inl h1)
  refine Or.inr (Or.inr ⟨h0, h1, ?_⟩)
  by_cases q1 : x < 0
  · exact Or.inl q1
  by_cases q2 : 1 < x
  · exact Or.inr q2
  exfalso
  have r1 : ¬ x.toInt < 0 := fun h => q1 (Int32.lt_iff_toInt_lt.mpr h)
  have r2 : ¬ 1 < x.toInt := fun h => q2 (Int32.lt_iff_toInt_lt.mpr h)
  have e : x.toInt = 0 ∨ x.toInt = 1 := by omega
  rcases e with e | e
  · exact h0 (Int32.toInt_inj.mp e)
  · exact h1 (Int32.toInt_inj.mp e)
theorem p_year : ∀ st sm, pRel st sm → ∀ a1 a2 : Int32, pOk [1, 3] pRel (f_H_year st a1 a2) (f_Md_year sm a1 a2) := by
  intro st sm R a x
  obtain ⟨n, hN, hA⟩ := id R
  have c3 : n 3 ≤ 20 := hN.c (k := 3) (by decide) (by decide)
  rcases pk_Co hN a with ⟨i, hi, hic, rfl, e1, e2⟩ | ⟨e1, e2⟩
  · have e : nI (300 + i) - 300 = nI i := pu_sub
    obtain ⟨S, F, L, T, h1, h2, h3, h4, h5, h6, h7, h8, h9⟩ := hA.2.1
    obtain ⟨g, q1, q2⟩ := pfo_follow (A := va_up (va_up sm.1 1 (sm.1 1)) 0 0) (B := sm.2) (T := T) (fun i j t => by have := h4 i j t; omega) h5
    rcases pu_01 x with rfl | rfl | ⟨n0, n1, x1⟩
    · obtain ⟨v, v1, v2, v3⟩ := ph_ear (st := st) (W := Relation.TransGen T) (F := F) (ps_Co hN) c3 h6 (fun j hj => ⟨(h2 j hj).1, (h2 j hj).2.1⟩) hi
      obtain ⟨w, w1, w2, w3⟩ := pm_ear (sm := (va_up (va_up sm.1 1 (sm.1 1)) 0 0, va_up sm.2 6 g)) (W := Relation.TransGen T) (F := F) (pl_Co hN) c3 q2 (fun j hj => ⟨(h2 j hj).1, (h2 j hj).2.2⟩) hi
      have vw : v = w := v3.eq w3
      subst vw
      refine pOk.ret (R.acc.six g) (x := nI v) ?_ ?_
      · simp only [f_H_year, e1, f_H_year_b21, f_H_year_b26, pa_ask1, v2, pb_s, ↓reduceIte, pi_0, pi_1, px_l, px_r, pi_q, pi_r, pu_b0, pu_b1, if_true, if_false]
      · simp only [f_Md_year, e2, f_Md_year_b14, pL_1 (x := 0) (a := 0) (b := 1) (by decide) (by decide), pt_01, ph_s0, q1, e, w2, pb_s, ↓reduceIte, pi_0, pi_1, px_l, px_r, pi_q, pi_r, pu_b0, pu_b1, if_true, if_false]
    · obtain ⟨v, v1, v2, v3⟩ := ph_lat (st := st) (W := Relation.TransGen T) (L := L) (ps_Co hN) c3 h6 (fun j hj => ⟨(h3 j hj).1, (h3 j hj).2.1⟩) hi
      obtain ⟨w, w1, w2, w3⟩ := pm_lat (sm := (va_up (va_up sm.1 1 (sm.1 1)) 0 0, va_up sm.2 6 g)) (W := Relation.TransGen T) (L := L) (pl_Co hN) c3 q2 (fun j hj => ⟨(h3 j hj).1, (h3 j hj).2.2⟩) hi
      have vw : v = w := v3.eq w3
      subst vw
      refine pOk.ret (R.acc.six g) (x := nI v) ?_ ?_
      · simp only [f_H_year, e1, f_H_year_b21, f_H_year_b26, pa_ask1, v2, pb_s, ↓reduceIte, pi_0, pi_1, px_l, px_r, pi_q, pi_r, pu_b0, pu_b1, if_true, if_false]
      · simp only [f_Md_year, e2, f_Md_year_b14, pL_1 (x := 1) (a := 0) (b := 1) (by decide) (by decide), pt_01, ph_s0, q1, e, w2, pb_s, ↓reduceIte, pi_0, pi_1, px_l, px_r, pi_q, pi_r, pu_b0, pu_b1, if_true, if_false]
    · refine pOk.thr R (k := 3) (ρ := 4) (κ := 2) ?_ ?_
      · simp only [f_H_year, e1, n0, n1, f_H_year_b26, pa_ask0, pb_s, ↓reduceIte, pi_0, pi_1, px_l, px_r, pi_q, pi_r, pu_b0, pu_b1, if_true, if_false]
      · simp only [f_Md_year, e2, f_Md_year_b14, pL_0 x1, pt_00, ph_s4, pb_s, ↓reduceIte, pi_0, pi_1, px_l, px_r, pi_q, pi_r, pu_b0, pu_b1, if_true, if_false]
  · refine pOk.thr R (k := 1) (ρ := 1) (κ := 1) ?_ ?_
    · simp only [f_H_year, e1, pb_s, ↓reduceIte, pi_0, pi_1, px_l, px_r, pi_q, pi_r, pu_b0, pu_b1, if_true, if_false]
    · rcases pu_01 x with rfl | rfl | ⟨n0, n1, x1⟩
      · simp only [f_Md_year, e2, f_Md_year_b14, pL_1 (x := 0) (a := 0) (b := 1) (by decide) (by decide), pt_1, ph_s1, pb_s, ↓reduceIte, pi_0, pi_1, px_l, px_r, pi_q, pi_r, pu_b0, pu_b1, if_true, if_false]
      · simp only [f_Md_year, e2, f_Md_year_b14, pL_1 (x := 1) (a := 0) (b := 1) (by decide) (by decide), pt_1, ph_s1, pb_s, ↓reduceIte, pi_0, pi_1, px_l, px_r, pi_q, pi_r, pu_b0, pu_b1, if_true, if_false]
      · simp only [f_Md_year, e2, f_Md_year_b14, pL_0 x1, pt_1, ph_s1, pb_s, ↓reduceIte, pi_0, pi_1, px_l, px_r, pi_q, pi_r, pu_b0, pu_b1, if_true, if_false]

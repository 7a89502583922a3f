/-! PURE: the calls, one by one -/
theorem p_rule : ∀ st sm, pRel st sm → ∃ v sm', f_H_rule st = some v ∧ f_Md_rule sm = some (v, sm') ∧ pRel st sm' := by
  intro st sm ⟨n, hN, hA⟩
  refine ⟨st.1 1, (va_up sm.1 0 0, sm.2), rfl, ?_, n, ?_, hA⟩
  · rw [hN.2.1]; rfl
  · obtain ⟨⟨t, t1, t2, t3⟩, h1, h2, h3, h4⟩ := hN
    exact ⟨⟨t, t1, t2, by simp [va_up, t3]⟩, by simp [va_up, h1], h2, h3, h4⟩
theorem p_count : ∀ st sm, pRel st sm → ∀ a1 : Int32, pOk [1] pRel (f_H_count st a1) (f_Md_count sm a1) := by
  intro st sm R a
  have R' : ∀ x : Int32, pRel st (va_up sm.1 0 x, sm.2) := by
    obtain ⟨n, ⟨⟨t, t1, t2, t3⟩, h1, h2, h3, h4⟩, hA⟩ := R
    exact fun x => ⟨n, ⟨⟨t, t1, t2, by simp [va_up, t3]⟩, by simp [va_up, h1], h2, h3, h4⟩, hA⟩
  obtain ⟨n, hN, hA⟩ := R
  by_cases c1 : a = 1
  · subst c1; exact pOk.ret (R' 0) (x := nI (n 1)) (by rw [← ps_De hN]; rfl) (by simp only [f_Md_count, pL_1 (x := 1) (a := 1) (b := 9) (by decide) (by decide), pb_s, ↓reduceIte, pi_0, pi_1, px_l, px_r, pi_q, pi_r, pu_b0, pu_b1, if_true, if_false, f_Md_count_b16, pl_De hN])
  by_cases c2 : a = 2
  · subst c2; exact pOk.ret (R' 0) (x := nI (n 2)) (by rw [← ps_Si hN]; rfl) (by simp only [f_Md_count, pL_1 (x := 2) (a := 1) (b := 9) (by decide) (by decide), pb_s, ↓reduceIte, pi_0, pi_1, px_l, px_r, pi_q, pi_r, pu_b0, pu_b1, if_true, if_false, f_Md_count_b16, pl_Si hN])
  by_cases c3 : a = 3
  · subst c3; exact pOk.ret (R' 0) (x := nI (n 3)) (by rw [← ps_Co hN]; rfl) (by simp only [f_Md_count, pL_1 (x := 3) (a := 1) (b := 9) (by decide) (by decide), pb_s, ↓reduceIte, pi_0, pi_1, px_l, px_r, pi_q, pi_r, pu_b0, pu_b1, if_true, if_false, f_Md_count_b16, pl_Co hN])
  by_cases c4 : a = 4
  · subst c4; exact pOk.ret (R' 0) (x := nI (n 4)) (by rw [← ps_Fi hN]; rfl) (by simp only [f_Md_count, pL_1 (x := 4) (a := 1) (b := 9) (by decide) (by decide), pb_s, ↓reduceIte, pi_0, pi_1, px_l, px_r, pi_q, pi_r, pu_b0, pu_b1, if_true, if_false, f_Md_count_b16, pl_Fi hN])
  by_cases c5 : a = 5
  · subst c5; exact pOk.ret (R' 0) (x := nI (n 5)) (by rw [← ps_It hN]; rfl) (by simp only [f_Md_count, pL_1 (x := 5) (a := 1) (b := 9) (by decide) (by decide), pb_s, ↓reduceIte, pi_0, pi_1, px_l, px_r, pi_q, pi_r, pu_b0, pu_b1, if_true, if_false, f_Md_count_b16, pl_It hN])
  by_cases c6 : a = 6
  · subst c6; exact pOk.ret (R' 0) (x := nI (n 6)) (by rw [← ps_So hN]; rfl) (by simp only [f_Md_count, pL_1 (x := 6) (a := 1) (b := 9) (by decide) (by decide), pb_s, ↓reduceIte, pi_0, pi_1, px_l, px_r, pi_q, pi_r, pu_b0, pu_b1, if_true, if_false, f_Md_count_b16, pl_So hN])
  by_cases c7 : a = 7
  · subst c7; exact pOk.ret (R' 0) (x := nI (n 7)) (by rw [← ps_Lo hN]; rfl) (by simp only [f_Md_count, pL_1 (x := 7) (a := 1) (b := 9) (by decide) (by decide), pb_s, ↓reduceIte, pi_0, pi_1, px_l, px_r, pi_q, pi_r, pu_b0, pu_b1, if_true, if_false, f_Md_count_b16, pl_Lo hN])
  by_cases c8 : a = 8
  · subst c8; exact pOk.ret (R' 0) (x := nI (n 8)) (by rw [← ps_Sh hN]; rfl) (by simp only [f_Md_count, pL_1 (x := 8) (a := 1) (b := 9) (by decide) (by decide), pb_s, ↓reduceIte, pi_0, pi_1, px_l, px_r, pi_q, pi_r, pu_b0, pu_b1, if_true, if_false, f_Md_count_b16, pl_Sh hN])
  by_cases c9 : a = 9
  · subst c9; exact pOk.ret (R' 0) (x := nI (n 9)) (by rw [← ps_Cl hN]; rfl) (by simp only [f_Md_count, pL_1 (x := 9) (a := 1) (b := 9) (by decide) (by decide), pb_s, ↓reduceIte, pi_0, pi_1, px_l, px_r, pi_q, pi_r, pu_b0, pu_b1, if_true, if_false, f_Md_count_b16, pl_Cl hN])
  have hl : a < 1 ∨ 9 < a := by
    by_cases h1 : a < 1
    · exact Or.inl h1
    by_cases h2 : 9 < a
    · exact Or.inr h2
    exfalso
    have q1 : ¬ a.toInt < 1 := fun h => h1 (Int32.lt_iff_toInt_lt.mpr h)
    have q2 : ¬ 9 < a.toInt := fun h => h2 (Int32.lt_iff_toInt_lt.mpr h)
    have k : ∀ w : Int32, a.toInt = w.toInt → a = w := fun w hw => Int32.toInt_inj.mp hw
    have e : a.toInt = 1 ∨ a.toInt = 2 ∨ a.toInt = 3 ∨ a.toInt = 4 ∨ a.toInt = 5 ∨ a.toInt = 6 ∨ a.toInt = 7 ∨ a.toInt = 8 ∨ a.toInt = 9 := by omega
    rcases e with e | e | e | e | e | e | e | e | e
    · exact c1 (k 1 e)
    · exact c2 (k 2 e)
    · exact c3 (k 3 e)
    · exact c4 (k 4 e)
    · exact c5 (k 5 e)
    · exact c6 (k 6 e)
    · exact c7 (k 7 e)
    · exact c8 (k 8 e)
    · exact c9 (k 9 e)
  refine ⟨.inr 1, st, 0, _, ?_, fun k e => (by cases e; decide), ?_, ?_, fun x e => (by cases e), R' 1⟩
  · simp only [f_H_count, c1, c2, c3, c4, c5, c6, c7, c8, c9, if_false]
  · simp only [f_Md_count, pL_0 hl, pb_s, ↓reduceIte, pi_0, pi_1, px_l, px_r, pi_q, pi_r, pu_b0, pu_b1, if_true, if_false, f_Md_count_b16]
  · rfl
theorem p_hall : ∀ st sm, pRel st sm → ∀ a1 : Int32, pOk [1] pRel (f_H_hall st a1) (f_Md_hall sm a1) := by
  intro st sm R a
  obtain ⟨n, hN, hA⟩ := id R
  rcases pk_Sh hN a with ⟨j, hj, hc, rfl, e1, e2⟩ | ⟨e1, e2⟩
  · obtain ⟨S, F, T, U, h1, -⟩ := hA.2.2.2.2.2.2.2.1
    obtain ⟨-, -, -, q1, q2, -⟩ := h1 j hj
    have e : nI (800 + j) - 800 = nI j := pu_sub
    refine pOk.ret R.acc (x := nI (600 + S j)) ?_ ?_
    · simp only [f_H_hall, e1, px_l, f_Sh_storeOf, pu_ld_nI hc (show 10 < 2 ^ 31 by decide), q1, Option.bind_some, f_Rg_handleOf_So]
      rw [← nI_add]; rfl
    · simp only [f_Md_hall, e2, Option.bind_some, pi_1, f_Md_hall_b16, ph_0, e, pu_ld_nI hc (show 10 < 2 ^ 31 by decide), q2]
  · refine pOk.thr R (k := 1) (ρ := 1) (κ := 1) ?_ ?_
    · simp only [f_H_hall, e1, px_r]
    · simp only [f_Md_hall, e2, pb_s, ↓reduceIte, pi_0, pi_1, px_l, px_r, pi_q, pi_r, pu_b0, pu_b1, if_true, if_false, f_Md_hall_b16, ph_1]
theorem p_day : ∀ st sm, pRel st sm → ∀ a1 : Int32, pOk [3] pRel (f_H_day st a1) (f_Md_day sm a1) := by
  intro st sm R a
  obtain ⟨n, hN, hA⟩ := id R
  obtain ⟨⟨t, t1, t2, t3⟩, h1, h2, h3, h4⟩ := id hN
  have thr : ∀ (e : f_H_day st a = f_H_day_b29 st a 4) (e' : f_Md_day sm a = f_Md_day_b27 sm a), pOk [3] pRel (f_H_day st a) (f_Md_day sm a) := by
    intro e e'
    refine ⟨.inr 3, (va_up st.1 1 4, st.2), 0, (va_up (va_up (va_up sm.1 1 4) 0 1) 2 (sm.1 2), sm.2), by rw [e]; rfl, fun k e => (by cases e; decide), by rw [e']; simp only [f_Md_day_b27, f_Md_day_b28, f_Md_day_b42, f_Md_day_b55, f_Md_day_b76, pb_s, ↓reduceIte, pi_0, pi_1, px_l, px_r, pi_q, pi_r, pu_b0, pu_b1, if_true, if_false]; rfl, rfl, fun x e => (by cases e), n, ?_, hA⟩
    refine ⟨⟨t, t1, by simp [va_up, t2], by simp [va_up, t3]⟩, by simp [va_up], fun i p q => ?_, h3, h4⟩
    exact (va_up_ne _ _ (show i + 1 ≠ 1 by omega)).trans (h2 i p q)
  by_cases c1 : a < 0
  · exact thr (by simp only [f_H_day, c1, if_true]) (by simp only [f_Md_day, pL_0 (Or.inl c1), pb_s, ↓reduceIte, pi_0, pi_1, px_l, px_r, pi_q, pi_r, pu_b0, pu_b1, if_true, if_false])
  by_cases c2 : 1000 < a
  · exact thr (by simp only [f_H_day, c1, c2, if_true, if_false]) (by simp only [f_Md_day, pL_0 (Or.inr c2), pb_s, ↓reduceIte, pi_0, pi_1, px_l, px_r, pi_q, pi_r, pu_b0, pu_b1, if_true, if_false])
  obtain ⟨d, hd, rfl⟩ := nI_of c1
  have hd2 : d ≤ 1000 := by
    rcases Nat.lt_or_ge 1000 d with q | q
    · exact absurd (nI_lt (a := 1000) q hd) c2
    · exact q
  have e1 : (9999 : Int32) - st.1 0 = nI (9999 - t) := by rw [t2]; exact pk_sub (a := 9999) t1
  have e2 : sm.1 2 + nI d = nI (t + d) := by rw [t3, nI_add]
  by_cases c3 : 9999 < t + d
  · have q1 : nI (9999 - t) < nI d := nI_lt (by omega) (by omega)
    have q2 : (9999 : Int32) < nI (t + d) := nI_lt (a := 9999) c3 (by omega)
    exact thr (by simp only [f_H_day, c1, c2, e1, q1, if_true, if_false]) (by simp only [f_Md_day, pL_1 c1 c2, Option.bind_some, pi_1, e2, q2, if_true])
  · have q1 : ¬ nI (9999 - t) < nI d := nI_nlt (by omega) (by omega)
    have q2 : ¬ (9999 : Int32) < nI (t + d) := nI_nlt (b := t + d) (a := 9999) (by omega) (by decide)
    refine pOk.ret (st' := (va_up st.1 0 (nI (t + d)), st.2)) (sm' := (va_up (va_up (va_up sm.1 1 (sm.1 1)) 0 0) 2 (nI (t + d)), sm.2)) (x := nI (t + d)) ⟨n, ?_, hA⟩ ?_ ?_
    · refine ⟨⟨t + d, by omega, rfl, rfl⟩, ?_, fun i p q => ?_, h3, h4⟩
      · simp [va_up, h1]
      · show va_up st.1 0 (nI (t + d)) (i + 1) = _
        rw [va_up_ne _ _ (show i + 1 ≠ 0 by omega)]; exact h2 i p q
    · simp only [f_H_day, c1, c2, e1, q1, if_true, if_false, f_H_day_b30, pa_ask1, px_l]; rw [t2, nI_add]
    · simp only [f_Md_day, pL_1 c1 c2, Option.bind_some, pi_1, e2, q2, if_true, if_false]
      simp only [f_Md_day_b28, pi_1, f_Md_day_b42, f_Md_day_b55, f_Md_day_b76]
      show some ((sm.1 2 + nI d), (va_up (va_up (va_up sm.1 1 (sm.1 1)) 0 0) 2 (sm.1 2 + nI d), sm.2)) = _
      rw [e2]

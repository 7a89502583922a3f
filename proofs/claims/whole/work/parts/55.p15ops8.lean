theorem qW.hang {n5 n6 n8 : Nat} {hs hf ht hh ms mf mt mh : Nat → Int32} {S F T : Nat → Nat} {U : Nat → Nat → Prop} (c5 : n5 ≤ 30) (c8 : n8 ≤ 10) (k1 : ∀ j, j < n8 → S j < n6 ∧ F j ≤ 9999 ∧ T j ≤ 9999 ∧ hs j = nI (S j) ∧ ms j = nI (600 + S j) ∧ hf j = nI (F j) ∧ mf j = nI (F j) ∧ ht j = nI (T j) ∧ mt j = nI (T j)) (k2 : ∀ j o, U j o → j < n8 ∧ o < n5) (k3 : ∀ j o, j < 10 → o < 30 → (mh (30 * j + o) = 1 ∧ U j o) ∨ (mh (30 * j + o) = 0 ∧ ¬ U j o)) (k4 : ∀ j o, j < n8 → o < 30 → (pOff (hh j) o ↔ ¬ U j o)) (k5 : ∀ j k o, j ≠ k → U j o → U k o → T j < F k ∨ T k < F j) {s o : Nat} (hs1 : s < n8) (ho : o < n5) (free : ∀ i, i < n8 → ¬ pMS hf ht U o (hf s) (ht s) i) :
    qW n5 n6 n8 hs hf ht (upd hh s (hh s ||| ((1 : Int32) <<< (nI o &&& 31)))) ms mf mt (upd mh (30 * s + o) 1) := by
  have fr : ∀ i, U i o → T i < F s ∨ T s < F i := by
    intro i u
    have hi := (k2 i o u).1
    have k := free i hi
    obtain ⟨q1, q2, q3, q4, q5, q6, q7, q8, q9⟩ := k1 i hi
    obtain ⟨p1, p2, p3, p4, p5, p6, p7, p8, p9⟩ := k1 s hs1
    unfold pMS at k
    rw [q6, q8, p6, p8, nI_ltI (by omega) (by omega), nI_ltI (by omega) (by omega)] at k
    by_cases a : T s < F i
    · exact Or.inr a
    · by_cases b : T i < F s
      · exact Or.inl b
      · exact absurd ⟨u, a, b⟩ k
  refine ⟨S, F, T, fun j x => U j x ∨ (j = s ∧ x = o), k1, fun j x q => ?_, fun j x hj hx => ?_, fun j x hj hx => ?_, fun j k x hjk u1 u2 => ?_⟩
  · rcases q with q | ⟨rfl, rfl⟩
    · exact k2 j x q
    · exact ⟨hs1, ho⟩
  · by_cases c : 30 * j + x = 30 * s + o
    · have e1 : j = s := by omega
      have e2 : x = o := by omega
      subst e1 e2
      rw [pk_us]
      exact Or.inl ⟨rfl, Or.inr ⟨rfl, rfl⟩⟩
    · rw [pk_un c]
      rcases k3 j x hj hx with ⟨q1, q2⟩ | ⟨q1, q2⟩
      · exact Or.inl ⟨q1, Or.inl q2⟩
      · refine Or.inr ⟨q1, fun q => q.elim q2 (fun e => c ?_)⟩
        rw [e.1, e.2]
  · by_cases c : j = s
    · subst c
      rw [pk_us, pb_or (by omega), pb_one (by omega) (by omega), k4 j x hj hx]
      constructor
      · rintro ⟨q1, q2⟩ (q | ⟨_, q⟩)
        · exact q1 q
        · exact q2 q
      · intro q
        exact ⟨fun u => q (Or.inl u), fun e => q (Or.inr ⟨rfl, e⟩)⟩
    · rw [pk_un c, k4 j x hj hx]
      constructor
      · rintro q (u | ⟨e, _⟩)
        · exact q u
        · exact c e
      · exact fun q u => q (Or.inl u)
  · rcases u1 with u1 | ⟨rfl, rfl⟩
    · rcases u2 with u2 | ⟨rfl, rfl⟩
      · exact k5 j k x hjk u1 u2
      · exact fr j u1
    · rcases u2 with u2 | ⟨rfl, _⟩
      · exact (fr k u2).symm
      · exact absurd rfl hjk
theorem qW.take {n5 n6 n8 : Nat} {hs hf ht hh ms mf mt mh : Nat → Int32} (h : qW n5 n6 n8 hs hf ht hh ms mf mt mh) (c5 : n5 ≤ 30) {s o : Nat} (hs1 : s < n8) (ho : o < n5) :
    qW n5 n6 n8 hs hf ht (upd hh s (hh s &&& (((1 : Int32) <<< (nI o &&& 31)) ^^^ (-1)))) ms mf mt (upd mh (30 * s + o) 0) := by
  obtain ⟨S, F, T, U, k1, k2, k3, k4, k5⟩ := h
  refine ⟨S, F, T, fun j x => U j x ∧ ¬ (j = s ∧ x = o), k1, fun j x q => k2 j x q.1, fun j x hj hx => ?_, fun j x hj hx => ?_, fun j k x hjk u1 u2 => k5 j k x hjk u1.1 u2.1⟩
  · by_cases c : 30 * j + x = 30 * s + o
    · have e1 : j = s := by omega
      have e2 : x = o := by omega
      subst e1 e2
      rw [pk_us]
      exact Or.inr ⟨rfl, fun q => q.2 ⟨rfl, rfl⟩⟩
    · rw [pk_un c]
      rcases k3 j x hj hx with ⟨q1, q2⟩ | ⟨q1, q2⟩
      · exact Or.inl ⟨q1, q2, fun e => c (by rw [e.1, e.2])⟩
      · exact Or.inr ⟨q1, fun q => q2 q.1⟩
  · by_cases c : j = s
    · subst c
      rw [pk_us, pb_not (by omega) (by omega), k4 j x hj hx]
      constructor
      · rintro (q | q) u
        · exact q u.1
        · exact u.2 ⟨rfl, q⟩
      · intro q
        by_cases e : x = o
        · exact Or.inr e
        · exact Or.inl (fun u => q ⟨u, fun k => e k.2⟩)
    · rw [pk_un c, k4 j x hj hx]
      exact ⟨fun q u => q u.1, fun q u => q ⟨u, fun k => c k.1⟩⟩
theorem p_take : ∀ st sm, pRel st sm → ∀ a1 a2 a3 : Int32, pOk [1, 2] pRel (f_H_take st a1 a2 a3) (f_Md_take sm a1 a2 a3) := by
  intro st sm R a b c
  obtain ⟨n, hN, hA⟩ := id R
  have c5 : n 5 ≤ 30 := hN.c (k := 5) (by decide) (by decide)
  rcases pk_De hN a with ⟨j, hj, hc, rfl, e1, e2⟩ | ⟨e1, e2⟩
  · rcases pk_Sh hN b with ⟨s, hs, hsc, rfl, g1, g2⟩ | ⟨g1, g2⟩
    · rcases pk_It hN c with ⟨o, ho, hoc, rfl, i1, i2⟩ | ⟨i1, i2⟩
      · rcases pr_both hN hA.1 hj pB16 with ⟨r1, r2⟩ | ⟨r1, r2⟩
        · have e : nI (800 + s) - 800 = nI s := pu_sub
          have l : ∀ f : Nat → Int32, pu_ld f 10 (nI s) = some (f s) := fun f => pu_ld_nI hsc (by decide)
          have lr : ∀ f : Nat → Int32, pu_ld f 300 (nI (30 * s + o)) = some (f (30 * s + o)) := fun f => pu_ld_nI (by omega) (by decide)
          have sr : ∀ (f : Nat → Int32) (x : Int32), pu_sd f 300 (nI (30 * s + o)) x = some (upd f (30 * s + o) x) := fun f x => pu_sd_nI (by omega) (by decide)
          have R' : pRel (st.1, va_up st.2 19 (upd (st.2 19) s (st.2 19 s &&& (((1 : Int32) <<< (nI o &&& 31)) ^^^ (-1))))) (va_up (va_up sm.1 1 (sm.1 1)) 0 0, va_up sm.2 20 (upd (sm.2 20) (30 * s + o) 0)) := ⟨n, hN.acc, hA.1, hA.2.1, hA.2.2.1, hA.2.2.2.1, hA.2.2.2.2.1, hA.2.2.2.2.2.1, hA.2.2.2.2.2.2.1, hA.2.2.2.2.2.2.2.1.take c5 hs ho, hA.2.2.2.2.2.2.2.2⟩
          obtain ⟨S, F, T, U, k1, k2, k3, k4, k5⟩ := hA.2.2.2.2.2.2.2.1
          rcases k3 s o hsc hoc with ⟨u1, u2⟩ | ⟨u1, u2⟩
          · have m0 : ¬ (st.2 19 s &&& ((1 : Int32) <<< (nI o &&& 31))) = 0 := fun q => (k4 s o hs hoc).mp q u2
            refine pOk.ret R' (x := 1) ?_ ?_
            · simp only [f_H_take, e1, g1, i1, r1, f_Sh_holds, f_Sh_putOut, l, m0, pu_sd_nI hsc (show 10 < 2 ^ 31 by decide), pb_s, ↓reduceIte, pi_0, pi_1, px_l, px_r, pi_q, pi_r, pu_b0, pu_b1, if_true, if_false]
            · simp only [f_Md_take, g2, i2, f_Md_take_b26, pf_A e2 r2, ph_0, e, pu_row, lr, sr, u1, pb_s, ↓reduceIte, pi_0, pi_1, px_l, px_r, pi_q, pi_r, pu_b0, pu_b1, if_true, if_false]
          · have m0 : (st.2 19 s &&& ((1 : Int32) <<< (nI o &&& 31))) = 0 := (k4 s o hs hoc).mpr u2
            refine pOk.ret R' (x := 0) ?_ ?_
            · simp only [f_H_take, e1, g1, i1, r1, f_Sh_holds, f_Sh_putOut, l, m0, pu_sd_nI hsc (show 10 < 2 ^ 31 by decide), pb_s, ↓reduceIte, pi_0, pi_1, px_l, px_r, pi_q, pi_r, pu_b0, pu_b1, if_true, if_false]
            · simp only [f_Md_take, g2, i2, f_Md_take_b26, pf_A e2 r2, ph_0, e, pu_row, lr, sr, u1, pb_s, ↓reduceIte, pi_0, pi_1, px_l, px_r, pi_q, pi_r, pu_b0, pu_b1, if_true, if_false]
        · refine pOk.thr R (k := 2) (ρ := 2) (κ := 2) ?_ ?_
          · simp only [f_H_take, e1, g1, i1, r1, pb_s, ↓reduceIte, pi_0, pi_1, px_l, px_r, pi_q, pi_r, pu_b0, pu_b1, if_true, if_false]
          · simp only [f_Md_take, g2, i2, f_Md_take_b26, pf_2 e2 r2, ph_2, pb_s, ↓reduceIte, pi_0, pi_1, px_l, px_r, pi_q, pi_r, pu_b0, pu_b1, if_true, if_false]
      · refine pOk.thr R (k := 1) (ρ := 1) (κ := 1) ?_ ?_
        · simp only [f_H_take, e1, g1, i1, pb_s, ↓reduceIte, pi_0, pi_1, px_l, px_r, pi_q, pi_r, pu_b0, pu_b1, if_true, if_false]
        · simp only [f_Md_take, g2, i2, f_Md_take_b25, f_Md_take_b26, pf_0, ph_1, pb_s, ↓reduceIte, pi_0, pi_1, px_l, px_r, pi_q, pi_r, pu_b0, pu_b1, if_true, if_false]
    · refine pOk.thr R (k := 1) (ρ := 1) (κ := 1) ?_ ?_
      · simp only [f_H_take, e1, g1, pb_s, ↓reduceIte, pi_0, pi_1, px_l, px_r, pi_q, pi_r, pu_b0, pu_b1, if_true, if_false]
      · simp only [f_Md_take, g2, f_Md_take_b25, f_Md_take_b26, pf_0, ph_1, pb_s, ↓reduceIte, pi_0, pi_1, px_l, px_r, pi_q, pi_r, pu_b0, pu_b1, if_true, if_false]
  · refine pOk.thr R (k := 1) (ρ := 1) (κ := 1) ?_ ?_
    · simp only [f_H_take, e1, pb_s, ↓reduceIte, pi_0, pi_1, px_l, px_r, pi_q, pi_r, pu_b0, pu_b1, if_true, if_false]
    · rcases pk_Sh hN b with ⟨s, hs, hsc, rfl, g1, g2⟩ | ⟨g1, g2⟩
      · rcases pk_It hN c with ⟨o, ho, hoc, rfl, i1, i2⟩ | ⟨i1, i2⟩ <;> simp only [f_Md_take, g2, i2, f_Md_take_b25, f_Md_take_b26, pf_N e2, ph_1, pb_s, ↓reduceIte, pi_0, pi_1, px_l, px_r, pi_q, pi_r, pu_b0, pu_b1, if_true, if_false]
      · simp only [f_Md_take, g2, f_Md_take_b25, f_Md_take_b26, pf_0, ph_1, pb_s, ↓reduceIte, pi_0, pi_1, px_l, px_r, pi_q, pi_r, pu_b0, pu_b1, if_true, if_false]
set_option maxRecDepth 4000 in
theorem p_hang : ∀ st sm, pRel st sm → ∀ a1 a2 a3 : Int32, pOk [1, 2, 3] pRel (f_H_hang st a1 a2 a3) (f_Md_hang sm a1 a2 a3) := by
  intro st sm R a b c
  obtain ⟨n, hN, hA⟩ := id R
  have c5 : n 5 ≤ 30 := hN.c (k := 5) (by decide) (by decide)
  have c8 : n 8 ≤ 10 := hN.c (k := 8) (by decide) (by decide)
  have mm : ∀ (x : Int32) (y : Int32) (z : Int32), 0 < y → ¬ y = 0 → ∀ {r : pu_St}, f_Md_holds sm y = some (0, r) → f_Md_hang_b52 sm a b c x y z = some (0, r) := fun x y z h1 h2 r h3 => by
    simp only [f_Md_hang_b52, h2, f_Md_hang_b86, pi_p h1, f_Md_hang_b108, f_Md_hang_b113, pt_n h1, f_Md_hang_b135, f_Md_hang_b140, f_Md_hang_b200, f_Md_hang_b205, h3, pb_s, ↓reduceIte, pi_0, pi_1, px_l, px_r, pi_q, pi_r, pu_b0, pu_b1, if_true, if_false]
  rcases pk_De hN a with ⟨j, hj, hc, rfl, e1, e2⟩ | ⟨e1, e2⟩
  · rcases pk_Sh hN b with ⟨s, hs, hsc, rfl, g1, g2⟩ | ⟨g1, g2⟩
    · rcases pk_It hN c with ⟨o, ho, hoc, rfl, i1, i2⟩ | ⟨i1, i2⟩
      · rcases pr_both hN hA.1 hj pB16 with ⟨r1, r2⟩ | ⟨r1, r2⟩
        · have e : nI (800 + s) - 800 = nI s := pu_sub
          have l : ∀ f : Nat → Int32, pu_ld f 10 (nI s) = some (f s) := fun f => pu_ld_nI hsc (by decide)
          have lr : ∀ f : Nat → Int32, pu_ld f 300 (nI (30 * s + o)) = some (f (30 * s + o)) := fun f => pu_ld_nI (by omega) (by decide)
          have sr : ∀ (f : Nat → Int32) (x : Int32), pu_sd f 300 (nI (30 * s + o)) x = some (upd f (30 * s + o) x) := fun f x => pu_sd_nI (by omega) (by decide)
          obtain ⟨S, F, T, U, k1, k2, k3, k4, k5⟩ := hA.2.2.2.2.2.2.2.1
          rcases k3 s o hsc hoc with ⟨u1, u2⟩ | ⟨u1, u2⟩
          · have m0 : ¬ (st.2 19 s &&& ((1 : Int32) <<< (nI o &&& 31))) = 0 := fun q => (k4 s o hs hoc).mp q u2
            refine pOk.ret R.acc (x := 0) ?_ ?_
            · simp only [f_H_hang, e1, g1, i1, r1, f_Sh_holds, l, m0, pb_s, ↓reduceIte, pi_0, pi_1, px_l, px_r, pi_q, pi_r, pu_b0, pu_b1, if_true, if_false]
            · have u3 : ¬ (1 : Int32) = 0 := by decide
              simp only [f_Md_hang, g2, i2, f_Md_hang_b24, pf_A e2 r2, e, f_Md_hang_b52, pu_row, lr, u1, ph_0, pb_s, ↓reduceIte, pi_0, pi_1, px_l, px_r, pi_q, pi_r, pu_b0, pu_b1, if_true, if_false]
          · have m0 : (st.2 19 s &&& ((1 : Int32) <<< (nI o &&& 31))) = 0 := (k4 s o hs hoc).mpr u2
            obtain ⟨q1, q2, q3, q4, q5, q6, q7, q8, q9⟩ := k1 s hs
            have w1 : sm.2 18 s = st.2 17 s := by rw [q6, q7]
            have w2 : sm.2 19 s = st.2 18 s := by rw [q8, q9]
            obtain ⟨v, v1, ⟨v2, v3⟩ | ⟨v2, ⟨v3, v4⟩ | ⟨v3, ⟨y, v4, v5, v6⟩ | ⟨v4, ⟨y, v5, v6, v7⟩ | ⟨v5, v6, v7, v8⟩⟩⟩⟩⟩ := pf_free hN hA k1 k3 k4 ho (st.2 17 s) (st.2 18 s) (nI s) (fun i hi e => by rw [(nI_eq (by omega) (by omega)).mp e]; exact u2)
            · refine pOk.thr R (k := 3) (ρ := 11) (κ := 3) ?_ ?_
              · simp only [f_H_hang, e1, g1, i1, r1, f_Sh_holds, l, m0, f_Sh_firstDayOf, f_Sh_lastDayOf, v3, pb_s, ↓reduceIte, pi_0, pi_1, px_l, px_r, pi_q, pi_r, pu_b0, pu_b1, if_true, if_false]
              · simp only [f_Md_hang, g2, i2, f_Md_hang_b24, pf_A e2 r2, e, f_Md_hang_b52, pu_row, lr, u1, pb_s, ↓reduceIte, pi_0, pi_1, px_l, px_r, pi_q, pi_r, pu_b0, pu_b1, if_true, if_false, f_Md_hang_b86, l, w1, v1, v2, f_Md_hang_b113, pt_00, pi_p (show (0 : Int32) < 11 by decide), f_Md_hang_b135, f_Md_hang_b140, pt_11, f_Md_hang_b200, f_Md_hang_b205, ph_11]
            · refine pOk.thr R (k := 3) (ρ := 13) (κ := 3) ?_ ?_
              · simp only [f_H_hang, e1, g1, i1, r1, f_Sh_holds, l, m0, f_Sh_firstDayOf, f_Sh_lastDayOf, v4, pb_s, ↓reduceIte, pi_0, pi_1, px_l, px_r, pi_q, pi_r, pu_b0, pu_b1, if_true, if_false]
              · simp only [f_Md_hang, g2, i2, f_Md_hang_b24, pf_A e2 r2, e, f_Md_hang_b52, pu_row, lr, u1, pb_s, ↓reduceIte, pi_0, pi_1, px_l, px_r, pi_q, pi_r, pu_b0, pu_b1, if_true, if_false, f_Md_hang_b86, l, w1, v1, v2, f_Md_hang_b108, f_Md_hang_b113, pt_01, v3, f_Md_hang_b140, pt_00, pi_p (show (0 : Int32) < 13 by decide), pt_13, f_Md_hang_b200, f_Md_hang_b205, ph_13]
            · refine pOk.thr R (k := 3) (ρ := 14) (κ := 3) ?_ ?_
              · simp only [f_H_hang, e1, g1, i1, r1, f_Sh_holds, l, m0, f_Sh_firstDayOf, f_Sh_lastDayOf, v6, pb_s, ↓reduceIte, pi_0, pi_1, px_l, px_r, pi_q, pi_r, pu_b0, pu_b1, if_true, if_false]
              · simp only [f_Md_hang, g2, i2, f_Md_hang_b24, pf_A e2 r2, e, f_Md_hang_b52, pu_row, lr, u1, pb_s, ↓reduceIte, pi_0, pi_1, px_l, px_r, pi_q, pi_r, pu_b0, pu_b1, if_true, if_false, f_Md_hang_b86, l, w1, w2, v1, v2, f_Md_hang_b108, f_Md_hang_b113, pt_01, v3, f_Md_hang_b135, f_Md_hang_b140, v4, v5, f_Md_hang_b204, f_Md_hang_b205, pt_00, ph_14]
            · refine pOk.thr R (k := 3) (ρ := 14) (κ := 3) ?_ ?_
              · simp only [f_H_hang, e1, g1, i1, r1, f_Sh_holds, l, m0, f_Sh_firstDayOf, f_Sh_lastDayOf, v7, pb_s, ↓reduceIte, pi_0, pi_1, px_l, px_r, pi_q, pi_r, pu_b0, pu_b1, if_true, if_false]
              · simp only [f_Md_hang, g2, i2, f_Md_hang_b24, pf_A e2 r2, e, f_Md_hang_b52, pu_row, lr, u1, pb_s, ↓reduceIte, pi_0, pi_1, px_l, px_r, pi_q, pi_r, pu_b0, pu_b1, if_true, if_false, f_Md_hang_b86, l, w1, w2, v1, v2, f_Md_hang_b108, f_Md_hang_b113, pt_01, v3, f_Md_hang_b135, f_Md_hang_b140, v4, v5, v6, f_Md_hang_b204, f_Md_hang_b205, pt_00, ph_14]
            · refine pOk.ret (st' := (st.1, va_up st.2 19 (upd (st.2 19) s (st.2 19 s ||| ((1 : Int32) <<< (nI o &&& 31)))))) (sm' := (va_up (va_up sm.1 1 (sm.1 1)) 0 0, va_up sm.2 20 (upd (sm.2 20) (30 * s + o) 1))) (x := 1) ?_ ?_ ?_
              · exact ⟨n, hN.acc, hA.1, hA.2.1, hA.2.2.1, hA.2.2.2.1, hA.2.2.2.2.1, hA.2.2.2.2.2.1, hA.2.2.2.2.2.2.1, qW.hang c5 c8 k1 k2 k3 k4 k5 hs ho v8, hA.2.2.2.2.2.2.2.2⟩
              · simp only [f_H_hang, e1, g1, i1, r1, f_Sh_holds, l, m0, f_Sh_firstDayOf, f_Sh_lastDayOf, v6, f_Sh_putIn, pu_sd_nI hsc (show 10 < 2 ^ 31 by decide), pb_s, ↓reduceIte, pi_0, pi_1, px_l, px_r, pi_q, pi_r, pu_b0, pu_b1, if_true, if_false]
              · simp only [f_Md_hang, g2, i2, f_Md_hang_b24, pf_A e2 r2, e, f_Md_hang_b52, pu_row, lr, u1, pb_s, ↓reduceIte, pi_0, pi_1, px_l, px_r, pi_q, pi_r, pu_b0, pu_b1, if_true, if_false, f_Md_hang_b86, l, w1, w2, v1, v2, f_Md_hang_b108, f_Md_hang_b113, pt_01, v3, f_Md_hang_b135, f_Md_hang_b140, v4, v5, f_Md_hang_b200, f_Md_hang_b205, ph_0, sr]
        · refine pOk.thr R (k := 2) (ρ := 2) (κ := 2) ?_ ?_
          · simp only [f_H_hang, e1, g1, i1, r1, pb_s, ↓reduceIte, pi_0, pi_1, px_l, px_r, pi_q, pi_r, pu_b0, pu_b1, if_true, if_false]
          · simp only [f_Md_hang, g2, i2, f_Md_hang_b24, pf_2 e2 r2, mm _ 2 _ (by decide) (by decide) (ph_2 sm), pb_s, ↓reduceIte, pi_0, pi_1, px_l, px_r, pi_q, pi_r, pu_b0, pu_b1, if_true, if_false]
      · refine pOk.thr R (k := 1) (ρ := 1) (κ := 1) ?_ ?_
        · simp only [f_H_hang, e1, g1, i1, pb_s, ↓reduceIte, pi_0, pi_1, px_l, px_r, pi_q, pi_r, pu_b0, pu_b1, if_true, if_false]
        · simp only [f_Md_hang, g2, i2, f_Md_hang_b23, f_Md_hang_b24, pf_0, mm _ 1 _ (by decide) (by decide) (ph_1 sm), pb_s, ↓reduceIte, pi_0, pi_1, px_l, px_r, pi_q, pi_r, pu_b0, pu_b1, if_true, if_false]
    · refine pOk.thr R (k := 1) (ρ := 1) (κ := 1) ?_ ?_
      · simp only [f_H_hang, e1, g1, pb_s, ↓reduceIte, pi_0, pi_1, px_l, px_r, pi_q, pi_r, pu_b0, pu_b1, if_true, if_false]
      · simp only [f_Md_hang, g2, f_Md_hang_b23, f_Md_hang_b24, pf_0, mm _ 1 _ (by decide) (by decide) (ph_1 sm), pb_s, ↓reduceIte, pi_0, pi_1, px_l, px_r, pi_q, pi_r, pu_b0, pu_b1, if_true, if_false]
  · refine pOk.thr R (k := 1) (ρ := 1) (κ := 1) ?_ ?_
    · simp only [f_H_hang, e1, pb_s, ↓reduceIte, pi_0, pi_1, px_l, px_r, pi_q, pi_r, pu_b0, pu_b1, if_true, if_false]
    · rcases pk_Sh hN b with ⟨s, hs, hsc, rfl, g1, g2⟩ | ⟨g1, g2⟩
      · rcases pk_It hN c with ⟨o, ho, hoc, rfl, i1, i2⟩ | ⟨i1, i2⟩ <;> simp only [f_Md_hang, g2, i2, f_Md_hang_b23, f_Md_hang_b24, pf_N e2, mm _ 1 _ (by decide) (by decide) (ph_1 sm), pb_s, ↓reduceIte, pi_0, pi_1, px_l, px_r, pi_q, pi_r, pu_b0, pu_b1, if_true, if_false]
      · simp only [f_Md_hang, g2, f_Md_hang_b23, f_Md_hang_b24, pf_0, mm _ 1 _ (by decide) (by decide) (ph_1 sm), pb_s, ↓reduceIte, pi_0, pi_1, px_l, px_r, pi_q, pi_r, pu_b0, pu_b1, if_true, if_false]

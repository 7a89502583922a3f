theorem p_place : ∀ st sm, pRel st sm → ∀ a1 a2 : Int32, pOk [1, 3] pRel (f_H_place st a1 a2) (f_Md_place sm a1 a2) := by
  intro st sm R a x
  obtain ⟨n, hN, hA⟩ := id R
  have c6 : n 6 ≤ 16 := hN.c (k := 6) (by decide) (by decide)
  rcases pk_It hN a with ⟨o, ho, hoc, rfl, e1, e2⟩ | ⟨e1, e2⟩
  · have e : nI (500 + o) - 500 = nI o := pu_sub
    rcases pD_day st sm x with ⟨d, hd, rfl, d1, d2⟩ | ⟨d1, d2⟩
    · obtain ⟨k, hk, h1, h2, h3, h4⟩ := hA.2.2.2.2.1 o hoc
      rcases pm_place (st := st) (sm := (va_up (va_up sm.1 1 (sm.1 1)) 0 0, sm.2)) c6 hoc hk h1 h2 h3 (nI d) with ⟨q1, q2⟩ | ⟨s, q0, q1, q2⟩
      · refine pOk.ret R.acc (x := 0) ?_ ?_
        · simp only [f_H_place, e1, d1, pa_ask1, f_H_placeHandle, q1, pb_s, ↓reduceIte, pi_0, pi_1, px_l, px_r, pi_q, pi_r, pu_b0, pu_b1, if_true, if_false]
        · simp only [f_Md_place, e2, f_Md_place_b15, d2, pt_01, ph_s0, e, q2, pb_s, ↓reduceIte, pi_0, pi_1, px_l, px_r, pi_q, pi_r, pu_b0, pu_b1, if_true, if_false]
      · refine pOk.ret R.acc (x := nI (600 + s)) ?_ ?_
        · simp only [f_H_place, e1, d1, pa_ask1, f_H_placeHandle, q1, pn_m1 (show s < 2 ^ 31 by omega), f_Rg_handleOf_So, pH_So, pb_s, ↓reduceIte, pi_0, pi_1, px_l, px_r, pi_q, pi_r, pu_b0, pu_b1, if_true, if_false]
        · simp only [f_Md_place, e2, f_Md_place_b15, d2, pt_01, ph_s0, e, q2, pb_s, ↓reduceIte, pi_0, pi_1, px_l, px_r, pi_q, pi_r, pu_b0, pu_b1, if_true, if_false]
    · refine pOk.thr R (k := 3) (ρ := 4) (κ := 2) ?_ ?_
      · simp only [f_H_place, e1, d1, pa_ask0, pb_s, ↓reduceIte, pi_0, pi_1, px_l, px_r, pi_q, pi_r, pu_b0, pu_b1, if_true, if_false]
      · simp only [f_Md_place, e2, f_Md_place_b15, d2, pt_00, ph_s4, pb_s, ↓reduceIte, pi_0, pi_1, px_l, px_r, pi_q, pi_r, pu_b0, pu_b1, if_true, if_false]
  · refine pOk.thr R (k := 1) (ρ := 1) (κ := 1) ?_ ?_
    · simp only [f_H_place, e1, pb_s, ↓reduceIte, pi_0, pi_1, px_l, px_r, pi_q, pi_r, pu_b0, pu_b1, if_true, if_false]
    · rcases pD_day st sm x with ⟨d, hd, rfl, d1, d2⟩ | ⟨d1, d2⟩ <;> simp only [f_Md_place, e2, f_Md_place_b15, d2, pt_1, ph_s1, pb_s, ↓reduceIte, pi_0, pi_1, px_l, px_r, pi_q, pi_r, pu_b0, pu_b1, if_true, if_false]
theorem p_where : ∀ st sm, pRel st sm → ∀ a1 a2 : Int32, pOk [1, 3] pRel (f_H_where st a1 a2) (f_Md_where sm a1 a2) := by
  intro st sm R a x
  obtain ⟨n, hN, hA⟩ := id R
  have c5 : n 5 ≤ 30 := hN.c (k := 5) (by decide) (by decide)
  have c6 : n 6 ≤ 16 := hN.c (k := 6) (by decide) (by decide)
  have c7 : n 7 ≤ 40 := hN.c (k := 7) (by decide) (by decide)
  have c8 : n 8 ≤ 10 := hN.c (k := 8) (by decide) (by decide)
  rcases pk_It hN a with ⟨o, ho, hoc, rfl, e1, e2⟩ | ⟨e1, e2⟩
  · have e : nI (500 + o) - 500 = nI o := pu_sub
    rcases pD_day st sm x with ⟨d, hd, rfl, d1, d2⟩ | ⟨d1, d2⟩
    · have hN' : qN n st.1 (va_up (va_up sm.1 1 (sm.1 1)) 0 0, sm.2).1 ((va_up (va_up sm.1 1 (sm.1 1)) 0 0, sm.2).2 0) := hN.acc
      obtain ⟨v, hv, v1, v2⟩ := pd_dayOf (sm := (va_up (va_up sm.1 1 (sm.1 1)) 0 0, sm.2)) hN' hA ho
      by_cases m1 : nI v ≤ nI d
      · obtain ⟨S, F, T, U, k1, k2, k3, k4, k5⟩ := hA.2.2.2.2.2.2.2.1
        have sh := ps_free (sm := (va_up (va_up sm.1 1 (sm.1 1)) 0 0, sm.2)) hN' k1 k3 k4 hoc (nI d) (nI d) (-1) (fun i hi e => absurd e (pn_m1 (by omega)))
        have lo := pl_free (sm := (va_up (va_up sm.1 1 (sm.1 1)) 0 0, sm.2)) hN' hA ho (nI d) (nI d)
        obtain ⟨k, hk, h1, h2, h3, h4⟩ := hA.2.2.2.2.1 o hoc
        have pl := pm_place (st := st) (sm := (va_up (va_up sm.1 1 (sm.1 1)) 0 0, sm.2)) c6 hoc hk h1 h2 h3 (nI d)
        have pv : ∃ y, f_Md_placeOf (va_up (va_up sm.1 1 (sm.1 1)) 0 0, sm.2) (nI o) (nI d) = some y := by
          rcases pl with ⟨_, q⟩ | ⟨_, _, _, q⟩
          · exact ⟨_, q⟩
          · exact ⟨_, q⟩
        obtain ⟨y, hy⟩ := pv
        have sv : ∃ y, f_Md_showAt (va_up (va_up sm.1 1 (sm.1 1)) 0 0, sm.2) (nI (500 + o)) (nI d) (nI d) (-1) = some y := by
          rcases sh with ⟨_, q, _⟩ | ⟨_, _, _, _, _, _, _, q⟩
          · exact ⟨_, q⟩
          · exact ⟨_, q⟩
        obtain ⟨z, hz⟩ := sv
        rcases lo with ⟨l1, l2, l3⟩ | ⟨i, i', l1, l2, l3, l4, l5, l6⟩
        · rcases sh with ⟨s1, s2, s3⟩ | ⟨i, i', s1, s2, s3, s4, s5, s6⟩
          · rcases pl with ⟨q1, q2⟩ | ⟨s, q0, q1, q2⟩
            · refine pOk.ret R.acc (x := 1) ?_ ?_
              · simp only [f_H_where, e1, d1, pa_ask1, v1, m1, l1, s1, f_H_placeHandle, q1, pb_s, ↓reduceIte, pi_0, pi_1, px_l, px_r, pi_q, pi_r, pu_b0, pu_b1, if_true, if_false]
              · simp only [f_Md_where, e2, f_Md_where_b15, d2, pt_01, ph_s0, v2, m1, l2, s2, e, q2, pb_s, ↓reduceIte, pi_0, pi_1, px_l, px_r, pi_q, pi_r, pu_b0, pu_b1, if_true, if_false]
            · have nz := nI_ne0 (show 0 < 600 + s by omega) (show 600 + s < 2 ^ 31 by omega)
              have nl := nI_nle (show 0 < 600 + s by omega) (show 600 + s < 2 ^ 31 by omega)
              refine pOk.ret R.acc (x := nI (600 + s)) ?_ ?_
              · simp only [f_H_where, e1, d1, pa_ask1, v1, m1, l1, s1, f_H_placeHandle, q1, pn_m1 (show s < 2 ^ 31 by omega), f_Rg_handleOf_So, pH_So, nz, pb_s, ↓reduceIte, pi_0, pi_1, px_l, px_r, pi_q, pi_r, pu_b0, pu_b1, if_true, if_false]
              · simp only [f_Md_where, e2, f_Md_where_b15, d2, pt_01, ph_s0, v2, m1, l2, s2, e, q2, nl, pb_s, ↓reduceIte, pi_0, pi_1, px_l, px_r, pi_q, pi_r, pu_b0, pu_b1, if_true, if_false]
          · have ei : i' = i := by
              refine Classical.byContradiction (fun ne => ?_)
              obtain ⟨p1, p2, p3, p4, p5, p6, p7, p8, p9⟩ := k1 i s1
              obtain ⟨r1, r2, r3, r4, r5, r6, r7, r8, r9⟩ := k1 i' s2
              have w := k5 i' i o ne s4.1 s3.1
              obtain ⟨_, a1, a2⟩ := s3
              obtain ⟨_, b1, b2⟩ := s4
              rw [p6, nI_ltI (by omega) (by omega)] at a1
              rw [p8, nI_ltI (by omega) (by omega)] at a2
              rw [r6, nI_ltI (by omega) (by omega)] at b1
              rw [r8, nI_ltI (by omega) (by omega)] at b2
              omega
            subst ei
            have nl := nI_nle (show 0 < 800 + i' by omega) (show 800 + i' < 2 ^ 31 by omega)
            refine pOk.ret R.acc (x := nI (800 + i')) ?_ ?_
            · simp only [f_H_where, e1, d1, pa_ask1, v1, m1, l1, s5, pn_m1 (show i' < 2 ^ 31 by omega), f_Rg_handleOf_Sh, pH_Sh, pb_s, ↓reduceIte, pi_0, pi_1, px_l, px_r, pi_q, pi_r, pu_b0, pu_b1, if_true, if_false]
            · simp only [f_Md_where, e2, f_Md_where_b15, d2, pt_01, ph_s0, v2, m1, l2, s6, e, hy, nl, pb_s, ↓reduceIte, pi_0, pi_1, px_l, px_r, pi_q, pi_r, pu_b0, pu_b1, if_true, if_false]
        · obtain ⟨I, F', T', j1, j2⟩ := hA.2.2.2.2.2.2.1
          have ei : i' = i := by
            refine Classical.byContradiction (fun ne => ?_)
            obtain ⟨p1, p2, p3, p4, p5, p6, p7, p8, p9⟩ := j1 i l1
            obtain ⟨r1, r2, r3, r4, r5, r6, r7, r8, r9⟩ := j1 i' l2
            obtain ⟨a0, a1, a2⟩ := l3
            obtain ⟨b0, b1, b2⟩ := l4
            rw [p4, nI_eq (by omega) (by omega)] at a0
            rw [r4, nI_eq (by omega) (by omega)] at b0
            have w := j2 i' i l2 l1 ne (by omega)
            rw [p6, nI_ltI (by omega) (by omega)] at a1
            rw [p8, nI_ltI (by omega) (by omega)] at a2
            rw [r6, nI_ltI (by omega) (by omega)] at b1
            rw [r8, nI_ltI (by omega) (by omega)] at b2
            omega
          subst ei
          have nl := nI_nle (show 0 < 700 + i' by omega) (show 700 + i' < 2 ^ 31 by omega)
          refine pOk.ret R.acc (x := nI (700 + i')) ?_ ?_
          · simp only [f_H_where, e1, d1, pa_ask1, v1, m1, l5, pn_m1 (show i' < 2 ^ 31 by omega), f_Rg_handleOf_Lo, pH_Lo, pb_s, ↓reduceIte, pi_0, pi_1, px_l, px_r, pi_q, pi_r, pu_b0, pu_b1, if_true, if_false]
          · simp only [f_Md_where, e2, f_Md_where_b15, d2, pt_01, ph_s0, v2, m1, l6, hz, e, hy, nl, pb_s, ↓reduceIte, pi_0, pi_1, px_l, px_r, pi_q, pi_r, pu_b0, pu_b1, if_true, if_false]
      · refine pOk.ret R.acc (x := 0) ?_ ?_
        · simp only [f_H_where, e1, d1, pa_ask1, v1, m1, pb_s, ↓reduceIte, pi_0, pi_1, px_l, px_r, pi_q, pi_r, pu_b0, pu_b1, if_true, if_false]
        · simp only [f_Md_where, e2, f_Md_where_b15, d2, pt_01, ph_s0, v2, m1, pb_s, ↓reduceIte, pi_0, pi_1, px_l, px_r, pi_q, pi_r, pu_b0, pu_b1, if_true, if_false]
    · refine pOk.thr R (k := 3) (ρ := 4) (κ := 2) ?_ ?_
      · simp only [f_H_where, e1, d1, pa_ask0, pb_s, ↓reduceIte, pi_0, pi_1, px_l, px_r, pi_q, pi_r, pu_b0, pu_b1, if_true, if_false]
      · simp only [f_Md_where, e2, f_Md_where_b15, d2, pt_00, ph_s4, pb_s, ↓reduceIte, pi_0, pi_1, px_l, px_r, pi_q, pi_r, pu_b0, pu_b1, if_true, if_false]
  · refine pOk.thr R (k := 1) (ρ := 1) (κ := 1) ?_ ?_
    · simp only [f_H_where, e1, pb_s, ↓reduceIte, pi_0, pi_1, px_l, px_r, pi_q, pi_r, pu_b0, pu_b1, if_true, if_false]
    · rcases pD_day st sm x with ⟨d, hd, rfl, d1, d2⟩ | ⟨d1, d2⟩ <;> simp only [f_Md_where, e2, f_Md_where_b15, d2, pt_1, ph_s1, pb_s, ↓reduceIte, pi_0, pi_1, px_l, px_r, pi_q, pi_r, pu_b0, pu_b1, if_true, if_false]
theorem p_within : ∀ st sm, pRel st sm → ∀ a1 a2 : Int32, pOk [1] pRel (f_H_within st a1 a2) (f_Md_within sm a1 a2) := by
  intro st sm R a b
  obtain ⟨n, hN, hA⟩ := id R
  have c6 : n 6 ≤ 16 := hN.c (k := 6) (by decide) (by decide)
  rcases pk_So hN a with ⟨i, hi, hic, rfl, e1, e2⟩ | ⟨e1, e2⟩
  · rcases pk_So hN b with ⟨o, ho, hoc, rfl, g1, g2⟩ | ⟨g1, g2⟩
    · obtain ⟨P, h1, h2, h3⟩ := hA.2.2.2.2.2.1
      have e : nI (600 + i) - 600 = nI i := pu_sub
      have e' : nI (600 + o) - 600 = nI o := pu_sub
      rcases pI_in (st := st) (sm := (va_up (va_up sm.1 1 (sm.1 1)) 0 0, sm.2)) c6 h1 h2 h3 hi ho with ⟨q1, q2, -⟩ | ⟨q1, q2, -⟩
      · refine pOk.ret R.acc (x := 1) ?_ ?_
        · simp only [f_H_within, e1, g1, q1, pb_s, ↓reduceIte, pi_0, pi_1, px_l, px_r, pi_q, pi_r, pu_b0, pu_b1, if_true, if_false]
        · simp only [f_Md_within, e2, g2, f_Md_within_b26, ph_0, e, e', q2, pb_s, ↓reduceIte, pi_0, pi_1, px_l, px_r, pi_q, pi_r, pu_b0, pu_b1, if_true, if_false]
      · refine pOk.ret R.acc (x := 0) ?_ ?_
        · simp only [f_H_within, e1, g1, q1, pb_s, ↓reduceIte, pi_0, pi_1, px_l, px_r, pi_q, pi_r, pu_b0, pu_b1, if_true, if_false]
        · simp only [f_Md_within, e2, g2, f_Md_within_b26, ph_0, e, e', q2, pb_s, ↓reduceIte, pi_0, pi_1, px_l, px_r, pi_q, pi_r, pu_b0, pu_b1, if_true, if_false]
    · refine pOk.thr R (k := 1) (ρ := 1) (κ := 1) ?_ ?_
      · simp only [f_H_within, e1, g1, pb_s, ↓reduceIte, pi_0, pi_1, px_l, px_r, pi_q, pi_r, pu_b0, pu_b1, if_true, if_false]
      · simp only [f_Md_within, e2, g2, f_Md_within_b25, f_Md_within_b26, ph_1, pb_s, ↓reduceIte, pi_0, pi_1, px_l, px_r, pi_q, pi_r, pu_b0, pu_b1, if_true, if_false]
  · refine pOk.thr R (k := 1) (ρ := 1) (κ := 1) ?_ ?_
    · simp only [f_H_within, e1, pb_s, ↓reduceIte, pi_0, pi_1, px_l, px_r, pi_q, pi_r, pu_b0, pu_b1, if_true, if_false]
    · simp only [f_Md_within, e2, f_Md_within_b25, f_Md_within_b26, ph_1, pb_s, ↓reduceIte, pi_0, pi_1, px_l, px_r, pi_q, pi_r, pu_b0, pu_b1, if_true, if_false]
theorem qS.set0 {n6 : Nat} {hp mp : Nat → Int32} (h : qS n6 hp mp) (s : Nat) : qS n6 (upd hp s (-1)) (upd mp s (-1)) := by
  obtain ⟨P, h1, h2, h3⟩ := h
  refine ⟨fun i q => ¬ i = s ∧ P i q, fun j hj => ?_, fun i j q => h2 i j q.2, fun i t => h3 i (pT_mono (fun i j q => q.2) t)⟩
  by_cases e : j = s
  · subst e
    rw [pk_us, pk_us]
    exact Or.inl ⟨rfl, rfl, fun p q => q.1 rfl⟩
  · rw [pk_un e, pk_un e]
    rcases h1 j hj with ⟨q1, q2, q3⟩ | ⟨p, q1, q2, q3, q4⟩
    · exact Or.inl ⟨q1, q2, fun p q => q3 p q.2⟩
    · exact Or.inr ⟨p, q1, q2, q3, fun q => ⟨fun r => (q4 q).mp r.2, fun r => ⟨e, (q4 q).mpr r⟩⟩⟩
theorem qS.setP {n6 : Nat} {hp mp : Nat → Int32} {P : Nat → Nat → Prop} (h1 : ∀ j, j < n6 → (hp j = -1 ∧ mp j = -1 ∧ ∀ p, ¬ P j p) ∨ ∃ p, p < n6 ∧ hp j = nI p ∧ mp j = nI p ∧ ∀ q, P j q ↔ q = p) (h2 : ∀ i j, P i j → i < n6 ∧ j < n6) (h3 : ∀ i, ¬ Relation.TransGen P i i) {s p : Nat} (hs : s < n6) (hp1 : p < n6) (k1 : ¬ p = s) (k2 : ¬ Relation.TransGen P p s) : qS n6 (upd hp s (nI p)) (upd mp s (nI p)) := by
  refine ⟨fun i q => (¬ i = s ∧ P i q) ∨ (i = s ∧ q = p), fun j hj => ?_, fun i j q => ?_, fun i t => pT_acy h3 k1 k2 i (pT_mono (fun i j q => q.elim (fun q => Or.inl q.2) Or.inr) t)⟩
  · by_cases e : j = s
    · subst e
      rw [pk_us, pk_us]
      exact Or.inr ⟨p, hp1, rfl, rfl, fun q => ⟨fun r => r.elim (fun r => absurd rfl r.1) (fun r => r.2), fun r => Or.inr ⟨rfl, r⟩⟩⟩
    · rw [pk_un e, pk_un e]
      rcases h1 j hj with ⟨q1, q2, q3⟩ | ⟨p', q1, q2, q3, q4⟩
      · exact Or.inl ⟨q1, q2, fun p q => q.elim (fun q => q3 p q.2) (fun q => e q.1)⟩
      · exact Or.inr ⟨p', q1, q2, q3, fun q => ⟨fun r => r.elim (fun r => (q4 q).mp r.2) (fun r => absurd r.1 e), fun r => Or.inl ⟨e, (q4 q).mpr r⟩⟩⟩
  · rcases q with q | ⟨rfl, rfl⟩
    · exact h2 i j q.2
    · exact ⟨hs, hp1⟩
theorem p_carry : ∀ st sm, pRel st sm → ∀ a1 a2 a3 : Int32, pOk [1, 2, 3] pRel (f_H_carry st a1 a2 a3) (f_Md_carry sm a1 a2 a3) := by
  intro st sm R a b c
  obtain ⟨n, hN, hA⟩ := id R
  have c6 : n 6 ≤ 16 := hN.c (k := 6) (by decide) (by decide)
  have hM : ∀ (x y : Int32) (s : Nat), qS (n 6) (upd (st.2 12) s x) (upd (sm.2 10) s y) → pRel (st.1, va_up st.2 12 (upd (st.2 12) s x)) (va_up (va_up sm.1 1 (sm.1 1)) 0 0, va_up sm.2 10 (upd (sm.2 10) s y)) := fun x y s q =>
    ⟨n, hN.acc, hA.1, hA.2.1, hA.2.2.1, hA.2.2.2.1, hA.2.2.2.2.1, q, hA.2.2.2.2.2.2⟩
  have p1 : ∀ {α : Type} {a b : α}, (if (1 : Int32) ≤ 0 then a else b) = b := fun {α a b} => if_neg (by decide)
  have p2 : ∀ {α : Type} {a b : α}, (if (2 : Int32) ≤ 0 then a else b) = b := fun {α a b} => if_neg (by decide)
  obtain ⟨P, h1, h2, h3⟩ := hA.2.2.2.2.2.1
  rcases pk_De hN a with ⟨j, hj, hc, rfl, e1, e2⟩ | ⟨e1, e2⟩
  · rcases pk_So hN b with ⟨s, hs, hsc, rfl, g1, g2⟩ | ⟨g1, g2⟩
    · have e : nI (600 + s) - 600 = nI s := pu_sub
      have ls : ∀ f : Nat → Int32, pu_ld f 16 (nI s) = some (f s) := fun f => pu_ld_nI hsc (by decide)
      have ss : ∀ (f : Nat → Int32) (x : Int32), pu_sd f 16 (nI s) x = some (upd f s x) := fun f x => pu_sd_nI hsc (by decide)
      have ms : sm.2 10 s = st.2 12 s := by
        rcases h1 s hs with ⟨q1, q2, -⟩ | ⟨p, -, q1, q2, -⟩
        · rw [q1, q2]
        · rw [q1, q2]
      rcases pk_par hN c with ⟨rfl, i1⟩ | ⟨c0, p, hp, hpc, rfl, i1, i2⟩ | ⟨c0, i1, i2⟩
      · rcases pr_both hN hA.1 hj pB4 with ⟨r1, r2⟩ | ⟨r1, r2⟩
        · have n1 : ¬ (-1 : Int32) = nI s := fun q => pn_m1 (show s < 2 ^ 31 by omega) q.symm
          by_cases w : st.2 12 s = -1
          · refine pOk.ret (hM (-1) (-1) s (hA.2.2.2.2.2.1.set0 s)) (x := 0) ?_ ?_
            · simp only [f_H_carry, e1, g1, i1, r1, f_H_carry_b59, f_H_carry_b64, pa_ask1, f_So_parentOf, ls, w, f_H_carry_b86, f_So_setParent, ss, pb_s, ↓reduceIte, pi_0, pi_1, px_l, px_r, pi_q, pi_r, pu_b0, pu_b1, if_true, if_false]
            · simp only [f_Md_carry, g2, f_Md_carry_b25, f_Md_carry_b30, pf_A e2 r2, e, f_Md_carry_b72, n1, f_Md_carry_b104, f_Md_carry_b105, ph_0, ls, ms, w, ss, pb_s, ↓reduceIte, pi_0, pi_1, px_l, px_r, pi_q, pi_r, pu_b0, pu_b1, if_true, if_false]
          · refine pOk.ret (hM (-1) (-1) s (hA.2.2.2.2.2.1.set0 s)) (x := 1) ?_ ?_
            · simp only [f_H_carry, e1, g1, i1, r1, f_H_carry_b59, f_H_carry_b64, pa_ask1, f_So_parentOf, ls, w, f_H_carry_b86, f_So_setParent, ss, pb_s, ↓reduceIte, pi_0, pi_1, px_l, px_r, pi_q, pi_r, pu_b0, pu_b1, if_true, if_false]
            · simp only [f_Md_carry, g2, f_Md_carry_b25, f_Md_carry_b30, pf_A e2 r2, e, f_Md_carry_b72, n1, f_Md_carry_b104, f_Md_carry_b105, ph_0, ls, ms, w, ss, pb_s, ↓reduceIte, pi_0, pi_1, px_l, px_r, pi_q, pi_r, pu_b0, pu_b1, if_true, if_false]
        · refine pOk.thr R (k := 2) (ρ := 2) (κ := 2) ?_ ?_
          · simp only [f_H_carry, e1, g1, i1, r1, pb_s, ↓reduceIte, pi_0, pi_1, px_l, px_r, pi_q, pi_r, pu_b0, pu_b1, if_true, if_false]
          · simp only [f_Md_carry, g2, f_Md_carry_b25, f_Md_carry_b30, pf_2 e2 r2, p2, ph_2, pb_s, ↓reduceIte, pi_0, pi_1, px_l, px_r, pi_q, pi_r, pu_b0, pu_b1, if_true, if_false]
      · have e' : nI (600 + p) - 600 = nI p := pu_sub
        have n1 := pn_m1 (show p < 2 ^ 31 by omega)
        rcases pr_both hN hA.1 hj pB4 with ⟨r1, r2⟩ | ⟨r1, r2⟩
        · by_cases eq : p = s
          · subst eq
            refine pOk.thr R (k := 3) (ρ := 10) (κ := 3) ?_ ?_
            · simp only [f_H_carry, e1, g1, i1, r1, n1, f_So_isAtOrIn, f_H_carry_b64, pa_ask0, pb_s, ↓reduceIte, pi_0, pi_1, px_l, px_r, pi_q, pi_r, pu_b0, pu_b1, if_true, if_false]
            · simp only [f_Md_carry, g2, c0, f_Md_carry_b25, f_Md_carry_b30, pf_A e2 r2, e, f_Md_carry_b72, f_Md_carry_b99, f_Md_carry_b105, ph_10, pb_s, ↓reduceIte, pi_0, pi_1, px_l, px_r, pi_q, pi_r, pu_b0, pu_b1, if_true, if_false]
          · have ne : ¬ nI p = nI s := fun q => eq ((nI_eq (by omega) (by omega)).mp q)
            rcases pI_in (st := st) (sm := sm) c6 h1 h2 h3 hp hs with ⟨q1, q2, q3⟩ | ⟨q1, q2, q3⟩
            · refine pOk.thr R (k := 3) (ρ := 10) (κ := 3) ?_ ?_
              · simp only [f_H_carry, e1, g1, i1, r1, n1, f_So_isAtOrIn, ne, q1, f_H_carry_b64, pa_ask0, pb_s, ↓reduceIte, pi_0, pi_1, px_l, px_r, pi_q, pi_r, pu_b0, pu_b1, if_true, if_false]
              · simp only [f_Md_carry, g2, i2, c0, f_Md_carry_b25, f_Md_carry_b30, pf_A e2 r2, e, e', f_Md_carry_b72, ne, n1, q2, f_Md_carry_b99, f_Md_carry_b105, ph_10, pb_s, ↓reduceIte, pi_0, pi_1, px_l, px_r, pi_q, pi_r, pu_b0, pu_b1, if_true, if_false]
            · by_cases w : st.2 12 s = nI p
              · refine pOk.ret (hM (nI p) (nI p) s (qS.setP h1 h2 h3 hs hp eq q3)) (x := 0) ?_ ?_
                · simp only [f_H_carry, e1, g1, i1, r1, n1, f_So_isAtOrIn, ne, q1, f_H_carry_b59, f_H_carry_b64, pa_ask1, f_So_parentOf, ls, w, f_H_carry_b86, f_So_setParent, ss, pb_s, ↓reduceIte, pi_0, pi_1, px_l, px_r, pi_q, pi_r, pu_b0, pu_b1, if_true, if_false]
                · simp only [f_Md_carry, g2, i2, c0, f_Md_carry_b25, f_Md_carry_b30, pf_A e2 r2, e, e', f_Md_carry_b72, ne, n1, q2, f_Md_carry_b104, f_Md_carry_b105, ph_0, ls, ms, w, ss, pb_s, ↓reduceIte, pi_0, pi_1, px_l, px_r, pi_q, pi_r, pu_b0, pu_b1, if_true, if_false]
              · refine pOk.ret (hM (nI p) (nI p) s (qS.setP h1 h2 h3 hs hp eq q3)) (x := 1) ?_ ?_
                · simp only [f_H_carry, e1, g1, i1, r1, n1, f_So_isAtOrIn, ne, q1, f_H_carry_b59, f_H_carry_b64, pa_ask1, f_So_parentOf, ls, w, f_H_carry_b86, f_So_setParent, ss, pb_s, ↓reduceIte, pi_0, pi_1, px_l, px_r, pi_q, pi_r, pu_b0, pu_b1, if_true, if_false]
                · simp only [f_Md_carry, g2, i2, c0, f_Md_carry_b25, f_Md_carry_b30, pf_A e2 r2, e, e', f_Md_carry_b72, ne, n1, q2, f_Md_carry_b104, f_Md_carry_b105, ph_0, ls, ms, w, ss, pb_s, ↓reduceIte, pi_0, pi_1, px_l, px_r, pi_q, pi_r, pu_b0, pu_b1, if_true, if_false]
        · refine pOk.thr R (k := 2) (ρ := 2) (κ := 2) ?_ ?_
          · simp only [f_H_carry, e1, g1, i1, r1, pb_s, ↓reduceIte, pi_0, pi_1, px_l, px_r, pi_q, pi_r, pu_b0, pu_b1, if_true, if_false]
          · simp only [f_Md_carry, g2, i2, c0, f_Md_carry_b25, f_Md_carry_b30, pf_2 e2 r2, p2, ph_2, pb_s, ↓reduceIte, pi_0, pi_1, px_l, px_r, pi_q, pi_r, pu_b0, pu_b1, if_true, if_false]
      · refine pOk.thr R (k := 1) (ρ := 1) (κ := 1) ?_ ?_
        · simp only [f_H_carry, e1, g1, i1, pb_s, ↓reduceIte, pi_0, pi_1, px_l, px_r, pi_q, pi_r, pu_b0, pu_b1, if_true, if_false]
        · simp only [f_Md_carry, g2, i2, c0, f_Md_carry_b29, f_Md_carry_b30, pf_0, p1, ph_1, pb_s, ↓reduceIte, pi_0, pi_1, px_l, px_r, pi_q, pi_r, pu_b0, pu_b1, if_true, if_false]
    · refine pOk.thr R (k := 1) (ρ := 1) (κ := 1) ?_ ?_
      · simp only [f_H_carry, e1, g1, pb_s, ↓reduceIte, pi_0, pi_1, px_l, px_r, pi_q, pi_r, pu_b0, pu_b1, if_true, if_false]
      · simp only [f_Md_carry, g2, f_Md_carry_b29, f_Md_carry_b30, pf_0, p1, ph_1, pb_s, ↓reduceIte, pi_0, pi_1, px_l, px_r, pi_q, pi_r, pu_b0, pu_b1, if_true, if_false]
  · refine pOk.thr R (k := 1) (ρ := 1) (κ := 1) ?_ ?_
    · simp only [f_H_carry, e1, pb_s, ↓reduceIte, pi_0, pi_1, px_l, px_r, pi_q, pi_r, pu_b0, pu_b1, if_true, if_false]
    · rcases pk_So hN b with ⟨s, hs, hsc, rfl, g1, g2⟩ | ⟨g1, g2⟩
      · rcases pk_par hN c with ⟨rfl, i1⟩ | ⟨c0, p, hp, hpc, rfl, i1, i2⟩ | ⟨c0, i1, i2⟩
        · simp only [f_Md_carry, g2, f_Md_carry_b25, f_Md_carry_b30, pf_N e2, p1, ph_1, pb_s, ↓reduceIte, pi_0, pi_1, px_l, px_r, pi_q, pi_r, pu_b0, pu_b1, if_true, if_false]
        · simp only [f_Md_carry, g2, i2, c0, f_Md_carry_b25, f_Md_carry_b30, pf_N e2, p1, ph_1, pb_s, ↓reduceIte, pi_0, pi_1, px_l, px_r, pi_q, pi_r, pu_b0, pu_b1, if_true, if_false]
        · simp only [f_Md_carry, g2, i2, c0, f_Md_carry_b29, f_Md_carry_b30, pf_N e2, p1, ph_1, pb_s, ↓reduceIte, pi_0, pi_1, px_l, px_r, pi_q, pi_r, pu_b0, pu_b1, if_true, if_false]
      · simp only [f_Md_carry, g2, f_Md_carry_b29, f_Md_carry_b30, pf_N e2, p1, ph_1, pb_s, ↓reduceIte, pi_0, pi_1, px_l, px_r, pi_q, pi_r, pu_b0, pu_b1, if_true, if_false]

theorem ph_s0 (sm : pu_St) : f_Md_holdsShort sm 0 = some (1, (va_up (va_up sm.1 1 (sm.1 1)) 0 0, sm.2)) := (rfl)
theorem ph_s1 (sm : pu_St) : f_Md_holdsShort sm 1 = some (0, (va_up (va_up sm.1 1 1) 0 1, sm.2)) := (rfl)
theorem ph_s4 (sm : pu_St) : f_Md_holdsShort sm 4 = some (0, (va_up (va_up sm.1 1 4) 0 2, sm.2)) := (rfl)
theorem qM.tell1 {n6 : Nat} {hd ht hc md mt mc : Nat → Int32} (h : qM n6 hd ht hc md mt mc) {o c d s : Nat} (ho : o < 30) (e1 : hc o = nI c) (hc1 : c < 12) (hd1 : d ≤ 9999) (hs1 : s < n6) (fresh : ∀ k, k < c → ¬ hd (12 * o + k) = nI d) :
    qM n6 (upd hd (12 * o + c) (nI d)) (upd ht (12 * o + c) (nI s)) (upd hc o (nI (c + 1))) (upd md (12 * o + c) (nI d)) (upd mt (12 * o + c) (nI (600 + s))) (upd mc o (nI (c + 1))) := by
  intro o' ho'
  obtain ⟨c0, q1, q2, q3, q4, q5⟩ := h o' ho'
  by_cases e : o' = o
  · subst e
    have ec : c0 = c := by
      rw [q2, nI_eq (by omega) (by omega)] at e1
      exact e1
    subst ec
    refine ⟨c0 + 1, by omega, pk_us, pk_us, fun k hk => ?_, fun k k' hk hk' => ?_⟩
    · rcases pu_lt1 hk with r | rfl
      · have ne : 12 * o' + k ≠ 12 * o' + c0 := by omega
        simp only [pk_un ne]
        exact q4 k r
      · simp only [pk_us]
        exact ⟨d, s, hd1, hs1, rfl, rfl, rfl, rfl⟩
    · rcases pu_lt1 hk with r | rfl
      · have ne : 12 * o' + k ≠ 12 * o' + c0 := by omega
        rcases pu_lt1 hk' with r' | rfl
        · have ne' : 12 * o' + k' ≠ 12 * o' + c0 := by omega
          rw [pk_un ne, pk_un ne']
          exact q5 k k' r r'
        · rw [pk_un ne, pk_us]
          exact fun q => absurd q (fresh k r)
      · rcases pu_lt1 hk' with r' | rfl
        · have ne' : 12 * o' + k' ≠ 12 * o' + k := by omega
          rw [pk_un ne', pk_us]
          exact fun q => absurd q.symm (fresh k' r')
        · exact fun _ => rfl
  · refine ⟨c0, q1, by rw [pk_un e]; exact q2, by rw [pk_un e]; exact q3, fun k hk => ?_, fun k k' hk hk' => ?_⟩
    · have ne : 12 * o' + k ≠ 12 * o + c := by omega
      simp only [pk_un ne]
      exact q4 k hk
    · have ne : 12 * o' + k ≠ 12 * o + c := by omega
      have ne' : 12 * o' + k' ≠ 12 * o + c := by omega
      rw [pk_un ne, pk_un ne']
      exact q5 k k' hk hk'
theorem qM.tell0 {n6 : Nat} {hd ht hc md mt mc : Nat → Int32} (h : qM n6 hd ht hc md mt mc) {o c d s i : Nat} (ho : o < 30) (e1 : hc o = nI c) (hc0 : c ≤ 12) (hc1 : i < c) (hs1 : s < n6) (e3 : hd (12 * o + i) = nI d) :
    qM n6 (upd hd (12 * o + i) (nI d)) (upd ht (12 * o + i) (nI s)) hc (upd md (12 * o + i) (nI d)) (upd mt (12 * o + i) (nI (600 + s))) (upd mc o (nI c)) := by
  have u1 : upd hd (12 * o + i) (nI d) = hd := by
    funext j
    by_cases e : j = 12 * o + i
    · subst e; rw [pk_us, e3]
    · rw [pk_un e]
  obtain ⟨c0, q1, q2, q3, q4, q5⟩ := h o ho
  have ec : c0 = c := by
    rw [q2, nI_eq (by omega) (by omega)] at e1
    exact e1
  subst ec
  have u2 : upd md (12 * o + i) (nI d) = md := by
    funext j
    by_cases e : j = 12 * o + i
    · subst e
      obtain ⟨d', s', p1, p2, p3, p4, p5, p6⟩ := q4 i hc1
      rw [pk_us, p4, ← p3, e3]
    · rw [pk_un e]
  have u3 : upd mc o (nI c0) = mc := by
    funext j
    by_cases e : j = o
    · subst e; rw [pk_us, q3]
    · rw [pk_un e]
  rw [u1, u2, u3]
  intro o' ho'
  obtain ⟨c', r1, r2, r3, r4, r5⟩ := h o' ho'
  refine ⟨c', r1, r2, r3, fun k hk => ?_, r5⟩
  obtain ⟨d', s', p1, p2, p3, p4, p5, p6⟩ := r4 k hk
  by_cases e : 12 * o' + k = 12 * o + i
  · rw [e] at p3 p4 ⊢
    rw [pk_us, pk_us]
    exact ⟨d', s, p1, hs1, p3, p4, rfl, rfl⟩
  · rw [pk_un e, pk_un e]
    exact ⟨d', s', p1, p2, p3, p4, p5, p6⟩
theorem pi_m {α : Type} {a b : α} : (if (-1 : Int32) = -1 then a else b) = a := if_pos rfl
theorem lm_move {sm : pu_St} {z0 z1 z2 z3 y : Int32} (h : f_Md_first sm z3 z2 z1 z0 = some y) (hy : 0 < y) {r : pu_St} (hr : f_Md_holds sm y = some (0, r)) (x1 x2 x3 x4 x5 x6 x7 : Int32) : f_Md_move_b89 sm x1 x2 x3 x4 x5 x6 x7 z0 z1 z2 z3 = some (0, r) := by
  rcases pD_lies sm x4 0 (sm.1 2) with q | q <;> simp only [f_Md_move_b89, h, q, pt_n hy, pi_p hy, f_Md_move_b129, f_Md_move_b134, f_Md_move_b160, f_Md_move_b165, hr, pb_s, ↓reduceIte, pi_0, pi_1, px_l, px_r, pi_q, pi_r, pu_b0, pu_b1, if_true, if_false]
theorem p_move : ∀ st sm, pRel st sm → ∀ a1 a2 a3 a4 : Int32, pOk [1, 2, 3] pRel (f_H_move st a1 a2 a3 a4) (f_Md_move sm a1 a2 a3 a4) := by
  intro st sm R a b c x
  obtain ⟨n, hN, hA⟩ := id R
  have c5 : n 5 ≤ 30 := hN.c (k := 5) (by decide) (by decide)
  have c6 : n 6 ≤ 16 := hN.c (k := 6) (by decide) (by decide)
  have c7 : n 7 ≤ 40 := hN.c (k := 7) (by decide) (by decide)
  have nothere : f_Md_move sm a b c x = f_Md_move_b23 sm a b c x → pOk [1, 2, 3] pRel (some (.inr 1, (va_up st.1 1 1, st.2))) (f_Md_move sm a b c x) := by
    intro e
    refine pOk.thr R (k := 1) (ρ := 1) (κ := 1) rfl ?_
    rw [e]
    have l0 : pu_ld (sm.2 11) 30 0 = some (sm.2 11 0) := pu_ld_nI (j := 0) (by decide) (by decide)
    by_cases q : (12 : Int32) ≤ sm.2 11 0 <;> simp only [f_Md_move_b23, f_Md_move_b24, f_Md_move_b40, f_Md_move_b59, pi_m, l0, q, f_Md_move_b84, lm_move pf_0 (show (0 : Int32) < 1 by decide) (ph_1 sm), pb_s, ↓reduceIte, pi_0, pi_1, px_l, px_r, pi_q, pi_r, pu_b0, pu_b1, if_true, if_false]
  rcases pk_It hN b with ⟨o, ho, hoc, rfl, g1, g2⟩ | ⟨g1, g2⟩
  · rcases pk_So hN c with ⟨s, hs, hsc, rfl, i1, i2⟩ | ⟨i1, i2⟩
    · obtain ⟨k, hk, h1, h2, h3, h4⟩ := hA.2.2.2.2.1 o hoc
      have e : nI (500 + o) - 500 = nI o := pu_sub
      have lo : ∀ f : Nat → Int32, pu_ld f 30 (nI o) = some (f o) := fun f => pu_ld_nI hoc (by decide)
      have slot := pm_slot (st := st) (sm := sm) hoc hk h1 h2 h3 h4 x
      have r12 : (12 : Int32) ≤ nI k ↔ 12 ≤ k := nI_leI (a := 12) (by decide) (by omega)
      have r12' : nI k < (12 : Int32) ↔ k < 12 := nI_ltI (b := 12) (by omega) (by decide)
      rcases pk_De hN a with ⟨j, hj, hc, rfl, e1, e2⟩ | ⟨e1, e2⟩
      · rcases pr_both hN hA.1 hj pB4 with ⟨r1, r2⟩ | ⟨r1, r2⟩
        · obtain ⟨v, hv, d1, d2⟩ := pd_dayOf hN hA ho
          rcases slot with ⟨t1, t2, t3⟩ | ⟨i, t0, t1, t2, t3⟩
          · by_cases f : 12 ≤ k
            · have f1 : (12 : Int32) ≤ nI k := r12.mpr f
              have f2 : ¬ nI k < (12 : Int32) := fun q => by have := r12'.mp q; omega
              refine pOk.thr R (k := 2) (ρ := 3) (κ := 2) ?_ ?_
              · simp only [f_H_move, e1, g1, i1, r1, f_Mo_hasDay, t1, f_H_move_b59, f_Mo_isFullFor, lo, h1, f2, f_H_move_b84, pa_room0, pb_s, ↓reduceIte, pi_0, pi_1, px_l, px_r, pi_q, pi_r, pu_b0, pu_b1, if_true, if_false]
              · simp only [f_Md_move, g2, i2, f_Md_move_b24, e, f_Md_move_b40, t2, f_Md_move_b59, lo, h2, f1, lm_move (pf_3 e2 r2) (show (0 : Int32) < 3 by decide) (ph_3 sm), pb_s, ↓reduceIte, pi_0, pi_1, px_l, px_r, pi_q, pi_r, pu_b0, pu_b1, if_true, if_false]
            · have f1 : ¬ (12 : Int32) ≤ nI k := fun q => f (r12.mp q)
              have f2 : nI k < (12 : Int32) := r12'.mpr (by omega)
              rcases pD_til hN x with ⟨d, hd, rfl, w1, w2, w3⟩ | ⟨w1, w2⟩
              · by_cases m1 : nI d < nI v
                · refine pOk.thr R (k := 3) (ρ := 11) (κ := 3) ?_ ?_
                  · simp only [f_H_move, e1, g1, i1, r1, f_Mo_hasDay, t1, f_H_move_b59, f_Mo_isFullFor, lo, h1, f2, f_H_move_b79, f_H_move_b84, pa_room1, w1, w2, f_H_move_b111, pa_ask1, d1, m1, f_H_move_b136, pa_ask0, pb_s, ↓reduceIte, pi_0, pi_1, px_l, px_r, pi_q, pi_r, pu_b0, pu_b1, if_true, if_false]
                  · simp only [f_Md_move, g2, i2, f_Md_move_b24, e, f_Md_move_b40, t2, f_Md_move_b59, lo, h2, f1, f_Md_move_b84, f_Md_move_b89, pf_A e2 r2, w3, pt_01, d2, m1, f_Md_move_b134, pt_00, pi_p (show (0 : Int32) < 11 by decide), f_Md_move_b160, f_Md_move_b165, pt_11, ph_11, pb_s, ↓reduceIte, pi_0, pi_1, px_l, px_r, pi_q, pi_r, pu_b0, pu_b1, if_true, if_false]
                · rcases pl_free hN hA ho (nI d) (nI d) with ⟨y1, y2, y3⟩ | ⟨i, i', y1, y2, -, -, y3, y4⟩
                  · refine pOk.ret (st' := (st.1, va_up (va_up (va_up st.2 11 (upd (st.2 11) o (nI (k + 1)))) 9 (upd (st.2 9) (12 * o + k) (nI d))) 10 (upd (st.2 10) (12 * o + k) (nI s)))) (sm' := (va_up (va_up sm.1 1 (sm.1 1)) 0 0, va_up (va_up (va_up sm.2 11 (upd (sm.2 11) o (nI (k + 1)))) 12 (upd (sm.2 12) (12 * o + k) (nI d))) 13 (upd (sm.2 13) (12 * o + k) (nI (600 + s))))) (x := 1) ?_ ?_ ?_
                    · exact ⟨n, hN.acc, hA.1, hA.2.1, hA.2.2.1, hA.2.2.2.1, hA.2.2.2.2.1.tell1 hoc h1 (by omega) hd hs t3, hA.2.2.2.2.2⟩
                    · simp only [f_H_move, e1, g1, i1, r1, f_Mo_hasDay, t1, f_H_move_b59, f_Mo_isFullFor, lo, h1, f2, f_H_move_b79, f_H_move_b84, pa_room1, w1, w2, f_H_move_b111, pa_ask1, d1, m1, f_H_move_b136, y1, f_H_move_b164, f_Mo_tell, f_Mo_endOfSlots, f_Mo_firstSlot, pu_slot, nI_add, nI_1, pu_sd_nI hoc (show 30 < 2 ^ 31 by decide), f_Mo_tell_b31, pu_sd_nI (show 12 * o + k < 360 by omega) (show 360 < 2 ^ 31 by decide), pb_s, ↓reduceIte, pi_0, pi_1, px_l, px_r, pi_q, pi_r, pu_b0, pu_b1, if_true, if_false]
                      rfl
                    · simp only [f_Md_move, g2, i2, f_Md_move_b24, e, f_Md_move_b40, t2, f_Md_move_b59, lo, h2, f1, f_Md_move_b84, f_Md_move_b89, pf_A e2 r2, w3, pt_01, d2, m1, f_Md_move_b129, f_Md_move_b134, y2, f_Md_move_b160, f_Md_move_b165, ph_0, pu_slot', nI_add, nI_1, f_Md_move_b207, f_Md_move_b240, pu_sd_nI hoc (show 30 < 2 ^ 31 by decide), pu_sd_nI (show 12 * o + k < 360 by omega) (show 360 < 2 ^ 31 by decide), pb_s, ↓reduceIte, pi_0, pi_1, px_l, px_r, pi_q, pi_r, pu_b0, pu_b1, if_true, if_false]
                  · refine pOk.thr R (k := 3) (ρ := 12) (κ := 3) ?_ ?_
                    · simp only [f_H_move, e1, g1, i1, r1, f_Mo_hasDay, t1, f_H_move_b59, f_Mo_isFullFor, lo, h1, f2, f_H_move_b79, f_H_move_b84, pa_room1, w1, w2, f_H_move_b111, pa_ask1, d1, m1, f_H_move_b136, y3, pn_m1 (show i < 2 ^ 31 by omega), f_H_move_b164, pa_ask0, pb_s, ↓reduceIte, pi_0, pi_1, px_l, px_r, pi_q, pi_r, pu_b0, pu_b1, if_true, if_false]
                    · simp only [f_Md_move, g2, i2, f_Md_move_b24, e, f_Md_move_b40, t2, f_Md_move_b59, lo, h2, f1, f_Md_move_b84, f_Md_move_b89, pf_A e2 r2, w3, pt_01, d2, m1, f_Md_move_b129, f_Md_move_b134, y4, nI_ne0 (show 0 < 700 + i' by omega) (show 700 + i' < 2 ^ 31 by omega), f_Md_move_b165, pt_00, ph_12, pb_s, ↓reduceIte, pi_0, pi_1, px_l, px_r, pi_q, pi_r, pu_b0, pu_b1, if_true, if_false]
              · refine pOk.thr R (k := 3) (ρ := 4) (κ := 3) ?_ ?_
                · rcases w2 with w2 | ⟨w2, w3⟩
                  · simp only [f_H_move, e1, g1, i1, r1, f_Mo_hasDay, t1, f_H_move_b59, f_Mo_isFullFor, lo, h1, f2, f_H_move_b79, f_H_move_b84, pa_room1, w2, f_H_move_b110, f_H_move_b111, pa_ask0, pb_s, ↓reduceIte, pi_0, pi_1, px_l, px_r, pi_q, pi_r, pu_b0, pu_b1, if_true, if_false]
                  · simp only [f_H_move, e1, g1, i1, r1, f_Mo_hasDay, t1, f_H_move_b59, f_Mo_isFullFor, lo, h1, f2, f_H_move_b79, f_H_move_b84, pa_room1, w2, w3, f_H_move_b110, f_H_move_b111, pa_ask0, pb_s, ↓reduceIte, pi_0, pi_1, px_l, px_r, pi_q, pi_r, pu_b0, pu_b1, if_true, if_false]
                · simp only [f_Md_move, g2, i2, f_Md_move_b24, e, f_Md_move_b40, t2, f_Md_move_b59, lo, h2, f1, f_Md_move_b84, f_Md_move_b89, pf_A e2 r2, w1, pt_00, pi_p (show (0 : Int32) < 4 by decide), f_Md_move_b129, f_Md_move_b134, f_Md_move_b160, f_Md_move_b165, pt_4, ph_4, pb_s, ↓reduceIte, pi_0, pi_1, px_l, px_r, pi_q, pi_r, pu_b0, pu_b1, if_true, if_false]
          · have nm := pn_m1 (show 12 * o + i < 2 ^ 31 by omega)
            rcases pD_til hN x with ⟨d, hd, rfl, w1, w2, w3⟩ | ⟨w1, w2⟩
            · by_cases m1 : nI d < nI v
              · refine pOk.thr R (k := 3) (ρ := 11) (κ := 3) ?_ ?_
                · simp only [f_H_move, e1, g1, i1, r1, f_Mo_hasDay, t2, nm, f_H_move_b59, f_H_move_b79, f_H_move_b84, pa_room1, w1, w2, f_H_move_b111, pa_ask1, d1, m1, f_H_move_b136, pa_ask0, pb_s, ↓reduceIte, pi_0, pi_1, px_l, px_r, pi_q, pi_r, pu_b0, pu_b1, if_true, if_false]
                · simp only [f_Md_move, g2, i2, f_Md_move_b24, e, f_Md_move_b40, t3, nm, f_Md_move_b59, f_Md_move_b84, f_Md_move_b89, pf_A e2 r2, w3, pt_01, d2, m1, f_Md_move_b134, pt_00, pi_p (show (0 : Int32) < 11 by decide), f_Md_move_b160, f_Md_move_b165, pt_11, ph_11, pb_s, ↓reduceIte, pi_0, pi_1, px_l, px_r, pi_q, pi_r, pu_b0, pu_b1, if_true, if_false]
              · rcases pl_free hN hA ho (nI d) (nI d) with ⟨y1, y2, y3⟩ | ⟨i2', i', y1, y2, -, -, y3, y4⟩
                · refine pOk.ret (st' := (st.1, va_up (va_up st.2 9 (upd (st.2 9) (12 * o + i) (nI d))) 10 (upd (st.2 10) (12 * o + i) (nI s)))) (sm' := (va_up (va_up sm.1 1 (sm.1 1)) 0 0, va_up (va_up (va_up sm.2 11 (upd (sm.2 11) o (nI k))) 12 (upd (sm.2 12) (12 * o + i) (nI d))) 13 (upd (sm.2 13) (12 * o + i) (nI (600 + s))))) (x := 0) ?_ ?_ ?_
                  · exact ⟨n, hN.acc, hA.1, hA.2.1, hA.2.2.1, hA.2.2.2.1, hA.2.2.2.2.1.tell0 hoc h1 hk t0 hs t1, hA.2.2.2.2.2⟩
                  · simp only [f_H_move, e1, g1, i1, r1, f_Mo_hasDay, t2, nm, f_H_move_b59, f_H_move_b79, f_H_move_b84, pa_room1, w1, w2, f_H_move_b111, pa_ask1, d1, m1, f_H_move_b136, y1, f_H_move_b164, f_Mo_tell, f_Mo_tell_b31, pu_sd_nI (show 12 * o + i < 360 by omega) (show 360 < 2 ^ 31 by decide), pb_s, ↓reduceIte, pi_0, pi_1, px_l, px_r, pi_q, pi_r, pu_b0, pu_b1, if_true, if_false]
                  · simp only [f_Md_move, g2, i2, f_Md_move_b24, e, f_Md_move_b40, t3, nm, f_Md_move_b59, lo, h2, f_Md_move_b84, f_Md_move_b89, pf_A e2 r2, w3, pt_01, d2, m1, f_Md_move_b129, f_Md_move_b134, y2, f_Md_move_b160, f_Md_move_b165, ph_0, f_Md_move_b207, f_Md_move_b240, pu_sd_nI hoc (show 30 < 2 ^ 31 by decide), pu_sd_nI (show 12 * o + i < 360 by omega) (show 360 < 2 ^ 31 by decide), pb_s, ↓reduceIte, pi_0, pi_1, px_l, px_r, pi_q, pi_r, pu_b0, pu_b1, if_true, if_false]
                · refine pOk.thr R (k := 3) (ρ := 12) (κ := 3) ?_ ?_
                  · simp only [f_H_move, e1, g1, i1, r1, f_Mo_hasDay, t2, nm, f_H_move_b59, f_H_move_b79, f_H_move_b84, pa_room1, w1, w2, f_H_move_b111, pa_ask1, d1, m1, f_H_move_b136, y3, pn_m1 (show i2' < 2 ^ 31 by omega), f_H_move_b164, pa_ask0, pb_s, ↓reduceIte, pi_0, pi_1, px_l, px_r, pi_q, pi_r, pu_b0, pu_b1, if_true, if_false]
                  · simp only [f_Md_move, g2, i2, f_Md_move_b24, e, f_Md_move_b40, t3, nm, f_Md_move_b59, f_Md_move_b84, f_Md_move_b89, pf_A e2 r2, w3, pt_01, d2, m1, f_Md_move_b129, f_Md_move_b134, y4, nI_ne0 (show 0 < 700 + i' by omega) (show 700 + i' < 2 ^ 31 by omega), f_Md_move_b165, pt_00, ph_12, pb_s, ↓reduceIte, pi_0, pi_1, px_l, px_r, pi_q, pi_r, pu_b0, pu_b1, if_true, if_false]
            · refine pOk.thr R (k := 3) (ρ := 4) (κ := 3) ?_ ?_
              · rcases w2 with w2 | ⟨w2, w3⟩
                · simp only [f_H_move, e1, g1, i1, r1, f_Mo_hasDay, t2, nm, f_H_move_b59, f_H_move_b79, f_H_move_b84, pa_room1, w2, f_H_move_b110, f_H_move_b111, pa_ask0, pb_s, ↓reduceIte, pi_0, pi_1, px_l, px_r, pi_q, pi_r, pu_b0, pu_b1, if_true, if_false]
                · simp only [f_H_move, e1, g1, i1, r1, f_Mo_hasDay, t2, nm, f_H_move_b59, f_H_move_b79, f_H_move_b84, pa_room1, w2, w3, f_H_move_b110, f_H_move_b111, pa_ask0, pb_s, ↓reduceIte, pi_0, pi_1, px_l, px_r, pi_q, pi_r, pu_b0, pu_b1, if_true, if_false]
              · simp only [f_Md_move, g2, i2, f_Md_move_b24, e, f_Md_move_b40, t3, nm, f_Md_move_b59, f_Md_move_b84, f_Md_move_b89, pf_A e2 r2, w1, pt_00, pi_p (show (0 : Int32) < 4 by decide), f_Md_move_b129, f_Md_move_b134, f_Md_move_b160, f_Md_move_b165, pt_4, ph_4, pb_s, ↓reduceIte, pi_0, pi_1, px_l, px_r, pi_q, pi_r, pu_b0, pu_b1, if_true, if_false]
        · refine pOk.thr R (k := 2) (ρ := 2) (κ := 2) ?_ ?_
          · simp only [f_H_move, e1, g1, i1, r1, pb_s, ↓reduceIte, pi_0, pi_1, px_l, px_r, pi_q, pi_r, pu_b0, pu_b1, if_true, if_false]
          · rcases slot with ⟨t1, t2, t3⟩ | ⟨i, t0, t1, t2, t3⟩
            · by_cases q : (12 : Int32) ≤ nI k <;> simp only [f_Md_move, g2, i2, f_Md_move_b24, e, f_Md_move_b40, t2, f_Md_move_b59, lo, h2, q, f_Md_move_b84, lm_move (pf_2 e2 r2) (show (0 : Int32) < 2 by decide) (ph_2 sm), pb_s, ↓reduceIte, pi_0, pi_1, px_l, px_r, pi_q, pi_r, pu_b0, pu_b1, if_true, if_false]
            · simp only [f_Md_move, g2, i2, f_Md_move_b24, e, f_Md_move_b40, t3, pn_m1 (show 12 * o + i < 2 ^ 31 by omega), f_Md_move_b59, f_Md_move_b84, lm_move (pf_2 e2 r2) (show (0 : Int32) < 2 by decide) (ph_2 sm), pb_s, ↓reduceIte, pi_0, pi_1, px_l, px_r, pi_q, pi_r, pu_b0, pu_b1, if_true, if_false]
      · refine pOk.thr R (k := 1) (ρ := 1) (κ := 1) ?_ ?_
        · simp only [f_H_move, e1, pb_s, ↓reduceIte, pi_0, pi_1, px_l, px_r, pi_q, pi_r, pu_b0, pu_b1, if_true, if_false]
        · rcases slot with ⟨t1, t2, t3⟩ | ⟨i, t0, t1, t2, t3⟩
          · by_cases q : (12 : Int32) ≤ nI k <;> simp only [f_Md_move, g2, i2, f_Md_move_b24, e, f_Md_move_b40, t2, f_Md_move_b59, lo, h2, q, f_Md_move_b84, lm_move (pf_N e2) (show (0 : Int32) < 1 by decide) (ph_1 sm), pb_s, ↓reduceIte, pi_0, pi_1, px_l, px_r, pi_q, pi_r, pu_b0, pu_b1, if_true, if_false]
          · simp only [f_Md_move, g2, i2, f_Md_move_b24, e, f_Md_move_b40, t3, pn_m1 (show 12 * o + i < 2 ^ 31 by omega), f_Md_move_b59, f_Md_move_b84, lm_move (pf_N e2) (show (0 : Int32) < 1 by decide) (ph_1 sm), pb_s, ↓reduceIte, pi_0, pi_1, px_l, px_r, pi_q, pi_r, pu_b0, pu_b1, if_true, if_false]
    · have e := nothere (by simp only [f_Md_move, g2, i2, pb_s, ↓reduceIte, pi_0, pi_1, px_l, px_r, pi_q, pi_r, pu_b0, pu_b1, if_true, if_false])
      have e' : f_H_move st a (nI (500 + o)) c x = some (.inr 1, (va_up st.1 1 1, st.2)) := by
        rcases pk_De hN a with ⟨j, hj, hc, rfl, e1, e2⟩ | ⟨e1, e2⟩
        · simp only [f_H_move, e1, g1, i1, pb_s, ↓reduceIte, pi_0, pi_1, px_l, px_r, pi_q, pi_r, pu_b0, pu_b1, if_true, if_false]
        · simp only [f_H_move, e1, pb_s, ↓reduceIte, pi_0, pi_1, px_l, px_r, pi_q, pi_r, pu_b0, pu_b1, if_true, if_false]
      rw [e']; exact e
  · have e := nothere (by simp only [f_Md_move, g2, pb_s, ↓reduceIte, pi_0, pi_1, px_l, px_r, pi_q, pi_r, pu_b0, pu_b1, if_true, if_false])
    have e' : f_H_move st a b c x = some (.inr 1, (va_up st.1 1 1, st.2)) := by
      rcases pk_De hN a with ⟨j, hj, hc, rfl, e1, e2⟩ | ⟨e1, e2⟩
      · simp only [f_H_move, e1, g1, pb_s, ↓reduceIte, pi_0, pi_1, px_l, px_r, pi_q, pi_r, pu_b0, pu_b1, if_true, if_false]
      · simp only [f_H_move, e1, pb_s, ↓reduceIte, pi_0, pi_1, px_l, px_r, pi_q, pi_r, pu_b0, pu_b1, if_true, if_false]
    rw [e']; exact e

def pMO (I S B : Nat → Int32) (x y : Int32) (i : Nat) : Prop := ¬ B i = 0 ∧ I i = x ∧ S i = y
theorem lh_hasOpen {st : pu_St} {n : Nat} (hs : st.1 10 = nI n) (hn : n ≤ 20) (x y : Int32) : (f_Cl_hasOpenOf st x y = some 0 ∧ ∀ i, i < n → ¬ pMO (st.2 20) (st.2 21) (st.2 22) x y i) ∨ ∃ i, i < n ∧ pMO (st.2 20) (st.2 21) (st.2 22) x y i ∧ f_Cl_hasOpenOf st x y = some 1 := by
  refine lo_first (n := n) (f := fun k j => f_Cl_hasOpenOf_b2 k st x y (nI j)) (no := some 0) (yes := fun i => some 1) (pMO (st.2 20) (st.2 21) (st.2 22) x y) (fun k => ?_) (fun k j hj h => ?_) (fun k j hj h => ?_) (pu_big (by omega))
  · simp only [f_Cl_hasOpenOf_b2, f_Rg_size_Cl, hs, Int32.le_refl, pb_s, ↓reduceIte, pi_0, pi_1, px_l, px_r, pi_q, pi_r, pu_b0, pu_b1, if_true, if_false]
  · have c : ¬ nI n ≤ nI j := nI_ge hj (by omega)
    have l : ∀ f : Nat → Int32, pu_ld f 20 (nI j) = some (f j) := fun f => pu_ld_nI (by omega) (by decide)
    obtain ⟨m1, m2, m3⟩ := h
    simp only [f_Cl_hasOpenOf_b2, f_Rg_size_Cl, hs, c, l, m1, m2, m3, pb_s, ↓reduceIte, pi_0, pi_1, px_l, px_r, pi_q, pi_r, pu_b0, pu_b1, if_true, if_false]
  · have c : ¬ nI n ≤ nI j := nI_ge hj (by omega)
    have l : ∀ f : Nat → Int32, pu_ld f 20 (nI j) = some (f j) := fun f => pu_ld_nI (by omega) (by decide)
    by_cases m1 : st.2 22 j = 0
    · simp only [f_Cl_hasOpenOf_b2, f_Rg_size_Cl, hs, c, l, m1, nI_1, pb_s, ↓reduceIte, pi_0, pi_1, px_l, px_r, pi_q, pi_r, pu_b0, pu_b1, if_true, if_false]
    · by_cases m2 : st.2 20 j = x
      · by_cases m3 : st.2 21 j = y
        · exact absurd ⟨m1, m2, m3⟩ h
        · simp only [f_Cl_hasOpenOf_b2, f_Rg_size_Cl, hs, c, l, m1, m2, m3, nI_1, pb_s, ↓reduceIte, pi_0, pi_1, px_l, px_r, pi_q, pi_r, pu_b0, pu_b1, if_true, if_false]
      · simp only [f_Cl_hasOpenOf_b2, f_Rg_size_Cl, hs, c, l, m1, m2, nI_1, pb_s, ↓reduceIte, pi_0, pi_1, px_l, px_r, pi_q, pi_r, pu_b0, pu_b1, if_true, if_false]
def pClaimOut (sm : pu_St) (n : Nat) (x1 x2 x3 x4 r : Int32) : Option (Int32 × pu_St) := (f_Md_lies sm x3 0 9).bind fun v7 => (f_Md_then sm x4 v7 4).bind fun v8 => if r = 0 then f_Md_claim_b128 sm x1 x2 x3 v8 r (nI n) 1 v8 else f_Md_claim_b128 sm x1 x2 x3 v8 r (nI n) 0 v8
theorem lm_claim {sm : pu_St} {n : Nat} (hs : sm.2 0 9 = nI n) (hn : n ≤ 20) (x1 x2 x3 x4 : Int32) : (f_Md_claim_b38 pu_fu sm x1 x2 x3 x4 0 0 = pClaimOut sm n x1 x2 x3 x4 0 ∧ ∀ i, i < n → ¬ pMO (sm.2 21) (sm.2 22) (sm.2 23) x2 x3 i) ∨ (f_Md_claim_b38 pu_fu sm x1 x2 x3 x4 0 0 = pClaimOut sm n x1 x2 x3 x4 1 ∧ ∃ i, i < n ∧ pMO (sm.2 21) (sm.2 22) (sm.2 23) x2 x3 i) := by
  have l9 : pu_ld (sm.2 0) 10 9 = some (nI n) := by rw [← hs]; exact pu_ld_nI (j := 9) (by decide) (by decide)
  suffices key : ∃ r, pLast (pMO (sm.2 21) (sm.2 22) (sm.2 23) x2 x3) 0 (fun _ => 1) n r ∧ f_Md_claim_b38 pu_fu sm x1 x2 x3 x4 0 0 = pClaimOut sm n x1 x2 x3 x4 r by
    obtain ⟨r, h1, h2⟩ := key
    rcases h1 with ⟨rfl, q⟩ | ⟨i, q1, q2, rfl⟩
    · exact Or.inl ⟨h2, q⟩
    · exact Or.inr ⟨h2, i, q1, q2⟩
  refine lo_inv (n := n) (f := fun k c j => f_Md_claim_b38 k sm x1 x2 x3 x4 c (nI j)) (out := pClaimOut sm n x1 x2 x3 x4) (pLast (pMO (sm.2 21) (sm.2 22) (sm.2 23) x2 x3) 0 (fun _ => 1)) (fun k c _ => ?_) (fun k c j hj h => ?_) (fuel := pu_fu) (a := 0) pLast.z (pu_big (by omega))
  · simp only [f_Md_claim_b38, l9, Int32.le_refl, pClaimOut, pb_s, ↓reduceIte, pi_0, pi_1, px_l, px_r, pi_q, pi_r, pu_b0, pu_b1, if_true, if_false]
  · have cc : ¬ nI n ≤ nI j := nI_ge hj (by omega)
    have l : ∀ f : Nat → Int32, pu_ld f 20 (nI j) = some (f j) := fun f => pu_ld_nI (by omega) (by decide)
    have hc : c = 0 ∨ c = 1 := by
      rcases h with ⟨rfl, _⟩ | ⟨_, _, _, rfl⟩
      · exact Or.inl rfl
      · exact Or.inr rfl
    by_cases m1 : sm.2 23 j = 0
    · refine ⟨c, h.n (fun q => q.1 m1), ?_⟩
      rcases hc with rfl | rfl <;> simp only [f_Md_claim_b38, l9, cc, l, m1, nI_1, pb_s, ↓reduceIte, pi_0, pi_1, px_l, px_r, pi_q, pi_r, pu_b0, pu_b1, if_true, if_false]
    · by_cases m2 : sm.2 21 j = x2
      · by_cases m3 : sm.2 22 j = x3
        · refine ⟨1, pLast.y (g := fun _ => 1) ⟨m1, m2, m3⟩, ?_⟩
          rcases hc with rfl | rfl <;> simp only [f_Md_claim_b38, l9, cc, l, m1, m2, m3, nI_1, pb_s, ↓reduceIte, pi_0, pi_1, px_l, px_r, pi_q, pi_r, pu_b0, pu_b1, if_true, if_false]
        · refine ⟨c, h.n (fun q => m3 q.2.2), ?_⟩
          rcases hc with rfl | rfl <;> simp only [f_Md_claim_b38, l9, cc, l, m1, m2, m3, nI_1, pb_s, ↓reduceIte, pi_0, pi_1, px_l, px_r, pi_q, pi_r, pu_b0, pu_b1, if_true, if_false]
      · refine ⟨c, h.n (fun q => m2 q.2.1), ?_⟩
        rcases hc with rfl | rfl <;> simp only [f_Md_claim_b38, l9, cc, l, m1, m2, nI_1, pb_s, ↓reduceIte, pi_0, pi_1, px_l, px_r, pi_q, pi_r, pu_b0, pu_b1, if_true, if_false]
theorem lm_claim' {sm : pu_St} {n : Nat} (hs : sm.2 0 9 = nI n) (hn : n ≤ 20) (x1 x2 x3 : Int32) (y : Int32) (hy : 0 < y) {r : pu_St} (hr : f_Md_holds sm y = some (0, r)) : f_Md_claim_b38 pu_fu sm x1 x2 x3 y 0 0 = some (0, r) := by
  rcases lm_claim hs hn x1 x2 x3 y with ⟨h, _⟩ | ⟨h, _⟩ <;> rw [h] <;> rcases pD_lies sm x3 0 9 with q | q <;> simp only [pClaimOut, q, f_Md_claim_b128, pt_n hy, hr, pb_s, ↓reduceIte, pi_0, pi_1, px_l, px_r, pi_q, pi_r, pu_b0, pu_b1, if_true, if_false]
theorem p_claim : ∀ st sm, pRel st sm → ∀ a1 a2 a3 : Int32, pOk [1, 2, 3] pRel (f_H_claim st a1 a2 a3) (f_Md_claim sm a1 a2 a3) := by
  intro st sm R a b c
  obtain ⟨n, hN, hA⟩ := id R
  have c5 : n 5 ≤ 30 := hN.c (k := 5) (by decide) (by decide)
  have c9 : n 9 ≤ 20 := hN.c (k := 9) (by decide) (by decide)
  have m9 : sm.2 0 9 = nI (n 9) := hN.m (by decide) (by decide)
  rcases pk_De hN a with ⟨j, hj, hc, rfl, e1, e2⟩ | ⟨e1, e2⟩
  · rcases pk_It hN b with ⟨o, ho, hoc, rfl, g1, g2⟩ | ⟨g1, g2⟩
    · rcases pr_both hN hA.1 hj pB32 with ⟨r1, r2⟩ | ⟨r1, r2⟩
      · rcases pm_Cl hN with ⟨f1, f2, f3⟩ | ⟨f1, f2⟩
        · have thr4 : (c < 0 ∨ 9 < c) → pOk [1, 2, 3] pRel (f_H_claim st (nI (100 + j)) (nI (500 + o)) c) (f_Md_claim sm (nI (100 + j)) (nI (500 + o)) c) := by
            intro hb
            refine pOk.thr R (k := 3) (ρ := 4) (κ := 3) ?_ ?_
            · by_cases c1 : c < 0
              · simp only [f_H_claim, e1, g1, r1, f2, f_H_claim_b46, pa_room1, pb_s, ↓reduceIte, pi_0, pi_1, px_l, px_r, pi_q, pi_r, pu_b0, pu_b1, if_true, if_false, c1, f_H_claim_b65, f_H_claim_b66, pa_ask0]
              · simp only [f_H_claim, e1, g1, r1, f2, f_H_claim_b46, pa_room1, pb_s, ↓reduceIte, pi_0, pi_1, px_l, px_r, pi_q, pi_r, pu_b0, pu_b1, if_true, if_false, c1, hb.resolve_left c1, f_H_claim_b65, f_H_claim_b66, pa_ask0]
            · rcases lm_claim m9 c9 (nI (100 + j)) (nI (500 + o)) c 0 with ⟨h, _⟩ | ⟨h, _⟩ <;> simp only [f_Md_claim, g2, pl_Cl hN, f3, f_Md_claim_b27, pf_A e2 r2, pb_s, ↓reduceIte, pi_0, pi_1, px_l, px_r, pi_q, pi_r, pu_b0, pu_b1, if_true, if_false, h, pClaimOut, pL_0 hb, pt_00, f_Md_claim_b128, pt_4, ph_4]
          by_cases c1 : c < 0
          · exact thr4 (Or.inl c1)
          by_cases c2 : 9 < c
          · exact thr4 (Or.inr c2)
          obtain ⟨x, hx, rfl⟩ := pu_nat c1 (N := 9) rfl c2 (by decide)
          have eq : ∀ i, i < n 9 → (pMO (sm.2 21) (sm.2 22) (sm.2 23) (nI (500 + o)) (nI x) i ↔ pMO (st.2 20) (st.2 21) (st.2 22) (nI o) (nI x) i) := by
            intro i hi
            obtain ⟨j, s, b, q1, q2, q3, q4, q5, q6, q7, q8, q9⟩ := hA.2.2.2.2.2.2.2.2 i hi
            unfold pMO
            rw [q4, q5, q6, q7, q8, q9, nI_eq (by omega) (by omega), nI_eq (by omega) (by omega), nI_eq (by omega) (by omega)]
            constructor
            · rintro ⟨r1, r2, r3⟩; exact ⟨r1, by omega, r3⟩
            · rintro ⟨r1, r2, r3⟩; exact ⟨r1, by omega, r3⟩
          rcases lh_hasOpen (ps_Cl hN) c9 (nI o) (nI x) with ⟨h1, h2⟩ | ⟨i, h1, h2, h3⟩
          · rcases lm_claim m9 c9 (nI (100 + j)) (nI (500 + o)) (nI x) 0 with ⟨k1, k2⟩ | ⟨k1, i, k2, k3⟩
            · refine pOk.ret (st' := (va_up st.1 10 (nI (n 9 + 1)), va_up (va_up (va_up st.2 20 (upd (st.2 20) (n 9) (nI o))) 21 (upd (st.2 21) (n 9) (nI x))) 22 (upd (st.2 22) (n 9) 1))) (sm' := (va_up (va_up sm.1 1 (sm.1 1)) 0 0, va_up (va_up (va_up (va_up sm.2 21 (upd (sm.2 21) (n 9) (nI (500 + o)))) 22 (upd (sm.2 22) (n 9) (nI x))) 23 (upd (sm.2 23) (n 9) 1)) 0 (upd (sm.2 0) 9 (nI (n 9 + 1))))) (x := nI (900 + n 9)) ?_ ?_ ?_
              · exact ⟨va_up n 9 (n 9 + 1), hN.acc.one (k := 9) (by decide) (by decide) f1 rfl rfl, hA.1, hA.2.1, hA.2.2.1, hA.2.2.2.1, hA.2.2.2.2.1, hA.2.2.2.2.2.1, hA.2.2.2.2.2.2.1, hA.2.2.2.2.2.2.2.1, hA.2.2.2.2.2.2.2.2.add ho hx⟩
              · simp only [f_H_claim, e1, g1, r1, f2, f_H_claim_b46, pa_room1, pb_s, ↓reduceIte, pi_0, pi_1, px_l, px_r, pi_q, pi_r, pu_b0, pu_b1, if_true, if_false, c1, c2, f_H_claim_b66, pa_ask1, h1, f_H_claim_b90, f_Cl_raise, f_Rg_enter_Cl, f_Rg_handleOf_Cl, ps_Cl hN, nI_1, pH_Cl, pu_sd_nI f1 (show 20 < 2 ^ 31 by decide)]
              · simp only [f_Md_claim, g2, pl_Cl hN, f3, f_Md_claim_b27, pf_A e2 r2, pb_s, ↓reduceIte, pi_0, pi_1, px_l, px_r, pi_q, pi_r, pu_b0, pu_b1, if_true, if_false, k1, pClaimOut, pL_1 c1 c2, pt_01, f_Md_claim_b128, ph_0, pu_sd_nI f1 (show 20 < 2 ^ 31 by decide)]
                exact pd_fin (pd_Cl hN rfl)
            · exact absurd ((eq i k2).mp k3) (h2 i k2)
          · rcases lm_claim m9 c9 (nI (100 + j)) (nI (500 + o)) (nI x) 0 with ⟨k1, k2⟩ | ⟨k1, i', k2, k3⟩
            · exact absurd ((eq i h1).mpr h2) (k2 i h1)
            · refine pOk.thr R (k := 3) (ρ := 16) (κ := 3) ?_ ?_
              · simp only [f_H_claim, e1, g1, r1, f2, f_H_claim_b46, pa_room1, pb_s, ↓reduceIte, pi_0, pi_1, px_l, px_r, pi_q, pi_r, pu_b0, pu_b1, if_true, if_false, c1, c2, f_H_claim_b66, pa_ask1, h3, f_H_claim_b90, pa_ask0]
              · simp only [f_Md_claim, g2, pl_Cl hN, f3, f_Md_claim_b27, pf_A e2 r2, pb_s, ↓reduceIte, pi_0, pi_1, px_l, px_r, pi_q, pi_r, pu_b0, pu_b1, if_true, if_false, k1, pClaimOut, pL_1 c1 c2, pt_01, f_Md_claim_b128, pt_00, ph_16]
        · refine pOk.thr R (k := 2) (ρ := 3) (κ := 2) ?_ ?_
          · simp only [f_H_claim, e1, g1, r1, f1, f_H_claim_b46, pa_room0, pb_s, ↓reduceIte, pi_0, pi_1, px_l, px_r, pi_q, pi_r, pu_b0, pu_b1, if_true, if_false]
          · simp only [f_Md_claim, g2, pl_Cl hN, f2, f_Md_claim_b27, pf_3 e2 r2, pb_s, ↓reduceIte, pi_0, pi_1, px_l, px_r, pi_q, pi_r, pu_b0, pu_b1, if_true, if_false, lm_claim' m9 c9 _ _ _ 3 (by decide) (ph_3 sm)]
      · refine pOk.thr R (k := 2) (ρ := 2) (κ := 2) ?_ ?_
        · simp only [f_H_claim, e1, g1, r1, pb_s, ↓reduceIte, pi_0, pi_1, px_l, px_r, pi_q, pi_r, pu_b0, pu_b1, if_true, if_false]
        · by_cases f : (20 : Int32) ≤ nI (n 9) <;> simp only [f_Md_claim, g2, pl_Cl hN, f, f_Md_claim_b27, pf_2 e2 r2, pb_s, ↓reduceIte, pi_0, pi_1, px_l, px_r, pi_q, pi_r, pu_b0, pu_b1, if_true, if_false, lm_claim' m9 c9 _ _ _ 2 (by decide) (ph_2 sm)]
    · refine pOk.thr R (k := 1) (ρ := 1) (κ := 1) ?_ ?_
      · simp only [f_H_claim, e1, g1, pb_s, ↓reduceIte, pi_0, pi_1, px_l, px_r, pi_q, pi_r, pu_b0, pu_b1, if_true, if_false]
      · by_cases f : (20 : Int32) ≤ nI (n 9) <;> simp only [f_Md_claim, g2, pl_Cl hN, f, f_Md_claim_b27, pf_0, pb_s, ↓reduceIte, pi_0, pi_1, px_l, px_r, pi_q, pi_r, pu_b0, pu_b1, if_true, if_false, lm_claim' m9 c9 _ _ _ 1 (by decide) (ph_1 sm)]
  · refine pOk.thr R (k := 1) (ρ := 1) (κ := 1) ?_ ?_
    · simp only [f_H_claim, e1, pb_s, ↓reduceIte, pi_0, pi_1, px_l, px_r, pi_q, pi_r, pu_b0, pu_b1, if_true, if_false]
    · rcases pk_It hN b with ⟨s, hs, hsc, rfl, g1, g2⟩ | ⟨g1, g2⟩ <;> by_cases f : (20 : Int32) ≤ nI (n 9) <;> simp only [f_Md_claim, g2, pl_Cl hN, f, f_Md_claim_b27, pf_N e2, pb_s, ↓reduceIte, pi_0, pi_1, px_l, px_r, pi_q, pi_r, pu_b0, pu_b1, if_true, if_false, lm_claim' m9 c9 _ _ _ 1 (by decide) (ph_1 sm)]
theorem qK.shut {n5 n9 : Nat} {hi hs ho mi ms mo : Nat → Int32} (h : qK n5 n9 hi hs ho mi ms mo) (q : Nat) : qK n5 n9 hi hs (upd ho q 0) mi ms (upd mo q 0) := by
  intro j hj
  obtain ⟨i, s, b, q1, q2, q3, q4, q5, q6, q7, q8, q9⟩ := h j hj
  by_cases c : j = q
  · subst c
    rw [pk_us, pk_us]
    exact ⟨i, s, 0, q1, q2, Or.inl rfl, q4, q5, q6, q7, rfl, rfl⟩
  · rw [pk_un c, pk_un c]
    exact ⟨i, s, b, q1, q2, q3, q4, q5, q6, q7, q8, q9⟩
theorem p_close : ∀ st sm, pRel st sm → ∀ a1 a2 : Int32, pOk [1, 2, 3] pRel (f_H_close st a1 a2) (f_Md_close sm a1 a2) := by
  intro st sm R a b
  obtain ⟨n, hN, hA⟩ := id R
  have c5 : n 5 ≤ 30 := hN.c (k := 5) (by decide) (by decide)
  have c9 : n 9 ≤ 20 := hN.c (k := 9) (by decide) (by decide)
  have l0 : pu_ld (sm.2 23) 20 0 = some (sm.2 23 0) := pu_ld_nI (j := 0) (by decide) (by decide)
  rcases pk_De hN a with ⟨j, hj, hc, rfl, e1, e2⟩ | ⟨e1, e2⟩
  · rcases pk_Cl hN b with ⟨q, hq, hqc, rfl, g1, g2⟩ | ⟨g1, g2⟩
    · have e : nI (900 + q) - 900 = nI q := pu_sub
      have l : ∀ f : Nat → Int32, pu_ld f 20 (nI q) = some (f q) := fun f => pu_ld_nI hqc (by decide)
      rcases pr_both hN hA.1 hj pB32 with ⟨r1, r2⟩ | ⟨r1, r2⟩
      · obtain ⟨i, s, b, q1, q2, q3, q4, q5, q6, q7, q8, q9⟩ := hA.2.2.2.2.2.2.2.2 q hq
        rcases q3 with rfl | rfl
        · have q8' : st.2 22 q = 0 := q8
          have q9' : sm.2 23 q = 0 := q9
          refine pOk.thr R (k := 3) (ρ := 17) (κ := 3) ?_ ?_
          · simp only [f_H_close, e1, g1, r1, f_Cl_isOpen, l, q8', pb_s, ↓reduceIte, pi_0, pi_1, px_l, px_r, pi_q, pi_r, pu_b0, pu_b1, if_true, if_false, pa_ask0]
          · simp only [f_Md_close, g2, pf_A e2 r2, pb_s, ↓reduceIte, pi_0, pi_1, px_l, px_r, pi_q, pi_r, pu_b0, pu_b1, if_true, if_false, e, f_Md_close_b39, l, q9', pt_00, ph_17]
        · have q8' : st.2 22 q = 1 := q8
          have q9' : sm.2 23 q = 1 := q9
          have R' : pRel (st.1, va_up st.2 22 (upd (st.2 22) q 0)) (va_up (va_up sm.1 1 (sm.1 1)) 0 0, va_up sm.2 23 (upd (sm.2 23) q 0)) := ⟨n, hN.acc, hA.1, hA.2.1, hA.2.2.1, hA.2.2.2.1, hA.2.2.2.2.1, hA.2.2.2.2.2.1, hA.2.2.2.2.2.2.1, hA.2.2.2.2.2.2.2.1, hA.2.2.2.2.2.2.2.2.shut q⟩
          refine pOk.ret R' (x := nI (pCnt (pMC (st.2 20) (upd (st.2 22) q 0) (nI i)) (n 9))) ?_ ?_
          · simp only [f_H_close, e1, g1, r1, f_Cl_isOpen, l, q8', pb_s, ↓reduceIte, pi_0, pi_1, px_l, px_r, pi_q, pi_r, pu_b0, pu_b1, if_true, if_false, pa_ask1, f_Cl_settle, pu_sd_nI hqc (show 20 < 2 ^ 31 by decide), f_Cl_itemOf]
            show (f_Cl_openFor (st.1, va_up st.2 22 (upd (st.2 22) q 0)) (st.2 20 q)).bind _ = _
            rw [q4, lh_openFor (st := (st.1, va_up st.2 22 (upd (st.2 22) q 0))) (n := n 9) (ps_Cl hN) c9]
            rfl
          · simp only [f_Md_close, g2, pf_A e2 r2, pb_s, ↓reduceIte, pi_0, pi_1, px_l, px_r, pi_q, pi_r, pu_b0, pu_b1, if_true, if_false, e, f_Md_close_b39, l, q9', pt_01, ph_0, pu_sd_nI hqc (show 20 < 2 ^ 31 by decide)]
            refine (lm_close (sm := (va_up (va_up sm.1 1 (sm.1 1)) 0 0, va_up sm.2 23 (upd (sm.2 23) q 0))) (n := n 9) (hN.m (by decide) (by decide)) c9 _ _ _ hq).trans ?_
            have k : pCnt (pMC (sm.2 21) (upd (sm.2 23) q 0) (nI (500 + i))) (n 9) = pCnt (pMC (st.2 20) (upd (st.2 22) q 0) (nI i)) (n 9) := pCnt_congr (fun t ht => pc_eq (hA.2.2.2.2.2.2.2.2.shut q) c5 (by omega) ht)
            rw [← k, ← q5]
            rfl
      · refine pOk.thr R (k := 2) (ρ := 2) (κ := 2) ?_ ?_
        · simp only [f_H_close, e1, g1, r1, pb_s, ↓reduceIte, pi_0, pi_1, px_l, px_r, pi_q, pi_r, pu_b0, pu_b1, if_true, if_false]
        · simp only [f_Md_close, g2, pf_2 e2 r2, pb_s, ↓reduceIte, pi_0, pi_1, px_l, px_r, pi_q, pi_r, pu_b0, pu_b1, if_true, if_false, e, f_Md_close_b39, l, pt_2, ph_2]
    · refine pOk.thr R (k := 1) (ρ := 1) (κ := 1) ?_ ?_
      · simp only [f_H_close, e1, g1, pb_s, ↓reduceIte, pi_0, pi_1, px_l, px_r, pi_q, pi_r, pu_b0, pu_b1, if_true, if_false]
      · simp only [f_Md_close, g2, pf_0, pb_s, ↓reduceIte, pi_0, pi_1, px_l, px_r, pi_q, pi_r, pu_b0, pu_b1, if_true, if_false, f_Md_close_b39, l0, pt_1, ph_1]
  · refine pOk.thr R (k := 1) (ρ := 1) (κ := 1) ?_ ?_
    · simp only [f_H_close, e1, pb_s, ↓reduceIte, pi_0, pi_1, px_l, px_r, pi_q, pi_r, pu_b0, pu_b1, if_true, if_false]
    · rcases pk_Cl hN b with ⟨q, hq, hqc, rfl, g1, g2⟩ | ⟨g1, g2⟩
      · have e : nI (900 + q) - 900 = nI q := pu_sub
        have l : ∀ f : Nat → Int32, pu_ld f 20 (nI q) = some (f q) := fun f => pu_ld_nI hqc (by decide)
        simp only [f_Md_close, g2, pf_N e2, pb_s, ↓reduceIte, pi_0, pi_1, px_l, px_r, pi_q, pi_r, pu_b0, pu_b1, if_true, if_false, e, f_Md_close_b39, l, pt_1, ph_1]
      · simp only [f_Md_close, g2, pf_N e2, pb_s, ↓reduceIte, pi_0, pi_1, px_l, px_r, pi_q, pi_r, pu_b0, pu_b1, if_true, if_false, f_Md_close_b39, l0, pt_1, ph_1]

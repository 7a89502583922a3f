/-- the store chain: one more store -/
theorem qS.add0 {n6 : Nat} {hp mp : Nat → Int32} (h : qS n6 hp mp) : qS (n6 + 1) (upd hp n6 (-1)) (upd mp n6 (-1)) := by
  obtain ⟨P, h1, h2, h3⟩ := h
  refine ⟨P, fun j hj => ?_, fun i j q => ?_, h3⟩
  · rcases pu_lt1 hj with q | rfl
    · simp only [pu_old q]
      rcases h1 j q with r | ⟨p, r1, r2⟩
      · exact Or.inl r
      · exact Or.inr ⟨p, by omega, r2⟩
    · simp only [pk_us]
      exact Or.inl ⟨trivial, trivial, fun p q => absurd (h2 _ p q).1 (Nat.lt_irrefl _)⟩
  · have := h2 i j q; omega
theorem qS.addP {n6 : Nat} {hp mp : Nat → Int32} (h : qS n6 hp mp) {p : Nat} (hp1 : p < n6) : qS (n6 + 1) (upd hp n6 (nI p)) (upd mp n6 (nI p)) := by
  obtain ⟨P, h1, h2, h3⟩ := h
  have hin : ∀ i j, (P i j ∨ (i = n6 ∧ j = p)) → i < n6 + 1 ∧ j < n6 := by
    rintro i j (q | ⟨rfl, rfl⟩)
    · have := h2 i j q; omega
    · omega
  have hto : ∀ i j, Relation.TransGen (fun i j => P i j ∨ (i = n6 ∧ j = p)) i j → j < n6 ∧ (i < n6 → Relation.TransGen P i j) := by
    intro i j t
    induction t with
    | single q => exact ⟨(hin _ _ q).2, fun hi => .single (q.resolve_right (fun e => by omega))⟩
    | tail _ q ih => exact ⟨(hin _ _ q).2, fun hi => .tail (ih.2 hi) (q.resolve_right (fun e => by have := ih.1; omega))⟩
  refine ⟨fun i j => P i j ∨ (i = n6 ∧ j = p), fun j hj => ?_, fun i j q => ?_, fun i t => ?_⟩
  · rcases pu_lt1 hj with q | rfl
    · simp only [pu_old q]
      rcases h1 j q with ⟨r1, r2, r3⟩ | ⟨s, r1, r2, r3, r4⟩
      · exact Or.inl ⟨r1, r2, fun p e => e.elim (r3 p) (fun e => by omega)⟩
      · exact Or.inr ⟨s, by omega, r2, r3, fun q' => ⟨fun e => e.elim (r4 q').mp (fun e => by omega), fun e => Or.inl ((r4 q').mpr e)⟩⟩
    · simp only [pk_us]
      exact Or.inr ⟨p, by omega, rfl, rfl, fun q => ⟨fun e => e.elim (fun e => absurd (h2 _ q e).1 (Nat.lt_irrefl _)) (fun e => e.2), fun e => Or.inr ⟨trivial, e⟩⟩⟩
  · have := hin i j q; omega
  · have k := hto i i t
    exact h3 i (k.2 k.1)
theorem pk_par {st sm : pu_St} {n : Nat → Nat} (hN : qN n st.1 sm.1 (sm.2 0)) (a : Int32) : (a = 0 ∧ f_H_parentNumberOf st a = some (.inl (-1), st)) ∨ (¬ a = 0 ∧ ∃ j, j < n 6 ∧ j < 16 ∧ a = nI (600 + j) ∧ f_H_parentNumberOf st a = some (.inl (nI j), st) ∧ f_Md_is sm a 6 = some 1) ∨ (¬ a = 0 ∧ f_H_parentNumberOf st a = some (.inr 1, (va_up st.1 1 1, st.2)) ∧ f_Md_is sm a 6 = some 0) := by
  by_cases c : a = 0
  · exact Or.inl ⟨c, by simp only [f_H_parentNumberOf, c, pb_s, ↓reduceIte, pi_0, pi_1, px_l, px_r, pi_q, pi_r, pu_b0, pu_b1, if_true, if_false]⟩
  · rcases pk_So hN a with ⟨j, hj, hc, rfl, e1, e2⟩ | ⟨e1, e2⟩
    · exact Or.inr (Or.inl ⟨c, j, hj, hc, rfl, by simp only [f_H_parentNumberOf, c, e1, pb_s, ↓reduceIte, pi_0, pi_1, px_l, px_r, pi_q, pi_r, pu_b0, pu_b1, if_true, if_false], e2⟩)
    · exact Or.inr (Or.inr ⟨c, by simp only [f_H_parentNumberOf, c, e1, pb_s, ↓reduceIte, pi_0, pi_1, px_l, px_r, pi_q, pi_r, pu_b0, pu_b1, if_true, if_false], e2⟩)
theorem p_store : ∀ st sm, pRel st sm → ∀ a1 a2 : Int32, pOk [1, 2] pRel (f_H_store st a1 a2) (f_Md_store sm a1 a2) := by
  intro st sm R a b
  obtain ⟨n, hN, hA⟩ := id R
  have hM : ∀ (x y : Int32), qS (n 6 + 1) (upd (st.2 12) (n 6) x) (upd (sm.2 10) (n 6) y) → n 6 < 16 → pRel (va_up st.1 7 (nI (n 6 + 1)), va_up st.2 12 (upd (st.2 12) (n 6) x)) (va_up (va_up sm.1 1 (sm.1 1)) 0 0, va_up (va_up sm.2 10 (upd (sm.2 10) (n 6) y)) 0 (upd (sm.2 0) 6 (nI (n 6 + 1)))) := fun x y q f1 =>
    ⟨va_up n 6 (n 6 + 1), hN.acc.one (k := 6) (by decide) (by decide) f1 rfl rfl, hA.1, hA.2.1, hA.2.2.1, hA.2.2.2.1, hA.2.2.2.2.1.mono (Nat.le_succ _), q, hA.2.2.2.2.2.2.1, hA.2.2.2.2.2.2.2.1.mono (Nat.le_refl _) (Nat.le_succ _), hA.2.2.2.2.2.2.2.2⟩
  rcases pk_De hN a with ⟨j, hj, hc, rfl, e1, e2⟩ | ⟨e1, e2⟩
  · rcases pk_par hN b with ⟨rfl, g1⟩ | ⟨c0, s, hs, hsc, rfl, g1, g2⟩ | ⟨c0, g1, g2⟩
    · rcases pr_both hN hA.1 hj pB4 with ⟨r1, r2⟩ | ⟨r1, r2⟩
      · rcases pm_So hN with ⟨f1, f2, f3⟩ | ⟨f1, f2⟩
        · refine pOk.ret (hM (-1) (-1) hA.2.2.2.2.2.1.add0 f1) (x := nI (600 + n 6)) ?_ ?_
          · simp only [f_H_store, e1, g1, r1, f2, f_H_store_b39, pa_room1, f_So_build, f_Rg_enter_So, f_Rg_handleOf_So, ps_So hN, nI_1, pb_s, ↓reduceIte, pi_0, pi_1, px_l, px_r, pi_q, pi_r, pu_b0, pu_b1, if_true, if_false, pH_So, pu_sd_nI f1 (show 16 < 2 ^ 31 by decide)]
          · simp only [f_Md_store, pl_So hN, f3, f_Md_store_b16, f_Md_store_b21, f_Md_store_b40, f_Md_store_b75, pf_A e2 r2, ph_0, pb_s, ↓reduceIte, pi_0, pi_1, px_l, px_r, pi_q, pi_r, pu_b0, pu_b1, if_true, if_false, pu_sd_nI f1 (show 16 < 2 ^ 31 by decide)]
            exact pd_fin (pd_So hN rfl)
        · refine pOk.thr R (k := 2) (ρ := 3) (κ := 2) ?_ ?_
          · simp only [f_H_store, e1, g1, r1, f1, f_H_store_b39, pa_room0, pb_s, ↓reduceIte, pi_0, pi_1, px_l, px_r, pi_q, pi_r, pu_b0, pu_b1, if_true, if_false]
          · simp only [f_Md_store, pl_So hN, f2, f_Md_store_b16, f_Md_store_b21, f_Md_store_b40, pf_3 e2 r2, ph_3, pb_s, ↓reduceIte, pi_0, pi_1, px_l, px_r, pi_q, pi_r, pu_b0, pu_b1, if_true, if_false]
      · refine pOk.thr R (k := 2) (ρ := 2) (κ := 2) ?_ ?_
        · simp only [f_H_store, e1, g1, r1, pb_s, ↓reduceIte, pi_0, pi_1, px_l, px_r, pi_q, pi_r, pu_b0, pu_b1, if_true, if_false]
        · by_cases f : (16 : Int32) ≤ nI (n 6) <;> simp only [f_Md_store, pl_So hN, f, f_Md_store_b16, f_Md_store_b21, f_Md_store_b40, pf_2 e2 r2, ph_2, pb_s, ↓reduceIte, pi_0, pi_1, px_l, px_r, pi_q, pi_r, pu_b0, pu_b1, if_true, if_false]
    · rcases pr_both hN hA.1 hj pB4 with ⟨r1, r2⟩ | ⟨r1, r2⟩
      · rcases pm_So hN with ⟨f1, f2, f3⟩ | ⟨f1, f2⟩
        · have e : nI (600 + s) - 600 = nI s := pu_sub
          refine pOk.ret (hM (nI s) (nI s) (hA.2.2.2.2.2.1.addP hs) f1) (x := nI (600 + n 6)) ?_ ?_
          · simp only [f_H_store, e1, g1, r1, f2, f_H_store_b39, pa_room1, f_So_build, f_Rg_enter_So, f_Rg_handleOf_So, ps_So hN, nI_1, pb_s, ↓reduceIte, pi_0, pi_1, px_l, px_r, pi_q, pi_r, pu_b0, pu_b1, if_true, if_false, pH_So, pu_sd_nI f1 (show 16 < 2 ^ 31 by decide)]
          · simp only [f_Md_store, c0, g2, pl_So hN, f3, f_Md_store_b16, f_Md_store_b21, f_Md_store_b40, f_Md_store_b75, pf_A e2 r2, ph_0, e, pb_s, ↓reduceIte, pi_0, pi_1, px_l, px_r, pi_q, pi_r, pu_b0, pu_b1, if_true, if_false, pu_sd_nI f1 (show 16 < 2 ^ 31 by decide)]
            exact pd_fin (pd_So hN rfl)
        · refine pOk.thr R (k := 2) (ρ := 3) (κ := 2) ?_ ?_
          · simp only [f_H_store, e1, g1, r1, f1, f_H_store_b39, pa_room0, pb_s, ↓reduceIte, pi_0, pi_1, px_l, px_r, pi_q, pi_r, pu_b0, pu_b1, if_true, if_false]
          · simp only [f_Md_store, c0, g2, pl_So hN, f2, f_Md_store_b16, f_Md_store_b21, f_Md_store_b40, pf_3 e2 r2, ph_3, pb_s, ↓reduceIte, pi_0, pi_1, px_l, px_r, pi_q, pi_r, pu_b0, pu_b1, if_true, if_false]
      · refine pOk.thr R (k := 2) (ρ := 2) (κ := 2) ?_ ?_
        · simp only [f_H_store, e1, g1, r1, pb_s, ↓reduceIte, pi_0, pi_1, px_l, px_r, pi_q, pi_r, pu_b0, pu_b1, if_true, if_false]
        · by_cases f : (16 : Int32) ≤ nI (n 6) <;> simp only [f_Md_store, c0, g2, pl_So hN, f, f_Md_store_b16, f_Md_store_b21, f_Md_store_b40, pf_2 e2 r2, ph_2, pb_s, ↓reduceIte, pi_0, pi_1, px_l, px_r, pi_q, pi_r, pu_b0, pu_b1, if_true, if_false]
    · refine pOk.thr R (k := 1) (ρ := 1) (κ := 1) ?_ ?_
      · simp only [f_H_store, e1, g1, pb_s, ↓reduceIte, pi_0, pi_1, px_l, px_r, pi_q, pi_r, pu_b0, pu_b1, if_true, if_false]
      · by_cases f : (16 : Int32) ≤ nI (n 6) <;> simp only [f_Md_store, c0, g2, pl_So hN, f, f_Md_store_b16, f_Md_store_b21, f_Md_store_b40, pf_0, ph_1, pb_s, ↓reduceIte, pi_0, pi_1, px_l, px_r, pi_q, pi_r, pu_b0, pu_b1, if_true, if_false]
  · refine pOk.thr R (k := 1) (ρ := 1) (κ := 1) ?_ ?_
    · simp only [f_H_store, e1, pb_s, ↓reduceIte, pi_0, pi_1, px_l, px_r, pi_q, pi_r, pu_b0, pu_b1, if_true, if_false]
    · rcases pk_par hN b with ⟨rfl, g1⟩ | ⟨c0, s, hs, hsc, rfl, g1, g2⟩ | ⟨c0, g1, g2⟩
      · by_cases f : (16 : Int32) ≤ nI (n 6) <;> simp only [f_Md_store, pl_So hN, f, f_Md_store_b16, f_Md_store_b21, f_Md_store_b40, pf_N e2, ph_1, pb_s, ↓reduceIte, pi_0, pi_1, px_l, px_r, pi_q, pi_r, pu_b0, pu_b1, if_true, if_false]
      · by_cases f : (16 : Int32) ≤ nI (n 6) <;> simp only [f_Md_store, c0, g2, pl_So hN, f, f_Md_store_b16, f_Md_store_b21, f_Md_store_b40, pf_N e2, ph_1, pb_s, ↓reduceIte, pi_0, pi_1, px_l, px_r, pi_q, pi_r, pu_b0, pu_b1, if_true, if_false]
      · by_cases f : (16 : Int32) ≤ nI (n 6) <;> simp only [f_Md_store, c0, g2, pl_So hN, f, f_Md_store_b16, f_Md_store_b21, f_Md_store_b40, pf_N e2, ph_1, pb_s, ↓reduceIte, pi_0, pi_1, px_l, px_r, pi_q, pi_r, pu_b0, pu_b1, if_true, if_false]
theorem qL.back {n5 n7 : Nat} {hi hf ht mi mf mt : Nat → Int32} (h : qL n5 n7 hi hf ht mi mf mt) {l d : Nat} (hd : d ≤ 9999) (h1 : ¬ nI d < hf l) (h2 : ¬ ht l < nI d) (hl : l < n7) : qL n5 n7 hi hf (upd ht l (nI d)) mi mf (upd mt l (nI d)) := by
  obtain ⟨I, F, T, k1, k2⟩ := h
  have a : F l ≤ d ∧ d ≤ T l := by
    obtain ⟨q1, q2, q3, q4, q5, q6, q7, q8, q9⟩ := k1 l hl
    rw [q6, nI_ltI (by omega) (by omega)] at h1
    rw [q8, nI_ltI (by omega) (by omega)] at h2
    omega
  refine ⟨I, F, va_up T l d, fun j hj => ?_, fun j i hj hk hjk he => ?_⟩
  · obtain ⟨q1, q2, q3, q4, q5, q6, q7, q8, q9⟩ := k1 j hj
    by_cases c : j = l
    · subst c; simp only [pk_us, va_up_self]; exact ⟨q1, q2, hd, q4, q5, q6, q7, by simp⟩
    · simp only [pk_un c, va_up_ne _ _ c]; exact k1 j hj
  · have k := k2 j i hj hk hjk he
    by_cases c : j = l
    · subst c
      rw [va_up_self, va_up_ne _ _ (fun q => hjk q.symm)]; omega
    · rw [va_up_ne _ _ c]
      by_cases c' : i = l
      · subst c'; rw [va_up_self]; omega
      · rw [va_up_ne _ _ c']; exact k

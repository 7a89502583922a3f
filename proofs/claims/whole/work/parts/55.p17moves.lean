/-! PURE: the moves of an object -/
theorem pu_slot {o : Nat} : nI o * 12 = nI (12 * o) := by
  have e : nI o * 12 = nI (o * 12) := pk_mul o 12
  rw [e, Nat.mul_comm]
theorem pu_slot' {o : Nat} : (12 : Int32) * nI o = nI (12 * o) := pk_mul 12 o
theorem lh_slot {st : pu_St} {o c : Nat} (ho : o < 30) (hc : c ≤ 12) (hs : st.2 11 o = nI c) (x : Int32) : (f_Mo_slotOf st (nI o) x = some (-1) ∧ ∀ k, k < c → ¬ st.2 9 (12 * o + k) = x) ∨ ∃ k, k < c ∧ st.2 9 (12 * o + k) = x ∧ f_Mo_slotOf st (nI o) x = some (nI (12 * o + k)) := by
  have l : ∀ f : Nat → Int32, pu_ld f 30 (nI o) = some (f o) := fun f => pu_ld_nI ho (by decide)
  have e : f_Mo_slotOf st (nI o) x = f_Mo_slotOf_b13 pu_fu st (nI o) x (nI (12 * o + c)) (nI (12 * o + 0)) := by
    simp only [f_Mo_slotOf, f_Mo_endOfSlots, f_Mo_firstSlot, l, hs, pu_slot, nI_add, Nat.add_zero, pb_s, ↓reduceIte, pi_0, pi_1, px_l, px_r, pi_q, pi_r, pu_b0, pu_b1, if_true, if_false]
  rw [e]
  refine lo_first (n := c) (f := fun k j => f_Mo_slotOf_b13 k st (nI o) x (nI (12 * o + c)) (nI (12 * o + j))) (no := some (-1)) (yes := fun i => some (nI (12 * o + i))) (fun k => st.2 9 (12 * o + k) = x) (fun k => ?_) (fun k j hj h => ?_) (fun k j hj h => ?_) (pu_big (by omega))
  · simp only [f_Mo_slotOf_b13, Int32.le_refl, pb_s, ↓reduceIte, pi_0, pi_1, px_l, px_r, pi_q, pi_r, pu_b0, pu_b1, if_true, if_false]
  · have q : ¬ nI (12 * o + c) ≤ nI (12 * o + j) := nI_ge (by omega) (by omega)
    simp only [f_Mo_slotOf_b13, q, pu_ld_nI (show 12 * o + j < 360 by omega) (show 360 < 2 ^ 31 by decide), h, pb_s, ↓reduceIte, pi_0, pi_1, px_l, px_r, pi_q, pi_r, pu_b0, pu_b1, if_true, if_false]
  · have q : ¬ nI (12 * o + c) ≤ nI (12 * o + j) := nI_ge (by omega) (by omega)
    simp only [f_Mo_slotOf_b13, q, pu_ld_nI (show 12 * o + j < 360 by omega) (show 360 < 2 ^ 31 by decide), h, nI_1, Nat.add_assoc, pb_s, ↓reduceIte, pi_0, pi_1, px_l, px_r, pi_q, pi_r, pu_b0, pu_b1, if_true, if_false]
theorem lm_slot {sm : pu_St} {o c : Nat} (ho : o < 30) (hc : c ≤ 12) (hs : sm.2 11 o = nI c) (x : Int32) : (f_Md_moveAt sm (nI o) x = some (-1) ∧ ∀ k, k < c → ¬ sm.2 12 (12 * o + k) = x) ∨ ∃ k, k < c ∧ sm.2 12 (12 * o + k) = x ∧ f_Md_moveAt sm (nI o) x = some (nI (12 * o + k)) := by
  have l : ∀ f : Nat → Int32, pu_ld f 30 (nI o) = some (f o) := fun f => pu_ld_nI ho (by decide)
  have e : f_Md_moveAt sm (nI o) x = f_Md_moveAt_b8 pu_fu sm (nI o) x (-1) (nI (12 * o + 0)) := by
    simp only [f_Md_moveAt, pu_slot', Nat.add_zero]
  rw [e]
  suffices key : ∃ r, pLast (fun k => sm.2 12 (12 * o + k) = x) (-1) (fun k => nI (12 * o + k)) c r ∧ f_Md_moveAt_b8 pu_fu sm (nI o) x (-1) (nI (12 * o + 0)) = some r by
    obtain ⟨r, h1, h2⟩ := key
    rcases h1 with ⟨rfl, q⟩ | ⟨i, q1, q2, rfl⟩
    · exact Or.inl ⟨h2, q⟩
    · exact Or.inr ⟨i, q1, q2, h2⟩
  refine lo_inv (n := c) (f := fun k r j => f_Md_moveAt_b8 k sm (nI o) x r (nI (12 * o + j))) (out := fun r => some r) (pLast (fun k => sm.2 12 (12 * o + k) = x) (-1) (fun k => nI (12 * o + k))) (fun k r _ => ?_) (fun k r j hj h => ?_) (fuel := pu_fu) (a := -1) pLast.z (pu_big (by omega))
  · simp only [f_Md_moveAt_b8, l, hs, pu_slot', nI_add, Int32.le_refl, pb_s, ↓reduceIte, pi_0, pi_1, px_l, px_r, pi_q, pi_r, pu_b0, pu_b1, if_true, if_false]
  · have q : ¬ nI (12 * o + c) ≤ nI (12 * o + j) := nI_ge (by omega) (by omega)
    by_cases m : sm.2 12 (12 * o + j) = x
    · exact ⟨_, pLast.y (g := fun k => nI (12 * o + k)) m, by simp only [f_Md_moveAt_b8, l, hs, pu_slot', nI_add, q, pu_ld_nI (show 12 * o + j < 360 by omega) (show 360 < 2 ^ 31 by decide), m, nI_1, Nat.add_assoc, pb_s, ↓reduceIte, pi_0, pi_1, px_l, px_r, pi_q, pi_r, pu_b0, pu_b1, if_true, if_false]⟩
    · exact ⟨_, h.n m, by simp only [f_Md_moveAt_b8, l, hs, pu_slot', nI_add, q, pu_ld_nI (show 12 * o + j < 360 by omega) (show 360 < 2 ^ 31 by decide), m, nI_1, Nat.add_assoc, pb_s, ↓reduceIte, pi_0, pi_1, px_l, px_r, pi_q, pi_r, pu_b0, pu_b1, if_true, if_false]⟩
/-- the slot of a day: on both sides alike -/
theorem pm_slot {st sm : pu_St} {n6 o c : Nat} (ho : o < 30) (hc : c ≤ 12) (h1 : st.2 11 o = nI c) (h2 : sm.2 11 o = nI c) (h3 : ∀ k, k < c → ∃ d s, d ≤ 9999 ∧ s < n6 ∧ st.2 9 (12 * o + k) = nI d ∧ sm.2 12 (12 * o + k) = nI d ∧ st.2 10 (12 * o + k) = nI s ∧ sm.2 13 (12 * o + k) = nI (600 + s)) (h4 : ∀ k k', k < c → k' < c → st.2 9 (12 * o + k) = st.2 9 (12 * o + k') → k = k') (x : Int32) :
    (f_Mo_slotOf st (nI o) x = some (-1) ∧ f_Md_moveAt sm (nI o) x = some (-1) ∧ ∀ k, k < c → ¬ st.2 9 (12 * o + k) = x) ∨ ∃ k, k < c ∧ st.2 9 (12 * o + k) = x ∧ f_Mo_slotOf st (nI o) x = some (nI (12 * o + k)) ∧ f_Md_moveAt sm (nI o) x = some (nI (12 * o + k)) := by
  have eq : ∀ k, k < c → sm.2 12 (12 * o + k) = st.2 9 (12 * o + k) := by
    intro k hk
    obtain ⟨d, s, -, -, q3, q4, -⟩ := h3 k hk
    rw [q3, q4]
  rcases lh_slot ho hc h1 x with ⟨g1, g2⟩ | ⟨k, g1, g2, g3⟩
  · rcases lm_slot ho hc h2 x with ⟨t1, t2⟩ | ⟨k, t1, t2, t3⟩
    · exact Or.inl ⟨g1, t1, g2⟩
    · exact absurd (by rw [← eq k t1]; exact t2) (g2 k t1)
  · rcases lm_slot ho hc h2 x with ⟨t1, t2⟩ | ⟨k', t1, t2, t3⟩
    · exact absurd (by rw [eq k g1]; exact g2) (t2 k g1)
    · have e : k' = k := h4 k' k t1 g1 (by rw [g2, ← eq k' t1]; exact t2)
      subst e
      exact Or.inr ⟨k', g1, g2, g3, t3⟩
/-- where an object lies on a day: on both sides alike -/
theorem pm_place {st sm : pu_St} {n6 o c : Nat} (c6 : n6 ≤ 16) (ho : o < 30) (hc : c ≤ 12) (h1 : st.2 11 o = nI c) (h2 : sm.2 11 o = nI c) (h3 : ∀ k, k < c → ∃ d s, d ≤ 9999 ∧ s < n6 ∧ st.2 9 (12 * o + k) = nI d ∧ sm.2 12 (12 * o + k) = nI d ∧ st.2 10 (12 * o + k) = nI s ∧ sm.2 13 (12 * o + k) = nI (600 + s)) (x : Int32) :
    (f_Mo_storeOn st (nI o) x = some (-1) ∧ f_Md_placeOf sm (nI o) x = some 0) ∨ ∃ s, s < n6 ∧ f_Mo_storeOn st (nI o) x = some (nI s) ∧ f_Md_placeOf sm (nI o) x = some (nI (600 + s)) := by
  have l : ∀ f : Nat → Int32, pu_ld f 30 (nI o) = some (f o) := fun f => pu_ld_nI ho (by decide)
  have e1 : f_Mo_storeOn st (nI o) x = f_Mo_storeOn_b19 pu_fu st (nI o) x (-1) (-1) (nI (12 * o + c)) (nI (12 * o + 0)) := by
    simp only [f_Mo_storeOn, f_Mo_endOfSlots, f_Mo_firstSlot, l, h1, pu_slot, nI_add, Nat.add_zero, pb_s, ↓reduceIte, pi_0, pi_1, px_l, px_r, pi_q, pi_r, pu_b0, pu_b1, if_true, if_false]
  have e2 : f_Md_placeOf sm (nI o) x = f_Md_placeOf_b8 pu_fu sm (nI o) x (-1) (nI (12 * o + 0)) := by
    simp only [f_Md_placeOf, pu_slot', Nat.add_zero]
  rw [e1, e2]
  -- the two loops, side by side
  have go : ∀ m j fuel (sp la be : Int32), j + m = c → m < fuel → ((sp = -1 ∧ la = -1 ∧ be = -1) ∨ ∃ k, k < c ∧ sp = st.2 10 (12 * o + k) ∧ la = st.2 9 (12 * o + k) ∧ be = nI (12 * o + k)) →
      (f_Mo_storeOn_b19 fuel st (nI o) x sp la (nI (12 * o + c)) (nI (12 * o + j)) = some (-1) ∧ f_Md_placeOf_b8 fuel sm (nI o) x be (nI (12 * o + j)) = some 0) ∨ ∃ s, s < n6 ∧ f_Mo_storeOn_b19 fuel st (nI o) x sp la (nI (12 * o + c)) (nI (12 * o + j)) = some (nI s) ∧ f_Md_placeOf_b8 fuel sm (nI o) x be (nI (12 * o + j)) = some (nI (600 + s)) := by
    intro m
    induction m with
    | zero =>
      intro j fuel sp la be e hf inv
      obtain ⟨k, rfl⟩ : ∃ k, fuel = k + 1 := ⟨fuel - 1, by omega⟩
      have : j = c := by omega
      subst this
      rcases inv with ⟨rfl, rfl, rfl⟩ | ⟨i, hi, rfl, rfl, rfl⟩
      · left
        exact ⟨by simp only [f_Mo_storeOn_b19, Int32.le_refl, pb_s, ↓reduceIte, pi_0, pi_1, px_l, px_r, pi_q, pi_r, pu_b0, pu_b1, if_true, if_false], by simp only [f_Md_placeOf_b8, l, h2, pu_slot', nI_add, Int32.le_refl, pb_s, ↓reduceIte, pi_0, pi_1, px_l, px_r, pi_q, pi_r, pu_b0, pu_b1, if_true, if_false]⟩
      · right
        obtain ⟨d, s, q1, q2, q3, q4, q5, q6⟩ := h3 i hi
        exact ⟨s, q2, by simp only [f_Mo_storeOn_b19, Int32.le_refl, q5, pb_s, ↓reduceIte, pi_0, pi_1, px_l, px_r, pi_q, pi_r, pu_b0, pu_b1, if_true, if_false], by simp only [f_Md_placeOf_b8, l, h2, pu_slot', nI_add, Int32.le_refl, pn_m1 (show 12 * o + i < 2 ^ 31 by omega), pu_ld_nI (show 12 * o + i < 360 by omega) (show 360 < 2 ^ 31 by decide), q6, pb_s, ↓reduceIte, pi_0, pi_1, px_l, px_r, pi_q, pi_r, pu_b0, pu_b1, if_true, if_false]⟩
    | succ m ih =>
      intro j fuel sp la be e hf inv
      obtain ⟨k, rfl⟩ : ∃ k, fuel = k + 1 := ⟨fuel - 1, by omega⟩
      have q : ¬ nI (12 * o + c) ≤ nI (12 * o + j) := nI_ge (by omega) (by omega)
      have lj : ∀ f : Nat → Int32, pu_ld f 360 (nI (12 * o + j)) = some (f (12 * o + j)) := fun f => pu_ld_nI (show 12 * o + j < 360 by omega) (by decide)
      obtain ⟨d, s, q1, q2, q3, q4, q5, q6⟩ := h3 j (by omega)
      have keep := ih (j + 1) k sp la be (by omega) (by omega) inv
      have take := ih (j + 1) k (st.2 10 (12 * o + j)) (st.2 9 (12 * o + j)) (nI (12 * o + j)) (by omega) (by omega) (Or.inr ⟨j, by omega, rfl, rfl, rfl⟩)
      by_cases m1 : x < nI d
      · have s1 : f_Mo_storeOn_b19 (k + 1) st (nI o) x sp la (nI (12 * o + c)) (nI (12 * o + j)) = f_Mo_storeOn_b19 k st (nI o) x sp la (nI (12 * o + c)) (nI (12 * o + (j + 1))) := by
          simp only [f_Mo_storeOn_b19, q, lj, q3, m1, nI_1, Nat.add_assoc, pb_s, ↓reduceIte, pi_0, pi_1, px_l, px_r, pi_q, pi_r, pu_b0, pu_b1, if_true, if_false]
        have s2 : f_Md_placeOf_b8 (k + 1) sm (nI o) x be (nI (12 * o + j)) = f_Md_placeOf_b8 k sm (nI o) x be (nI (12 * o + (j + 1))) := by
          simp only [f_Md_placeOf_b8, l, h2, pu_slot', nI_add, q, lj, q4, m1, nI_1, Nat.add_assoc, pb_s, ↓reduceIte, pi_0, pi_1, px_l, px_r, pi_q, pi_r, pu_b0, pu_b1, if_true, if_false]
        rw [s1, s2]; exact keep
      · rcases inv with ⟨rfl, rfl, rfl⟩ | ⟨i, hi, rfl, rfl, rfl⟩
        · have m2 : ¬ nI d ≤ (-1) := by
            intro h
            have h' := Int32.le_iff_toInt_le.mp h
            rw [nI_toInt (by omega)] at h'
            have h2 : (-1 : Int32).toInt = -1 := by decide
            omega
          have s1 : f_Mo_storeOn_b19 (k + 1) st (nI o) x (-1) (-1) (nI (12 * o + c)) (nI (12 * o + j)) = f_Mo_storeOn_b19 k st (nI o) x (st.2 10 (12 * o + j)) (st.2 9 (12 * o + j)) (nI (12 * o + c)) (nI (12 * o + (j + 1))) := by
            simp only [f_Mo_storeOn_b19, q, lj, q3, m1, m2, nI_1, Nat.add_assoc, pb_s, ↓reduceIte, pi_0, pi_1, px_l, px_r, pi_q, pi_r, pu_b0, pu_b1, if_true, if_false]
          have s2 : f_Md_placeOf_b8 (k + 1) sm (nI o) x (-1) (nI (12 * o + j)) = f_Md_placeOf_b8 k sm (nI o) x (nI (12 * o + j)) (nI (12 * o + (j + 1))) := by
            simp only [f_Md_placeOf_b8, l, h2, pu_slot', nI_add, q, lj, q4, m1, nI_1, Nat.add_assoc, pb_s, ↓reduceIte, pi_0, pi_1, px_l, px_r, pi_q, pi_r, pu_b0, pu_b1, if_true, if_false]
          rw [s1, s2]; exact take
        · obtain ⟨d', s', p1, p2, p3, p4, p5, p6⟩ := h3 i hi
          have li : ∀ f : Nat → Int32, pu_ld f 360 (nI (12 * o + i)) = some (f (12 * o + i)) := fun f => pu_ld_nI (show 12 * o + i < 360 by omega) (by decide)
          have nm := pn_m1 (show 12 * o + i < 2 ^ 31 by omega)
          by_cases m2 : nI d ≤ nI d'
          · have s1 : f_Mo_storeOn_b19 (k + 1) st (nI o) x (st.2 10 (12 * o + i)) (st.2 9 (12 * o + i)) (nI (12 * o + c)) (nI (12 * o + j)) = f_Mo_storeOn_b19 k st (nI o) x (st.2 10 (12 * o + i)) (st.2 9 (12 * o + i)) (nI (12 * o + c)) (nI (12 * o + (j + 1))) := by
              simp only [f_Mo_storeOn_b19, q, lj, q3, p3, m1, m2, nI_1, Nat.add_assoc, pb_s, ↓reduceIte, pi_0, pi_1, px_l, px_r, pi_q, pi_r, pu_b0, pu_b1, if_true, if_false]
            have s2 : f_Md_placeOf_b8 (k + 1) sm (nI o) x (nI (12 * o + i)) (nI (12 * o + j)) = f_Md_placeOf_b8 k sm (nI o) x (nI (12 * o + i)) (nI (12 * o + (j + 1))) := by
              simp only [f_Md_placeOf_b8, l, h2, pu_slot', nI_add, q, lj, li, q4, p4, nm, m1, m2, nI_1, Nat.add_assoc, pb_s, ↓reduceIte, pi_0, pi_1, px_l, px_r, pi_q, pi_r, pu_b0, pu_b1, if_true, if_false]
            rw [s1, s2]; exact keep
          · have s1 : f_Mo_storeOn_b19 (k + 1) st (nI o) x (st.2 10 (12 * o + i)) (st.2 9 (12 * o + i)) (nI (12 * o + c)) (nI (12 * o + j)) = f_Mo_storeOn_b19 k st (nI o) x (st.2 10 (12 * o + j)) (st.2 9 (12 * o + j)) (nI (12 * o + c)) (nI (12 * o + (j + 1))) := by
              simp only [f_Mo_storeOn_b19, q, lj, q3, p3, m1, m2, nI_1, Nat.add_assoc, pb_s, ↓reduceIte, pi_0, pi_1, px_l, px_r, pi_q, pi_r, pu_b0, pu_b1, if_true, if_false]
            have s2 : f_Md_placeOf_b8 (k + 1) sm (nI o) x (nI (12 * o + i)) (nI (12 * o + j)) = f_Md_placeOf_b8 k sm (nI o) x (nI (12 * o + j)) (nI (12 * o + (j + 1))) := by
              simp only [f_Md_placeOf_b8, l, h2, pu_slot', nI_add, q, lj, li, q4, p4, nm, m1, m2, nI_1, Nat.add_assoc, pb_s, ↓reduceIte, pi_0, pi_1, px_l, px_r, pi_q, pi_r, pu_b0, pu_b1, if_true, if_false]
            rw [s1, s2]; exact take
  exact go c 0 pu_fu (-1) (-1) (-1) (by omega) (pu_big (by omega)) (Or.inl ⟨rfl, rfl, rfl⟩)

/-! PURE: years: the greatest first below, the least last above -/
def pUp (x s : Nat) (G : Nat → Prop) (F : Nat → Nat) (n : Nat) : Prop := ∀ b, x ≤ b ↔ s ≤ b ∧ ∀ j, j < n → G j → F j ≤ b
def pDn (x s : Nat) (G : Nat → Prop) (L : Nat → Nat) (n : Nat) : Prop := ∀ b, b ≤ x ↔ b ≤ s ∧ ∀ j, j < n → G j → b ≤ L j
theorem pUp.z {s : Nat} {G : Nat → Prop} {F : Nat → Nat} : pUp s s G F 0 := fun b => ⟨fun h => ⟨h, fun j hj => absurd hj (Nat.not_lt_zero _)⟩, fun h => h.1⟩
theorem pDn.z {s : Nat} {G : Nat → Prop} {F : Nat → Nat} : pDn s s G F 0 := fun b => ⟨fun h => ⟨h, fun j hj => absurd hj (Nat.not_lt_zero _)⟩, fun h => h.1⟩
theorem pUp.n {x s n : Nat} {G : Nat → Prop} {F : Nat → Nat} (h : pUp x s G F n) (g : ¬ G n) : pUp x s G F (n + 1) := by
  intro b
  rw [h b]
  refine ⟨fun q => ⟨q.1, fun j hj gj => ?_⟩, fun q => ⟨q.1, fun j hj gj => q.2 j (by omega) gj⟩⟩
  rcases pu_lt1 hj with r | rfl
  · exact q.2 j r gj
  · exact absurd gj g
theorem pDn.n {x s n : Nat} {G : Nat → Prop} {F : Nat → Nat} (h : pDn x s G F n) (g : ¬ G n) : pDn x s G F (n + 1) := by
  intro b
  rw [h b]
  refine ⟨fun q => ⟨q.1, fun j hj gj => ?_⟩, fun q => ⟨q.1, fun j hj gj => q.2 j (by omega) gj⟩⟩
  rcases pu_lt1 hj with r | rfl
  · exact q.2 j r gj
  · exact absurd gj g
theorem pUp.hi {x s n : Nat} {G : Nat → Prop} {F : Nat → Nat} (h : pUp x s G F n) (g : G n) (l : x ≤ F n) : pUp (F n) s G F (n + 1) := by
  intro b
  refine ⟨fun q => ?_, fun q => q.2 n (Nat.lt_succ_self _) g⟩
  have w := (h b).mp (Nat.le_trans l q)
  refine ⟨w.1, fun j hj gj => ?_⟩
  rcases pu_lt1 hj with r | rfl
  · exact w.2 j r gj
  · exact q
theorem pUp.lo {x s n : Nat} {G : Nat → Prop} {F : Nat → Nat} (h : pUp x s G F n) (l : F n ≤ x) : pUp x s G F (n + 1) := by
  intro b
  refine ⟨fun q => ?_, fun q => (h b).mpr ⟨q.1, fun j hj gj => q.2 j (by omega) gj⟩⟩
  have w := (h b).mp q
  refine ⟨w.1, fun j hj gj => ?_⟩
  rcases pu_lt1 hj with r | rfl
  · exact w.2 j r gj
  · exact Nat.le_trans l q
theorem pDn.lo {x s n : Nat} {G : Nat → Prop} {F : Nat → Nat} (h : pDn x s G F n) (g : G n) (l : F n ≤ x) : pDn (F n) s G F (n + 1) := by
  intro b
  refine ⟨fun q => ?_, fun q => q.2 n (Nat.lt_succ_self _) g⟩
  have w := (h b).mp (Nat.le_trans q l)
  refine ⟨w.1, fun j hj gj => ?_⟩
  rcases pu_lt1 hj with r | rfl
  · exact w.2 j r gj
  · exact q
theorem pDn.hi {x s n : Nat} {G : Nat → Prop} {F : Nat → Nat} (h : pDn x s G F n) (l : x ≤ F n) : pDn x s G F (n + 1) := by
  intro b
  refine ⟨fun q => ?_, fun q => (h b).mpr ⟨q.1, fun j hj gj => q.2 j (by omega) gj⟩⟩
  have w := (h b).mp q
  refine ⟨w.1, fun j hj gj => ?_⟩
  rcases pu_lt1 hj with r | rfl
  · exact w.2 j r gj
  · exact Nat.le_trans q l
theorem pUp.eq {x y s n : Nat} {G : Nat → Prop} {F : Nat → Nat} (h : pUp x s G F n) (h' : pUp y s G F n) : x = y :=
  Nat.le_antisymm ((h y).mpr ((h' y).mp (Nat.le_refl _))) ((h' x).mpr ((h x).mp (Nat.le_refl _)))
theorem pDn.eq {x y s n : Nat} {G : Nat → Prop} {F : Nat → Nat} (h : pDn x s G F n) (h' : pDn y s G F n) : x = y :=
  Nat.le_antisymm ((h' x).mpr ((h x).mp (Nat.le_refl _))) ((h y).mpr ((h' y).mp (Nat.le_refl _)))
theorem pUp_le {x y s t n : Nat} {G H : Nat → Prop} {F L : Nat → Nat} (h : pUp x s G F n) (h' : pDn y t H L n) : x ≤ y ↔ (s ≤ t ∧ ∀ a, a < n → H a → s ≤ L a) ∧ ∀ b, b < n → G b → F b ≤ t ∧ ∀ a, a < n → H a → F b ≤ L a := by
  rw [h y, h' s]
  constructor
  · rintro ⟨q1, q2⟩
    exact ⟨q1, fun b hb g => (h' (F b)).mp (q2 b hb g)⟩
  · rintro ⟨q1, q2⟩
    exact ⟨q1, fun b hb g => (h' (F b)).mpr (q2 b hb g)⟩
/-- the years fit -/
def pFit (F L : Nat → Nat) (W : Nat → Nat → Prop) (n : Nat) : Prop := (∀ j, j < n → F j ≤ L j) ∧ ∀ u d, W u d → F d ≤ L u
def pF1 (F L : Nat → Nat) (W : Nat → Nat → Prop) (n c : Nat) : Prop := (F c ≤ L c ∧ ∀ a, a < n → W a c → F c ≤ L a) ∧ ∀ b, b < n → W c b → F b ≤ L c ∧ ∀ a, a < n → W a c → F b ≤ L a
theorem pFit_iff {F L : Nat → Nat} {W : Nat → Nat → Prop} {n : Nat} (hW : ∀ i j, W i j → i < n ∧ j < n) (ht : ∀ i j k, W i j → W j k → W i k) : pFit F L W n ↔ ∀ c, c < n → pF1 F L W n c := by
  constructor
  · rintro ⟨h1, h2⟩ c hc
    exact ⟨⟨h1 c hc, fun a _ w => h2 a c w⟩, fun b _ w => ⟨h2 c b w, fun a _ w' => h2 a b (ht a c b w' w)⟩⟩
  · intro h
    exact ⟨fun j hj => (h j hj).1.1, fun u d w => ((h u (hW u d w).1).2 d (hW u d w).2 w).1⟩
/-- the house -/
theorem co_over {st : pu_St} {W : Nat → Nat → Prop} {n : Nat} (hn : n ≤ 20) (hW : ∀ i j, i < n → j < 20 → (pOff (st.2 4 i) j ↔ ¬ W i j)) {i j : Nat} (hi : i < n) (hj : j < 20) : (f_Co_isOver st (nI i) (nI j) = some 1 ∧ W i j) ∨ (f_Co_isOver st (nI i) (nI j) = some 0 ∧ ¬ W i j) := by
  unfold f_Co_isOver
  rw [pu_ld_nI (show i < 20 by omega) (by decide), pb_s]
  by_cases c : (st.2 4 i &&& ((1 : Int32) <<< (nI j &&& 31))) = 0
  · right
    exact ⟨if_pos c, (hW i j hi hj).mp c⟩
  · left
    exact ⟨if_neg c, Classical.not_not.mp (fun q => c ((hW i j hi hj).mpr q))⟩
theorem ph_gfb {st : pu_St} {W : Nat → Nat → Prop} {F : Nat → Nat} {n c : Nat} (hs : st.1 4 = nI n) (hn : n ≤ 20) (hW : ∀ i j, i < n → j < 20 → (pOff (st.2 4 i) j ↔ ¬ W i j)) (hF : ∀ j, j < n → F j ≤ 999 ∧ st.2 2 j = nI (F j)) (hc : c < n) : ∃ x, x ≤ 999 ∧ f_Co_greatestFirstBelow st (nI c) = some (nI x) ∧ pUp x 0 (W c) F n := by
  suffices key : ∃ a, (∃ x, x ≤ 999 ∧ a = nI x ∧ pUp x 0 (W c) F n) ∧ f_Co_greatestFirstBelow st (nI c) = some a by
    obtain ⟨a, ⟨x, q1, rfl, q2⟩, q3⟩ := key
    exact ⟨x, q1, q3, q2⟩
  refine lo_inv (n := n) (f := fun k a j => f_Co_greatestFirstBelow_b4 k st (nI c) a (nI j)) (out := fun a => some a) (fun j a => ∃ x, x ≤ 999 ∧ a = nI x ∧ pUp x 0 (W c) F j) (fun k a _ => ?_) (fun k a j hj q => ?_) (fuel := pu_fu) (a := 0) ⟨0, by omega, rfl, pUp.z⟩ (pu_big (by omega))
  · simp only [f_Co_greatestFirstBelow_b4, f_Rg_size_Co, hs, Int32.le_refl, pb_s, ↓reduceIte, pi_0, pi_1, px_l, px_r, pi_q, pi_r, pu_b0, pu_b1, if_true, if_false]
  · obtain ⟨x, x1, rfl, x2⟩ := q
    have cc : ¬ nI n ≤ nI j := nI_ge hj (by omega)
    obtain ⟨f1, f2⟩ := hF j hj
    rcases co_over hn hW hc (show j < 20 by omega) with ⟨w1, w2⟩ | ⟨w1, w2⟩
    · have l : pu_ld (st.2 2) 20 (nI j) = some (nI (F j)) := by rw [pu_ld_nI (by omega) (by decide), f2]
      by_cases m : x < F j
      · refine ⟨nI (F j), ⟨F j, f1, rfl, x2.hi w2 (by omega)⟩, ?_⟩
        simp only [f_Co_greatestFirstBelow_b4, f_Rg_size_Co, hs, cc, w1, l, nI_lt m (show F j < 2 ^ 31 by omega), nI_1, pb_s, ↓reduceIte, pi_0, pi_1, px_l, px_r, pi_q, pi_r, pu_b0, pu_b1, if_true, if_false]
      · refine ⟨nI x, ⟨x, x1, rfl, x2.lo (by omega)⟩, ?_⟩
        simp only [f_Co_greatestFirstBelow_b4, f_Rg_size_Co, hs, cc, w1, l, nI_nlt (show F j ≤ x by omega) (show x < 2 ^ 31 by omega), nI_1, pb_s, ↓reduceIte, pi_0, pi_1, px_l, px_r, pi_q, pi_r, pu_b0, pu_b1, if_true, if_false]
    · refine ⟨nI x, ⟨x, x1, rfl, x2.n w2⟩, ?_⟩
      simp only [f_Co_greatestFirstBelow_b4, f_Rg_size_Co, hs, cc, w1, nI_1, pb_s, ↓reduceIte, pi_0, pi_1, px_l, px_r, pi_q, pi_r, pu_b0, pu_b1, if_true, if_false]
theorem ph_lla {st : pu_St} {W : Nat → Nat → Prop} {L : Nat → Nat} {n c : Nat} (hs : st.1 4 = nI n) (hn : n ≤ 20) (hW : ∀ i j, i < n → j < 20 → (pOff (st.2 4 i) j ↔ ¬ W i j)) (hL : ∀ j, j < n → L j ≤ 999 ∧ st.2 3 j = nI (L j)) (hc : c < n) : ∃ x, x ≤ 999 ∧ f_Co_leastLastAbove st (nI c) = some (nI x) ∧ pDn x 999 (fun u => W u c) L n := by
  suffices key : ∃ a, (∃ x, x ≤ 999 ∧ a = nI x ∧ pDn x 999 (fun u => W u c) L n) ∧ f_Co_leastLastAbove st (nI c) = some a by
    obtain ⟨a, ⟨x, q1, rfl, q2⟩, q3⟩ := key
    exact ⟨x, q1, q3, q2⟩
  refine lo_inv (n := n) (f := fun k a j => f_Co_leastLastAbove_b6 k st (nI c) a (nI j)) (out := fun a => some a) (fun j a => ∃ x, x ≤ 999 ∧ a = nI x ∧ pDn x 999 (fun u => W u c) L j) (fun k a _ => ?_) (fun k a j hj q => ?_) (fuel := pu_fu) (a := 999) ⟨999, by omega, rfl, pDn.z⟩ (pu_big (by omega))
  · simp only [f_Co_leastLastAbove_b6, f_Rg_size_Co, hs, Int32.le_refl, pb_s, ↓reduceIte, pi_0, pi_1, px_l, px_r, pi_q, pi_r, pu_b0, pu_b1, if_true, if_false]
  · obtain ⟨x, x1, rfl, x2⟩ := q
    have cc : ¬ nI n ≤ nI j := nI_ge hj (by omega)
    obtain ⟨f1, f2⟩ := hL j hj
    rcases co_over hn hW hj (show c < 20 by omega) with ⟨w1, w2⟩ | ⟨w1, w2⟩
    · have l : pu_ld (st.2 3) 20 (nI j) = some (nI (L j)) := by rw [pu_ld_nI (by omega) (by decide), f2]
      by_cases m : L j < x
      · refine ⟨nI (L j), ⟨L j, f1, rfl, x2.lo w2 (by omega)⟩, ?_⟩
        simp only [f_Co_leastLastAbove_b6, f_Rg_size_Co, hs, cc, w1, l, nI_lt m (show x < 2 ^ 31 by omega), nI_1, pb_s, ↓reduceIte, pi_0, pi_1, px_l, px_r, pi_q, pi_r, pu_b0, pu_b1, if_true, if_false]
      · refine ⟨nI x, ⟨x, x1, rfl, x2.hi (by omega)⟩, ?_⟩
        simp only [f_Co_leastLastAbove_b6, f_Rg_size_Co, hs, cc, w1, l, nI_nlt (show x ≤ L j by omega) (show L j < 2 ^ 31 by omega), nI_1, pb_s, ↓reduceIte, pi_0, pi_1, px_l, px_r, pi_q, pi_r, pu_b0, pu_b1, if_true, if_false]
    · refine ⟨nI x, ⟨x, x1, rfl, x2.n w2⟩, ?_⟩
      simp only [f_Co_leastLastAbove_b6, f_Rg_size_Co, hs, cc, w1, nI_1, pb_s, ↓reduceIte, pi_0, pi_1, px_l, px_r, pi_q, pi_r, pu_b0, pu_b1, if_true, if_false]
theorem ph_ear {st : pu_St} {W : Nat → Nat → Prop} {F : Nat → Nat} {n c : Nat} (hs : st.1 4 = nI n) (hn : n ≤ 20) (hW : ∀ i j, i < n → j < 20 → (pOff (st.2 4 i) j ↔ ¬ W i j)) (hF : ∀ j, j < n → F j ≤ 999 ∧ st.2 2 j = nI (F j)) (hc : c < n) : ∃ x, x ≤ 999 ∧ f_Co_earliest st (nI c) = some (nI x) ∧ pUp x (F c) (W c) F n := by
  obtain ⟨x, x1, x2, x3⟩ := ph_gfb hs hn hW hF hc
  obtain ⟨f1, f2⟩ := hF c hc
  have l : pu_ld (st.2 2) 20 (nI c) = some (nI (F c)) := by rw [pu_ld_nI (by omega) (by decide), f2]
  by_cases m : F c < x
  · refine ⟨x, x1, ?_, fun b => ?_⟩
    · simp only [f_Co_earliest, l, x2, nI_lt m (show x < 2 ^ 31 by omega), pb_s, ↓reduceIte, pi_0, pi_1, px_l, px_r, pi_q, pi_r, pu_b0, pu_b1, if_true, if_false]
    · have := x3 b
      refine ⟨fun h => ⟨by omega, (this.mp h).2⟩, fun h => this.mpr ⟨by omega, h.2⟩⟩
  · refine ⟨F c, f1, ?_, fun b => ?_⟩
    · simp only [f_Co_earliest, l, x2, nI_nlt (show x ≤ F c by omega) (show F c < 2 ^ 31 by omega), pb_s, ↓reduceIte, pi_0, pi_1, px_l, px_r, pi_q, pi_r, pu_b0, pu_b1, if_true, if_false]
    · have := x3 b
      refine ⟨fun h => ⟨h, (this.mp (by omega)).2⟩, fun h => h.1⟩
theorem ph_lat {st : pu_St} {W : Nat → Nat → Prop} {L : Nat → Nat} {n c : Nat} (hs : st.1 4 = nI n) (hn : n ≤ 20) (hW : ∀ i j, i < n → j < 20 → (pOff (st.2 4 i) j ↔ ¬ W i j)) (hL : ∀ j, j < n → L j ≤ 999 ∧ st.2 3 j = nI (L j)) (hc : c < n) : ∃ x, x ≤ 999 ∧ f_Co_latest st (nI c) = some (nI x) ∧ pDn x (L c) (fun u => W u c) L n := by
  obtain ⟨x, x1, x2, x3⟩ := ph_lla hs hn hW hL hc
  obtain ⟨f1, f2⟩ := hL c hc
  have l : pu_ld (st.2 3) 20 (nI c) = some (nI (L c)) := by rw [pu_ld_nI (by omega) (by decide), f2]
  by_cases m : x < L c
  · refine ⟨x, x1, ?_, fun b => ?_⟩
    · simp only [f_Co_latest, l, x2, nI_lt m (show L c < 2 ^ 31 by omega), pb_s, ↓reduceIte, pi_0, pi_1, px_l, px_r, pi_q, pi_r, pu_b0, pu_b1, if_true, if_false]
    · have := x3 b
      refine ⟨fun h => ⟨by omega, (this.mp h).2⟩, fun h => this.mpr ⟨by omega, h.2⟩⟩
  · refine ⟨L c, f1, ?_, fun b => ?_⟩
    · simp only [f_Co_latest, l, x2, nI_nlt (show L c ≤ x by omega) (show x < 2 ^ 31 by omega), pb_s, ↓reduceIte, pi_0, pi_1, px_l, px_r, pi_q, pi_r, pu_b0, pu_b1, if_true, if_false]
    · have := x3 b
      refine ⟨fun h => ⟨h, (this.mp (by omega)).2⟩, fun h => h.1⟩
/-- the reference -/
theorem pm_ear {sm : pu_St} {W : Nat → Nat → Prop} {F : Nat → Nat} {n c : Nat} (h3 : pu_ld (sm.2 0) 10 3 = some (nI n)) (hn : n ≤ 20) (hW : ∀ i j, i < 20 → j < 20 → (sm.2 6 (20 * i + j) = 1 ∧ W i j) ∨ (sm.2 6 (20 * i + j) = 0 ∧ ¬ W i j)) (hF : ∀ j, j < n → F j ≤ 999 ∧ sm.2 3 j = nI (F j)) (hc : c < n) : ∃ x, x ≤ 999 ∧ f_Md_earliest sm (nI c) = some (nI x) ∧ pUp x (F c) (W c) F n := by
  have ld : ∀ j, j < n → pu_ld (sm.2 3) 20 (nI j) = some (nI (F j)) := fun j hj => by rw [pu_ld_nI (by omega) (by decide), (hF j hj).2]
  suffices key : ∃ a, (∃ x, x ≤ 999 ∧ a = nI x ∧ pUp x (F c) (W c) F n) ∧ f_Md_earliest_b9 pu_fu sm (nI c) (nI (F c)) 0 = some a by
    obtain ⟨a, ⟨x, q1, rfl, q2⟩, q3⟩ := key
    refine ⟨x, q1, ?_, q2⟩
    unfold f_Md_earliest
    rw [ld c hc, pb_s, q3]
  refine lo_inv (n := n) (f := fun k a j => f_Md_earliest_b9 k sm (nI c) a (nI j)) (out := fun a => some a) (fun j a => ∃ x, x ≤ 999 ∧ a = nI x ∧ pUp x (F c) (W c) F j) (fun k a _ => ?_) (fun k a j hj q => ?_) (fuel := pu_fu) (a := nI (F c)) ⟨F c, (hF c hc).1, rfl, pUp.z⟩ (pu_big (by omega))
  · simp only [f_Md_earliest_b9, h3, Int32.le_refl, pb_s, ↓reduceIte, pi_0, pi_1, px_l, px_r, pi_q, pi_r, pu_b0, pu_b1, if_true, if_false]
  · obtain ⟨x, x1, rfl, x2⟩ := q
    have cc : ¬ nI n ≤ nI j := nI_ge hj (by omega)
    have f1 := (hF j hj).1
    have l6 : pu_ld (sm.2 6) 400 (nI (20 * c + j)) = some (sm.2 6 (20 * c + j)) := pu_ld_nI (by omega) (by decide)
    rcases hW c j (by omega) (by omega) with ⟨w1, w2⟩ | ⟨w1, w2⟩
    · by_cases m : x < F j
      · refine ⟨nI (F j), ⟨F j, f1, rfl, x2.hi w2 (by omega)⟩, ?_⟩
        simp only [f_Md_earliest_b9, h3, cc, pu_c20, l6, w1, ld j hj, nI_ge m (show F j < 2 ^ 31 by omega), nI_1, pb_s, ↓reduceIte, pi_0, pi_1, px_l, px_r, pi_q, pi_r, pu_b0, pu_b1, if_true, if_false]
      · refine ⟨nI x, ⟨x, x1, rfl, x2.lo (by omega)⟩, ?_⟩
        simp only [f_Md_earliest_b9, h3, cc, pu_c20, l6, w1, ld j hj, nI_le (show F j ≤ x by omega) (show x < 2 ^ 31 by omega), nI_1, pb_s, ↓reduceIte, pi_0, pi_1, px_l, px_r, pi_q, pi_r, pu_b0, pu_b1, if_true, if_false]
    · refine ⟨nI x, ⟨x, x1, rfl, x2.n w2⟩, ?_⟩
      simp only [f_Md_earliest_b9, h3, cc, pu_c20, l6, w1, nI_1, pb_s, ↓reduceIte, pi_0, pi_1, px_l, px_r, pi_q, pi_r, pu_b0, pu_b1, if_true, if_false]
theorem pm_lat {sm : pu_St} {W : Nat → Nat → Prop} {L : Nat → Nat} {n c : Nat} (h3 : pu_ld (sm.2 0) 10 3 = some (nI n)) (hn : n ≤ 20) (hW : ∀ i j, i < 20 → j < 20 → (sm.2 6 (20 * i + j) = 1 ∧ W i j) ∨ (sm.2 6 (20 * i + j) = 0 ∧ ¬ W i j)) (hL : ∀ j, j < n → L j ≤ 999 ∧ sm.2 4 j = nI (L j)) (hc : c < n) : ∃ x, x ≤ 999 ∧ f_Md_latest sm (nI c) = some (nI x) ∧ pDn x (L c) (fun u => W u c) L n := by
  have ld : ∀ j, j < n → pu_ld (sm.2 4) 20 (nI j) = some (nI (L j)) := fun j hj => by rw [pu_ld_nI (by omega) (by decide), (hL j hj).2]
  suffices key : ∃ a, (∃ x, x ≤ 999 ∧ a = nI x ∧ pDn x (L c) (fun u => W u c) L n) ∧ f_Md_latest_b9 pu_fu sm (nI c) (nI (L c)) 0 = some a by
    obtain ⟨a, ⟨x, q1, rfl, q2⟩, q3⟩ := key
    refine ⟨x, q1, ?_, q2⟩
    unfold f_Md_latest
    rw [ld c hc, pb_s, q3]
  refine lo_inv (n := n) (f := fun k a j => f_Md_latest_b9 k sm (nI c) a (nI j)) (out := fun a => some a) (fun j a => ∃ x, x ≤ 999 ∧ a = nI x ∧ pDn x (L c) (fun u => W u c) L j) (fun k a _ => ?_) (fun k a j hj q => ?_) (fuel := pu_fu) (a := nI (L c)) ⟨L c, (hL c hc).1, rfl, pDn.z⟩ (pu_big (by omega))
  · simp only [f_Md_latest_b9, h3, Int32.le_refl, pb_s, ↓reduceIte, pi_0, pi_1, px_l, px_r, pi_q, pi_r, pu_b0, pu_b1, if_true, if_false]
  · obtain ⟨x, x1, rfl, x2⟩ := q
    have cc : ¬ nI n ≤ nI j := nI_ge hj (by omega)
    have f1 := (hL j hj).1
    have l6 : pu_ld (sm.2 6) 400 (nI (20 * j + c)) = some (sm.2 6 (20 * j + c)) := pu_ld_nI (by omega) (by decide)
    rcases hW j c (by omega) (by omega) with ⟨w1, w2⟩ | ⟨w1, w2⟩
    · by_cases m : L j < x
      · refine ⟨nI (L j), ⟨L j, f1, rfl, x2.lo w2 (by omega)⟩, ?_⟩
        simp only [f_Md_latest_b9, h3, cc, pu_c20, l6, w1, ld j hj, nI_ge m (show x < 2 ^ 31 by omega), nI_1, pb_s, ↓reduceIte, pi_0, pi_1, px_l, px_r, pi_q, pi_r, pu_b0, pu_b1, if_true, if_false]
      · refine ⟨nI x, ⟨x, x1, rfl, x2.hi (by omega)⟩, ?_⟩
        simp only [f_Md_latest_b9, h3, cc, pu_c20, l6, w1, ld j hj, nI_le (show x ≤ L j by omega) (show L j < 2 ^ 31 by omega), nI_1, pb_s, ↓reduceIte, pi_0, pi_1, px_l, px_r, pi_q, pi_r, pu_b0, pu_b1, if_true, if_false]
    · refine ⟨nI x, ⟨x, x1, rfl, x2.n w2⟩, ?_⟩
      simp only [f_Md_latest_b9, h3, cc, pu_c20, l6, w1, nI_1, pb_s, ↓reduceIte, pi_0, pi_1, px_l, px_r, pi_q, pi_r, pu_b0, pu_b1, if_true, if_false]
theorem pm_fit8 {sm : pu_St} {W : Nat → Nat → Prop} {F L : Nat → Nat} {n : Nat} (h3 : pu_ld (sm.2 0) 10 3 = some (nI n)) (hn : n ≤ 20) (hW : ∀ i j, i < 20 → j < 20 → (sm.2 6 (20 * i + j) = 1 ∧ W i j) ∨ (sm.2 6 (20 * i + j) = 0 ∧ ¬ W i j)) (hF : ∀ j, j < n → F j ≤ 999 ∧ sm.2 3 j = nI (F j)) (hL : ∀ j, j < n → L j ≤ 999 ∧ sm.2 4 j = nI (L j)) :
    (f_Md_fits_b8 pu_fu sm 1 0 = some (1, sm) ∧ ∀ c, c < n → pF1 F L W n c) ∨ (f_Md_fits_b8 pu_fu sm 1 0 = some (0, sm) ∧ ¬ ∀ c, c < n → pF1 F L W n c) := by
  suffices key : ∃ a, ((a = 1 ∧ ∀ c, c < n → pF1 F L W n c) ∨ (a = 0 ∧ ∃ c, c < n ∧ ¬ pF1 F L W n c)) ∧ f_Md_fits_b8 pu_fu sm 1 0 = (pu_bo a).bind fun b4 => some (b4, sm) by
    obtain ⟨a, ⟨rfl, q⟩ | ⟨rfl, c, q1, q2⟩, q3⟩ := key
    · exact Or.inl ⟨q3, q⟩
    · exact Or.inr ⟨q3, fun q => q2 (q c q1)⟩
  refine lo_inv (n := n) (f := fun k a j => f_Md_fits_b8 k sm a (nI j)) (out := fun a => (pu_bo a).bind fun b4 => some (b4, sm)) (fun j a => (a = 1 ∧ ∀ c, c < j → pF1 F L W n c) ∨ (a = 0 ∧ ∃ c, c < n ∧ ¬ pF1 F L W n c)) (fun k a _ => ?_) (fun k a j hj q => ?_) (fuel := pu_fu) (a := 1) (Or.inl ⟨rfl, fun c hc => absurd hc (Nat.not_lt_zero _)⟩) (pu_big (by omega))
  · simp only [f_Md_fits_b8, h3, Int32.le_refl, pb_s, if_true]
  · have cc : ¬ nI n ≤ nI j := nI_ge hj (by omega)
    rcases q with ⟨rfl, q⟩ | ⟨rfl, q⟩
    · obtain ⟨x, x1, x2, x3⟩ := pm_ear h3 hn hW hF hj
      obtain ⟨y, y1, y2, y3⟩ := pm_lat h3 hn hW hL hj
      have w := pUp_le x3 y3
      by_cases m : y < x
      · refine ⟨0, Or.inr ⟨rfl, j, hj, fun z => ?_⟩, ?_⟩
        · have := w.mpr z
          omega
        · simp only [f_Md_fits_b8, h3, cc, x2, y2, nI_lt m (show x < 2 ^ 31 by omega), nI_1, pb_s, ↓reduceIte, pi_0, pi_1, px_l, px_r, pi_q, pi_r, pu_b0, pu_b1, if_true, if_false]
      · refine ⟨1, Or.inl ⟨rfl, fun c hc => ?_⟩, ?_⟩
        · rcases pu_lt1 hc with r | rfl
          · exact q c r
          · exact w.mp (by omega)
        · simp only [f_Md_fits_b8, h3, cc, x2, y2, nI_nlt (show x ≤ y by omega) (show y < 2 ^ 31 by omega), nI_1, pb_s, ↓reduceIte, pi_0, pi_1, px_l, px_r, pi_q, pi_r, pu_b0, pu_b1, if_true, if_false]
    · refine ⟨0, Or.inr ⟨rfl, q⟩, ?_⟩
      simp only [f_Md_fits_b8, h3, cc, nI_1, pb_s, ↓reduceIte, pi_0, pi_1, px_l, px_r, pi_q, pi_r, pu_b0, pu_b1, if_true, if_false]
/-- the reference's whole test -/
theorem pm_fits {A : Nat → Int32} {B : Nat → Nat → Int32} {T : Nat → Nat → Prop} {F L : Nat → Nat} {n : Nat} (h3 : pu_ld (B 0) 10 3 = some (nI n)) (hn : n ≤ 20) (h1 : ∀ i j, T i j → i < n ∧ j < n) (h2 : ∀ i j, i < 20 → j < 20 → (B 5 (20 * i + j) = 1 ∧ T i j) ∨ (B 5 (20 * i + j) = 0 ∧ ¬ T i j)) (hF : ∀ j, j < n → F j ≤ 999 ∧ B 3 j = nI (F j)) (hL : ∀ j, j < n → L j ≤ 999 ∧ B 4 j = nI (L j)) :
    ∃ g v, f_Md_fits (A, B) = some (v, (A, va_up B 6 g)) ∧ (∀ i j, i < 20 → j < 20 → (g (20 * i + j) = 1 ∧ Relation.TransGen T i j) ∨ (g (20 * i + j) = 0 ∧ ¬ Relation.TransGen T i j)) ∧ ((v = 1 ∧ pFit F L (Relation.TransGen T) n) ∨ (v = 0 ∧ ¬ pFit F L (Relation.TransGen T) n)) := by
  obtain ⟨g, g1, g2⟩ := pfo_follow (A := A) (B := B) (T := T) (fun i j t => by have := h1 i j t; omega) h2
  have e : f_Md_fits (A, B) = f_Md_fits_b8 pu_fu (A, va_up B 6 g) 1 0 := by
    unfold f_Md_fits
    rw [g1, pb_s]
  have iff := pFit_iff (F := F) (L := L) (W := Relation.TransGen T) (n := n) (fun i j t => pT_in h1 t) (fun i j k a b => a.trans b)
  rcases pm_fit8 (sm := (A, va_up B 6 g)) (W := Relation.TransGen T) (F := F) (L := L) h3 hn g2 hF hL with ⟨q1, q2⟩ | ⟨q1, q2⟩
  · exact ⟨g, 1, e.trans q1, g2, Or.inl ⟨rfl, iff.mpr q2⟩⟩
  · exact ⟨g, 0, e.trans q1, g2, Or.inr ⟨rfl, fun z => q2 (iff.mp z)⟩⟩

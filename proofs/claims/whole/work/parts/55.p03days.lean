/-! PURE: days, on both sides -/
theorem pu_nat {a : Int32} (c : ¬ a < 0) {N : Nat} {x : Int32} (hx : x = nI N) (h : ¬ x < a) (hN : N < 2 ^ 31) : ∃ d, d ≤ N ∧ a = nI d := by
  obtain ⟨d, hd, rfl⟩ := nI_of c
  refine ⟨d, ?_, rfl⟩
  rcases Nat.lt_or_ge N d with q | q
  · exact absurd (by rw [hx]; exact nI_lt q hd) h
  · exact q
theorem pD_day (st sm : pu_St) (a : Int32) : (∃ d, d ≤ 9999 ∧ a = nI d ∧ f_H_isDay st a = some 1 ∧ f_Md_isDay sm a = some 1) ∨ (f_H_isDay st a = some 0 ∧ f_Md_isDay sm a = some 0) := by
  by_cases c1 : a < 0
  · exact Or.inr ⟨by simp only [f_H_isDay, c1, pb_s, ↓reduceIte, pi_0, pi_1, px_l, px_r, pi_q, pi_r, pu_b0, pu_b1, if_true, if_false], by simp only [f_Md_isDay, pL_0 (Or.inl c1), pb_s, ↓reduceIte, pi_0, pi_1, px_l, px_r, pi_q, pi_r, pu_b0, pu_b1, if_true, if_false]⟩
  by_cases c2 : 9999 < a
  · exact Or.inr ⟨by simp only [f_H_isDay, c1, c2, pb_s, ↓reduceIte, pi_0, pi_1, px_l, px_r, pi_q, pi_r, pu_b0, pu_b1, if_true, if_false], by simp only [f_Md_isDay, pL_0 (Or.inr c2), pb_s, ↓reduceIte, pi_0, pi_1, px_l, px_r, pi_q, pi_r, pu_b0, pu_b1, if_true, if_false]⟩
  obtain ⟨d, h1, h2⟩ := pu_nat c1 (N := 9999) rfl c2 (by decide)
  exact Or.inl ⟨d, h1, h2, by simp only [f_H_isDay, c1, c2, pb_s, ↓reduceIte, pi_0, pi_1, px_l, px_r, pi_q, pi_r, pu_b0, pu_b1, if_true, if_false], by simp only [f_Md_isDay, pL_1 c1 c2, pb_s, ↓reduceIte, pi_0, pi_1, px_l, px_r, pi_q, pi_r, pu_b0, pu_b1, if_true, if_false]⟩
theorem pD_til {st sm : pu_St} {n : Nat → Nat} (hN : qN n st.1 sm.1 (sm.2 0)) (a : Int32) : (∃ d, d ≤ 9999 ∧ a = nI d ∧ f_H_isDay st a = some 1 ∧ ¬ st.1 0 < a ∧ f_Md_lies sm a 0 (sm.1 2) = some 1) ∨ (f_Md_lies sm a 0 (sm.1 2) = some 0 ∧ (f_H_isDay st a = some 0 ∨ (f_H_isDay st a = some 1 ∧ st.1 0 < a))) := by
  obtain ⟨⟨t, t1, t2, t3⟩, -⟩ := hN
  rw [t2, t3]
  by_cases c1 : a < 0
  · exact Or.inr ⟨pL_0 (Or.inl c1), Or.inl (by simp only [f_H_isDay, c1, pb_s, ↓reduceIte, pi_0, pi_1, px_l, px_r, pi_q, pi_r, pu_b0, pu_b1, if_true, if_false])⟩
  by_cases c2 : 9999 < a
  · have c3 : nI t < a := Int32.lt_of_le_of_lt (nI_le (b := 9999) t1 (by decide)) c2
    exact Or.inr ⟨pL_0 (Or.inr c3), Or.inl (by simp only [f_H_isDay, c1, c2, pb_s, ↓reduceIte, pi_0, pi_1, px_l, px_r, pi_q, pi_r, pu_b0, pu_b1, if_true, if_false])⟩
  have k : f_H_isDay st a = some 1 := by simp only [f_H_isDay, c1, c2, pb_s, ↓reduceIte, pi_0, pi_1, px_l, px_r, pi_q, pi_r, pu_b0, pu_b1, if_true, if_false]
  by_cases c3 : nI t < a
  · exact Or.inr ⟨pL_0 (Or.inr c3), Or.inr ⟨k, c3⟩⟩
  obtain ⟨d, h1, h2⟩ := pu_nat c1 (N := 9999) rfl c2 (by decide)
  exact Or.inl ⟨d, h1, h2, k, c3, pL_1 c1 c3⟩
theorem pD_span (st sm : pu_St) (a b : Int32) : (∃ f t, f ≤ t ∧ t ≤ 9999 ∧ a = nI f ∧ b = nI t ∧ f_Md_isSpan sm a b = some 1 ∧ f_H_isDay st a = some 1 ∧ f_H_isDay st b = some 1 ∧ ¬ b < a) ∨ (f_Md_isSpan sm a b = some 0 ∧ (f_H_isDay st a = some 0 ∨ (f_H_isDay st a = some 1 ∧ (f_H_isDay st b = some 0 ∨ (f_H_isDay st b = some 1 ∧ b < a))))) := by
  by_cases c1 : a < 0
  · exact Or.inr ⟨by simp only [f_Md_isSpan, c1, pb_s, ↓reduceIte, pi_0, pi_1, px_l, px_r, pi_q, pi_r, pu_b0, pu_b1, if_true, if_false], Or.inl (by simp only [f_H_isDay, c1, pb_s, ↓reduceIte, pi_0, pi_1, px_l, px_r, pi_q, pi_r, pu_b0, pu_b1, if_true, if_false])⟩
  by_cases c3 : b < a
  · refine Or.inr ⟨by simp only [f_Md_isSpan, c1, c3, pb_s, ↓reduceIte, pi_0, pi_1, px_l, px_r, pi_q, pi_r, pu_b0, pu_b1, if_true, if_false], ?_⟩
    rcases pD_day st sm a with ⟨_, _, _, k, _⟩ | ⟨k, _⟩
    · refine Or.inr ⟨k, ?_⟩
      rcases pD_day st sm b with ⟨_, _, _, k, _⟩ | ⟨k, _⟩
      · exact Or.inr ⟨k, c3⟩
      · exact Or.inl k
    · exact Or.inl k
  by_cases c2 : 9999 < b
  · refine Or.inr ⟨by simp only [f_Md_isSpan, c1, c2, c3, pb_s, ↓reduceIte, pi_0, pi_1, px_l, px_r, pi_q, pi_r, pu_b0, pu_b1, if_true, if_false], ?_⟩
    rcases pD_day st sm a with ⟨_, _, _, k, _⟩ | ⟨k, _⟩
    · refine Or.inr ⟨k, Or.inl ?_⟩
      by_cases c4 : b < 0 <;> simp only [f_H_isDay, c4, c2, pb_s, ↓reduceIte, pi_0, pi_1, px_l, px_r, pi_q, pi_r, pu_b0, pu_b1, if_true, if_false]
    · exact Or.inl k
  have c4 : ¬ b < 0 := fun q => c3 (Int32.lt_of_lt_of_le q (Int32.not_lt.mp c1))
  have c5 : ¬ 9999 < a := fun q => c2 (Int32.lt_of_lt_of_le q (Int32.not_lt.mp c3))
  obtain ⟨f, h1, rfl⟩ := pu_nat c1 (N := 9999) rfl c5 (by decide)
  obtain ⟨t, h3, rfl⟩ := pu_nat c4 (N := 9999) rfl c2 (by decide)
  refine Or.inl ⟨f, t, ?_, h3, rfl, rfl, by simp only [f_Md_isSpan, c1, c2, c3, pb_s, ↓reduceIte, pi_0, pi_1, px_l, px_r, pi_q, pi_r, pu_b0, pu_b1, if_true, if_false], by simp only [f_H_isDay, c1, c5, pb_s, ↓reduceIte, pi_0, pi_1, px_l, px_r, pi_q, pi_r, pu_b0, pu_b1, if_true, if_false], by simp only [f_H_isDay, c4, c2, pb_s, ↓reduceIte, pi_0, pi_1, px_l, px_r, pi_q, pi_r, pu_b0, pu_b1, if_true, if_false], c3⟩
  rcases Nat.lt_or_ge t f with q | q
  · exact absurd (nI_lt q (by omega)) c3
  · exact q
theorem pD_lies (sm : pu_St) (x a b : Int32) : f_Md_lies sm x a b = some 1 ∨ f_Md_lies sm x a b = some 0 := by
  unfold f_Md_lies
  by_cases c : x < a
  · rw [if_pos c]; exact Or.inr rfl
  · rw [if_neg c]
    by_cases d : b < x
    · rw [if_pos d]; exact Or.inr rfl
    · rw [if_neg d]; exact Or.inl rfl

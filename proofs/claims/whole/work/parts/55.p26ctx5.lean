/-! PURE: span -/
theorem pS_rng (lo hi : Int32) : (∃ x y, x ≤ y ∧ y ≤ 999 ∧ lo = nI x ∧ hi = nI y ∧ ¬ lo < 0 ∧ ¬ hi < lo ∧ ¬ 999 < hi) ∨ lo < 0 ∨ (¬ lo < 0 ∧ hi < lo) ∨ (¬ lo < 0 ∧ ¬ hi < lo ∧ 999 < hi) := by
  by_cases h1 : lo < 0
  · exact Or.inr (Or.inl h1)
  by_cases h2 : hi < lo
  · exact Or.inr (Or.inr (Or.inl ⟨h1, h2⟩))
  by_cases h3 : 999 < hi
  · exact Or.inr (Or.inr (Or.inr ⟨h1, h2, h3⟩))
  left
  have h4 : ¬ hi < 0 := fun q => h2 (Int32.lt_of_lt_of_le q (Int32.not_lt.mp h1))
  obtain ⟨x, hx, rfl⟩ := nI_of h1
  obtain ⟨y, hy, rfl⟩ := nI_of h4
  have q1 : ¬ y < x := fun q => h2 ((nI_ltI hy hx).mpr q)
  have q2 : ¬ 999 < y := fun q => h3 ((nI_ltI (a := 999) (by decide) hy).mpr q)
  exact ⟨x, y, by omega, by omega, rfl, rfl, h1, h2, h3⟩
theorem pFit_span {F L : Nat → Nat} {W : Nat → Nat → Prop} {n c lo hi x y : Nat} (hl : lo ≤ hi) (h9 : hi ≤ 999) (hc : c < n) (hW : ∀ i j, W i j → i < n ∧ j < n) (ha : ¬ W c c) (h : pFit F L W n) (hx : pUp x 0 (W c) F n) (hy : pDn y 999 (fun a => W a c) L n) : (x ≤ hi ∧ lo ≤ y) ↔ pFit (va_up F c lo) (va_up L c hi) W n := by
  rw [hx hi, hy lo]
  constructor
  · rintro ⟨⟨_, q1⟩, _, q2⟩
    refine ⟨fun j hj => ?_, fun u d w => ?_⟩
    · by_cases e : j = c
      · subst e; rw [va_up_self, va_up_self]; exact hl
      · rw [va_up_ne _ _ e, va_up_ne _ _ e]; exact h.1 j hj
    · by_cases eu : u = c
      · subst eu
        have ed : d ≠ u := fun z => ha (by rw [z] at w; exact w)
        rw [va_up_ne _ _ ed, va_up_self]
        exact q1 d (hW _ _ w).2 w
      · rw [va_up_ne _ _ eu]
        by_cases ed : d = c
        · subst ed
          rw [va_up_self]
          exact q2 u (hW _ _ w).1 w
        · rw [va_up_ne _ _ ed]
          exact h.2 u d w
  · rintro ⟨_, q⟩
    refine ⟨⟨Nat.zero_le _, fun d _ w => ?_⟩, by omega, fun u _ w => ?_⟩
    · have ed : d ≠ c := fun z => ha (by rw [z] at w; exact w)
      have := q c d w
      rw [va_up_ne _ _ ed, va_up_self] at this
      exact this
    · have eu : u ≠ c := fun z => ha (by have w' : W u c := w; rw [z] at w'; exact w')
      have := q u c w
      rw [va_up_ne _ _ eu, va_up_self] at this
      exact this
theorem co_span {st : pu_St} {W : Nat → Nat → Prop} {F L : Nat → Nat} {n c lo hi : Nat} (hs : st.1 4 = nI n) (hn : n ≤ 20) (hO : ∀ i j, i < n → j < 20 → (pOff (st.2 4 i) j ↔ ¬ W i j)) (hF : ∀ j, j < n → F j ≤ 999 ∧ st.2 2 j = nI (F j)) (hL : ∀ j, j < n → L j ≤ 999 ∧ st.2 3 j = nI (L j)) (hW : ∀ i j, W i j → i < n ∧ j < n) (ha : ¬ W c c) (h : pFit F L W n) (hc : c < n) (hl : lo ≤ hi) (h9 : hi ≤ 999) :
    (f_Co_yearsLetSpan st (nI c) (nI lo) (nI hi) = some 1 ∧ pFit (va_up F c lo) (va_up L c hi) W n) ∨ (f_Co_yearsLetSpan st (nI c) (nI lo) (nI hi) = some 0 ∧ ¬ pFit (va_up F c lo) (va_up L c hi) W n) := by
  obtain ⟨x, x1, x2, x3⟩ := ph_gfb hs hn hO hF hc
  obtain ⟨y, y1, y2, y3⟩ := ph_lla hs hn hO hL hc
  have w := pFit_span hl h9 hc hW ha h x3 y3
  by_cases m : hi < x
  · right
    refine ⟨?_, fun z => by have := w.mpr z; omega⟩
    simp only [f_Co_yearsLetSpan, x2, nI_lt m (show x < 2 ^ 31 by omega), pb_s, ↓reduceIte, pi_0, pi_1, px_l, px_r, pi_q, pi_r, pu_b0, pu_b1, if_true, if_false]
  · by_cases m' : y < lo
    · right
      refine ⟨?_, fun z => by have := w.mpr z; omega⟩
      simp only [f_Co_yearsLetSpan, x2, nI_nlt (show x ≤ hi by omega) (show hi < 2 ^ 31 by omega), y2, nI_lt m' (show lo < 2 ^ 31 by omega), pb_s, ↓reduceIte, pi_0, pi_1, px_l, px_r, pi_q, pi_r, pu_b0, pu_b1, if_true, if_false]
    · left
      refine ⟨?_, w.mp ⟨by omega, by omega⟩⟩
      simp only [f_Co_yearsLetSpan, x2, nI_nlt (show x ≤ hi by omega) (show hi < 2 ^ 31 by omega), y2, nI_nlt (show lo ≤ y by omega) (show y < 2 ^ 31 by omega), pb_s, ↓reduceIte, pi_0, pi_1, px_l, px_r, pi_q, pi_r, pu_b0, pu_b1, if_true, if_false]
theorem pu_upv {hf : Nat → Int32} {F : Nat → Nat} {n c x : Nat} (hx : x ≤ 999) (h : ∀ j, j < n → F j ≤ 999 ∧ hf j = nI (F j)) : ∀ j, j < n → va_up F c x j ≤ 999 ∧ upd hf c (nI x) j = nI (va_up F c x j) := by
  intro j hj
  by_cases e : j = c
  · subst e; rw [va_up_self, pk_us]; exact ⟨hx, rfl⟩
  · rw [va_up_ne _ _ e, pk_un e]; exact h j hj
theorem pu_back {f : Nat → Int32} {i : Nat} {x : Int32} (h : x = f i) : upd f i x = f := by
  subst h
  funext j
  by_cases e : j = i
  · subst e; rw [pk_us]
  · rw [pk_un e]
theorem p_span : ∀ st sm, pRel st sm → ∀ a1 a2 a3 a4 : Int32, pOk [1, 2, 3] pRel (f_H_span st a1 a2 a3 a4) (f_Md_span sm a1 a2 a3 a4) := by
  intro st sm R a b lo hi
  obtain ⟨n, hN, hA⟩ := id R
  have c3 : n 3 ≤ 20 := hN.c (k := 3) (by decide) (by decide)
  have n1 : ¬ (1 : Int32) ≤ 0 := by decide
  have n2 : ¬ (2 : Int32) ≤ 0 := by decide
  have n4 : ¬ (4 : Int32) ≤ 0 := by decide
  have n8 : ¬ (8 : Int32) = 0 := by decide
  have early : ∀ (y t : Int32) (r : pu_St), f_Md_is sm b 3 = some t → f_Md_first sm t a 2 1 = some y → 0 < y → ¬ y ≤ 0 → f_Md_holds sm y = some (0, r) → f_Md_span sm a b lo hi = some (0, r) := by
    intro y t r h1 h2 h3 h4 h5
    rcases pS_rng lo hi with ⟨x, y', -, -, -, -, q1, q2, q3⟩ | q1 | ⟨q1, q2⟩ | ⟨q1, q2, q3⟩
    · simp only [f_Md_span, h1, h2, q1, q2, q3, f_Md_span_b40, pt_n h3, h4, h5, pb_s, ↓reduceIte, pi_0, pi_1, px_l, px_r, pi_q, pi_r, pu_b0, pu_b1, if_true, if_false]
    · simp only [f_Md_span, h1, h2, q1, f_Md_span_b39, f_Md_span_b40, pt_n h3, h4, h5, pb_s, ↓reduceIte, pi_0, pi_1, px_l, px_r, pi_q, pi_r, pu_b0, pu_b1, if_true, if_false]
    · simp only [f_Md_span, h1, h2, q1, q2, f_Md_span_b39, f_Md_span_b40, pt_n h3, h4, h5, pb_s, ↓reduceIte, pi_0, pi_1, px_l, px_r, pi_q, pi_r, pu_b0, pu_b1, if_true, if_false]
    · simp only [f_Md_span, h1, h2, q1, q2, q3, f_Md_span_b39, f_Md_span_b40, pt_n h3, h4, h5, pb_s, ↓reduceIte, pi_0, pi_1, px_l, px_r, pi_q, pi_r, pu_b0, pu_b1, if_true, if_false]
  rcases pk_De hN a with ⟨j, hj, hjc, rfl, e1, e2⟩ | ⟨e1, e2⟩
  · rcases pk_Co hN b with ⟨c, hc, hcc, rfl, g1, g2⟩ | ⟨g1, g2⟩
    · rcases pr_both hN hA.1 hj pB2 with ⟨r1, r2⟩ | ⟨r1, r2⟩
      · have ec : nI (300 + c) - 300 = nI c := pu_sub
        rcases pS_rng lo hi with ⟨x, y, x1, x2, rfl, rfl, q1, q2, q3⟩ | out
        · obtain ⟨S, F, L, T, h1, h2, h3, h4, h5, h6, h7, h8, h9⟩ := id hA.2.1
          have hF : ∀ j, j < n 3 → F j ≤ 999 ∧ st.2 2 j = nI (F j) := fun j hj => ⟨(h2 j hj).1, (h2 j hj).2.1⟩
          have hL : ∀ j, j < n 3 → L j ≤ 999 ∧ st.2 3 j = nI (L j) := fun j hj => ⟨(h3 j hj).1, (h3 j hj).2.1⟩
          have hF' : ∀ j, j < n 3 → F j ≤ 999 ∧ sm.2 3 j = nI (F j) := fun j hj => ⟨(h2 j hj).1, (h2 j hj).2.2⟩
          have hL' : ∀ j, j < n 3 → L j ≤ 999 ∧ sm.2 4 j = nI (L j) := fun j hj => ⟨(h3 j hj).1, (h3 j hj).2.2⟩
          have kF := pu_upv (c := c) (x := x) (by omega) hF
          have kL := pu_upv (c := c) (x := y) x2 hL
          have kF' := pu_upv (c := c) (x := x) (by omega) hF'
          have kL' := pu_upv (c := c) (x := y) x2 hL'
          have fit : pFit F L (Relation.TransGen T) (n 3) := ⟨h8, h9⟩
          obtain ⟨g, v, f1, f2, f3⟩ := pm_fits (A := sm.1) (B := va_up (va_up sm.2 3 (upd (sm.2 3) c (nI x))) 4 (upd (sm.2 4) c (nI y))) (T := T) (F := va_up F c x) (L := va_up L c y) (n := n 3) (pl_Co hN) c3 h4 h5 kF' kL'
          have l3 : pu_ld (sm.2 3) 20 (nI c) = some (sm.2 3 c) := pu_ld_nI hcc (by decide)
          have l4 : pu_ld (sm.2 4) 20 (nI c) = some (sm.2 4 c) := pu_ld_nI hcc (by decide)
          have s3 : ∀ z, pu_sd (sm.2 3) 20 (nI c) z = some (upd (sm.2 3) c z) := fun z => pu_sd_nI hcc (by decide)
          have s4 : ∀ z, pu_sd (sm.2 4) 20 (nI c) z = some (upd (sm.2 4) c z) := fun z => pu_sd_nI hcc (by decide)
          have s3' : ∀ z, pu_sd (upd (sm.2 3) c (nI x)) 20 (nI c) z = some (upd (sm.2 3) c z) := fun z => by rw [pu_sd_nI hcc (by decide), pu_uu]
          have s4' : ∀ z, pu_sd (upd (sm.2 4) c (nI y)) 20 (nI c) z = some (upd (sm.2 4) c z) := fun z => by rw [pu_sd_nI hcc (by decide), pu_uu]
          have m3 : va_up (va_up (va_up sm.2 3 (upd (sm.2 3) c (nI x))) 4 (upd (sm.2 4) c (nI y))) 6 g 3 = upd (sm.2 3) c (nI x) := rfl
          have m4 : ∀ z, va_up (va_up (va_up (va_up sm.2 3 (upd (sm.2 3) c (nI x))) 4 (upd (sm.2 4) c (nI y))) 6 g) 3 z 4 = upd (sm.2 4) c (nI y) := fun z => rfl
          have m4' : va_up sm.2 3 (upd (sm.2 3) c (nI x)) 4 = sm.2 4 := rfl
          have t2 : ∀ z, pu_sd (st.2 2) 20 (nI c) z = some (upd (st.2 2) c z) := fun z => pu_sd_nI hcc (by decide)
          have t3 : ∀ z, pu_sd (st.2 3) 20 (nI c) z = some (upd (st.2 3) c z) := fun z => pu_sd_nI hcc (by decide)
          have m3h : va_up st.2 2 (upd (st.2 2) c (nI x)) 3 = st.2 3 := rfl
          rcases co_span (st := st) (W := Relation.TransGen T) (F := F) (L := L) (ps_Co hN) c3 h6 hF hL (fun i j t => pT_in h4 t) (h7 c) fit hc x1 x2 with ⟨y1, y2⟩ | ⟨y1, y2⟩
          · have v1 : v = 1 := by
              rcases f3 with ⟨z, _⟩ | ⟨_, z⟩
              · exact z
              · exact absurd y2 z
            subst v1
            obtain ⟨w, w1, w2, w3⟩ := ph_ear (st := (st.1, va_up (va_up st.2 2 (upd (st.2 2) c (nI x))) 3 (upd (st.2 3) c (nI y)))) (W := Relation.TransGen T) (F := va_up F c x) (ps_Co hN) c3 h6 kF hc
            obtain ⟨w', w1', w2', w3'⟩ := pm_ear (sm := (va_up (va_up sm.1 1 (sm.1 1)) 0 0, va_up (va_up (va_up (va_up (va_up sm.2 3 (upd (sm.2 3) c (nI x))) 4 (upd (sm.2 4) c (nI y))) 6 g) 3 (upd (sm.2 3) c (nI x))) 4 (upd (sm.2 4) c (nI y)))) (W := Relation.TransGen T) (F := va_up F c x) (pl_Co hN) c3 f2 kF' hc
            have ww : w = w' := w3.eq w3'
            subst ww
            refine pOk.ret (st' := (st.1, va_up (va_up st.2 2 (upd (st.2 2) c (nI x))) 3 (upd (st.2 3) c (nI y)))) (sm' := (va_up (va_up sm.1 1 (sm.1 1)) 0 0, va_up (va_up (va_up (va_up (va_up sm.2 3 (upd (sm.2 3) c (nI x))) 4 (upd (sm.2 4) c (nI y))) 6 g) 3 (upd (sm.2 3) c (nI x))) 4 (upd (sm.2 4) c (nI y)))) (x := nI w) ?_ ?_ ?_
            · exact ⟨n, hN.acc, hA.1, ⟨S, va_up F c x, va_up L c y, T, h1, fun j hj => ⟨(kF j hj).1, (kF j hj).2, (kF' j hj).2⟩, fun j hj => ⟨(kL j hj).1, (kL j hj).2, (kL' j hj).2⟩, h4, h5, h6, h7, y2.1, y2.2⟩, hA.2.2.1, hA.2.2.2.1, hA.2.2.2.2.1, hA.2.2.2.2.2.1, hA.2.2.2.2.2.2.1, hA.2.2.2.2.2.2.2.1, hA.2.2.2.2.2.2.2.2⟩
            · simp only [f_H_span, e1, g1, r1, q1, q2, q3, f_H_span_b54, pa_ask1, y1, f_Co_setSpan, t2, m3h, t3, w2, pb_s, ↓reduceIte, pi_0, pi_1, px_l, px_r, pi_q, pi_r, pu_b0, pu_b1, if_true, if_false]
            · simp only [f_Md_span, g2, pf_A e2 r2, q1, q2, q3, f_Md_span_b40, pt_01, ec, l3, l4, s3, m4', s4, f1, f_Md_span_b115, f_Md_span_b134, m3, s3', m4, s4', f_Md_span_b153, ph_0, w2', pb_s, ↓reduceIte, pi_0, pi_1, px_l, px_r, pi_q, pi_r, pu_b0, pu_b1, if_true, if_false]
          · have v0 : v = 0 := by
              rcases f3 with ⟨_, z⟩ | ⟨z, _⟩
              · exact absurd z y2
              · exact z
            subst v0
            have Rn : pRel st (sm.1, va_up (va_up (va_up (va_up (va_up sm.2 3 (upd (sm.2 3) c (nI x))) 4 (upd (sm.2 4) c (nI y))) 6 g) 3 (upd (sm.2 3) c (sm.2 3 c))) 4 (upd (sm.2 4) c (sm.2 4 c))) := by
              rw [pu_back (f := sm.2 3) (i := c) rfl, pu_back (f := sm.2 4) (i := c) rfl]
              exact ⟨n, hN, hA.1, hA.2.1, hA.2.2.1, hA.2.2.2.1, hA.2.2.2.2.1, hA.2.2.2.2.2.1, hA.2.2.2.2.2.2.1, hA.2.2.2.2.2.2.2.1, hA.2.2.2.2.2.2.2.2⟩
            refine pOk.thr Rn (k := 3) (ρ := 8) (κ := 3) ?_ ?_
            · simp only [f_H_span, e1, g1, r1, q1, q2, q3, f_H_span_b54, pa_ask1, y1, pa_ask0, pb_s, ↓reduceIte, pi_0, pi_1, px_l, px_r, pi_q, pi_r, pu_b0, pu_b1, if_true, if_false]
            · simp only [f_Md_span, g2, pf_A e2 r2, q1, q2, q3, f_Md_span_b40, pt_01, ec, l3, l4, s3, m4', s4, f1, f_Md_span_b115, n8, f_Md_span_b134, m3, s3', m4, s4', f_Md_span_b153, ph_8, pb_s, ↓reduceIte, pi_0, pi_1, px_l, px_r, pi_q, pi_r, pu_b0, pu_b1, if_true, if_false]
        · refine pOk.thr R (k := 3) (ρ := 4) (κ := 3) ?_ ?_
          · rcases out with q1 | ⟨q1, q2⟩ | ⟨q1, q2, q3⟩
            · simp only [f_H_span, e1, g1, r1, q1, f_H_span_b53, f_H_span_b54, pa_ask0, pb_s, ↓reduceIte, pi_0, pi_1, px_l, px_r, pi_q, pi_r, pu_b0, pu_b1, if_true, if_false]
            · simp only [f_H_span, e1, g1, r1, q1, q2, f_H_span_b53, f_H_span_b54, pa_ask0, pb_s, ↓reduceIte, pi_0, pi_1, px_l, px_r, pi_q, pi_r, pu_b0, pu_b1, if_true, if_false]
            · simp only [f_H_span, e1, g1, r1, q1, q2, q3, f_H_span_b53, f_H_span_b54, pa_ask0, pb_s, ↓reduceIte, pi_0, pi_1, px_l, px_r, pi_q, pi_r, pu_b0, pu_b1, if_true, if_false]
          · rcases out with q1 | ⟨q1, q2⟩ | ⟨q1, q2, q3⟩
            · simp only [f_Md_span, g2, pf_A e2 r2, q1, f_Md_span_b39, f_Md_span_b40, pt_00, n4, ph_4, pb_s, ↓reduceIte, pi_0, pi_1, px_l, px_r, pi_q, pi_r, pu_b0, pu_b1, if_true, if_false]
            · simp only [f_Md_span, g2, pf_A e2 r2, q1, q2, f_Md_span_b39, f_Md_span_b40, pt_00, n4, ph_4, pb_s, ↓reduceIte, pi_0, pi_1, px_l, px_r, pi_q, pi_r, pu_b0, pu_b1, if_true, if_false]
            · simp only [f_Md_span, g2, pf_A e2 r2, q1, q2, q3, f_Md_span_b39, f_Md_span_b40, pt_00, n4, ph_4, pb_s, ↓reduceIte, pi_0, pi_1, px_l, px_r, pi_q, pi_r, pu_b0, pu_b1, if_true, if_false]
      · refine pOk.thr R (k := 2) (ρ := 2) (κ := 2) ?_ ?_
        · simp only [f_H_span, e1, g1, r1, pb_s, ↓reduceIte, pi_0, pi_1, px_l, px_r, pi_q, pi_r, pu_b0, pu_b1, if_true, if_false]
        · exact early 2 1 _ g2 (pf_2 e2 r2) (by decide) n2 (ph_2 sm)
    · refine pOk.thr R (k := 1) (ρ := 1) (κ := 1) ?_ ?_
      · simp only [f_H_span, e1, g1, pb_s, ↓reduceIte, pi_0, pi_1, px_l, px_r, pi_q, pi_r, pu_b0, pu_b1, if_true, if_false]
      · exact early 1 0 _ g2 pf_0 (by decide) n1 (ph_1 sm)
  · refine pOk.thr R (k := 1) (ρ := 1) (κ := 1) ?_ ?_
    · simp only [f_H_span, e1, pb_s, ↓reduceIte, pi_0, pi_1, px_l, px_r, pi_q, pi_r, pu_b0, pu_b1, if_true, if_false]
    · rcases pk_Co hN b with ⟨u, hu, huc, rfl, g1, g2⟩ | ⟨g1, g2⟩
      · exact early 1 1 _ g2 (pf_N e2) (by decide) n1 (ph_1 sm)
      · exact early 1 0 _ g2 (pf_N e2) (by decide) n1 (ph_1 sm)

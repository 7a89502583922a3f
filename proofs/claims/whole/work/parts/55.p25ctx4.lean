/-! PURE: above -/
theorem co_put {st : pu_St} {W : Nat → Nat → Prop} {n u d : Nat} (hs : st.1 4 = nI n) (hn : n ≤ 20) (hW : ∀ i j, i < n → j < 20 → (pOff (st.2 4 i) j ↔ ¬ W i j)) (hu : u < n) (hd : d < n) :
    ∃ g, (∀ l, l < n → ((l = u ∨ W l u) → g l = (st.2 4 l ||| (st.2 4 d ||| ((1 : Int32) <<< (nI d &&& 31))))) ∧ (¬ (l = u ∨ W l u) → g l = st.2 4 l)) ∧ f_Co_putOver st (nI u) (nI d) = some (0, (st.1, va_up st.2 4 g)) := by
  have ld : pu_ld (st.2 4) 20 (nI d) = some (st.2 4 d) := pu_ld_nI (by omega) (by decide)
  suffices key : ∃ g : Nat → Int32, (∀ l, (l < n → ((l = u ∨ W l u) → g l = (st.2 4 l ||| (st.2 4 d ||| ((1 : Int32) <<< (nI d &&& 31))))) ∧ (¬ (l = u ∨ W l u) → g l = st.2 4 l)) ∧ (n ≤ l → g l = st.2 4 l)) ∧ f_Co_putOver_b14 pu_fu (st.1, va_up st.2 4 (st.2 4)) (nI u) (nI d) (st.2 4 d ||| ((1 : Int32) <<< (nI d &&& 31))) 0 = some (0, (st.1, va_up st.2 4 g)) by
    obtain ⟨g, q1, q2⟩ := key
    refine ⟨g, fun l hl => (q1 l).1 hl, ?_⟩
    rw [va_same] at q2
    unfold f_Co_putOver
    rw [ld, pb_s]
    exact q2
  refine lo_inv (n := n) (f := fun k (g : Nat → Int32) j => f_Co_putOver_b14 k (st.1, va_up st.2 4 g) (nI u) (nI d) (st.2 4 d ||| ((1 : Int32) <<< (nI d &&& 31))) (nI j)) (out := fun g => some (0, (st.1, va_up st.2 4 g))) (fun j g => ∀ l, (l < j → ((l = u ∨ W l u) → g l = (st.2 4 l ||| (st.2 4 d ||| ((1 : Int32) <<< (nI d &&& 31))))) ∧ (¬ (l = u ∨ W l u) → g l = st.2 4 l)) ∧ (j ≤ l → g l = st.2 4 l)) (fun k g _ => ?_) (fun k g j hj q => ?_) (fuel := pu_fu) (a := st.2 4) (fun l => ⟨fun h => absurd h (Nat.not_lt_zero _), fun _ => rfl⟩) (pu_big (by omega))
  · simp only [f_Co_putOver_b14, f_Rg_size_Co, hs, Int32.le_refl, pb_s, ↓reduceIte, pi_0, pi_1, px_l, px_r, pi_q, pi_r, pu_b0, pu_b1, if_true, if_false]
  · have cc : ¬ nI n ≤ nI j := nI_ge hj (by omega)
    have h4 : va_up st.2 4 g 4 = g := rfl
    have gj : g j = st.2 4 j := (q j).2 (Nat.le_refl _)
    have l : pu_ld g 20 (nI j) = some (st.2 4 j) := by rw [pu_ld_nI (by omega) (by decide), gj]
    have s : ∀ x, pu_sd g 20 (nI j) x = some (upd g j x) := fun x => pu_sd_nI (by omega) (by decide)
    have put : (j = u ∨ W j u) → ∀ l, (l < j + 1 → ((l = u ∨ W l u) → upd g j (st.2 4 j ||| (st.2 4 d ||| ((1 : Int32) <<< (nI d &&& 31)))) l = (st.2 4 l ||| (st.2 4 d ||| ((1 : Int32) <<< (nI d &&& 31))))) ∧ (¬ (l = u ∨ W l u) → upd g j (st.2 4 j ||| (st.2 4 d ||| ((1 : Int32) <<< (nI d &&& 31)))) l = st.2 4 l)) ∧ (j + 1 ≤ l → upd g j (st.2 4 j ||| (st.2 4 d ||| ((1 : Int32) <<< (nI d &&& 31)))) l = st.2 4 l) := by
      intro hC l
      refine ⟨fun hl => ?_, fun hl => ?_⟩
      · rcases pu_lt1 hl with r | rfl
        · rw [pk_un (show l ≠ j by omega)]; exact (q l).1 r
        · rw [pk_us]; exact ⟨fun _ => rfl, fun h => absurd hC h⟩
      · rw [pk_un (show l ≠ j by omega)]; exact (q l).2 (by omega)
    by_cases e : j = u
    · subst e
      refine ⟨_, put (Or.inl rfl), ?_⟩
      simp only [f_Co_putOver_b14, f_Rg_size_Co, hs, cc, h4, l, s, va_over, nI_1, pb_s, ↓reduceIte, pi_0, pi_1, px_l, px_r, pi_q, pi_r, pu_b0, pu_b1, if_true, if_false]
    · have e' : ¬ nI j = nI u := fun w => e ((nI_eq (by omega) (by omega)).mp w)
      by_cases o : (st.2 4 j &&& ((1 : Int32) <<< (nI u &&& 31))) = 0
      · have nw : ¬ W j u := (hW j u hj (by omega)).mp o
        refine ⟨g, fun l => ⟨fun hl => ?_, fun hl => (q l).2 (by omega)⟩, ?_⟩
        · rcases pu_lt1 hl with r | rfl
          · exact (q l).1 r
          · exact ⟨fun h => absurd h (by rintro (h | h); exact e h; exact nw h), fun _ => gj⟩
        · simp only [f_Co_putOver_b14, f_Rg_size_Co, hs, cc, e', f_Co_isOver, h4, l, o, nI_1, pb_s, ↓reduceIte, pi_0, pi_1, px_l, px_r, pi_q, pi_r, pu_b0, pu_b1, if_true, if_false]
      · have yw : W j u := Classical.not_not.mp (fun z => o ((hW j u hj (by omega)).mpr z))
        refine ⟨_, put (Or.inr yw), ?_⟩
        simp only [f_Co_putOver_b14, f_Rg_size_Co, hs, cc, e', f_Co_isOver, h4, l, o, s, va_over, nI_1, pb_s, ↓reduceIte, pi_0, pi_1, px_l, px_r, pi_q, pi_r, pu_b0, pu_b1, if_true, if_false]
/-- one pair more: do the years fit? -/
theorem pFit_ins {F L : Nat → Nat} {T : Nat → Nat → Prop} {n u d x y : Nat} (h4 : ∀ i j, T i j → i < n ∧ j < n) (h : pFit F L (Relation.TransGen T) n) (hx : pUp x (F d) (Relation.TransGen T d) F n) (hy : pDn y (L u) (fun a => Relation.TransGen T a u) L n) : x ≤ y ↔ pFit F L (Relation.TransGen (fun i j => T i j ∨ (i = u ∧ j = d))) n := by
  rw [pUp_le hx hy]
  constructor
  · rintro ⟨⟨q1, q2⟩, q3⟩
    refine ⟨h.1, fun a b t => ?_⟩
    rcases pT_ins.mp t with t | ⟨rfl | t1, rfl | t2⟩
    · exact h.2 a b t
    · exact q1
    · exact (q3 b (pT_in h4 t2).2 t2).1
    · exact q2 a (pT_in h4 t1).1 t1
    · exact (q3 b (pT_in h4 t2).2 t2).2 a (pT_in h4 t1).1 t1
  · rintro ⟨_, q⟩
    exact ⟨⟨q u d (pT_ins.mpr (Or.inr ⟨Or.inl rfl, Or.inl rfl⟩)), fun a _ t => q a d (pT_ins.mpr (Or.inr ⟨Or.inr t, Or.inl rfl⟩))⟩, fun b _ t => ⟨q u b (pT_ins.mpr (Or.inr ⟨Or.inl rfl, Or.inr t⟩)), fun a _ t' => q a b (pT_ins.mpr (Or.inr ⟨Or.inr t', Or.inr t⟩))⟩⟩
theorem co_years {st : pu_St} {T : Nat → Nat → Prop} {F L : Nat → Nat} {n u d : Nat} (hs : st.1 4 = nI n) (hn : n ≤ 20) (hW : ∀ i j, i < n → j < 20 → (pOff (st.2 4 i) j ↔ ¬ Relation.TransGen T i j)) (hF : ∀ j, j < n → F j ≤ 999 ∧ st.2 2 j = nI (F j)) (hL : ∀ j, j < n → L j ≤ 999 ∧ st.2 3 j = nI (L j)) (h4 : ∀ i j, T i j → i < n ∧ j < n) (h : pFit F L (Relation.TransGen T) n) (hu : u < n) (hd : d < n) :
    (f_Co_yearsLetOver st (nI u) (nI d) = some 1 ∧ pFit F L (Relation.TransGen (fun i j => T i j ∨ (i = u ∧ j = d))) n) ∨ (f_Co_yearsLetOver st (nI u) (nI d) = some 0 ∧ ¬ pFit F L (Relation.TransGen (fun i j => T i j ∨ (i = u ∧ j = d))) n) := by
  obtain ⟨x, x1, x2, x3⟩ := ph_ear hs hn hW hF hd
  obtain ⟨y, y1, y2, y3⟩ := ph_lat hs hn hW hL hu
  have w := pFit_ins (u := u) h4 h x3 y3
  unfold f_Co_yearsLetOver
  rw [x2, y2, pb_s, pb_s]
  by_cases m : x ≤ y
  · rw [if_neg (nI_nlt m (by omega))]
    exact Or.inl ⟨rfl, w.mp m⟩
  · rw [if_pos (nI_lt (by omega) (by omega))]
    exact Or.inr ⟨rfl, fun z => m (w.mpr z)⟩
theorem pu_put {f : Nat → Int32} {i : Nat} {x : Int32} : upd (upd f i x) i (f i) = f := by
  funext j
  by_cases e : j = i
  · subst e; rw [pk_us]
  · rw [pk_un e, pk_un e]
theorem pu_tell {mt : Nat → Int32} {T : Nat → Nat → Prop} (h5 : ∀ i j, i < 20 → j < 20 → (mt (20 * i + j) = 1 ∧ T i j) ∨ (mt (20 * i + j) = 0 ∧ ¬ T i j)) {u d : Nat} (hu : u < 20) (hd : d < 20) : ∀ i j, i < 20 → j < 20 → (upd mt (20 * u + d) 1 (20 * i + j) = 1 ∧ (T i j ∨ (i = u ∧ j = d))) ∨ (upd mt (20 * u + d) 1 (20 * i + j) = 0 ∧ ¬ (T i j ∨ (i = u ∧ j = d))) := by
  intro i j hi hj
  by_cases e : 20 * i + j = 20 * u + d
  · have e1 : i = u := by omega
    have e2 : j = d := by omega
    subst e1; subst e2
    exact Or.inl ⟨pk_us, Or.inr ⟨rfl, rfl⟩⟩
  · rw [pk_un e]
    rcases h5 i j hi hj with ⟨q1, q2⟩ | ⟨q1, q2⟩
    · exact Or.inl ⟨q1, Or.inl q2⟩
    · refine Or.inr ⟨q1, ?_⟩
      rintro (z | ⟨rfl, rfl⟩)
      · exact q2 z
      · exact e rfl
theorem pu_uu {f : Nat → Int32} {i : Nat} {x y : Int32} : upd (upd f i x) i y = upd f i y := by
  funext j
  by_cases e : j = i
  · subst e; rw [pk_us, pk_us]
  · rw [pk_un e, pk_un e, pk_un e]
theorem p_above : ∀ st sm, pRel st sm → ∀ a1 a2 a3 : Int32, pOk [1, 2, 3] pRel (f_H_above st a1 a2 a3) (f_Md_above sm a1 a2 a3) := by
  intro st sm R a b c
  obtain ⟨n, hN, hA⟩ := id R
  have c2 : n 2 ≤ 4 := hN.c (k := 2) (by decide) (by decide)
  have c3 : n 3 ≤ 20 := hN.c (k := 3) (by decide) (by decide)
  have n1 : ¬ (1 : Int32) ≤ 0 := by decide
  have n2 : ¬ (2 : Int32) ≤ 0 := by decide
  have n6 : ¬ (6 : Int32) = 0 := by decide
  have n7 : ¬ (7 : Int32) = 0 := by decide
  have n8 : ¬ (8 : Int32) = 0 := by decide
  rcases pk_De hN a with ⟨j, hj, hjc, rfl, e1, e2⟩ | ⟨e1, e2⟩
  · rcases pk_Co hN b with ⟨u, hu, huc, rfl, g1, g2⟩ | ⟨g1, g2⟩
    · rcases pk_Co hN c with ⟨d, hd, hdc, rfl, i1, i2⟩ | ⟨i1, i2⟩
      · rcases pr_both hN hA.1 hj pB2 with ⟨r1, r2⟩ | ⟨r1, r2⟩
        · have eu : nI (300 + u) - 300 = nI u := pu_sub
          have ed : nI (300 + d) - 300 = nI d := pu_sub
          obtain ⟨S, F, L, T, h1, h2, h3, h4, h5, h6, h7, h8, h9⟩ := id hA.2.1
          obtain ⟨g, q1, q2⟩ := pfo_follow (A := sm.1) (B := sm.2) (T := T) (fun i j t => by have := h4 i j t; omega) h5
          have q1' : f_Md_follow sm = some (0, (sm.1, va_up sm.2 6 g)) := q1
          have hF : ∀ j, j < n 3 → F j ≤ 999 ∧ st.2 2 j = nI (F j) := fun j hj => ⟨(h2 j hj).1, (h2 j hj).2.1⟩
          have hL : ∀ j, j < n 3 → L j ≤ 999 ∧ st.2 3 j = nI (L j) := fun j hj => ⟨(h3 j hj).1, (h3 j hj).2.1⟩
          have hF' : ∀ j, j < n 3 → F j ≤ 999 ∧ sm.2 3 j = nI (F j) := fun j hj => ⟨(h2 j hj).1, (h2 j hj).2.2⟩
          have hL' : ∀ j, j < n 3 → L j ≤ 999 ∧ sm.2 4 j = nI (L j) := fun j hj => ⟨(h3 j hj).1, (h3 j hj).2.2⟩
          have m6 : va_up sm.2 6 g 6 = g := rfl
          have m2 : va_up sm.2 6 g 2 = sm.2 2 := rfl
          have m5 : va_up sm.2 6 g 5 = sm.2 5 := rfl
          have l6 : pu_ld g 400 (nI (20 * u + d)) = some (g (20 * u + d)) := pu_ld_nI (by omega) (by decide)
          have l6' : pu_ld g 400 (nI (20 * d + u)) = some (g (20 * d + u)) := pu_ld_nI (by omega) (by decide)
          have l2u : pu_ld (sm.2 2) 20 (nI u) = some (nI (200 + S u)) := by rw [pu_ld_nI huc (by decide), (h1 u hu).2.2]
          have l2d : pu_ld (sm.2 2) 20 (nI d) = some (nI (200 + S d)) := by rw [pu_ld_nI hdc (by decide), (h1 d hd).2.2]
          have k2u : pu_ld (st.2 1) 20 (nI u) = some (nI (S u)) := by rw [pu_ld_nI huc (by decide), (h1 u hu).2.1]
          have k2d : pu_ld (st.2 1) 20 (nI d) = some (nI (S d)) := by rw [pu_ld_nI hdc (by decide), (h1 d hd).2.1]
          have su := (h1 u hu).1
          have sd := (h1 d hd).1
          have R6 := R.six g
          by_cases es : S u = S d
          · have es1 : nI (S u) = nI (S d) := by rw [es]
            have es2 : nI (200 + S u) = nI (200 + S d) := by rw [es]
            have seven : ∀ (hx : f_H_above_b69 st (nI (100 + j)) (nI (300 + u)) (nI (300 + d)) (nI j) (nI u) (nI d) 1 6 = f_H_above_b100 st (nI (100 + j)) (nI (300 + u)) (nI (300 + d)) (nI j) (nI u) (nI d) 7) (hy : f_Md_above_b103 (sm.1, va_up sm.2 6 g) (nI (100 + j)) (nI (300 + u)) (nI (300 + d)) 0 (nI u) (nI d) (g (20 * u + d)) 1 0 = f_Md_above_b139 (sm.1, va_up sm.2 6 g) (nI (100 + j)) (nI (300 + u)) (nI (300 + d)) 0 (nI u) (nI d) (g (20 * u + d)) 0), pOk [1, 2, 3] pRel (f_H_above st (nI (100 + j)) (nI (300 + u)) (nI (300 + d))) (f_Md_above sm (nI (100 + j)) (nI (300 + u)) (nI (300 + d))) := by
              intro hx hy
              refine pOk.thr R6 (k := 3) (ρ := 7) (κ := 3) ?_ ?_
              · simp only [f_H_above, e1, g1, i1, r1, f_Co_siteOf, k2u, k2d, es1, hx, f_H_above_b100, f_H_above_b101, pa_ask0, pb_s, ↓reduceIte, pi_0, pi_1, px_l, px_r, pi_q, pi_r, pu_b0, pu_b1, if_true, if_false]
              · simp only [f_Md_above, g2, i2, f_Md_above_b24, pf_A e2 r2, q1', eu, ed, pu_c20, m6, m2, l6, l2u, l2d, es2, hy, f_Md_above_b139, f_Md_above_b140, pt_00, n7, f_Md_above_b224, ph_7, pb_s, ↓reduceIte, pi_0, pi_1, px_l, px_r, pi_q, pi_r, pu_b0, pu_b1, if_true, if_false]
            by_cases eq : u = d
            · subst eq
              exact seven (by simp only [f_H_above_b69, pa_ask1, pb_s, ↓reduceIte, pi_0, pi_1, px_l, px_r, pi_q, pi_r, pu_b0, pu_b1, if_true, if_false]) (by simp only [f_Md_above_b103, pt_01, pb_s, ↓reduceIte, pi_0, pi_1, px_l, px_r, pi_q, pi_r, pu_b0, pu_b1, if_true, if_false])
            · have ne : ¬ nI u = nI d := fun w => eq ((nI_eq (by omega) (by omega)).mp w)
              rcases co_over (st := st) c3 h6 hd huc with ⟨w1, w2⟩ | ⟨w1, w2⟩
              · have gd : g (20 * d + u) = 1 := by
                  rcases q2 d u hdc huc with ⟨z, _⟩ | ⟨_, z⟩
                  · exact z
                  · exact absurd w2 z
                exact seven (by simp only [f_H_above_b69, pa_ask1, ne, w1, pb_s, ↓reduceIte, pi_0, pi_1, px_l, px_r, pi_q, pi_r, pu_b0, pu_b1, if_true, if_false]) (by simp only [f_Md_above_b103, pt_01, ne, pu_c20, m6, l6', gd, pb_s, ↓reduceIte, pi_0, pi_1, px_l, px_r, pi_q, pi_r, pu_b0, pu_b1, if_true, if_false])
              · have gd : g (20 * d + u) = 0 := by
                  rcases q2 d u hdc huc with ⟨_, z⟩ | ⟨z, _⟩
                  · exact absurd z w2
                  · exact z
                have fit : pFit F L (Relation.TransGen T) (n 3) := ⟨h8, h9⟩
                have h4' : ∀ i j, (T i j ∨ (i = u ∧ j = d)) → i < n 3 ∧ j < n 3 := by
                  rintro i j (z | ⟨rfl, rfl⟩)
                  · exact h4 i j z
                  · exact ⟨hu, hd⟩
                have h5' := pu_tell h5 huc hdc
                obtain ⟨g', v, f1, f2, f3⟩ := pm_fits (A := sm.1) (B := va_up (va_up sm.2 6 g) 5 (upd (sm.2 5) (20 * u + d) 1)) (T := fun i j => T i j ∨ (i = u ∧ j = d)) (F := F) (L := L) (n := n 3) (pl_Co hN) c3 h4' h5' hF' hL'
                have l5 : pu_ld (sm.2 5) 400 (nI (20 * u + d)) = some (sm.2 5 (20 * u + d)) := pu_ld_nI (by omega) (by decide)
                have s5 : pu_sd (sm.2 5) 400 (nI (20 * u + d)) 1 = some (upd (sm.2 5) (20 * u + d) 1) := pu_sd_nI (by omega) (by decide)
                have s5' : ∀ x, pu_sd (upd (sm.2 5) (20 * u + d) 1) 400 (nI (20 * u + d)) x = some (upd (sm.2 5) (20 * u + d) x) := fun x => by rw [pu_sd_nI (by omega) (by decide), pu_uu]
                have m5' : va_up (va_up (va_up sm.2 6 g) 5 (upd (sm.2 5) (20 * u + d) 1)) 6 g' 5 = upd (sm.2 5) (20 * u + d) 1 := rfl
                rcases co_years (st := st) (ps_Co hN) c3 h6 hF hL h4 fit hu hd with ⟨y1, y2⟩ | ⟨y1, y2⟩
                · have v1 : v = 1 := by
                    rcases f3 with ⟨z, _⟩ | ⟨_, z⟩
                    · exact z
                    · exact absurd y2 z
                  subst v1
                  obtain ⟨gh, p1, p2⟩ := co_put (st := st) (ps_Co hN) c3 h6 hu hd
                  have Rn : pRel (st.1, va_up st.2 4 gh) (va_up (va_up sm.1 1 (sm.1 1)) 0 0, va_up (va_up (va_up (va_up sm.2 6 g) 5 (upd (sm.2 5) (20 * u + d) 1)) 6 g') 5 (upd (sm.2 5) (20 * u + d) 1)) := by
                    refine ⟨n, hN.acc, hA.1, ⟨S, F, L, fun i j => T i j ∨ (i = u ∧ j = d), h1, h2, h3, h4', h5', fun i j hi hj => ?_, pT_acy h7 (fun z => eq z.symm) w2, y2.1, y2.2⟩, hA.2.2.1, hA.2.2.2.1, hA.2.2.2.2.1, hA.2.2.2.2.2.1, hA.2.2.2.2.2.2.1, hA.2.2.2.2.2.2.2.1, hA.2.2.2.2.2.2.2.2⟩
                    show pOff (gh i) j ↔ _
                    rw [pT_ins]
                    by_cases hC : i = u ∨ Relation.TransGen T i u
                    · rw [(p1 i hi).1 hC, pb_or (by omega), pb_or (by omega), pb_one (by omega) (by omega), h6 i j hi hj, h6 d j hd hj]
                      constructor
                      · rintro ⟨z1, z2, z3⟩ (z | ⟨_, z | z⟩)
                        · exact z1 z
                        · exact z3 z
                        · exact z2 z
                      · intro z
                        exact ⟨fun y => z (Or.inl y), fun y => z (Or.inr ⟨hC, Or.inr y⟩), fun y => z (Or.inr ⟨hC, Or.inl y⟩)⟩
                    · rw [(p1 i hi).2 hC, h6 i j hi hj]
                      constructor
                      · rintro z1 (z | ⟨z, _⟩)
                        · exact z1 z
                        · exact hC z
                      · intro z y
                        exact z (Or.inl y)
                  rcases co_over (st := st) c3 h6 hu hdc with ⟨o1, o2⟩ | ⟨o1, o2⟩
                  · have go : g (20 * u + d) = 1 := by
                      rcases q2 u d huc hdc with ⟨z, _⟩ | ⟨_, z⟩
                      · exact z
                      · exact absurd o2 z
                    refine pOk.ret Rn (x := 0) ?_ ?_
                    · simp only [f_H_above, e1, g1, i1, r1, f_Co_siteOf, k2u, k2d, es1, f_H_above_b69, pa_ask1, ne, w1, f_H_above_b101, y1, o1, f_H_above_b140, p2, pb_s, ↓reduceIte, pi_0, pi_1, px_l, px_r, pi_q, pi_r, pu_b0, pu_b1, if_true, if_false]
                    · simp only [f_Md_above, g2, i2, f_Md_above_b24, pf_A e2 r2, q1', eu, ed, pu_c20, m6, m2, m5, l6, l2u, l2d, es2, f_Md_above_b103, pt_01, ne, l6', gd, f_Md_above_b140, l5, s5, f1, f_Md_above_b194, f_Md_above_b218, f_Md_above_b223, m5', s5', f_Md_above_b224, ph_0, go, pb_s, ↓reduceIte, pi_0, pi_1, px_l, px_r, pi_q, pi_r, pu_b0, pu_b1, if_true, if_false]
                  · have go : g (20 * u + d) = 0 := by
                      rcases q2 u d huc hdc with ⟨_, z⟩ | ⟨z, _⟩
                      · exact absurd z o2
                      · exact z
                    refine pOk.ret Rn (x := 1) ?_ ?_
                    · simp only [f_H_above, e1, g1, i1, r1, f_Co_siteOf, k2u, k2d, es1, f_H_above_b69, pa_ask1, ne, w1, f_H_above_b101, y1, o1, f_H_above_b140, p2, pb_s, ↓reduceIte, pi_0, pi_1, px_l, px_r, pi_q, pi_r, pu_b0, pu_b1, if_true, if_false]
                    · simp only [f_Md_above, g2, i2, f_Md_above_b24, pf_A e2 r2, q1', eu, ed, pu_c20, m6, m2, m5, l6, l2u, l2d, es2, f_Md_above_b103, pt_01, ne, l6', gd, f_Md_above_b140, l5, s5, f1, f_Md_above_b194, f_Md_above_b218, f_Md_above_b223, m5', s5', f_Md_above_b224, ph_0, go, pb_s, ↓reduceIte, pi_0, pi_1, px_l, px_r, pi_q, pi_r, pu_b0, pu_b1, if_true, if_false]
                · have v0 : v = 0 := by
                    rcases f3 with ⟨_, z⟩ | ⟨z, _⟩
                    · exact absurd z y2
                    · exact z
                  subst v0
                  have back : ∀ x, x = sm.2 5 (20 * u + d) → upd (sm.2 5) (20 * u + d) x = sm.2 5 := by
                    rintro x rfl
                    funext i
                    by_cases z : i = 20 * u + d
                    · subst z; rw [pk_us]
                    · rw [pk_un z]
                  have Rn : ∀ x, x = sm.2 5 (20 * u + d) → pRel st (sm.1, va_up (va_up (va_up (va_up sm.2 6 g) 5 (upd (sm.2 5) (20 * u + d) 1)) 6 g') 5 (upd (sm.2 5) (20 * u + d) x)) := by
                    intro x hx
                    rw [back x hx]
                    exact ⟨n, hN, hA.1, hA.2.1, hA.2.2.1, hA.2.2.2.1, hA.2.2.2.2.1, hA.2.2.2.2.2.1, hA.2.2.2.2.2.2.1, hA.2.2.2.2.2.2.2.1, hA.2.2.2.2.2.2.2.2⟩
                  rcases h5 u d huc hdc with ⟨t1, _⟩ | ⟨t1, _⟩
                  · refine pOk.thr (Rn 1 t1.symm) (k := 3) (ρ := 8) (κ := 3) ?_ ?_
                    · simp only [f_H_above, e1, g1, i1, r1, f_Co_siteOf, k2u, k2d, es1, f_H_above_b69, pa_ask1, ne, w1, f_H_above_b101, y1, pa_ask0, pb_s, ↓reduceIte, pi_0, pi_1, px_l, px_r, pi_q, pi_r, pu_b0, pu_b1, if_true, if_false]
                    · simp only [f_Md_above, g2, i2, f_Md_above_b24, pf_A e2 r2, q1', eu, ed, pu_c20, m6, m2, m5, l6, l2u, l2d, es2, f_Md_above_b103, pt_01, ne, l6', gd, f_Md_above_b140, l5, t1, s5, f1, f_Md_above_b194, n8, f_Md_above_b218, f_Md_above_b223, m5', s5', f_Md_above_b224, ph_8, pb_s, ↓reduceIte, pi_0, pi_1, px_l, px_r, pi_q, pi_r, pu_b0, pu_b1, if_true, if_false]
                  · refine pOk.thr (Rn 0 t1.symm) (k := 3) (ρ := 8) (κ := 3) ?_ ?_
                    · simp only [f_H_above, e1, g1, i1, r1, f_Co_siteOf, k2u, k2d, es1, f_H_above_b69, pa_ask1, ne, w1, f_H_above_b101, y1, pa_ask0, pb_s, ↓reduceIte, pi_0, pi_1, px_l, px_r, pi_q, pi_r, pu_b0, pu_b1, if_true, if_false]
                    · simp only [f_Md_above, g2, i2, f_Md_above_b24, pf_A e2 r2, q1', eu, ed, pu_c20, m6, m2, m5, l6, l2u, l2d, es2, f_Md_above_b103, pt_01, ne, l6', gd, f_Md_above_b140, l5, t1, s5, f1, f_Md_above_b194, n8, f_Md_above_b218, f_Md_above_b223, m5', s5', f_Md_above_b224, ph_8, pb_s, ↓reduceIte, pi_0, pi_1, px_l, px_r, pi_q, pi_r, pu_b0, pu_b1, if_true, if_false]
          · have ne : ¬ u = d := fun w => es (by rw [w])
            have ne' : ¬ nI u = nI d := fun w => ne ((nI_eq (by omega) (by omega)).mp w)
            have es1 : ¬ nI (S u) = nI (S d) := fun w => es ((nI_eq (by omega) (by omega)).mp w)
            have es2 : ¬ nI (200 + S u) = nI (200 + S d) := fun w => es (by have := (nI_eq (by omega) (by omega)).mp w; omega)
            refine pOk.thr R6 (k := 3) (ρ := 6) (κ := 3) ?_ ?_
            · simp only [f_H_above, e1, g1, i1, r1, f_Co_siteOf, k2u, k2d, es1, f_H_above_b69, pa_ask0, pb_s, ↓reduceIte, pi_0, pi_1, px_l, px_r, pi_q, pi_r, pu_b0, pu_b1, if_true, if_false]
            · by_cases gd : g (20 * d + u) = 0 <;> simp only [f_Md_above, g2, i2, f_Md_above_b24, pf_A e2 r2, q1', eu, ed, pu_c20, m6, m2, l6, l2u, l2d, es2, f_Md_above_b103, pt_00, ne', l6', gd, f_Md_above_b139, f_Md_above_b140, pt_6, n6, f_Md_above_b224, ph_6, pb_s, ↓reduceIte, pi_0, pi_1, px_l, px_r, pi_q, pi_r, pu_b0, pu_b1, if_true, if_false]
        · refine pOk.thr R (k := 2) (ρ := 2) (κ := 2) ?_ ?_
          · simp only [f_H_above, e1, g1, i1, r1, pb_s, ↓reduceIte, pi_0, pi_1, px_l, px_r, pi_q, pi_r, pu_b0, pu_b1, if_true, if_false]
          · simp only [f_Md_above, g2, i2, f_Md_above_b24, pf_2 e2 r2, n2, ph_2, pb_s, ↓reduceIte, pi_0, pi_1, px_l, px_r, pi_q, pi_r, pu_b0, pu_b1, if_true, if_false]
      · refine pOk.thr R (k := 1) (ρ := 1) (κ := 1) ?_ ?_
        · simp only [f_H_above, e1, g1, i1, pb_s, ↓reduceIte, pi_0, pi_1, px_l, px_r, pi_q, pi_r, pu_b0, pu_b1, if_true, if_false]
        · simp only [f_Md_above, g2, i2, f_Md_above_b23, f_Md_above_b24, pf_0, n1, ph_1, pb_s, ↓reduceIte, pi_0, pi_1, px_l, px_r, pi_q, pi_r, pu_b0, pu_b1, if_true, if_false]
    · refine pOk.thr R (k := 1) (ρ := 1) (κ := 1) ?_ ?_
      · simp only [f_H_above, e1, g1, pb_s, ↓reduceIte, pi_0, pi_1, px_l, px_r, pi_q, pi_r, pu_b0, pu_b1, if_true, if_false]
      · simp only [f_Md_above, g2, f_Md_above_b23, f_Md_above_b24, pf_0, n1, ph_1, pb_s, ↓reduceIte, pi_0, pi_1, px_l, px_r, pi_q, pi_r, pu_b0, pu_b1, if_true, if_false]
  · refine pOk.thr R (k := 1) (ρ := 1) (κ := 1) ?_ ?_
    · simp only [f_H_above, e1, pb_s, ↓reduceIte, pi_0, pi_1, px_l, px_r, pi_q, pi_r, pu_b0, pu_b1, if_true, if_false]
    · rcases pk_Co hN b with ⟨u, hu, huc, rfl, g1, g2⟩ | ⟨g1, g2⟩
      · rcases pk_Co hN c with ⟨d, hd, hdc, rfl, i1, i2⟩ | ⟨i1, i2⟩
        · simp only [f_Md_above, g2, i2, f_Md_above_b24, pf_N e2, n1, ph_1, pb_s, ↓reduceIte, pi_0, pi_1, px_l, px_r, pi_q, pi_r, pu_b0, pu_b1, if_true, if_false]
        · simp only [f_Md_above, g2, i2, f_Md_above_b23, f_Md_above_b24, pf_0, n1, ph_1, pb_s, ↓reduceIte, pi_0, pi_1, px_l, px_r, pi_q, pi_r, pu_b0, pu_b1, if_true, if_false]
      · simp only [f_Md_above, g2, f_Md_above_b23, f_Md_above_b24, pf_0, n1, ph_1, pb_s, ↓reduceIte, pi_0, pi_1, px_l, px_r, pi_q, pi_r, pu_b0, pu_b1, if_true, if_false]

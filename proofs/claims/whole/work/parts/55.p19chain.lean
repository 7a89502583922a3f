/-! PURE: the chain of stores -/
theorem pT_head {P : Nat → Nat → Prop} {i o : Nat} (t : Relation.TransGen P i o) : ∃ p, P i p ∧ (p = o ∨ Relation.TransGen P p o) := by
  induction t with
  | single h => exact ⟨_, h, Or.inl rfl⟩
  | tail _ h ih =>
    obtain ⟨p, q1, q2⟩ := ih
    rcases q2 with rfl | q2
    · exact ⟨_, q1, Or.inr (.single h)⟩
    · exact ⟨_, q1, Or.inr (.tail q2 h)⟩
theorem pT_cons {P : Nat → Nat → Prop} {i p o : Nat} (h : P i p) (t : Relation.TransGen P p o) : Relation.TransGen P i o := Relation.TransGen.trans (.single h) t
theorem pT_mono {P Q : Nat → Nat → Prop} (h : ∀ i j, P i j → Q i j) {i j : Nat} (t : Relation.TransGen P i j) : Relation.TransGen Q i j := by
  induction t with
  | single q => exact .single (h _ _ q)
  | tail _ q ih => exact .tail ih (h _ _ q)
/-- one pair more -/
theorem pT_ins {T : Nat → Nat → Prop} {u d a b : Nat} : Relation.TransGen (fun i j => T i j ∨ (i = u ∧ j = d)) a b ↔ Relation.TransGen T a b ∨ ((a = u ∨ Relation.TransGen T a u) ∧ (b = d ∨ Relation.TransGen T d b)) := by
  constructor
  · intro t
    induction t with
    | single q =>
      rcases q with q | ⟨rfl, rfl⟩
      · exact Or.inl (.single q)
      · exact Or.inr ⟨Or.inl rfl, Or.inl rfl⟩
    | tail _ q ih =>
      rcases q with q | ⟨rfl, rfl⟩
      · rcases ih with ih | ⟨i1, rfl | i2⟩
        · exact Or.inl (.tail ih q)
        · exact Or.inr ⟨i1, Or.inr (.single q)⟩
        · exact Or.inr ⟨i1, Or.inr (.tail i2 q)⟩
      · rcases ih with ih | ⟨i1, _⟩
        · exact Or.inr ⟨Or.inr ih, Or.inl rfl⟩
        · exact Or.inr ⟨i1, Or.inl rfl⟩
  · have up : ∀ {x y}, Relation.TransGen T x y → Relation.TransGen (fun i j => T i j ∨ (i = u ∧ j = d)) x y := fun t => pT_mono (fun i j q => Or.inl q) t
    have me : Relation.TransGen (fun i j => T i j ∨ (i = u ∧ j = d)) u d := .single (Or.inr ⟨rfl, rfl⟩)
    rintro (t | ⟨rfl | t1, rfl | t2⟩)
    · exact up t
    · exact me
    · exact me.trans (up t2)
    · exact (up t1).trans me
    · exact ((up t1).trans me).trans (up t2)
theorem pT_acy {T : Nat → Nat → Prop} {u d : Nat} (h : ∀ i, ¬ Relation.TransGen T i i) (h1 : ¬ d = u) (h2 : ¬ Relation.TransGen T d u) (i : Nat) : ¬ Relation.TransGen (fun i j => T i j ∨ (i = u ∧ j = d)) i i := by
  intro t
  rcases pT_ins.mp t with t | ⟨rfl | t1, q | t2⟩
  · exact h i t
  · exact h1 q.symm
  · exact h2 t2
  · exact h2 (by rw [← q]; exact t1)
  · exact h2 (t2.trans t1)
/-- both sides walk up the chain and say alike -/
theorem pI_walk {st sm : pu_St} {n6 : Nat} (c6 : n6 ≤ 16) {P : Nat → Nat → Prop} (h1 : ∀ j, j < n6 → (st.2 12 j = -1 ∧ sm.2 10 j = -1 ∧ ∀ p, ¬ P j p) ∨ ∃ p, p < n6 ∧ st.2 12 j = nI p ∧ sm.2 10 j = nI p ∧ ∀ q, P j q ↔ q = p) (h2 : ∀ i j, P i j → i < n6 ∧ j < n6) (h3 : ∀ i, ¬ Relation.TransGen P i i) (x : Int32) {o : Nat} (ho : o < n6) :
    ∀ r p s fuel, p < n6 → pCnt (fun q => Relation.TransGen P p q) n6 ≤ r → r + s < 16 → r + 1 < fuel →
      (f_So_isIn_b10 fuel st x (nI o) (nI p) (nI s) = some 1 ∧ f_Md_isIn_b7 fuel sm x (nI o) (nI p) = some 1 ∧ (p = o ∨ Relation.TransGen P p o)) ∨ (f_So_isIn_b10 fuel st x (nI o) (nI p) (nI s) = some 0 ∧ f_Md_isIn_b7 fuel sm x (nI o) (nI p) = some 0 ∧ ¬ (p = o ∨ Relation.TransGen P p o)) := by
  intro r
  induction r with
  | zero =>
    intro p s fuel hp hr hs hf
    obtain ⟨k, rfl⟩ : ∃ k, fuel = k + 2 := ⟨fuel - 2, by omega⟩
    have c1 : ¬ (16 : Int32) ≤ nI s := nI_ge (b := 16) (by omega) (by decide)
    have c2 := pn_m1 (show p < 2 ^ 31 by omega)
    have lp : ∀ f : Nat → Int32, pu_ld f 16 (nI p) = some (f p) := fun f => pu_ld_nI (by omega) (by decide)
    have z := pCnt_0.mp (Nat.le_zero.mp hr)
    by_cases e : p = o
    · subst e
      left
      exact ⟨by simp only [f_So_isIn_b10, c1, c2, pb_s, ↓reduceIte, pi_0, pi_1, px_l, px_r, pi_q, pi_r, pu_b0, pu_b1, if_true, if_false], by simp only [f_Md_isIn_b7, c2, f_Md_isIn_b27, pb_s, ↓reduceIte, pi_0, pi_1, px_l, px_r, pi_q, pi_r, pu_b0, pu_b1, if_true, if_false], Or.inl rfl⟩
    · have e' : ¬ nI p = nI o := fun q => e ((nI_eq (by omega) (by omega)).mp q)
      rcases h1 p hp with ⟨q1, q2, q3⟩ | ⟨p', q1, q2, q3, q4⟩
      · right
        have c3 : (if (16 : Int32) ≤ nI (s + 1) then some (0 : Int32) else if (-1 : Int32) = -1 then some 0 else if (-1 : Int32) = nI o then some 1 else (pu_ld (st.2 12) 16 (-1)).bind fun v5 => f_So_isIn_b10 k st x (nI o) v5 (nI (s + 1) + 1)) = some 0 := by
          by_cases q : (16 : Int32) ≤ nI (s + 1) <;> simp only [q, pb_s, ↓reduceIte, pi_0, pi_1, px_l, px_r, pi_q, pi_r, pu_b0, pu_b1, if_true, if_false]
        refine ⟨?_, ?_, ?_⟩
        · simp only [f_So_isIn_b10, c1, c2, e', lp, q1, nI_1, pb_s, ↓reduceIte, pi_0, pi_1, px_l, px_r, pi_q, pi_r, pu_b0, pu_b1, if_true, if_false]
          exact c3
        · simp only [f_Md_isIn_b7, c2, e', lp, q2, f_Md_isIn_b27, pb_s, ↓reduceIte, pi_0, pi_1, px_l, px_r, pi_q, pi_r, pu_b0, pu_b1, if_true, if_false]
        · rintro (q | q)
          · exact e q
          · obtain ⟨w, w1, _⟩ := pT_head q
            exact q3 w w1
      · exact absurd (Relation.TransGen.single ((q4 p').mpr rfl)) (z p' q1)
  | succ r ih =>
    intro p s fuel hp hr hs hf
    obtain ⟨k, rfl⟩ : ∃ k, fuel = k + 2 := ⟨fuel - 2, by omega⟩
    have c1 : ¬ (16 : Int32) ≤ nI s := nI_ge (b := 16) (by omega) (by decide)
    have c2 := pn_m1 (show p < 2 ^ 31 by omega)
    have lp : ∀ f : Nat → Int32, pu_ld f 16 (nI p) = some (f p) := fun f => pu_ld_nI (by omega) (by decide)
    by_cases e : p = o
    · subst e
      left
      exact ⟨by simp only [f_So_isIn_b10, c1, c2, pb_s, ↓reduceIte, pi_0, pi_1, px_l, px_r, pi_q, pi_r, pu_b0, pu_b1, if_true, if_false], by simp only [f_Md_isIn_b7, c2, f_Md_isIn_b27, pb_s, ↓reduceIte, pi_0, pi_1, px_l, px_r, pi_q, pi_r, pu_b0, pu_b1, if_true, if_false], Or.inl rfl⟩
    · have e' : ¬ nI p = nI o := fun q => e ((nI_eq (by omega) (by omega)).mp q)
      rcases h1 p hp with ⟨q1, q2, q3⟩ | ⟨p', q1, q2, q3, q4⟩
      · right
        have c3 : (if (16 : Int32) ≤ nI (s + 1) then some (0 : Int32) else if (-1 : Int32) = -1 then some 0 else if (-1 : Int32) = nI o then some 1 else (pu_ld (st.2 12) 16 (-1)).bind fun v5 => f_So_isIn_b10 k st x (nI o) v5 (nI (s + 1) + 1)) = some 0 := by
          by_cases q : (16 : Int32) ≤ nI (s + 1) <;> simp only [q, pb_s, ↓reduceIte, pi_0, pi_1, px_l, px_r, pi_q, pi_r, pu_b0, pu_b1, if_true, if_false]
        refine ⟨?_, ?_, ?_⟩
        · simp only [f_So_isIn_b10, c1, c2, e', lp, q1, nI_1, pb_s, ↓reduceIte, pi_0, pi_1, px_l, px_r, pi_q, pi_r, pu_b0, pu_b1, if_true, if_false]
          exact c3
        · simp only [f_Md_isIn_b7, c2, e', lp, q2, f_Md_isIn_b27, pb_s, ↓reduceIte, pi_0, pi_1, px_l, px_r, pi_q, pi_r, pu_b0, pu_b1, if_true, if_false]
        · rintro (q | q)
          · exact e q
          · obtain ⟨w, w1, _⟩ := pT_head q
            exact q3 w w1
      · have pp : P p p' := (q4 p').mpr rfl
        have lt : pCnt (fun q => Relation.TransGen P p' q) n6 < pCnt (fun q => Relation.TransGen P p q) n6 := pCnt_lt (fun i _ t => pT_cons pp t) q1 (h3 p') (.single pp)
        have s1 : f_So_isIn_b10 (k + 2) st x (nI o) (nI p) (nI s) = f_So_isIn_b10 (k + 1) st x (nI o) (nI p') (nI (s + 1)) := by
          show (if (16 : Int32) ≤ nI s then some (0 : Int32) else if nI p = (-1 : Int32) then some 0 else if nI p = nI o then some 1 else (pu_ld (st.2 12) 16 (nI p)).bind fun v5 => f_So_isIn_b10 (k + 1) st x (nI o) v5 (nI s + 1)) = _
          simp only [c1, c2, e', lp, q2, nI_1, pb_s, ↓reduceIte, pi_0, pi_1, px_l, px_r, pi_q, pi_r, pu_b0, pu_b1, if_true, if_false]
        have s2 : f_Md_isIn_b7 (k + 2) sm x (nI o) (nI p) = f_Md_isIn_b7 (k + 1) sm x (nI o) (nI p') := by
          show (if nI p = (-1 : Int32) then f_Md_isIn_b27 sm x (nI o) (nI p) else if nI p = nI o then f_Md_isIn_b27 sm x (nI o) (nI p) else (pu_ld (sm.2 10) 16 (nI p)).bind fun v4 => f_Md_isIn_b7 (k + 1) sm x (nI o) v4) = _
          simp only [c2, e', lp, q3, pb_s, ↓reduceIte, pi_0, pi_1, px_l, px_r, pi_q, pi_r, pu_b0, pu_b1, if_true, if_false]
        rw [s1, s2]
        have eq : (p' = o ∨ Relation.TransGen P p' o) ↔ (p = o ∨ Relation.TransGen P p o) := by
          constructor
          · rintro (rfl | t)
            · exact Or.inr (.single pp)
            · exact Or.inr (pT_cons pp t)
          · rintro (q | t)
            · exact absurd q e
            · obtain ⟨w, w1, w2⟩ := pT_head t
              rw [(q4 w).mp w1] at w2
              exact w2
        rcases ih p' (s + 1) (k + 1) q1 (by omega) (by omega) (by omega) with ⟨a1, a2, a3⟩ | ⟨a1, a2, a3⟩
        · exact Or.inl ⟨a1, a2, eq.mp a3⟩
        · exact Or.inr ⟨a1, a2, fun q => a3 (eq.mpr q)⟩
theorem pI_in {st sm : pu_St} {n6 : Nat} (c6 : n6 ≤ 16) {P : Nat → Nat → Prop} (h1 : ∀ j, j < n6 → (st.2 12 j = -1 ∧ sm.2 10 j = -1 ∧ ∀ p, ¬ P j p) ∨ ∃ p, p < n6 ∧ st.2 12 j = nI p ∧ sm.2 10 j = nI p ∧ ∀ q, P j q ↔ q = p) (h2 : ∀ i j, P i j → i < n6 ∧ j < n6) (h3 : ∀ i, ¬ Relation.TransGen P i i) {i o : Nat} (hi : i < n6) (ho : o < n6) :
    (f_So_isIn st (nI i) (nI o) = some 1 ∧ f_Md_isIn sm (nI i) (nI o) = some 1 ∧ Relation.TransGen P i o) ∨ (f_So_isIn st (nI i) (nI o) = some 0 ∧ f_Md_isIn sm (nI i) (nI o) = some 0 ∧ ¬ Relation.TransGen P i o) := by
  have li : ∀ f : Nat → Int32, pu_ld f 16 (nI i) = some (f i) := fun f => pu_ld_nI (by omega) (by decide)
  unfold f_So_isIn f_Md_isIn
  rw [li, li, pb_s, pb_s]
  rcases h1 i hi with ⟨q1, q2, q3⟩ | ⟨p, q1, q2, q3, q4⟩
  · right
    rw [q1, q2]
    refine ⟨rfl, rfl, fun t => ?_⟩
    obtain ⟨w, w1, _⟩ := pT_head t
    exact q3 w w1
  · rw [q2, q3]
    have pp : P i p := (q4 p).mpr rfl
    have eq : (p = o ∨ Relation.TransGen P p o) ↔ Relation.TransGen P i o := by
      constructor
      · rintro (rfl | t)
        · exact .single pp
        · exact pT_cons pp t
      · intro t
        obtain ⟨w, w1, w2⟩ := pT_head t
        rw [(q4 w).mp w1] at w2
        exact w2
    have lt : pCnt (fun q => Relation.TransGen P p q) n6 ≤ 15 := by
      have a := pCnt_lt (M := fun q => Relation.TransGen P p q) (N := fun _ => True) (n := n6) (fun _ _ _ => trivial) q1 (h3 p) trivial
      have b := pCnt_le (fun _ => True) n6
      omega
    rcases pI_walk c6 h1 h2 h3 (nI i) ho 15 p 0 pu_fu q1 lt (by decide) (by decide) with ⟨a1, a2, a3⟩ | ⟨a1, a2, a3⟩
    · exact Or.inl ⟨a1, a2, eq.mp a3⟩
    · exact Or.inr ⟨a1, a2, fun q => a3 (eq.mpr q)⟩

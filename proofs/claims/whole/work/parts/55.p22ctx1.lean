/-! PURE: what lies over what, as the reference follows it -/
theorem va_same {α : Type} {f : Nat → α} {k : Nat} : va_up f k (f k) = f := by
  funext j
  by_cases h : j = k
  · subst h; rw [va_up_self]
  · rw [va_up_ne _ _ h]
theorem va_over {α : Type} {f : Nat → α} {k : Nat} {x y : α} : va_up (va_up f k x) k y = va_up f k y := by
  funext j
  by_cases h : j = k
  · subst h; rw [va_up_self, va_up_self]
  · rw [va_up_ne _ _ h, va_up_ne _ _ h, va_up_ne _ _ h]
theorem pu_c20 {i j : Nat} : ((20 : Int32) * nI i) + nI j = nI (20 * i + j) := by
  have e : (20 : Int32) * nI i = nI (20 * i) := pk_mul 20 i
  rw [e, nI_add]
def pGd (T : Nat → Nat → Prop) (g : Nat → Int32) : Prop := ∀ i j, i < 20 → j < 20 → (g (20 * i + j) = 1 ∧ Relation.TransGen T i j) ∨ (g (20 * i + j) = 0 ∧ ¬ T i j)
def pCl (g : Nat → Int32) (x : Nat) : Prop := g (20 * (x / 400) + x / 20 % 20) = 1 → g (20 * (x / 20 % 20) + x % 20) = 1 → g (20 * (x / 400) + x % 20) = 1
theorem pfo_set {T : Nat → Nat → Prop} {g : Nat → Int32} (h : pGd T g) {i j : Nat} (hi : i < 20) (hj : j < 20) (t : Relation.TransGen T i j) : pGd T (upd g (20 * i + j) 1) := by
  intro i' j' hi' hj'
  by_cases e : 20 * i' + j' = 20 * i + j
  · have e1 : i' = i := by omega
    have e2 : j' = j := by omega
    subst e1; subst e2
    exact Or.inl ⟨pk_us, t⟩
  · rw [pk_un e]; exact h i' j' hi' hj'
theorem pfo_pass {T : Nat → Nat → Prop} {A : Nat → Int32} {B : Nat → Nat → Int32} (kk : pu_St → Int32 → Option (Int32 × pu_St)) {g : Nat → Int32} (h : pGd T g) :
    ∃ a : (Nat → Int32) × Int32, (pGd T a.1 ∧ ((a.2 = 0 ∧ a.1 = g ∧ ∀ y, y < 8000 → pCl g y) ∨ (a.2 = 1 ∧ pCnt (fun l => g l = 1) 400 < pCnt (fun l => a.1 l = 1) 400))) ∧ f_Md_follow_b37 kk pu_fu (A, va_up B 6 g) 0 0 = kk (A, va_up B 6 a.1) a.2 := by
  refine lo_inv (n := 8000) (f := fun k (a : (Nat → Int32) × Int32) j => f_Md_follow_b37 kk k (A, va_up B 6 a.1) a.2 (nI j)) (out := fun a => kk (A, va_up B 6 a.1) a.2) (fun x a => pGd T a.1 ∧ ((a.2 = 0 ∧ a.1 = g ∧ ∀ y, y < x → pCl g y) ∨ (a.2 = 1 ∧ pCnt (fun l => g l = 1) 400 < pCnt (fun l => a.1 l = 1) 400))) (fun k a _ => ?_) (fun k a x hx q => ?_) (fuel := pu_fu) (a := (g, 0)) ⟨h, Or.inl ⟨rfl, rfl, fun y hy => absurd hy (Nat.not_lt_zero _)⟩⟩ (by decide)
  · have c : (8000 : Int32) ≤ nI 8000 := by decide
    simp only [f_Md_follow_b37, c, pb_s, ↓reduceIte, pi_0, pi_1, px_l, px_r, pi_q, pi_r, pu_b0, pu_b1, if_true, if_false]
  · obtain ⟨b, fl⟩ := a
    obtain ⟨q1, q2⟩ := q
    simp only at q1 q2
    have c : ¬ (8000 : Int32) ≤ nI x := nI_ge (b := 8000) hx (by decide)
    have d4 : nI x / 400 = nI (x / 400) := pk_div (d := 400) (by omega) (by decide) (by decide)
    have d2 : nI x / 20 = nI (x / 20) := pk_div (d := 20) (by omega) (by decide) (by decide)
    have r2 : nI x - nI (x / 20) * 20 = nI (x % 20) := by rw [← d2]; exact pk_rem (d := 20) (by omega) (by decide) (by decide)
    have r4 : nI (x / 20) - nI (x / 20) / 20 * 20 = nI (x / 20 % 20) := pk_rem (d := 20) (by omega) (by decide) (by decide)
    have h6 : va_up B 6 b 6 = b := rfl
    have i1 : x / 400 < 20 := by omega
    have i2 : x / 20 % 20 < 20 := by omega
    have i3 : x % 20 < 20 := by omega
    have l1 : pu_ld b 400 (nI (20 * (x / 400) + x / 20 % 20)) = some (b (20 * (x / 400) + x / 20 % 20)) := pu_ld_nI (by omega) (by decide)
    have l2 : pu_ld b 400 (nI (20 * (x / 20 % 20) + x % 20)) = some (b (20 * (x / 20 % 20) + x % 20)) := pu_ld_nI (by omega) (by decide)
    have l3 : pu_ld b 400 (nI (20 * (x / 400) + x % 20)) = some (b (20 * (x / 400) + x % 20)) := pu_ld_nI (by omega) (by decide)
    have s3 : pu_sd b 400 (nI (20 * (x / 400) + x % 20)) 1 = some (upd b (20 * (x / 400) + x % 20) 1) := pu_sd_nI (by omega) (by decide)
    have keep : pCl b x → (pGd T b ∧ ((fl = 0 ∧ b = g ∧ ∀ y, y < x + 1 → pCl g y) ∨ (fl = 1 ∧ pCnt (fun l => g l = 1) 400 < pCnt (fun l => b l = 1) 400))) := by
      intro w
      refine ⟨q1, ?_⟩
      rcases q2 with ⟨f0, bg, cl⟩ | q2
      · refine Or.inl ⟨f0, bg, fun y hy => ?_⟩
        rcases pu_lt1 hy with r | rfl
        · exact cl y r
        · rw [← bg]; exact w
      · exact Or.inr q2
    rcases q1 _ _ i1 i2 with ⟨u1, t1⟩ | ⟨u1, t1⟩
    · rcases q1 _ _ i2 i3 with ⟨u2, t2⟩ | ⟨u2, t2⟩
      · rcases q1 _ _ i1 i3 with ⟨u3, t3⟩ | ⟨u3, t3⟩
        · refine ⟨(b, fl), keep (fun _ _ => u3), ?_⟩
          simp only [f_Md_follow_b37, c, d4, d2, r2, r4, pu_c20, h6, l1, l2, l3, u1, u2, u3, nI_1, pb_s, ↓reduceIte, pi_0, pi_1, px_l, px_r, pi_q, pi_r, pu_b0, pu_b1, if_true, if_false]
        · refine ⟨(upd b (20 * (x / 400) + x % 20) 1, 1), ⟨pfo_set q1 i1 i3 (t1.trans t2), Or.inr ⟨rfl, ?_⟩⟩, ?_⟩
          · have lt : pCnt (fun l => b l = 1) 400 < pCnt (fun l => upd b (20 * (x / 400) + x % 20) 1 l = 1) 400 := by
              refine pCnt_lt (fun l _ hl => ?_) (k := 20 * (x / 400) + x % 20) (by omega) (by rw [u3]; decide) pk_us
              by_cases e : l = 20 * (x / 400) + x % 20
              · subst e; exact pk_us
              · rw [pk_un e]; exact hl
            rcases q2 with ⟨_, rfl, _⟩ | ⟨_, q2⟩
            · exact lt
            · exact Nat.lt_trans q2 lt
          · simp only [f_Md_follow_b37, c, d4, d2, r2, r4, pu_c20, h6, l1, l2, l3, s3, u1, u2, u3, va_over, nI_1, pb_s, ↓reduceIte, pi_0, pi_1, px_l, px_r, pi_q, pi_r, pu_b0, pu_b1, if_true, if_false]
      · refine ⟨(b, fl), keep (fun _ w => absurd w (by rw [u2]; decide)), ?_⟩
        simp only [f_Md_follow_b37, c, d4, d2, r2, r4, pu_c20, h6, l1, l2, u1, u2, nI_1, pb_s, ↓reduceIte, pi_0, pi_1, px_l, px_r, pi_q, pi_r, pu_b0, pu_b1, if_true, if_false]
    · refine ⟨(b, fl), keep (fun w => absurd w (by rw [u1]; decide)), ?_⟩
      simp only [f_Md_follow_b37, c, d4, d2, r2, r4, pu_c20, h6, l1, u1, nI_1, pb_s, ↓reduceIte, pi_0, pi_1, px_l, px_r, pi_q, pi_r, pu_b0, pu_b1, if_true, if_false]
theorem pfo_all {T : Nat → Nat → Prop} (h1 : ∀ i j, T i j → i < 20 ∧ j < 20) {g : Nat → Int32} (h : pGd T g) (hc : ∀ y, y < 8000 → pCl g y) : ∀ i j, i < 20 → j < 20 → (g (20 * i + j) = 1 ∧ Relation.TransGen T i j) ∨ (g (20 * i + j) = 0 ∧ ¬ Relation.TransGen T i j) := by
  have all : ∀ i j, Relation.TransGen T i j → g (20 * i + j) = 1 := by
    intro i j t
    have one : ∀ i j, T i j → g (20 * i + j) = 1 := by
      intro i j q
      rcases h i j (h1 i j q).1 (h1 i j q).2 with ⟨w, _⟩ | ⟨_, w⟩
      · exact w
      · exact absurd q w
    induction t with
    | single q => exact one _ _ q
    | @tail b c t q ih =>
      have b1 := pT_in h1 t
      have b2 := h1 _ _ q
      have w := hc (400 * i + 20 * b + c) (by omega)
      have e1 : (400 * i + 20 * b + c) / 400 = i := by omega
      have e2 : (400 * i + 20 * b + c) / 20 % 20 = b := by omega
      have e3 : (400 * i + 20 * b + c) % 20 = c := by omega
      unfold pCl at w
      rw [e1, e2, e3] at w
      exact w ih (one _ _ q)
  intro i j hi hj
  rcases h i j hi hj with w | ⟨w, _⟩
  · exact Or.inl w
  · exact Or.inr ⟨w, fun t => absurd (all i j t) (by rw [w]; decide)⟩
theorem pfo_loop {T : Nat → Nat → Prop} {A : Nat → Int32} {B : Nat → Nat → Int32} : ∀ r fuel g, pGd T g → 400 ≤ pCnt (fun l => g l = 1) 400 + r → r + 1 < fuel → ∃ g', pGd T g' ∧ (∀ y, y < 8000 → pCl g' y) ∧ f_Md_follow_b29 fuel (A, va_up B 6 g) 1 = some (0, (A, va_up B 6 g')) := by
  intro r
  induction r with
  | zero =>
    intro fuel g h hr hf
    obtain ⟨k, rfl⟩ : ∃ k, fuel = k + 2 := ⟨fuel - 2, by omega⟩
    obtain ⟨⟨g', fl⟩, ⟨q1, q2⟩, q3⟩ := pfo_pass (A := A) (B := B) (f_Md_follow_b29 (k + 1)) h
    rcases q2 with ⟨f0, e, cl⟩ | ⟨_, lt⟩
    · simp only at f0 e q3 q1
      subst f0; subst e
      refine ⟨g', q1, cl, ?_⟩
      show (if (1 : Int32) = 0 then _ else f_Md_follow_b37 (f_Md_follow_b29 (k + 1)) pu_fu (A, va_up B 6 g') 0 0) = _
      rw [pi_1, q3]
      show (if (0 : Int32) = 0 then _ else _) = _
      rw [pi_0]
    · have := pCnt_le (fun l => g' l = 1) 400
      simp only at lt
      omega
  | succ r ih =>
    intro fuel g h hr hf
    obtain ⟨k, rfl⟩ : ∃ k, fuel = k + 2 := ⟨fuel - 2, by omega⟩
    obtain ⟨⟨g', fl⟩, ⟨q1, q2⟩, q3⟩ := pfo_pass (A := A) (B := B) (f_Md_follow_b29 (k + 1)) h
    rcases q2 with ⟨f0, e, cl⟩ | ⟨f1, lt⟩
    · simp only at f0 e q3 q1
      subst f0; subst e
      refine ⟨g', q1, cl, ?_⟩
      show (if (1 : Int32) = 0 then _ else f_Md_follow_b37 (f_Md_follow_b29 (k + 1)) pu_fu (A, va_up B 6 g') 0 0) = _
      rw [pi_1, q3]
      show (if (0 : Int32) = 0 then _ else _) = _
      rw [pi_0]
    · simp only at f1 lt q1 q3
      subst f1
      obtain ⟨g2, w1, w2, w3⟩ := ih (k + 1) g' q1 (by omega) (by omega)
      refine ⟨g2, w1, w2, ?_⟩
      show (if (1 : Int32) = 0 then _ else f_Md_follow_b37 (f_Md_follow_b29 (k + 1)) pu_fu (A, va_up B 6 g) 0 0) = _
      rw [pi_1, q3, w3]
theorem pfo_follow {T : Nat → Nat → Prop} {A : Nat → Int32} {B : Nat → Nat → Int32} (h1 : ∀ i j, T i j → i < 20 ∧ j < 20) (h2 : ∀ i j, i < 20 → j < 20 → (B 5 (20 * i + j) = 1 ∧ T i j) ∨ (B 5 (20 * i + j) = 0 ∧ ¬ T i j)) :
    ∃ g, f_Md_follow (A, B) = some (0, (A, va_up B 6 g)) ∧ ∀ i j, i < 20 → j < 20 → (g (20 * i + j) = 1 ∧ Relation.TransGen T i j) ∨ (g (20 * i + j) = 0 ∧ ¬ Relation.TransGen T i j) := by
  have cp : ∃ g : Nat → Int32, (∀ i, i < 400 → g i = B 5 i) ∧ f_Md_follow_b2 pu_fu (A, va_up B 6 (B 6)) 0 = f_Md_follow_b29 pu_fu (A, va_up B 6 g) 1 := by
    refine lo_inv (n := 400) (f := fun k (g : Nat → Int32) j => f_Md_follow_b2 k (A, va_up B 6 g) (nI j)) (out := fun g => f_Md_follow_b29 pu_fu (A, va_up B 6 g) 1) (fun x g => ∀ i, i < x → g i = B 5 i) (fun k a _ => ?_) (fun k a j hj q => ?_) (fuel := pu_fu) (a := B 6) (fun i hi => absurd hi (Nat.not_lt_zero _)) (by decide)
    · have c : (400 : Int32) ≤ nI 400 := by decide
      simp only [f_Md_follow_b2, c, pb_s, ↓reduceIte, pi_0, pi_1, px_l, px_r, pi_q, pi_r, pu_b0, pu_b1, if_true, if_false]
    · have c : ¬ (400 : Int32) ≤ nI j := nI_ge (b := 400) hj (by decide)
      have h5 : va_up B 6 a 5 = B 5 := rfl
      have h6 : va_up B 6 a 6 = a := rfl
      have e : 20 * (j / 20) + j % 20 = j := by omega
      refine ⟨upd a j (B 5 j), fun i hi => ?_, ?_⟩
      · rcases pu_lt1 hi with r | rfl
        · rw [pu_old r]; exact q i r
        · exact pk_us
      · have w := h2 (j / 20) (j % 20) (by omega) (by omega)
        rw [e] at w
        rcases w with ⟨w, _⟩ | ⟨w, _⟩
        · simp only [f_Md_follow_b2, c, h5, h6, pu_ld_nI hj (show 400 < 2 ^ 31 by decide), pu_sd_nI hj (show 400 < 2 ^ 31 by decide), w, va_over, nI_1, pb_s, ↓reduceIte, pi_0, pi_1, px_l, px_r, pi_q, pi_r, pu_b0, pu_b1, if_true, if_false]
        · simp only [f_Md_follow_b2, c, h5, h6, pu_ld_nI hj (show 400 < 2 ^ 31 by decide), pu_sd_nI hj (show 400 < 2 ^ 31 by decide), w, va_over, nI_1, pb_s, ↓reduceIte, pi_0, pi_1, px_l, px_r, pi_q, pi_r, pu_b0, pu_b1, if_true, if_false]
  obtain ⟨g0, c1, c2⟩ := cp
  rw [va_same] at c2
  have gd : pGd T g0 := by
    intro i j hi hj
    rw [c1 _ (by omega)]
    rcases h2 i j hi hj with ⟨w1, w2⟩ | w
    · exact Or.inl ⟨w1, .single w2⟩
    · exact Or.inr w
  obtain ⟨g, q1, q2, q3⟩ := pfo_loop (A := A) (B := B) 400 pu_fu g0 gd (by omega) (by decide)
  exact ⟨g, by rw [← q3, ← c2]; rfl, pfo_all h1 q1 q2⟩

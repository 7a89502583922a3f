/-! PURE: the ends of a call, and what both sides begin with -/
theorem pOk.thr {ks : List Nat} {st sm : pu_St} (R : pRel st sm) {k : Nat} {ρ κ : Int32} {a : pu_R} {b : Option (Int32 × pu_St)} (ha : a = some (.inr k, (va_up st.1 1 ρ, st.2))) (hb : b = some (0, (va_up (va_up sm.1 1 ρ) 0 κ, sm.2))) (hk : k ∈ ks := by decide) (hw : κ = wk ks (.inr k) := by decide) : pOk ks pRel a b := by
  obtain ⟨n, hN, hA⟩ := R
  exact ⟨_, _, _, _, ha, fun k' e => (by cases e; exact hk), hb, (by simp [va_up, hw]), fun x e => (by cases e), n, hN.ref _ _, hA⟩
theorem pOk.ret {ks : List Nat} {st' sm' : pu_St} (R : pRel st' sm') {x : Int32} {a : pu_R} {b : Option (Int32 × pu_St)} (ha : a = some (.inl x, st')) (hb : b = some (x, sm')) (h0 : sm'.1 0 = 0 := by rfl) : pOk ks pRel a b :=
  ⟨_, _, _, _, ha, fun k' e => (by cases e), hb, h0, fun x e => (by cases e; rfl), R⟩
/-- nothing changed: only the reference notes that all was well -/
theorem pRel.acc {st sm : pu_St} (R : pRel st sm) : pRel st (va_up (va_up sm.1 1 (sm.1 1)) 0 0, sm.2) := by
  obtain ⟨n, hN, hA⟩ := R
  exact ⟨n, hN.acc, hA⟩
theorem px_l {v : Int32} {st : pu_St} {k : Int32 → pu_St → pu_R} : pu_xb (some (.inl v, st)) k = k v st := (rfl)
theorem px_r {e : Nat} {st : pu_St} {k : Int32 → pu_St → pu_R} : pu_xb (some (.inr e, st)) k = some (.inr e, st) := (rfl)
theorem pa_room0 {st : pu_St} : f_H_askRoom st 0 = some (.inr 2, (va_up st.1 1 3, st.2)) := (rfl)
theorem pa_room1 {st : pu_St} : f_H_askRoom st 1 = some (.inl 0, st) := (rfl)
theorem pa_ask0 {st : pu_St} {x : Int32} : f_H_ask st x 0 = some (.inr 3, (va_up st.1 1 x, st.2)) := (rfl)
theorem pa_ask1 {st : pu_St} {x : Int32} : f_H_ask st x 1 = some (.inl 0, st) := (rfl)
theorem pt_00 {sm : pu_St} {x : Int32} : f_Md_then sm 0 0 x = some x := (rfl)
theorem pt_01 {sm : pu_St} {x : Int32} : f_Md_then sm 0 1 x = some 0 := (rfl)
theorem pt_n {sm : pu_St} {y b x : Int32} (h : 0 < y) : f_Md_then sm y b x = some y := by unfold f_Md_then; rw [if_pos h]
theorem pt_1 {sm : pu_St} {b x : Int32} : f_Md_then sm 1 b x = some 1 := pt_n (by decide)
theorem pt_2 {sm : pu_St} {b x : Int32} : f_Md_then sm 2 b x = some 2 := pt_n (by decide)
theorem pt_3 {sm : pu_St} {b x : Int32} : f_Md_then sm 3 b x = some 3 := pt_n (by decide)
theorem pt_4 {sm : pu_St} {b x : Int32} : f_Md_then sm 4 b x = some 4 := pt_n (by decide)
theorem pt_6 {sm : pu_St} {b x : Int32} : f_Md_then sm 6 b x = some 6 := pt_n (by decide)
theorem pt_11 {sm : pu_St} {b x : Int32} : f_Md_then sm 11 b x = some 11 := pt_n (by decide)
theorem pt_13 {sm : pu_St} {b x : Int32} : f_Md_then sm 13 b x = some 13 := pt_n (by decide)
theorem pf_0 {sm : pu_St} {d r z : Int32} : f_Md_first sm 0 d r z = some 1 := (rfl)
theorem pf_N {sm : pu_St} {t d r z : Int32} (h : f_Md_is sm d 1 = some 0) : f_Md_first sm t d r z = some 1 := by
  unfold f_Md_first
  by_cases ht : t = 0
  · rw [if_pos ht]
  · rw [if_neg ht, h]; rfl
theorem pf_2 {sm : pu_St} {d r z : Int32} (h : f_Md_is sm d 1 = some 1) (h2 : f_Md_may sm d r = some 0) : f_Md_first sm 1 d r z = some 2 := by
  simp [f_Md_first, h, h2]
theorem pf_3 {sm : pu_St} {d r : Int32} (h : f_Md_is sm d 1 = some 1) (h2 : f_Md_may sm d r = some 1) : f_Md_first sm 1 d r 0 = some 3 := by
  simp [f_Md_first, h, h2]
theorem pf_A {sm : pu_St} {d r : Int32} (h : f_Md_is sm d 1 = some 1) (h2 : f_Md_may sm d r = some 1) : f_Md_first sm 1 d r 1 = some 0 := by
  simp [f_Md_first, h, h2]
theorem pL_0 {sm : pu_St} {x a b : Int32} (h : x < a ∨ b < x) : f_Md_lies sm x a b = some 0 := by
  unfold f_Md_lies
  by_cases h1 : x < a
  · rw [if_pos h1]
  · rw [if_neg h1, if_pos (h.resolve_left h1)]
theorem pL_1 {sm : pu_St} {x a b : Int32} (h : ¬ x < a) (h2 : ¬ b < x) : f_Md_lies sm x a b = some 1 := by
  unfold f_Md_lies; rw [if_neg h, if_neg h2]
theorem pi_f {α : Sort _} {a b : α} {x : Int32} (h : ¬ x = 0) : (if x = 0 then a else b) = b := if_neg h
theorem pi_0 {α : Type} {a b : α} : (if (0 : Int32) = 0 then a else b) = a := (rfl)
theorem pi_1 {α : Type} {a b : α} : (if (1 : Int32) = 0 then a else b) = b := (rfl)
theorem pi_p {α : Type} {a b : α} {y : Int32} (h : 0 < y) : (if 0 < y then a else b) = a := if_pos h
theorem pi_q {α : Type} {a b : α} : (if (0 : Int32) < 0 then a else b) = b := (rfl)
theorem pi_r {α : Type} {a b : α} : (if (0 : Int32) ≤ 0 then a else b) = a := (rfl)
theorem pb_s {α β : Type} {a : α} {f : α → Option β} : (some a).bind f = f a := (rfl)
theorem pu_b0 : pu_bo 0 = some 0 := (rfl)
theorem pu_b1 : pu_bo 1 = some 1 := (rfl)
theorem pr_both {st sm : pu_St} {n : Nat → Nat} (hN : qN n st.1 sm.1 (sm.2 0)) (hD : qD (n 1) (st.2 0) (sm.2 1)) {j : Nat} (hj : j < n 1) {r : Int32} (hr : pBit r) : (f_H_askRight st (nI j) r = some (.inl 0, st) ∧ f_Md_may sm (nI (100 + j)) r = some 1) ∨ (f_H_askRight st (nI j) r = some (.inr 2, (va_up st.1 1 2, st.2)) ∧ f_Md_may sm (nI (100 + j)) r = some 0) := by
  have h6 : n 1 ≤ 6 := hN.c (k := 1) (by decide) (by decide)
  obtain ⟨v, hv, e1, e2⟩ := hD.2 j hj
  rw [ph_right (Nat.lt_of_lt_of_le hj h6) e1]
  unfold f_Md_may
  have e : nI (100 + j) - 100 = nI j := pu_sub
  rw [e, pu_ld_nI (by omega) (by decide), e2]
  show _ ∧ (if (nI v &&& r) ≤ 0 then some (0 : Int32) else some 1) = _ ∨ _ ∧ (if (nI v &&& r) ≤ 0 then some (0 : Int32) else some 1) = _
  by_cases h : (nI v &&& r) = r
  · rw [if_neg ((pr_bit hv hr).mp h), if_pos h]; exact Or.inl ⟨rfl, rfl⟩
  · rw [if_pos (Classical.not_not.mp (fun q => h ((pr_bit hv hr).mpr q))), if_neg h]; exact Or.inr ⟨rfl, rfl⟩
theorem pN_lt {c : Nat} {x : Int32} (hx : x = nI c) (hc : c < 2 ^ 31) {m : Nat} (h : m < c) : nI m < x ∧ ¬ x ≤ nI m := by
  subst hx; exact ⟨nI_lt h hc, nI_ge h hc⟩
theorem pN_ge {c : Nat} {x : Int32} (hx : x = nI c) {m : Nat} (hm : m < 2 ^ 31) (h : c ≤ m) : ¬ nI m < x ∧ x ≤ nI m := by
  subst hx; exact ⟨nI_nlt h hm, nI_le h hm⟩
theorem pk_De {st sm : pu_St} {n : Nat → Nat} (hN : qN n st.1 sm.1 (sm.2 0)) (a : Int32) : (∃ j, j < n 1 ∧ j < 6 ∧ a = nI (100 + j) ∧ f_H_numberOf_De st a = some (.inl (nI j), st) ∧ f_Md_is sm a 1 = some 1) ∨ (f_H_numberOf_De st a = some (.inr 1, (va_up st.1 1 1, st.2)) ∧ f_Md_is sm a 1 = some 0) := by
  have h1 : st.1 2 = nI (n 1) := hN.h (k := 1) (by decide) (by decide)
  have h2 : sm.2 0 1 = nI (n 1) := hN.m (k := 1) (by decide) (by decide)
  have h3 : n 1 ≤ 6 := hN.c (k := 1) (by decide) (by decide)
  rcases pIs_em 100 (n 1) a with ⟨j, hj, rfl⟩ | h
  · exact Or.inl ⟨j, hj, by omega, rfl, pq_De1 (by omega) h1 hj, pm_is1 (x := 1) (k := 1) rfl (by decide) (by omega) h2 hj⟩
  · exact Or.inr ⟨pq_De0 (by omega) h1 h, pm_is0 (x := 1) (k := 1) rfl (by decide) (by omega) h2 h⟩
theorem pm_De {st sm : pu_St} {n : Nat → Nat} (hN : qN n st.1 sm.1 (sm.2 0)) : (n 1 < 6 ∧ f_Rg_isFull_De st = some 0 ∧ ¬ (6 : Int32) ≤ nI (n 1)) ∨ (f_Rg_isFull_De st = some 1 ∧ (6 : Int32) ≤ nI (n 1)) := by
  have h1 : st.1 2 = nI (n 1) := hN.h (k := 1) (by decide) (by decide)
  have h3 : n 1 ≤ 6 := hN.c (k := 1) (by decide) (by decide)
  unfold f_Rg_isFull_De
  rw [h1]
  rcases Nat.lt_or_ge (n 1) 6 with h | h
  · have e := pN_lt (x := 6) (c := 6) rfl (by decide) h
    exact Or.inl ⟨h, if_pos e.1, e.2⟩
  · have e := pN_ge (x := 6) (c := 6) rfl (by omega) h
    exact Or.inr ⟨if_neg e.1, e.2⟩
theorem pl_De {st sm : pu_St} {n : Nat → Nat} (hN : qN n st.1 sm.1 (sm.2 0)) : pu_ld (sm.2 0) 10 1 = some (nI (n 1)) := by
  have h2 : sm.2 0 1 = nI (n 1) := hN.m (k := 1) (by decide) (by decide)
  rw [← h2]
  exact pu_ld_nI (j := 1) (by decide) (by decide)
theorem ps_De {st sm : pu_St} {n : Nat → Nat} (hN : qN n st.1 sm.1 (sm.2 0)) : st.1 2 = nI (n 1) := hN.h (k := 1) (by decide) (by decide)
theorem pk_Si {st sm : pu_St} {n : Nat → Nat} (hN : qN n st.1 sm.1 (sm.2 0)) (a : Int32) : (∃ j, j < n 2 ∧ j < 4 ∧ a = nI (200 + j) ∧ f_H_numberOf_Si st a = some (.inl (nI j), st) ∧ f_Md_is sm a 2 = some 1) ∨ (f_H_numberOf_Si st a = some (.inr 1, (va_up st.1 1 1, st.2)) ∧ f_Md_is sm a 2 = some 0) := by
  have h1 : st.1 3 = nI (n 2) := hN.h (k := 2) (by decide) (by decide)
  have h2 : sm.2 0 2 = nI (n 2) := hN.m (k := 2) (by decide) (by decide)
  have h3 : n 2 ≤ 4 := hN.c (k := 2) (by decide) (by decide)
  rcases pIs_em 200 (n 2) a with ⟨j, hj, rfl⟩ | h
  · exact Or.inl ⟨j, hj, by omega, rfl, pq_Si1 (by omega) h1 hj, pm_is1 (x := 2) (k := 2) rfl (by decide) (by omega) h2 hj⟩
  · exact Or.inr ⟨pq_Si0 (by omega) h1 h, pm_is0 (x := 2) (k := 2) rfl (by decide) (by omega) h2 h⟩
theorem pm_Si {st sm : pu_St} {n : Nat → Nat} (hN : qN n st.1 sm.1 (sm.2 0)) : (n 2 < 4 ∧ f_Rg_isFull_Si st = some 0 ∧ ¬ (4 : Int32) ≤ nI (n 2)) ∨ (f_Rg_isFull_Si st = some 1 ∧ (4 : Int32) ≤ nI (n 2)) := by
  have h1 : st.1 3 = nI (n 2) := hN.h (k := 2) (by decide) (by decide)
  have h3 : n 2 ≤ 4 := hN.c (k := 2) (by decide) (by decide)
  unfold f_Rg_isFull_Si
  rw [h1]
  rcases Nat.lt_or_ge (n 2) 4 with h | h
  · have e := pN_lt (x := 4) (c := 4) rfl (by decide) h
    exact Or.inl ⟨h, if_pos e.1, e.2⟩
  · have e := pN_ge (x := 4) (c := 4) rfl (by omega) h
    exact Or.inr ⟨if_neg e.1, e.2⟩
theorem pl_Si {st sm : pu_St} {n : Nat → Nat} (hN : qN n st.1 sm.1 (sm.2 0)) : pu_ld (sm.2 0) 10 2 = some (nI (n 2)) := by
  have h2 : sm.2 0 2 = nI (n 2) := hN.m (k := 2) (by decide) (by decide)
  rw [← h2]
  exact pu_ld_nI (j := 2) (by decide) (by decide)
theorem ps_Si {st sm : pu_St} {n : Nat → Nat} (hN : qN n st.1 sm.1 (sm.2 0)) : st.1 3 = nI (n 2) := hN.h (k := 2) (by decide) (by decide)
theorem pk_Co {st sm : pu_St} {n : Nat → Nat} (hN : qN n st.1 sm.1 (sm.2 0)) (a : Int32) : (∃ j, j < n 3 ∧ j < 20 ∧ a = nI (300 + j) ∧ f_H_numberOf_Co st a = some (.inl (nI j), st) ∧ f_Md_is sm a 3 = some 1) ∨ (f_H_numberOf_Co st a = some (.inr 1, (va_up st.1 1 1, st.2)) ∧ f_Md_is sm a 3 = some 0) := by
  have h1 : st.1 4 = nI (n 3) := hN.h (k := 3) (by decide) (by decide)
  have h2 : sm.2 0 3 = nI (n 3) := hN.m (k := 3) (by decide) (by decide)
  have h3 : n 3 ≤ 20 := hN.c (k := 3) (by decide) (by decide)
  rcases pIs_em 300 (n 3) a with ⟨j, hj, rfl⟩ | h
  · exact Or.inl ⟨j, hj, by omega, rfl, pq_Co1 (by omega) h1 hj, pm_is1 (x := 3) (k := 3) rfl (by decide) (by omega) h2 hj⟩
  · exact Or.inr ⟨pq_Co0 (by omega) h1 h, pm_is0 (x := 3) (k := 3) rfl (by decide) (by omega) h2 h⟩
theorem pm_Co {st sm : pu_St} {n : Nat → Nat} (hN : qN n st.1 sm.1 (sm.2 0)) : (n 3 < 20 ∧ f_Rg_isFull_Co st = some 0 ∧ ¬ (20 : Int32) ≤ nI (n 3)) ∨ (f_Rg_isFull_Co st = some 1 ∧ (20 : Int32) ≤ nI (n 3)) := by
  have h1 : st.1 4 = nI (n 3) := hN.h (k := 3) (by decide) (by decide)
  have h3 : n 3 ≤ 20 := hN.c (k := 3) (by decide) (by decide)
  unfold f_Rg_isFull_Co
  rw [h1]
  rcases Nat.lt_or_ge (n 3) 20 with h | h
  · have e := pN_lt (x := 20) (c := 20) rfl (by decide) h
    exact Or.inl ⟨h, if_pos e.1, e.2⟩
  · have e := pN_ge (x := 20) (c := 20) rfl (by omega) h
    exact Or.inr ⟨if_neg e.1, e.2⟩
theorem pl_Co {st sm : pu_St} {n : Nat → Nat} (hN : qN n st.1 sm.1 (sm.2 0)) : pu_ld (sm.2 0) 10 3 = some (nI (n 3)) := by
  have h2 : sm.2 0 3 = nI (n 3) := hN.m (k := 3) (by decide) (by decide)
  rw [← h2]
  exact pu_ld_nI (j := 3) (by decide) (by decide)
theorem ps_Co {st sm : pu_St} {n : Nat → Nat} (hN : qN n st.1 sm.1 (sm.2 0)) : st.1 4 = nI (n 3) := hN.h (k := 3) (by decide) (by decide)
theorem pk_Fi {st sm : pu_St} {n : Nat → Nat} (hN : qN n st.1 sm.1 (sm.2 0)) (a : Int32) : (∃ j, j < n 4 ∧ j < 30 ∧ a = nI (400 + j) ∧ f_H_numberOf_Fi st a = some (.inl (nI j), st) ∧ f_Md_is sm a 4 = some 1) ∨ (f_H_numberOf_Fi st a = some (.inr 1, (va_up st.1 1 1, st.2)) ∧ f_Md_is sm a 4 = some 0) := by
  have h1 : st.1 5 = nI (n 4) := hN.h (k := 4) (by decide) (by decide)
  have h2 : sm.2 0 4 = nI (n 4) := hN.m (k := 4) (by decide) (by decide)
  have h3 : n 4 ≤ 30 := hN.c (k := 4) (by decide) (by decide)
  rcases pIs_em 400 (n 4) a with ⟨j, hj, rfl⟩ | h
  · exact Or.inl ⟨j, hj, by omega, rfl, pq_Fi1 (by omega) h1 hj, pm_is1 (x := 4) (k := 4) rfl (by decide) (by omega) h2 hj⟩
  · exact Or.inr ⟨pq_Fi0 (by omega) h1 h, pm_is0 (x := 4) (k := 4) rfl (by decide) (by omega) h2 h⟩
theorem pm_Fi {st sm : pu_St} {n : Nat → Nat} (hN : qN n st.1 sm.1 (sm.2 0)) : (n 4 < 30 ∧ f_Rg_isFull_Fi st = some 0 ∧ ¬ (30 : Int32) ≤ nI (n 4)) ∨ (f_Rg_isFull_Fi st = some 1 ∧ (30 : Int32) ≤ nI (n 4)) := by
  have h1 : st.1 5 = nI (n 4) := hN.h (k := 4) (by decide) (by decide)
  have h3 : n 4 ≤ 30 := hN.c (k := 4) (by decide) (by decide)
  unfold f_Rg_isFull_Fi
  rw [h1]
  rcases Nat.lt_or_ge (n 4) 30 with h | h
  · have e := pN_lt (x := 30) (c := 30) rfl (by decide) h
    exact Or.inl ⟨h, if_pos e.1, e.2⟩
  · have e := pN_ge (x := 30) (c := 30) rfl (by omega) h
    exact Or.inr ⟨if_neg e.1, e.2⟩
theorem pl_Fi {st sm : pu_St} {n : Nat → Nat} (hN : qN n st.1 sm.1 (sm.2 0)) : pu_ld (sm.2 0) 10 4 = some (nI (n 4)) := by
  have h2 : sm.2 0 4 = nI (n 4) := hN.m (k := 4) (by decide) (by decide)
  rw [← h2]
  exact pu_ld_nI (j := 4) (by decide) (by decide)
theorem ps_Fi {st sm : pu_St} {n : Nat → Nat} (hN : qN n st.1 sm.1 (sm.2 0)) : st.1 5 = nI (n 4) := hN.h (k := 4) (by decide) (by decide)
theorem pk_It {st sm : pu_St} {n : Nat → Nat} (hN : qN n st.1 sm.1 (sm.2 0)) (a : Int32) : (∃ j, j < n 5 ∧ j < 30 ∧ a = nI (500 + j) ∧ f_H_numberOf_It st a = some (.inl (nI j), st) ∧ f_Md_is sm a 5 = some 1) ∨ (f_H_numberOf_It st a = some (.inr 1, (va_up st.1 1 1, st.2)) ∧ f_Md_is sm a 5 = some 0) := by
  have h1 : st.1 6 = nI (n 5) := hN.h (k := 5) (by decide) (by decide)
  have h2 : sm.2 0 5 = nI (n 5) := hN.m (k := 5) (by decide) (by decide)
  have h3 : n 5 ≤ 30 := hN.c (k := 5) (by decide) (by decide)
  rcases pIs_em 500 (n 5) a with ⟨j, hj, rfl⟩ | h
  · exact Or.inl ⟨j, hj, by omega, rfl, pq_It1 (by omega) h1 hj, pm_is1 (x := 5) (k := 5) rfl (by decide) (by omega) h2 hj⟩
  · exact Or.inr ⟨pq_It0 (by omega) h1 h, pm_is0 (x := 5) (k := 5) rfl (by decide) (by omega) h2 h⟩
theorem pm_It {st sm : pu_St} {n : Nat → Nat} (hN : qN n st.1 sm.1 (sm.2 0)) : (n 5 < 30 ∧ f_Rg_isFull_It st = some 0 ∧ ¬ (30 : Int32) ≤ nI (n 5)) ∨ (f_Rg_isFull_It st = some 1 ∧ (30 : Int32) ≤ nI (n 5)) := by
  have h1 : st.1 6 = nI (n 5) := hN.h (k := 5) (by decide) (by decide)
  have h3 : n 5 ≤ 30 := hN.c (k := 5) (by decide) (by decide)
  unfold f_Rg_isFull_It
  rw [h1]
  rcases Nat.lt_or_ge (n 5) 30 with h | h
  · have e := pN_lt (x := 30) (c := 30) rfl (by decide) h
    exact Or.inl ⟨h, if_pos e.1, e.2⟩
  · have e := pN_ge (x := 30) (c := 30) rfl (by omega) h
    exact Or.inr ⟨if_neg e.1, e.2⟩
theorem pl_It {st sm : pu_St} {n : Nat → Nat} (hN : qN n st.1 sm.1 (sm.2 0)) : pu_ld (sm.2 0) 10 5 = some (nI (n 5)) := by
  have h2 : sm.2 0 5 = nI (n 5) := hN.m (k := 5) (by decide) (by decide)
  rw [← h2]
  exact pu_ld_nI (j := 5) (by decide) (by decide)
theorem ps_It {st sm : pu_St} {n : Nat → Nat} (hN : qN n st.1 sm.1 (sm.2 0)) : st.1 6 = nI (n 5) := hN.h (k := 5) (by decide) (by decide)
theorem pk_So {st sm : pu_St} {n : Nat → Nat} (hN : qN n st.1 sm.1 (sm.2 0)) (a : Int32) : (∃ j, j < n 6 ∧ j < 16 ∧ a = nI (600 + j) ∧ f_H_numberOf_So st a = some (.inl (nI j), st) ∧ f_Md_is sm a 6 = some 1) ∨ (f_H_numberOf_So st a = some (.inr 1, (va_up st.1 1 1, st.2)) ∧ f_Md_is sm a 6 = some 0) := by
  have h1 : st.1 7 = nI (n 6) := hN.h (k := 6) (by decide) (by decide)
  have h2 : sm.2 0 6 = nI (n 6) := hN.m (k := 6) (by decide) (by decide)
  have h3 : n 6 ≤ 16 := hN.c (k := 6) (by decide) (by decide)
  rcases pIs_em 600 (n 6) a with ⟨j, hj, rfl⟩ | h
  · exact Or.inl ⟨j, hj, by omega, rfl, pq_So1 (by omega) h1 hj, pm_is1 (x := 6) (k := 6) rfl (by decide) (by omega) h2 hj⟩
  · exact Or.inr ⟨pq_So0 (by omega) h1 h, pm_is0 (x := 6) (k := 6) rfl (by decide) (by omega) h2 h⟩
theorem pm_So {st sm : pu_St} {n : Nat → Nat} (hN : qN n st.1 sm.1 (sm.2 0)) : (n 6 < 16 ∧ f_Rg_isFull_So st = some 0 ∧ ¬ (16 : Int32) ≤ nI (n 6)) ∨ (f_Rg_isFull_So st = some 1 ∧ (16 : Int32) ≤ nI (n 6)) := by
  have h1 : st.1 7 = nI (n 6) := hN.h (k := 6) (by decide) (by decide)
  have h3 : n 6 ≤ 16 := hN.c (k := 6) (by decide) (by decide)
  unfold f_Rg_isFull_So
  rw [h1]
  rcases Nat.lt_or_ge (n 6) 16 with h | h
  · have e := pN_lt (x := 16) (c := 16) rfl (by decide) h
    exact Or.inl ⟨h, if_pos e.1, e.2⟩
  · have e := pN_ge (x := 16) (c := 16) rfl (by omega) h
    exact Or.inr ⟨if_neg e.1, e.2⟩
theorem pl_So {st sm : pu_St} {n : Nat → Nat} (hN : qN n st.1 sm.1 (sm.2 0)) : pu_ld (sm.2 0) 10 6 = some (nI (n 6)) := by
  have h2 : sm.2 0 6 = nI (n 6) := hN.m (k := 6) (by decide) (by decide)
  rw [← h2]
  exact pu_ld_nI (j := 6) (by decide) (by decide)
theorem ps_So {st sm : pu_St} {n : Nat → Nat} (hN : qN n st.1 sm.1 (sm.2 0)) : st.1 7 = nI (n 6) := hN.h (k := 6) (by decide) (by decide)
theorem pk_Lo {st sm : pu_St} {n : Nat → Nat} (hN : qN n st.1 sm.1 (sm.2 0)) (a : Int32) : (∃ j, j < n 7 ∧ j < 40 ∧ a = nI (700 + j) ∧ f_H_numberOf_Lo st a = some (.inl (nI j), st) ∧ f_Md_is sm a 7 = some 1) ∨ (f_H_numberOf_Lo st a = some (.inr 1, (va_up st.1 1 1, st.2)) ∧ f_Md_is sm a 7 = some 0) := by
  have h1 : st.1 8 = nI (n 7) := hN.h (k := 7) (by decide) (by decide)
  have h2 : sm.2 0 7 = nI (n 7) := hN.m (k := 7) (by decide) (by decide)
  have h3 : n 7 ≤ 40 := hN.c (k := 7) (by decide) (by decide)
  rcases pIs_em 700 (n 7) a with ⟨j, hj, rfl⟩ | h
  · exact Or.inl ⟨j, hj, by omega, rfl, pq_Lo1 (by omega) h1 hj, pm_is1 (x := 7) (k := 7) rfl (by decide) (by omega) h2 hj⟩
  · exact Or.inr ⟨pq_Lo0 (by omega) h1 h, pm_is0 (x := 7) (k := 7) rfl (by decide) (by omega) h2 h⟩
theorem pm_Lo {st sm : pu_St} {n : Nat → Nat} (hN : qN n st.1 sm.1 (sm.2 0)) : (n 7 < 40 ∧ f_Rg_isFull_Lo st = some 0 ∧ ¬ (40 : Int32) ≤ nI (n 7)) ∨ (f_Rg_isFull_Lo st = some 1 ∧ (40 : Int32) ≤ nI (n 7)) := by
  have h1 : st.1 8 = nI (n 7) := hN.h (k := 7) (by decide) (by decide)
  have h3 : n 7 ≤ 40 := hN.c (k := 7) (by decide) (by decide)
  unfold f_Rg_isFull_Lo
  rw [h1]
  rcases Nat.lt_or_ge (n 7) 40 with h | h
  · have e := pN_lt (x := 40) (c := 40) rfl (by decide) h
    exact Or.inl ⟨h, if_pos e.1, e.2⟩
  · have e := pN_ge (x := 40) (c := 40) rfl (by omega) h
    exact Or.inr ⟨if_neg e.1, e.2⟩
theorem pl_Lo {st sm : pu_St} {n : Nat → Nat} (hN : qN n st.1 sm.1 (sm.2 0)) : pu_ld (sm.2 0) 10 7 = some (nI (n 7)) := by
  have h2 : sm.2 0 7 = nI (n 7) := hN.m (k := 7) (by decide) (by decide)
  rw [← h2]
  exact pu_ld_nI (j := 7) (by decide) (by decide)
theorem ps_Lo {st sm : pu_St} {n : Nat → Nat} (hN : qN n st.1 sm.1 (sm.2 0)) : st.1 8 = nI (n 7) := hN.h (k := 7) (by decide) (by decide)
theorem pk_Sh {st sm : pu_St} {n : Nat → Nat} (hN : qN n st.1 sm.1 (sm.2 0)) (a : Int32) : (∃ j, j < n 8 ∧ j < 10 ∧ a = nI (800 + j) ∧ f_H_numberOf_Sh st a = some (.inl (nI j), st) ∧ f_Md_is sm a 8 = some 1) ∨ (f_H_numberOf_Sh st a = some (.inr 1, (va_up st.1 1 1, st.2)) ∧ f_Md_is sm a 8 = some 0) := by
  have h1 : st.1 9 = nI (n 8) := hN.h (k := 8) (by decide) (by decide)
  have h2 : sm.2 0 8 = nI (n 8) := hN.m (k := 8) (by decide) (by decide)
  have h3 : n 8 ≤ 10 := hN.c (k := 8) (by decide) (by decide)
  rcases pIs_em 800 (n 8) a with ⟨j, hj, rfl⟩ | h
  · exact Or.inl ⟨j, hj, by omega, rfl, pq_Sh1 (by omega) h1 hj, pm_is1 (x := 8) (k := 8) rfl (by decide) (by omega) h2 hj⟩
  · exact Or.inr ⟨pq_Sh0 (by omega) h1 h, pm_is0 (x := 8) (k := 8) rfl (by decide) (by omega) h2 h⟩
theorem pm_Sh {st sm : pu_St} {n : Nat → Nat} (hN : qN n st.1 sm.1 (sm.2 0)) : (n 8 < 10 ∧ f_Rg_isFull_Sh st = some 0 ∧ ¬ (10 : Int32) ≤ nI (n 8)) ∨ (f_Rg_isFull_Sh st = some 1 ∧ (10 : Int32) ≤ nI (n 8)) := by
  have h1 : st.1 9 = nI (n 8) := hN.h (k := 8) (by decide) (by decide)
  have h3 : n 8 ≤ 10 := hN.c (k := 8) (by decide) (by decide)
  unfold f_Rg_isFull_Sh
  rw [h1]
  rcases Nat.lt_or_ge (n 8) 10 with h | h
  · have e := pN_lt (x := 10) (c := 10) rfl (by decide) h
    exact Or.inl ⟨h, if_pos e.1, e.2⟩
  · have e := pN_ge (x := 10) (c := 10) rfl (by omega) h
    exact Or.inr ⟨if_neg e.1, e.2⟩
theorem pl_Sh {st sm : pu_St} {n : Nat → Nat} (hN : qN n st.1 sm.1 (sm.2 0)) : pu_ld (sm.2 0) 10 8 = some (nI (n 8)) := by
  have h2 : sm.2 0 8 = nI (n 8) := hN.m (k := 8) (by decide) (by decide)
  rw [← h2]
  exact pu_ld_nI (j := 8) (by decide) (by decide)
theorem ps_Sh {st sm : pu_St} {n : Nat → Nat} (hN : qN n st.1 sm.1 (sm.2 0)) : st.1 9 = nI (n 8) := hN.h (k := 8) (by decide) (by decide)
theorem pk_Cl {st sm : pu_St} {n : Nat → Nat} (hN : qN n st.1 sm.1 (sm.2 0)) (a : Int32) : (∃ j, j < n 9 ∧ j < 20 ∧ a = nI (900 + j) ∧ f_H_numberOf_Cl st a = some (.inl (nI j), st) ∧ f_Md_is sm a 9 = some 1) ∨ (f_H_numberOf_Cl st a = some (.inr 1, (va_up st.1 1 1, st.2)) ∧ f_Md_is sm a 9 = some 0) := by
  have h1 : st.1 10 = nI (n 9) := hN.h (k := 9) (by decide) (by decide)
  have h2 : sm.2 0 9 = nI (n 9) := hN.m (k := 9) (by decide) (by decide)
  have h3 : n 9 ≤ 20 := hN.c (k := 9) (by decide) (by decide)
  rcases pIs_em 900 (n 9) a with ⟨j, hj, rfl⟩ | h
  · exact Or.inl ⟨j, hj, by omega, rfl, pq_Cl1 (by omega) h1 hj, pm_is1 (x := 9) (k := 9) rfl (by decide) (by omega) h2 hj⟩
  · exact Or.inr ⟨pq_Cl0 (by omega) h1 h, pm_is0 (x := 9) (k := 9) rfl (by decide) (by omega) h2 h⟩
theorem pm_Cl {st sm : pu_St} {n : Nat → Nat} (hN : qN n st.1 sm.1 (sm.2 0)) : (n 9 < 20 ∧ f_Rg_isFull_Cl st = some 0 ∧ ¬ (20 : Int32) ≤ nI (n 9)) ∨ (f_Rg_isFull_Cl st = some 1 ∧ (20 : Int32) ≤ nI (n 9)) := by
  have h1 : st.1 10 = nI (n 9) := hN.h (k := 9) (by decide) (by decide)
  have h3 : n 9 ≤ 20 := hN.c (k := 9) (by decide) (by decide)
  unfold f_Rg_isFull_Cl
  rw [h1]
  rcases Nat.lt_or_ge (n 9) 20 with h | h
  · have e := pN_lt (x := 20) (c := 20) rfl (by decide) h
    exact Or.inl ⟨h, if_pos e.1, e.2⟩
  · have e := pN_ge (x := 20) (c := 20) rfl (by omega) h
    exact Or.inr ⟨if_neg e.1, e.2⟩
theorem pl_Cl {st sm : pu_St} {n : Nat → Nat} (hN : qN n st.1 sm.1 (sm.2 0)) : pu_ld (sm.2 0) 10 9 = some (nI (n 9)) := by
  have h2 : sm.2 0 9 = nI (n 9) := hN.m (k := 9) (by decide) (by decide)
  rw [← h2]
  exact pu_ld_nI (j := 9) (by decide) (by decide)
theorem ps_Cl {st sm : pu_St} {n : Nat → Nat} (hN : qN n st.1 sm.1 (sm.2 0)) : st.1 10 = nI (n 9) := hN.h (k := 9) (by decide) (by decide)
theorem pH_De (m : Nat) : (100 : Int32) + nI m = nI (100 + m) := nI_add 100 m
theorem pd_De {st sm : pu_St} {n : Nat → Nat} (hN : qN n st.1 sm.1 (sm.2 0)) {A : Nat → Int32} {B : Nat → Nat → Int32} (h : B 0 = sm.2 0) : f_Md_made (A, B) 1 = some (nI (100 + n 1), (A, va_up B 0 (upd (sm.2 0) 1 (nI (n 1 + 1))))) := by
  have h2 : sm.2 0 1 = nI (n 1) := hN.m (k := 1) (by decide) (by decide)
  have h3 : n 1 ≤ 6 := hN.c (k := 1) (by decide) (by decide)
  rw [pm_made (sm := (A, B)) (x := 1) (k := 1) rfl (by decide) (n := n 1) (show B 0 1 = _ by rw [h]; exact h2) (by omega)]
  show some (nI (100 + n 1), (A, va_up B 0 (upd (B 0) 1 (nI (n 1 + 1))))) = _
  rw [h]
theorem pH_Si (m : Nat) : (200 : Int32) + nI m = nI (200 + m) := nI_add 200 m
theorem pd_Si {st sm : pu_St} {n : Nat → Nat} (hN : qN n st.1 sm.1 (sm.2 0)) {A : Nat → Int32} {B : Nat → Nat → Int32} (h : B 0 = sm.2 0) : f_Md_made (A, B) 2 = some (nI (200 + n 2), (A, va_up B 0 (upd (sm.2 0) 2 (nI (n 2 + 1))))) := by
  have h2 : sm.2 0 2 = nI (n 2) := hN.m (k := 2) (by decide) (by decide)
  have h3 : n 2 ≤ 4 := hN.c (k := 2) (by decide) (by decide)
  rw [pm_made (sm := (A, B)) (x := 2) (k := 2) rfl (by decide) (n := n 2) (show B 0 2 = _ by rw [h]; exact h2) (by omega)]
  show some (nI (200 + n 2), (A, va_up B 0 (upd (B 0) 2 (nI (n 2 + 1))))) = _
  rw [h]
theorem pH_Co (m : Nat) : (300 : Int32) + nI m = nI (300 + m) := nI_add 300 m
theorem pd_Co {st sm : pu_St} {n : Nat → Nat} (hN : qN n st.1 sm.1 (sm.2 0)) {A : Nat → Int32} {B : Nat → Nat → Int32} (h : B 0 = sm.2 0) : f_Md_made (A, B) 3 = some (nI (300 + n 3), (A, va_up B 0 (upd (sm.2 0) 3 (nI (n 3 + 1))))) := by
  have h2 : sm.2 0 3 = nI (n 3) := hN.m (k := 3) (by decide) (by decide)
  have h3 : n 3 ≤ 20 := hN.c (k := 3) (by decide) (by decide)
  rw [pm_made (sm := (A, B)) (x := 3) (k := 3) rfl (by decide) (n := n 3) (show B 0 3 = _ by rw [h]; exact h2) (by omega)]
  show some (nI (300 + n 3), (A, va_up B 0 (upd (B 0) 3 (nI (n 3 + 1))))) = _
  rw [h]
theorem pH_Fi (m : Nat) : (400 : Int32) + nI m = nI (400 + m) := nI_add 400 m
theorem pd_Fi {st sm : pu_St} {n : Nat → Nat} (hN : qN n st.1 sm.1 (sm.2 0)) {A : Nat → Int32} {B : Nat → Nat → Int32} (h : B 0 = sm.2 0) : f_Md_made (A, B) 4 = some (nI (400 + n 4), (A, va_up B 0 (upd (sm.2 0) 4 (nI (n 4 + 1))))) := by
  have h2 : sm.2 0 4 = nI (n 4) := hN.m (k := 4) (by decide) (by decide)
  have h3 : n 4 ≤ 30 := hN.c (k := 4) (by decide) (by decide)
  rw [pm_made (sm := (A, B)) (x := 4) (k := 4) rfl (by decide) (n := n 4) (show B 0 4 = _ by rw [h]; exact h2) (by omega)]
  show some (nI (400 + n 4), (A, va_up B 0 (upd (B 0) 4 (nI (n 4 + 1))))) = _
  rw [h]
theorem pH_It (m : Nat) : (500 : Int32) + nI m = nI (500 + m) := nI_add 500 m
theorem pd_It {st sm : pu_St} {n : Nat → Nat} (hN : qN n st.1 sm.1 (sm.2 0)) {A : Nat → Int32} {B : Nat → Nat → Int32} (h : B 0 = sm.2 0) : f_Md_made (A, B) 5 = some (nI (500 + n 5), (A, va_up B 0 (upd (sm.2 0) 5 (nI (n 5 + 1))))) := by
  have h2 : sm.2 0 5 = nI (n 5) := hN.m (k := 5) (by decide) (by decide)
  have h3 : n 5 ≤ 30 := hN.c (k := 5) (by decide) (by decide)
  rw [pm_made (sm := (A, B)) (x := 5) (k := 5) rfl (by decide) (n := n 5) (show B 0 5 = _ by rw [h]; exact h2) (by omega)]
  show some (nI (500 + n 5), (A, va_up B 0 (upd (B 0) 5 (nI (n 5 + 1))))) = _
  rw [h]
theorem pH_So (m : Nat) : (600 : Int32) + nI m = nI (600 + m) := nI_add 600 m
theorem pd_So {st sm : pu_St} {n : Nat → Nat} (hN : qN n st.1 sm.1 (sm.2 0)) {A : Nat → Int32} {B : Nat → Nat → Int32} (h : B 0 = sm.2 0) : f_Md_made (A, B) 6 = some (nI (600 + n 6), (A, va_up B 0 (upd (sm.2 0) 6 (nI (n 6 + 1))))) := by
  have h2 : sm.2 0 6 = nI (n 6) := hN.m (k := 6) (by decide) (by decide)
  have h3 : n 6 ≤ 16 := hN.c (k := 6) (by decide) (by decide)
  rw [pm_made (sm := (A, B)) (x := 6) (k := 6) rfl (by decide) (n := n 6) (show B 0 6 = _ by rw [h]; exact h2) (by omega)]
  show some (nI (600 + n 6), (A, va_up B 0 (upd (B 0) 6 (nI (n 6 + 1))))) = _
  rw [h]
theorem pH_Lo (m : Nat) : (700 : Int32) + nI m = nI (700 + m) := nI_add 700 m
theorem pd_Lo {st sm : pu_St} {n : Nat → Nat} (hN : qN n st.1 sm.1 (sm.2 0)) {A : Nat → Int32} {B : Nat → Nat → Int32} (h : B 0 = sm.2 0) : f_Md_made (A, B) 7 = some (nI (700 + n 7), (A, va_up B 0 (upd (sm.2 0) 7 (nI (n 7 + 1))))) := by
  have h2 : sm.2 0 7 = nI (n 7) := hN.m (k := 7) (by decide) (by decide)
  have h3 : n 7 ≤ 40 := hN.c (k := 7) (by decide) (by decide)
  rw [pm_made (sm := (A, B)) (x := 7) (k := 7) rfl (by decide) (n := n 7) (show B 0 7 = _ by rw [h]; exact h2) (by omega)]
  show some (nI (700 + n 7), (A, va_up B 0 (upd (B 0) 7 (nI (n 7 + 1))))) = _
  rw [h]
theorem pH_Sh (m : Nat) : (800 : Int32) + nI m = nI (800 + m) := nI_add 800 m
theorem pd_Sh {st sm : pu_St} {n : Nat → Nat} (hN : qN n st.1 sm.1 (sm.2 0)) {A : Nat → Int32} {B : Nat → Nat → Int32} (h : B 0 = sm.2 0) : f_Md_made (A, B) 8 = some (nI (800 + n 8), (A, va_up B 0 (upd (sm.2 0) 8 (nI (n 8 + 1))))) := by
  have h2 : sm.2 0 8 = nI (n 8) := hN.m (k := 8) (by decide) (by decide)
  have h3 : n 8 ≤ 10 := hN.c (k := 8) (by decide) (by decide)
  rw [pm_made (sm := (A, B)) (x := 8) (k := 8) rfl (by decide) (n := n 8) (show B 0 8 = _ by rw [h]; exact h2) (by omega)]
  show some (nI (800 + n 8), (A, va_up B 0 (upd (B 0) 8 (nI (n 8 + 1))))) = _
  rw [h]
theorem pH_Cl (m : Nat) : (900 : Int32) + nI m = nI (900 + m) := nI_add 900 m
theorem pd_Cl {st sm : pu_St} {n : Nat → Nat} (hN : qN n st.1 sm.1 (sm.2 0)) {A : Nat → Int32} {B : Nat → Nat → Int32} (h : B 0 = sm.2 0) : f_Md_made (A, B) 9 = some (nI (900 + n 9), (A, va_up B 0 (upd (sm.2 0) 9 (nI (n 9 + 1))))) := by
  have h2 : sm.2 0 9 = nI (n 9) := hN.m (k := 9) (by decide) (by decide)
  have h3 : n 9 ≤ 20 := hN.c (k := 9) (by decide) (by decide)
  rw [pm_made (sm := (A, B)) (x := 9) (k := 9) rfl (by decide) (n := n 9) (show B 0 9 = _ by rw [h]; exact h2) (by omega)]
  show some (nI (900 + n 9), (A, va_up B 0 (upd (B 0) 9 (nI (n 9 + 1))))) = _
  rw [h]
theorem pd_fin {x : Option (Int32 × pu_St)} {p : Int32 × pu_St} (h : x = some p) : (x.bind fun q => some (q.1, q.2)) = some p := by rw [h]; rfl
theorem pB1 : pBit 1 := Or.inl rfl
theorem pB2 : pBit 2 := Or.inr (Or.inl rfl)
theorem pB4 : pBit 4 := Or.inr (Or.inr (Or.inl rfl))
theorem pB8 : pBit 8 := Or.inr (Or.inr (Or.inr (Or.inl rfl)))
theorem pB16 : pBit 16 := Or.inr (Or.inr (Or.inr (Or.inr (Or.inl rfl))))
theorem pB32 : pBit 32 := Or.inr (Or.inr (Or.inr (Or.inr (Or.inr rfl))))
theorem ph_0 (sm : pu_St) : f_Md_holds sm 0 = some (1, (va_up (va_up sm.1 1 (sm.1 1)) 0 0, sm.2)) := (rfl)
theorem ph_1 (sm : pu_St) : f_Md_holds sm 1 = some (0, (va_up (va_up sm.1 1 1) 0 1, sm.2)) := (rfl)
theorem ph_2 (sm : pu_St) : f_Md_holds sm 2 = some (0, (va_up (va_up sm.1 1 2) 0 2, sm.2)) := (rfl)
theorem ph_3 (sm : pu_St) : f_Md_holds sm 3 = some (0, (va_up (va_up sm.1 1 3) 0 2, sm.2)) := (rfl)
theorem ph_4 (sm : pu_St) : f_Md_holds sm 4 = some (0, (va_up (va_up sm.1 1 4) 0 3, sm.2)) := (rfl)
theorem ph_5 (sm : pu_St) : f_Md_holds sm 5 = some (0, (va_up (va_up sm.1 1 5) 0 3, sm.2)) := (rfl)
theorem ph_6 (sm : pu_St) : f_Md_holds sm 6 = some (0, (va_up (va_up sm.1 1 6) 0 3, sm.2)) := (rfl)
theorem ph_7 (sm : pu_St) : f_Md_holds sm 7 = some (0, (va_up (va_up sm.1 1 7) 0 3, sm.2)) := (rfl)
theorem ph_8 (sm : pu_St) : f_Md_holds sm 8 = some (0, (va_up (va_up sm.1 1 8) 0 3, sm.2)) := (rfl)
theorem ph_9 (sm : pu_St) : f_Md_holds sm 9 = some (0, (va_up (va_up sm.1 1 9) 0 3, sm.2)) := (rfl)
theorem ph_10 (sm : pu_St) : f_Md_holds sm 10 = some (0, (va_up (va_up sm.1 1 10) 0 3, sm.2)) := (rfl)
theorem ph_11 (sm : pu_St) : f_Md_holds sm 11 = some (0, (va_up (va_up sm.1 1 11) 0 3, sm.2)) := (rfl)
theorem ph_12 (sm : pu_St) : f_Md_holds sm 12 = some (0, (va_up (va_up sm.1 1 12) 0 3, sm.2)) := (rfl)
theorem ph_13 (sm : pu_St) : f_Md_holds sm 13 = some (0, (va_up (va_up sm.1 1 13) 0 3, sm.2)) := (rfl)
theorem ph_14 (sm : pu_St) : f_Md_holds sm 14 = some (0, (va_up (va_up sm.1 1 14) 0 3, sm.2)) := (rfl)
theorem ph_15 (sm : pu_St) : f_Md_holds sm 15 = some (0, (va_up (va_up sm.1 1 15) 0 3, sm.2)) := (rfl)
theorem ph_16 (sm : pu_St) : f_Md_holds sm 16 = some (0, (va_up (va_up sm.1 1 16) 0 3, sm.2)) := (rfl)
theorem ph_17 (sm : pu_St) : f_Md_holds sm 17 = some (0, (va_up (va_up sm.1 1 17) 0 3, sm.2)) := (rfl)

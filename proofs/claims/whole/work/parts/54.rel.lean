/-! PURE: the house's state and the reference's agree -/
def pCap (k : Nat) : Nat := match k with | 1 => 6 | 2 => 4 | 3 => 20 | 4 => 30 | 5 => 30 | 6 => 16 | 7 => 40 | 8 => 10 | 9 => 20 | _ => 0
/-- the bit j of x is off -/
abbrev pOff (x : Int32) (j : Nat) : Prop := (x &&& ((1 : Int32) <<< (nI j &&& 31))) = 0
def qN (n : Nat → Nat) (h m many : Nat → Int32) : Prop :=
  (∃ t, t ≤ 9999 ∧ h 0 = nI t ∧ m 2 = nI t) ∧ h 1 = m 1 ∧ (∀ k, 1 ≤ k → k ≤ 9 → h (k + 1) = nI (n k)) ∧ (∀ k, 1 ≤ k → k ≤ 9 → many k = nI (n k)) ∧ ∀ k, 1 ≤ k → k ≤ 9 → n k ≤ pCap k
def qD (n : Nat) (hr mr : Nat → Int32) : Prop := 1 ≤ n ∧ ∀ j, j < n → ∃ v, v < 64 ∧ hr j = nI v ∧ mr j = nI v
def qC (n2 n3 : Nat) (hs hf hl hb ms mf ml mt : Nat → Int32) : Prop :=
  ∃ (S F L : Nat → Nat) (T : Nat → Nat → Prop), (∀ j, j < n3 → S j < n2 ∧ hs j = nI (S j) ∧ ms j = nI (200 + S j)) ∧ (∀ j, j < n3 → F j ≤ 999 ∧ hf j = nI (F j) ∧ mf j = nI (F j)) ∧ (∀ j, j < n3 → L j ≤ 999 ∧ hl j = nI (L j) ∧ ml j = nI (L j)) ∧
    (∀ i j, T i j → i < n3 ∧ j < n3) ∧ (∀ i j, i < 20 → j < 20 → (mt (20 * i + j) = 1 ∧ T i j) ∨ (mt (20 * i + j) = 0 ∧ ¬ T i j)) ∧ (∀ i j, i < n3 → j < 20 → (pOff (hb i) j ↔ ¬ Relation.TransGen T i j)) ∧
    (∀ i, ¬ Relation.TransGen T i i) ∧ (∀ j, j < n3 → F j ≤ L j) ∧ ∀ u d, Relation.TransGen T u d → F d ≤ L u
def qF (n3 n4 : Nat) (hc hd mc md : Nat → Int32) : Prop := ∀ j, j < n4 → ∃ c d, c < n3 ∧ d ≤ 9999 ∧ hc j = nI c ∧ mc j = nI (300 + c) ∧ hd j = nI d ∧ md j = nI d
def qI (n4 n5 : Nat) (hf hd mf fd : Nat → Int32) : Prop := ∀ j, j < n5 → ∃ f d, f < n4 ∧ d ≤ 9999 ∧ hf j = nI f ∧ mf j = nI (400 + f) ∧ hd j = nI d ∧ fd f = nI d
def qM (n6 : Nat) (hd ht hc md mt mc : Nat → Int32) : Prop := ∀ o, o < 30 → ∃ c, c ≤ 12 ∧ hc o = nI c ∧ mc o = nI c ∧
  (∀ k, k < c → ∃ d s, d ≤ 9999 ∧ s < n6 ∧ hd (12 * o + k) = nI d ∧ md (12 * o + k) = nI d ∧ ht (12 * o + k) = nI s ∧ mt (12 * o + k) = nI (600 + s)) ∧ ∀ k k', k < c → k' < c → hd (12 * o + k) = hd (12 * o + k') → k = k'
def qS (n6 : Nat) (hp mp : Nat → Int32) : Prop := ∃ P : Nat → Nat → Prop, (∀ j, j < n6 → (hp j = -1 ∧ mp j = -1 ∧ ∀ p, ¬ P j p) ∨ ∃ p, p < n6 ∧ hp j = nI p ∧ mp j = nI p ∧ ∀ q, P j q ↔ q = p) ∧ (∀ i j, P i j → i < n6 ∧ j < n6) ∧ ∀ i, ¬ Relation.TransGen P i i
def qL (n5 n7 : Nat) (hi hf ht mi mf mt : Nat → Int32) : Prop := ∃ I F T : Nat → Nat, (∀ j, j < n7 → I j < n5 ∧ F j ≤ 9999 ∧ T j ≤ 9999 ∧ hi j = nI (I j) ∧ mi j = nI (500 + I j) ∧ hf j = nI (F j) ∧ mf j = nI (F j) ∧ ht j = nI (T j) ∧ mt j = nI (T j)) ∧
  ∀ j k, j < n7 → k < n7 → j ≠ k → I j = I k → T j < F k ∨ T k < F j
def qW (n5 n6 n8 : Nat) (hs hf ht hh ms mf mt mh : Nat → Int32) : Prop := ∃ (S F T : Nat → Nat) (U : Nat → Nat → Prop), (∀ j, j < n8 → S j < n6 ∧ F j ≤ 9999 ∧ T j ≤ 9999 ∧ hs j = nI (S j) ∧ ms j = nI (600 + S j) ∧ hf j = nI (F j) ∧ mf j = nI (F j) ∧ ht j = nI (T j) ∧ mt j = nI (T j)) ∧
  (∀ j o, U j o → j < n8 ∧ o < n5) ∧ (∀ j o, j < 10 → o < 30 → (mh (30 * j + o) = 1 ∧ U j o) ∨ (mh (30 * j + o) = 0 ∧ ¬ U j o)) ∧ (∀ j o, j < n8 → o < 30 → (pOff (hh j) o ↔ ¬ U j o)) ∧
  ∀ j k o, j ≠ k → U j o → U k o → T j < F k ∨ T k < F j
def qK (n5 n9 : Nat) (hi hs ho mi ms mo : Nat → Int32) : Prop := ∀ j, j < n9 → ∃ i s b, i < n5 ∧ s ≤ 9 ∧ (b = 0 ∨ b = 1) ∧ hi j = nI i ∧ mi j = nI (500 + i) ∧ hs j = nI s ∧ ms j = nI s ∧ ho j = nI b ∧ mo j = nI b
/-- all but the numbers -/
def qA (n : Nat → Nat) (h m : Nat → Nat → Int32) : Prop :=
  qD (n 1) (h 0) (m 1) ∧ qC (n 2) (n 3) (h 1) (h 2) (h 3) (h 4) (m 2) (m 3) (m 4) (m 5) ∧ qF (n 3) (n 4) (h 5) (h 6) (m 7) (m 8) ∧ qI (n 4) (n 5) (h 7) (h 8) (m 9) (m 8) ∧ qM (n 6) (h 9) (h 10) (h 11) (m 12) (m 13) (m 11) ∧ qS (n 6) (h 12) (m 10) ∧
  qL (n 5) (n 7) (h 13) (h 14) (h 15) (m 14) (m 15) (m 16) ∧ qW (n 5) (n 6) (n 8) (h 16) (h 17) (h 18) (h 19) (m 17) (m 18) (m 19) (m 20) ∧ qK (n 5) (n 9) (h 20) (h 21) (h 22) (m 21) (m 22) (m 23)
def pRel (st sm : pu_St) : Prop := ∃ n : Nat → Nat, qN n st.1 sm.1 (sm.2 0) ∧ qA n st.2 sm.2
/-- a refusal: the rule is noted on both sides, nothing else -/
theorem qN.ref {n : Nat → Nat} {h m many : Nat → Int32} (hN : qN n h m many) (x k : Int32) : qN n (va_up h 1 x) (va_up (va_up m 1 x) 0 k) many := by
  obtain ⟨⟨t, t1, t2, t3⟩, h1, h2, h3, h4⟩ := hN
  refine ⟨⟨t, t1, ?_, ?_⟩, ?_, fun i a b => ?_, h3, h4⟩
  · simp [va_up, t2]
  · simp [va_up, t3]
  · simp [va_up]
  · rw [va_up_ne _ _ (show i + 1 ≠ 1 by omega)]; exact h2 i a b
/-- a call that is not refused: the reference notes that -/
theorem qN.acc {n : Nat → Nat} {h m many : Nat → Int32} (hN : qN n h m many) : qN n h (va_up (va_up m 1 (m 1)) 0 0) many := by
  obtain ⟨⟨t, t1, t2, t3⟩, h1, h2, h3, h4⟩ := hN
  refine ⟨⟨t, t1, t2, ?_⟩, ?_, h2, h3, h4⟩
  · simp [va_up, t3]
  · simp [va_up, h1]
theorem qN.h {n : Nat → Nat} {h m many : Nat → Int32} (hN : qN n h m many) {k : Nat} (a : 1 ≤ k) (b : k ≤ 9) : h (k + 1) = nI (n k) := hN.2.2.1 k a b
theorem qN.m {n : Nat → Nat} {h m many : Nat → Int32} (hN : qN n h m many) {k : Nat} (a : 1 ≤ k) (b : k ≤ 9) : many k = nI (n k) := hN.2.2.2.1 k a b
theorem qN.c {n : Nat → Nat} {h m many : Nat → Int32} (hN : qN n h m many) {k : Nat} (a : 1 ≤ k) (b : k ≤ 9) : n k ≤ pCap k := hN.2.2.2.2 k a b
/-- one more of a kind -/
theorem qN.one {n : Nat → Nat} {h m many : Nat → Int32} (hN : qN n h m many) {k : Nat} (a : 1 ≤ k) (b : k ≤ 9) (hc : n k < pCap k) {x y : Int32} (hx : x = nI (n k + 1)) (hy : y = nI (n k + 1)) : qN (va_up n k (n k + 1)) (va_up h (k + 1) x) m (upd many k y) := by
  obtain ⟨⟨t, t1, t2, t3⟩, h1, h2, h3, h4⟩ := hN
  refine ⟨⟨t, t1, ?_, t3⟩, ?_, fun i p q => ?_, fun i p q => ?_, fun i p q => ?_⟩
  · rw [va_up_ne _ _ (show 0 ≠ k + 1 by omega)]; exact t2
  · rw [va_up_ne _ _ (show 1 ≠ k + 1 by omega)]; exact h1
  · by_cases e : i = k
    · subst e; simp [va_up, hx]
    · rw [va_up_ne _ _ (show i + 1 ≠ k + 1 by omega), va_up_ne _ _ e]; exact h2 i p q
  · by_cases e : i = k
    · subst e; simp [va_up, upd, hy]
    · rw [va_up_ne _ _ e]; simp only [upd, if_neg e]; exact h3 i p q
  · by_cases e : i = k
    · subst e; simp only [va_up, if_pos]; omega
    · rw [va_up_ne _ _ e]; exact h4 i p q
/-- the small functions of the reference's -/
theorem pm_holds0 (sm : pu_St) : f_Md_holds sm 0 = some (1, (va_up (va_up sm.1 1 (sm.1 1)) 0 0, sm.2)) := rfl
theorem pm_holdsN (sm : pu_St) {k : Nat} (h0 : 1 ≤ k) (h : k ≤ 17) : f_Md_holds sm (nI k) = some (0, (va_up (va_up sm.1 1 (nI k)) 0 (if k = 1 then 1 else if k < 4 then 2 else 3), sm.2)) := by
  have hk : k = 1 ∨ k = 2 ∨ k = 3 ∨ k = 4 ∨ k = 5 ∨ k = 6 ∨ k = 7 ∨ k = 8 ∨ k = 9 ∨ k = 10 ∨ k = 11 ∨ k = 12 ∨ k = 13 ∨ k = 14 ∨ k = 15 ∨ k = 16 ∨ k = 17 := by omega
  rcases hk with rfl | rfl | rfl | rfl | rfl | rfl | rfl | rfl | rfl | rfl | rfl | rfl | rfl | rfl | rfl | rfl | rfl <;> rfl
theorem pm_short0 (sm : pu_St) : f_Md_holdsShort sm 0 = some (1, (va_up (va_up sm.1 1 (sm.1 1)) 0 0, sm.2)) := rfl
theorem pm_short1 (sm : pu_St) : f_Md_holdsShort sm 1 = some (0, (va_up (va_up sm.1 1 1) 0 1, sm.2)) := rfl
theorem pm_short4 (sm : pu_St) : f_Md_holdsShort sm 4 = some (0, (va_up (va_up sm.1 1 4) 0 2, sm.2)) := rfl
/-- a right: one bit -/
def pBit (r : Int32) : Prop := r = 1 ∨ r = 2 ∨ r = 4 ∨ r = 8 ∨ r = 16 ∨ r = 32
theorem pr_bit {v : Nat} (hv : v < 64) {r : Int32} (hr : pBit r) : (nI v &&& r) = r ↔ ¬ (nI v &&& r) ≤ 0 := by
  have h : ∀ v : Fin 64, ∀ r ∈ ([1, 2, 4, 8, 16, 32] : List Int32), (nI v.val &&& r) = r ↔ ¬ (nI v.val &&& r) ≤ 0 := by decide +kernel
  exact h ⟨v, hv⟩ r (by rcases hr with rfl | rfl | rfl | rfl | rfl | rfl <;> simp)
/-- the desk's right, on both sides -/
theorem ph_right {st : pu_St} {j v : Nat} (hj : j < 6) (hv : st.2 0 j = nI v) (r : Int32) : f_H_askRight st (nI j) r = if (nI v &&& r) = r then some (.inl 0, st) else some (.inr 2, (va_up st.1 1 2, st.2)) := by
  unfold f_H_askRight f_De_hasAll
  rw [pu_ld_nI hj (by decide), hv]
  show ((if (nI v &&& r) = r then some (1 : Int32) else some 0).bind _) = _
  by_cases h : (nI v &&& r) = r
  · rw [if_pos h, if_pos h]; rfl
  · rw [if_neg h, if_neg h]; rfl
theorem pm_first0 {sm : pu_St} (d r z : Int32) : f_Md_first sm 0 d r z = some 1 := rfl
theorem pm_first1 {sm : pu_St} {n : Nat} (hn : n ≤ 100) (hm : sm.2 0 1 = nI n) {t d r z : Int32} (h : ¬ pIs 100 n d) : f_Md_first sm t d r z = some 1 := by
  unfold f_Md_first
  by_cases ht : t = 0
  · rw [if_pos ht]
  · have e : f_Md_is sm d 1 = some 0 := pm_is0 (x := 1) (k := 1) rfl (by decide) hn hm h
    rw [if_neg ht, e]; rfl
theorem pm_firstJ {sm : pu_St} {n j v : Nat} (hn : n ≤ 6) (hm : sm.2 0 1 = nI n) (hj : j < n) (hv : sm.2 1 j = nI v) (hv64 : v < 64) {r z : Int32} (hr : pBit r) : f_Md_first sm 1 (nI (100 + j)) r z = if (nI v &&& r) = r then (if z = 0 then some 3 else some 0) else some 2 := by
  unfold f_Md_first
  have e0 : f_Md_is sm (nI (100 + j)) 1 = some 1 := pm_is1 (x := 1) (k := 1) rfl (by decide) (by omega) hm hj
  rw [if_neg (show ¬ (1 : Int32) = 0 by decide), e0]
  show (if (1 : Int32) = 0 then some 1 else _) = _
  rw [if_neg (show ¬ (1 : Int32) = 0 by decide)]
  unfold f_Md_may
  have e : nI (100 + j) - 100 = nI j := pu_sub
  rw [e, pu_ld_nI (by omega) (by decide), hv]
  show ((if (nI v &&& r) ≤ 0 then some (0 : Int32) else some 1).bind _) = _
  by_cases h : (nI v &&& r) = r
  · rw [if_neg ((pr_bit hv64 hr).mp h), if_pos h]; rfl
  · rw [if_pos (Classical.not_not.mp (fun q => h ((pr_bit hv64 hr).mpr q))), if_neg h]; rfl
theorem pm_made {sm : pu_St} {k n : Nat} {x : Int32} (hx : x = nI k) (hk : k < 10) (hn : sm.2 0 k = nI n) (hn1 : n ≤ 100) : f_Md_made sm x = some (nI (100 * k + n), (sm.1, va_up sm.2 0 (upd (sm.2 0) k (nI (n + 1))))) := by
  subst hx
  unfold f_Md_made
  rw [pu_ld_nI hk (by decide), hn]
  show (pu_sd (sm.2 0) 10 (nI k) (nI n + 1)).bind _ = _
  rw [nI_1, pu_sd_nI hk (by decide)]
  show (pu_ld (upd (sm.2 0) k (nI (n + 1))) 10 (nI k)).bind _ = _
  rw [pu_ld_nI hk (by decide), pk_us]
  show some (((100 * nI k) + nI (n + 1) - 1), _) = _
  have e1 : (100 : Int32) * nI k = nI (100 * k) := pk_mul 100 k
  rw [e1, nI_add, ← Nat.add_assoc, nI_pred]

/-! PURE: more of one kind, and what it leaves as it was -/
theorem qC.mono {n2 n2' n3 : Nat} {hs hf hl hb ms mf ml mt : Nat → Int32} (h : qC n2 n3 hs hf hl hb ms mf ml mt) (l : n2 ≤ n2') : qC n2' n3 hs hf hl hb ms mf ml mt := by
  obtain ⟨S, F, L, T, h1, h2⟩ := h
  exact ⟨S, F, L, T, fun j hj => ⟨Nat.lt_of_lt_of_le (h1 j hj).1 l, (h1 j hj).2⟩, h2⟩
theorem qF.mono {n3 n3' n4 : Nat} {hc hd mc md : Nat → Int32} (h : qF n3 n4 hc hd mc md) (l : n3 ≤ n3') : qF n3' n4 hc hd mc md := by
  intro j hj
  obtain ⟨c, d, h1, h2⟩ := h j hj
  exact ⟨c, d, Nat.lt_of_lt_of_le h1 l, h2⟩
theorem qM.mono {n6 n6' : Nat} {hd ht hc md mt mc : Nat → Int32} (h : qM n6 hd ht hc md mt mc) (l : n6 ≤ n6') : qM n6' hd ht hc md mt mc := by
  intro o ho
  obtain ⟨c, h1, h2, h3, h4, h5⟩ := h o ho
  refine ⟨c, h1, h2, h3, fun k hk => ?_, h5⟩
  obtain ⟨d, s, q1, q2, q3⟩ := h4 k hk
  exact ⟨d, s, q1, Nat.lt_of_lt_of_le q2 l, q3⟩
theorem qL.mono {n5 n5' n7 : Nat} {hi hf ht mi mf mt : Nat → Int32} (h : qL n5 n7 hi hf ht mi mf mt) (l : n5 ≤ n5') : qL n5' n7 hi hf ht mi mf mt := by
  obtain ⟨I, F, T, h1, h2⟩ := h
  exact ⟨I, F, T, fun j hj => ⟨Nat.lt_of_lt_of_le (h1 j hj).1 l, (h1 j hj).2⟩, h2⟩
theorem qW.mono {n5 n5' n6 n6' n8 : Nat} {hs hf ht hh ms mf mt mh : Nat → Int32} (h : qW n5 n6 n8 hs hf ht hh ms mf mt mh) (l : n5 ≤ n5') (l' : n6 ≤ n6') : qW n5' n6' n8 hs hf ht hh ms mf mt mh := by
  obtain ⟨S, F, T, U, h1, h2, h3⟩ := h
  exact ⟨S, F, T, U, fun j hj => ⟨Nat.lt_of_lt_of_le (h1 j hj).1 l', (h1 j hj).2⟩, fun j o hu => ⟨(h2 j o hu).1, Nat.lt_of_lt_of_le (h2 j o hu).2 l⟩, h3⟩
theorem qK.mono {n5 n5' n9 : Nat} {hi hs ho mi ms mo : Nat → Int32} (h : qK n5 n9 hi hs ho mi ms mo) (l : n5 ≤ n5') : qK n5' n9 hi hs ho mi ms mo := by
  intro j hj
  obtain ⟨i, s, b, h1, h2⟩ := h j hj
  exact ⟨i, s, b, Nat.lt_of_lt_of_le h1 l, h2⟩
theorem pu_old {f : Nat → Int32} {n j : Nat} {x : Int32} (h : j < n) : upd f n x j = f j := pk_un (Nat.ne_of_lt h)
/-- one more, at the end -/
theorem pu_lt1 {j n : Nat} (h : j < n + 1) : j < n ∨ j = n := by omega
theorem qD.add {n : Nat} {hr mr : Nat → Int32} (h : qD n hr mr) {v : Nat} (hv : v < 64) : qD (n + 1) (upd hr n (nI v)) (upd mr n (nI v)) := by
  refine ⟨by omega, fun j hj => ?_⟩
  rcases pu_lt1 hj with q | rfl
  · rw [pu_old q, pu_old q]; exact h.2 j q
  · rw [pk_us, pk_us]; exact ⟨v, hv, rfl, rfl⟩
theorem qF.add {n3 n4 : Nat} {hc hd mc md : Nat → Int32} (h : qF n3 n4 hc hd mc md) {c d : Nat} (hc1 : c < n3) (hd1 : d ≤ 9999) : qF n3 (n4 + 1) (upd hc n4 (nI c)) (upd hd n4 (nI d)) (upd mc n4 (nI (300 + c))) (upd md n4 (nI d)) := by
  intro j hj
  rcases pu_lt1 hj with q | rfl
  · simp only [pu_old q]; exact h j q
  · simp only [pk_us]; exact ⟨c, d, hc1, hd1, rfl, rfl, rfl, rfl⟩
theorem qI.monoF {n4 n5 : Nat} {hf hd mf fd : Nat → Int32} (h : qI n4 n5 hf hd mf fd) (x : Int32) : qI (n4 + 1) n5 hf hd mf (upd fd n4 x) := by
  intro j hj
  obtain ⟨f, d, h1, h2, h3, h4, h5, h6⟩ := h j hj
  exact ⟨f, d, by omega, h2, h3, h4, h5, by rw [pu_old h1]; exact h6⟩
theorem qI.add {n4 n5 : Nat} {hf hd mf fd : Nat → Int32} (h : qI n4 n5 hf hd mf fd) {f d : Nat} (hf1 : f < n4) (hd1 : d ≤ 9999) (e : fd f = nI d) : qI n4 (n5 + 1) (upd hf n5 (nI f)) (upd hd n5 (nI d)) (upd mf n5 (nI (400 + f))) fd := by
  intro j hj
  rcases pu_lt1 hj with q | rfl
  · simp only [pu_old q]; exact h j q
  · simp only [pk_us]; exact ⟨f, d, hf1, hd1, rfl, rfl, rfl, e⟩
theorem qK.add {n5 n9 : Nat} {hi hs ho mi ms mo : Nat → Int32} (h : qK n5 n9 hi hs ho mi ms mo) {i s : Nat} (hi1 : i < n5) (hs1 : s ≤ 9) : qK n5 (n9 + 1) (upd hi n9 (nI i)) (upd hs n9 (nI s)) (upd ho n9 1) (upd mi n9 (nI (500 + i))) (upd ms n9 (nI s)) (upd mo n9 1) := by
  intro j hj
  rcases pu_lt1 hj with q | rfl
  · simp only [pu_old q]; exact h j q
  · simp only [pk_us]; exact ⟨i, s, 1, hi1, hs1, Or.inr rfl, rfl, rfl, rfl, rfl, rfl, rfl⟩
theorem qL.add {n5 n7 : Nat} {hi hf ht mi mf mt : Nat → Int32} (h : qL n5 n7 hi hf ht mi mf mt) {i f t : Nat} (hi1 : i < n5) (hf1 : f ≤ 9999) (ht1 : t ≤ 9999) (free : ∀ j, j < n7 → hi j = nI i → ¬ (hf j ≤ nI t ∧ nI f ≤ ht j)) (h30 : n5 ≤ 30) :
    qL n5 (n7 + 1) (upd hi n7 (nI i)) (upd hf n7 (nI f)) (upd ht n7 (nI t)) (upd mi n7 (nI (500 + i))) (upd mf n7 (nI f)) (upd mt n7 (nI t)) := by
  obtain ⟨I, F, T, h1, h2⟩ := h
  have fr : ∀ j, j < n7 → I j = i → T j < f ∨ t < F j := by
    intro j hj e
    obtain ⟨q1, q2, q3, q4, q5, q6, q7, q8, q9⟩ := h1 j hj
    have := free j hj (by rw [q4, e])
    rw [q6, q8, nI_leI (by omega) (by omega), nI_leI (by omega) (by omega)] at this
    omega
  refine ⟨va_up I n7 i, va_up F n7 f, va_up T n7 t, fun j hj => ?_, fun j k hj hk hjk he => ?_⟩
  · rcases pu_lt1 hj with q | rfl
    · simp only [pu_old q, va_up_ne _ _ (Nat.ne_of_lt q)]; exact h1 j q
    · simp only [pk_us, va_up_self]; exact ⟨hi1, hf1, ht1, by simp⟩
  · rcases pu_lt1 hj with q | rfl
    · rcases pu_lt1 hk with q' | rfl
      · simp only [va_up_ne _ _ (Nat.ne_of_lt q), va_up_ne _ _ (Nat.ne_of_lt q')] at he ⊢; exact h2 j k q q' hjk he
      · simp only [va_up_ne _ _ (Nat.ne_of_lt q), va_up_self] at he ⊢; exact fr j q he
    · rcases pu_lt1 hk with q' | rfl
      · simp only [va_up_ne _ _ (Nat.ne_of_lt q'), va_up_self] at he ⊢; exact (fr k q' he.symm).symm
      · exact absurd rfl hjk
theorem qW.add {n5 n6 n8 : Nat} {hs hf ht hh ms mf mt mh : Nat → Int32} (h : qW n5 n6 n8 hs hf ht hh ms mf mt mh) {s f t : Nat} (hs1 : s < n6) (hf1 : f ≤ 9999) (ht1 : t ≤ 9999) :
    qW n5 n6 (n8 + 1) (upd hs n8 (nI s)) (upd hf n8 (nI f)) (upd ht n8 (nI t)) (upd hh n8 0) (upd ms n8 (nI (600 + s))) (upd mf n8 (nI f)) (upd mt n8 (nI t)) mh := by
  obtain ⟨S, F, T, U, h1, h2, h3, h4, h5⟩ := h
  refine ⟨va_up S n8 s, va_up F n8 f, va_up T n8 t, U, fun j hj => ?_, fun j o hu => ?_, h3, fun j o hj ho => ?_, fun j k o hjk u1 u2 => ?_⟩
  · rcases pu_lt1 hj with q | rfl
    · simp only [pu_old q, va_up_ne _ _ (Nat.ne_of_lt q)]; exact h1 j q
    · simp only [pk_us, va_up_self]; exact ⟨hs1, hf1, ht1, by simp⟩
  · have := h2 j o hu; exact ⟨by omega, this.2⟩
  · rcases pu_lt1 hj with q | rfl
    · simp only [pu_old q]; exact h4 j o q ho
    · simp only [pk_us]
      refine ⟨fun _ hu => absurd (h2 _ o hu).1 (Nat.lt_irrefl _), fun _ => ?_⟩
      show (0 : Int32) &&& _ = 0
      exact Int32.zero_and
  · have q1 := (h2 j o u1).1
    have q2 := (h2 k o u2).1
    simp only [va_up_ne _ _ (Nat.ne_of_lt q1), va_up_ne _ _ (Nat.ne_of_lt q2)]
    exact h5 j k o hjk u1 u2
theorem pT_in {n : Nat} {T : Nat → Nat → Prop} (h : ∀ i j, T i j → i < n ∧ j < n) {i j : Nat} (t : Relation.TransGen T i j) : i < n ∧ j < n := by
  induction t with
  | single h0 => exact h _ _ h0
  | tail _ h0 ih => exact ⟨ih.1, (h _ _ h0).2⟩
theorem qC.add {n2 n3 : Nat} {hs hf hl hb ms mf ml mt : Nat → Int32} (h : qC n2 n3 hs hf hl hb ms mf ml mt) {s : Nat} (hs1 : s < n2) :
    qC n2 (n3 + 1) (upd hs n3 (nI s)) (upd hf n3 0) (upd hl n3 999) (upd hb n3 0) (upd ms n3 (nI (200 + s))) (upd mf n3 0) (upd ml n3 999) mt := by
  obtain ⟨S, F, L, T, h1, h2, h3, h4, h5, h6, h7, h8, h9⟩ := h
  refine ⟨va_up S n3 s, va_up F n3 0, va_up L n3 999, T, fun j hj => ?_, fun j hj => ?_, fun j hj => ?_, fun i j t => ?_, h5, fun i j hi hj => ?_, h7, fun j hj => ?_, fun u d t => ?_⟩
  · rcases pu_lt1 hj with q | rfl
    · simp only [pu_old q, va_up_ne _ _ (Nat.ne_of_lt q)]; exact h1 j q
    · simp only [pk_us, va_up_self]; exact ⟨hs1, by simp⟩
  · rcases pu_lt1 hj with q | rfl
    · simp only [pu_old q, va_up_ne _ _ (Nat.ne_of_lt q)]; exact h2 j q
    · simp only [pk_us, va_up_self]; exact ⟨by omega, rfl, rfl⟩
  · rcases pu_lt1 hj with q | rfl
    · simp only [pu_old q, va_up_ne _ _ (Nat.ne_of_lt q)]; exact h3 j q
    · simp only [pk_us, va_up_self]; exact ⟨by omega, rfl, rfl⟩
  · have := h4 i j t; omega
  · rcases pu_lt1 hi with q | rfl
    · simp only [pu_old q]; exact h6 i j q hj
    · simp only [pk_us]
      refine ⟨fun _ hu => absurd (pT_in h4 hu).1 (Nat.lt_irrefl _), fun _ => ?_⟩
      show (0 : Int32) &&& _ = 0
      exact Int32.zero_and
  · rcases pu_lt1 hj with q | rfl
    · simp only [va_up_ne _ _ (Nat.ne_of_lt q)]; exact h8 j q
    · simp only [va_up_self]; omega
  · have q := pT_in h4 t
    simp only [va_up_ne _ _ (Nat.ne_of_lt q.1), va_up_ne _ _ (Nat.ne_of_lt q.2)]
    exact h9 u d t

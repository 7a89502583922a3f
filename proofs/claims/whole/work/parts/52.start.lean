def st0H : pu_St := (fun k => match k with | 2 => 0 + 1 | _ => 0, fun j => match j with | 0 => upd (fun _ => 0) (0 : Int32).toNatClampNeg 63 | _ => fun _ => 0)
def st0M : pu_St := (fun _ => 0, fun j => match j with | 0 => upd (fun _ => 0) (1 : Int32).toNatClampNeg 1 | 1 => upd (fun _ => 0) (0 : Int32).toNatClampNeg 63 | _ => fun _ => 0)
set_option maxHeartbeats 4000000 in
set_option maxRecDepth 100000 in
theorem l_house {D : va_G} {h0 sz : Nat} {t : State} {A : Nat → Prop} (h : ∃ (q2 q1 q3 q4 q5 q6 q7 q8 q9 q10 q11 q12 q13 q14 q15 q16 q17 q18 q19 q20 q21 q22 q23 q24 q25 q26 q27 q28 q29 q30 q31 q32 q33 : Nat) (c2 c5 c6 c7 c8 c10 c11 c13 c14 c16 c17 c18 c20 c22 c23 c24 c26 c27 c28 c29 c31 c32 c33 : ClassId), va_P D hcl [(h0, .inr (0, [.ref q1, .ref q3, .ref q4, .ref q9, .ref q12, .ref q15, .ref q19, .ref q21, .ref q25, .ref q30, .int 0, .int 0])), (q2, .inl (c2, 6, .inl (upd (fun _ => 0) (0 : Int32).toNatClampNeg 63))), (q1, .inr (1, [.int 100, .int 6, .int (0 + 1), .ref q2])), (q3, .inr (2, [.int 200, .int 4, .int 0])), (q4, .inr (3, [.int 300, .int 20, .int 0, .ref q5, .ref q6, .ref q7, .ref q8])), (q5, .inl (c5, 20, .inl (fun _ => 0))), (q6, .inl (c6, 20, .inl (fun _ => 0))), (q7, .inl (c7, 20, .inl (fun _ => 0))), (q8, .inl (c8, 20, .inl (fun _ => 0))), (q9, .inr (4, [.int 400, .int 30, .int 0, .ref q10, .ref q11])), (q10, .inl (c10, 30, .inl (fun _ => 0))), (q11, .inl (c11, 30, .inl (fun _ => 0))), (q12, .inr (5, [.int 500, .int 30, .int 0, .ref q13, .ref q14])), (q13, .inl (c13, 30, .inl (fun _ => 0))), (q14, .inl (c14, 30, .inl (fun _ => 0))), (q15, .inr (6, [.ref q16, .ref q17, .ref q18])), (q16, .inl (c16, 360, .inl (fun _ => 0))), (q17, .inl (c17, 360, .inl (fun _ => 0))), (q18, .inl (c18, 30, .inl (fun _ => 0))), (q19, .inr (7, [.int 600, .int 16, .int 0, .ref q20])), (q20, .inl (c20, 16, .inl (fun _ => 0))), (q21, .inr (8, [.int 700, .int 40, .int 0, .ref q22, .ref q23, .ref q24])), (q22, .inl (c22, 40, .inl (fun _ => 0))), (q23, .inl (c23, 40, .inl (fun _ => 0))), (q24, .inl (c24, 40, .inl (fun _ => 0))), (q25, .inr (9, [.int 800, .int 10, .int 0, .ref q26, .ref q27, .ref q28, .ref q29])), (q26, .inl (c26, 10, .inl (fun _ => 0))), (q27, .inl (c27, 10, .inl (fun _ => 0))), (q28, .inl (c28, 10, .inl (fun _ => 0))), (q29, .inl (c29, 10, .inl (fun _ => 0))), (q30, .inr (10, [.int 900, .int 20, .int 0, .ref q31, .ref q32, .ref q33])), (q31, .inl (c31, 20, .inl (fun _ => 0))), (q32, .inl (c32, 20, .inl (fun _ => 0))), (q33, .inl (c33, 20, .inl (fun _ => 0)))] t.heap ∧ va_K D hcl [(c2, .int), (c5, .int), (c6, .int), (c7, .int), (c8, .int), (c10, .int), (c11, .int), (c13, .int), (c14, .int), (c16, .int), (c17, .int), (c18, .int), (c20, .int), (c22, .int), (c23, .int), (c24, .int), (c26, .int), (c27, .int), (c28, .int), (c29, .int), (c31, .int), (c32, .int), (c33, .boolean)] t ∧ va_D A [(h0, .inr (0, [.ref q1, .ref q3, .ref q4, .ref q9, .ref q12, .ref q15, .ref q19, .ref q21, .ref q25, .ref q30, .int 0, .int 0])), (q2, .inl (c2, 6, .inl (upd (fun _ => 0) (0 : Int32).toNatClampNeg 63))), (q1, .inr (1, [.int 100, .int 6, .int (0 + 1), .ref q2])), (q3, .inr (2, [.int 200, .int 4, .int 0])), (q4, .inr (3, [.int 300, .int 20, .int 0, .ref q5, .ref q6, .ref q7, .ref q8])), (q5, .inl (c5, 20, .inl (fun _ => 0))), (q6, .inl (c6, 20, .inl (fun _ => 0))), (q7, .inl (c7, 20, .inl (fun _ => 0))), (q8, .inl (c8, 20, .inl (fun _ => 0))), (q9, .inr (4, [.int 400, .int 30, .int 0, .ref q10, .ref q11])), (q10, .inl (c10, 30, .inl (fun _ => 0))), (q11, .inl (c11, 30, .inl (fun _ => 0))), (q12, .inr (5, [.int 500, .int 30, .int 0, .ref q13, .ref q14])), (q13, .inl (c13, 30, .inl (fun _ => 0))), (q14, .inl (c14, 30, .inl (fun _ => 0))), (q15, .inr (6, [.ref q16, .ref q17, .ref q18])), (q16, .inl (c16, 360, .inl (fun _ => 0))), (q17, .inl (c17, 360, .inl (fun _ => 0))), (q18, .inl (c18, 30, .inl (fun _ => 0))), (q19, .inr (7, [.int 600, .int 16, .int 0, .ref q20])), (q20, .inl (c20, 16, .inl (fun _ => 0))), (q21, .inr (8, [.int 700, .int 40, .int 0, .ref q22, .ref q23, .ref q24])), (q22, .inl (c22, 40, .inl (fun _ => 0))), (q23, .inl (c23, 40, .inl (fun _ => 0))), (q24, .inl (c24, 40, .inl (fun _ => 0))), (q25, .inr (9, [.int 800, .int 10, .int 0, .ref q26, .ref q27, .ref q28, .ref q29])), (q26, .inl (c26, 10, .inl (fun _ => 0))), (q27, .inl (c27, 10, .inl (fun _ => 0))), (q28, .inl (c28, 10, .inl (fun _ => 0))), (q29, .inl (c29, 10, .inl (fun _ => 0))), (q30, .inr (10, [.int 900, .int 20, .int 0, .ref q31, .ref q32, .ref q33])), (q31, .inl (c31, 20, .inl (fun _ => 0))), (q32, .inl (c32, 20, .inl (fun _ => 0))), (q33, .inl (c33, 20, .inl (fun _ => 0)))]) : ∃ (ca : Nat → ClassId) (ad : Nat → Nat), ad 0 = h0 ∧ va_P D hcl (hW ca ad st0H) t.heap ∧ va_K D hcl (hT ca) t ∧ va_D A (hW ca ad st0H) := by
  obtain ⟨q2, q1, q3, q4, q5, q6, q7, q8, q9, q10, q11, q12, q13, q14, q15, q16, q17, q18, q19, q20, q21, q22, q23, q24, q25, q26, q27, q28, q29, q30, q31, q32, q33, c2, c5, c6, c7, c8, c10, c11, c13, c14, c16, c17, c18, c20, c22, c23, c24, c26, c27, c28, c29, c31, c32, c33, hP, hK, hD⟩ := h
  exact ⟨(fun k => match k with | 0 => c2 | 1 => c5 | 2 => c6 | 3 => c7 | 4 => c8 | 5 => c10 | 6 => c11 | 7 => c13 | 8 => c14 | 9 => c16 | 10 => c17 | 11 => c18 | 12 => c20 | 13 => c22 | 14 => c23 | 15 => c24 | 16 => c26 | 17 => c27 | 18 => c28 | 19 => c29 | 20 => c31 | 21 => c32 | _ => c33), (fun k => match k with | 0 => h0 | 1 => q1 | 2 => q3 | 3 => q4 | 4 => q9 | 5 => q12 | 6 => q15 | 7 => q19 | 8 => q21 | 9 => q25 | 10 => q30 | 11 => q2 | 12 => q5 | 13 => q6 | 14 => q7 | 15 => q8 | 16 => q10 | 17 => q11 | 18 => q13 | 19 => q14 | 20 => q16 | 21 => q17 | 22 => q18 | 23 => q20 | 24 => q22 | 25 => q23 | 26 => q24 | 27 => q26 | 28 => q27 | 29 => q28 | 30 => q29 | 31 => q31 | 32 => q32 | _ => q33), rfl, hP.sub [0, 2, 3, 4, 9, 12, 15, 19, 21, 25, 30, 1, 5, 6, 7, 8, 10, 11, 13, 14, 16, 17, 18, 20, 22, 23, 24, 26, 27, 28, 29, 31, 32, 33] rfl, hK.sub [0, 1, 2, 3, 4, 5, 6, 7, 8, 9, 10, 11, 12, 13, 14, 15, 16, 17, 18, 19, 20, 21, 22] rfl, hD.sub [0, 2, 3, 4, 9, 12, 15, 19, 21, 25, 30, 1, 5, 6, 7, 8, 10, 11, 13, 14, 16, 17, 18, 20, 22, 23, 24, 26, 27, 28, 29, 31, 32, 33] (by decide) rfl⟩
set_option maxHeartbeats 4000000 in
set_option maxRecDepth 100000 in
theorem l_model {D : va_G} {h0 sz : Nat} {t : State} {A : Nat → Prop} (h : ∃ (q1 q2 q3 q4 q5 q6 q7 q8 q9 q10 q11 q12 q13 q14 q15 q16 q17 q18 q19 q20 q21 q22 q23 q24 : Nat) (c1 c2 c3 c4 c5 c6 c7 c8 c9 c10 c11 c12 c13 c14 c15 c16 c17 c18 c19 c20 c21 c22 c23 c24 : ClassId), va_P D hcl [(h0, .inr (11, [.int 0, .int 0, .int 0, .ref q1, .ref q2, .ref q3, .ref q4, .ref q5, .ref q6, .ref q7, .ref q8, .ref q9, .ref q10, .ref q11, .ref q12, .ref q13, .ref q14, .ref q15, .ref q16, .ref q17, .ref q18, .ref q19, .ref q20, .ref q21, .ref q22, .ref q23, .ref q24])), (q1, .inl (c1, 10, .inl (upd (fun _ => 0) (1 : Int32).toNatClampNeg 1))), (q2, .inl (c2, 6, .inl (upd (fun _ => 0) (0 : Int32).toNatClampNeg 63))), (q3, .inl (c3, 20, .inl (fun _ => 0))), (q4, .inl (c4, 20, .inl (fun _ => 0))), (q5, .inl (c5, 20, .inl (fun _ => 0))), (q6, .inl (c6, 400, .inl (fun _ => 0))), (q7, .inl (c7, 400, .inl (fun _ => 0))), (q8, .inl (c8, 30, .inl (fun _ => 0))), (q9, .inl (c9, 30, .inl (fun _ => 0))), (q10, .inl (c10, 30, .inl (fun _ => 0))), (q11, .inl (c11, 16, .inl (fun _ => 0))), (q12, .inl (c12, 30, .inl (fun _ => 0))), (q13, .inl (c13, 360, .inl (fun _ => 0))), (q14, .inl (c14, 360, .inl (fun _ => 0))), (q15, .inl (c15, 40, .inl (fun _ => 0))), (q16, .inl (c16, 40, .inl (fun _ => 0))), (q17, .inl (c17, 40, .inl (fun _ => 0))), (q18, .inl (c18, 10, .inl (fun _ => 0))), (q19, .inl (c19, 10, .inl (fun _ => 0))), (q20, .inl (c20, 10, .inl (fun _ => 0))), (q21, .inl (c21, 300, .inl (fun _ => 0))), (q22, .inl (c22, 20, .inl (fun _ => 0))), (q23, .inl (c23, 20, .inl (fun _ => 0))), (q24, .inl (c24, 20, .inl (fun _ => 0)))] t.heap ∧ va_K D hcl [(c1, .int), (c2, .int), (c3, .int), (c4, .int), (c5, .int), (c6, .boolean), (c7, .boolean), (c8, .int), (c9, .int), (c10, .int), (c11, .int), (c12, .int), (c13, .int), (c14, .int), (c15, .int), (c16, .int), (c17, .int), (c18, .int), (c19, .int), (c20, .int), (c21, .boolean), (c22, .int), (c23, .int), (c24, .boolean)] t ∧ va_D A [(h0, .inr (11, [.int 0, .int 0, .int 0, .ref q1, .ref q2, .ref q3, .ref q4, .ref q5, .ref q6, .ref q7, .ref q8, .ref q9, .ref q10, .ref q11, .ref q12, .ref q13, .ref q14, .ref q15, .ref q16, .ref q17, .ref q18, .ref q19, .ref q20, .ref q21, .ref q22, .ref q23, .ref q24])), (q1, .inl (c1, 10, .inl (upd (fun _ => 0) (1 : Int32).toNatClampNeg 1))), (q2, .inl (c2, 6, .inl (upd (fun _ => 0) (0 : Int32).toNatClampNeg 63))), (q3, .inl (c3, 20, .inl (fun _ => 0))), (q4, .inl (c4, 20, .inl (fun _ => 0))), (q5, .inl (c5, 20, .inl (fun _ => 0))), (q6, .inl (c6, 400, .inl (fun _ => 0))), (q7, .inl (c7, 400, .inl (fun _ => 0))), (q8, .inl (c8, 30, .inl (fun _ => 0))), (q9, .inl (c9, 30, .inl (fun _ => 0))), (q10, .inl (c10, 30, .inl (fun _ => 0))), (q11, .inl (c11, 16, .inl (fun _ => 0))), (q12, .inl (c12, 30, .inl (fun _ => 0))), (q13, .inl (c13, 360, .inl (fun _ => 0))), (q14, .inl (c14, 360, .inl (fun _ => 0))), (q15, .inl (c15, 40, .inl (fun _ => 0))), (q16, .inl (c16, 40, .inl (fun _ => 0))), (q17, .inl (c17, 40, .inl (fun _ => 0))), (q18, .inl (c18, 10, .inl (fun _ => 0))), (q19, .inl (c19, 10, .inl (fun _ => 0))), (q20, .inl (c20, 10, .inl (fun _ => 0))), (q21, .inl (c21, 300, .inl (fun _ => 0))), (q22, .inl (c22, 20, .inl (fun _ => 0))), (q23, .inl (c23, 20, .inl (fun _ => 0))), (q24, .inl (c24, 20, .inl (fun _ => 0)))]) : ∃ (ca : Nat → ClassId) (ad : Nat → Nat), ad 0 = h0 ∧ va_P D hcl (mW ca ad st0M) t.heap ∧ va_K D hcl (mT ca) t ∧ va_D A (mW ca ad st0M) := by
  obtain ⟨q1, q2, q3, q4, q5, q6, q7, q8, q9, q10, q11, q12, q13, q14, q15, q16, q17, q18, q19, q20, q21, q22, q23, q24, c1, c2, c3, c4, c5, c6, c7, c8, c9, c10, c11, c12, c13, c14, c15, c16, c17, c18, c19, c20, c21, c22, c23, c24, hP, hK, hD⟩ := h
  exact ⟨(fun k => match k with | 0 => c1 | 1 => c2 | 2 => c3 | 3 => c4 | 4 => c5 | 5 => c6 | 6 => c7 | 7 => c8 | 8 => c9 | 9 => c10 | 10 => c11 | 11 => c12 | 12 => c13 | 13 => c14 | 14 => c15 | 15 => c16 | 16 => c17 | 17 => c18 | 18 => c19 | 19 => c20 | 20 => c21 | 21 => c22 | 22 => c23 | _ => c24), (fun k => match k with | 0 => h0 | 1 => q1 | 2 => q2 | 3 => q3 | 4 => q4 | 5 => q5 | 6 => q6 | 7 => q7 | 8 => q8 | 9 => q9 | 10 => q10 | 11 => q11 | 12 => q12 | 13 => q13 | 14 => q14 | 15 => q15 | 16 => q16 | 17 => q17 | 18 => q18 | 19 => q19 | 20 => q20 | 21 => q21 | 22 => q22 | 23 => q23 | _ => q24), rfl, hP.sub [0, 1, 2, 3, 4, 5, 6, 7, 8, 9, 10, 11, 12, 13, 14, 15, 16, 17, 18, 19, 20, 21, 22, 23, 24] rfl, hK.sub [0, 1, 2, 3, 4, 5, 6, 7, 8, 9, 10, 11, 12, 13, 14, 15, 16, 17, 18, 19, 20, 21, 22, 23] rfl, hD.sub [0, 1, 2, 3, 4, 5, 6, 7, 8, 9, 10, 11, 12, 13, 14, 15, 16, 17, 18, 19, 20, 21, 22, 23, 24] (by decide) rfl⟩
theorem hW_I {ca : Nat → ClassId} {ad : Nat → Nat} {st : pu_St} {A : Nat → Prop} (h : va_D A (hW ca ad st)) : hI ad ∧ ∀ k, k < 34 → A (ad k) := by
  have hx : ∀ i, i < 34 → ∃ q : Nat × va_E, (hW ca ad st)[i]? = some q ∧ q.1 = ad i := by
    intro i hi
    have h1 : i < (hW ca ad st).length := hi
    exact ⟨_, List.getElem?_eq_getElem h1, (hW_ix (List.getElem?_eq_getElem h1)).2⟩
  refine ⟨fun i j hi hj e => ?_, fun k hk => ?_⟩
  · obtain ⟨p, p1, p2⟩ := hx i hi
    obtain ⟨q, q1, q2⟩ := hx j hj
    exact h.1 i j p q p1 q1 (by rw [p2, q2]; exact e)
  · obtain ⟨p, p1, p2⟩ := hx k hk
    rw [← p2]; exact h.2 k p p1
theorem mW_I {ca : Nat → ClassId} {ad : Nat → Nat} {st : pu_St} {A : Nat → Prop} (h : va_D A (mW ca ad st)) : mI ad ∧ ∀ k, k < 25 → A (ad k) := by
  have hx : ∀ i, i < 25 → ∃ q : Nat × va_E, (mW ca ad st)[i]? = some q ∧ q.1 = ad i := by
    intro i hi
    have h1 : i < (mW ca ad st).length := hi
    exact ⟨_, List.getElem?_eq_getElem h1, (mW_ix (List.getElem?_eq_getElem h1)).2⟩
  refine ⟨fun i j hi hj e => ?_, fun k hk => ?_⟩
  · obtain ⟨p, p1, p2⟩ := hx i hi
    obtain ⟨q, q1, q2⟩ := hx j hj
    exact h.1 i j p q p1 q1 (by rw [p2, q2]; exact e)
  · obtain ⟨p, p1, p2⟩ := hx k hk
    rw [← p2]; exact h.2 k p p1
theorem hW_lt {D : va_G} {ca : Nat → ClassId} {ad : Nat → Nat} {st : pu_St} {H : Heap} (h : va_P D hcl (hW ca ad st) H) : ∀ k, k < 34 → ad k < H.size := by
  intro k hk
  have h1 : k < (hW ca ad st).length := hk
  have h2 := (h k _ (List.getElem?_eq_getElem h1)).lt
  rw [(hW_ix (List.getElem?_eq_getElem h1)).2] at h2
  exact h2
theorem mW_lt {D : va_G} {ca : Nat → ClassId} {ad : Nat → Nat} {st : pu_St} {H : Heap} (h : va_P D hcl (mW ca ad st) H) : ∀ k, k < 25 → ad k < H.size := by
  intro k hk
  have h1 : k < (mW ca ad st).length := hk
  have h2 := (h k _ (List.getElem?_eq_getElem h1)).lt
  rw [(mW_ix (List.getElem?_eq_getElem h1)).2] at h2
  exact h2
set_option maxHeartbeats 4000000 in
set_option maxRecDepth 100000 in
theorem start_open {p : Program} {e : Env} {s : State} {m : MethodId} {below : List Frame} {meth : Method} {c : Code} (l : Launch) (htl : l.stackTraces = false) {b L : Nat} {xs : Nat → Int32} (hL : L ≤ 2560) (C0 : lw_At p s m meth c b L xs) {Rel : pu_St → pu_St → Prop} (P : pAll Rel) (hR0 : Rel st0H st0M) : W p l e room_1 s m #[Value.ref b] below meth c s.heap [] 0 0 (lw_Z below #[Value.ref b] s) (entryFrame m ([Value.ref b] : List Value).toArray 7) := by
  obtain ⟨hx, hb, hr, hml, hown, hts0, hX, hbl, hlocks, hgv⟩ := id C0
  have hts : ∀ w ∈ tG, w.before #[Value.ref b] s = true := fun w hw => hts0 w (List.mem_filter.mp hw).1
  have htt : ∀ w ∈ tables_1, w.before #[Value.ref b] s = true := fun w hw => hts0 w (List.mem_append_right _ hw)
  have hown : s.vm.findClass "MuseumHouseLaw" = some m.cls := hown
  have hfl := flat_of_before _ hgv
  have hth : xTh (lA s) s s.heap := l_th htt (hfl _ (by decide +kernel)) (hfl _ (by decide +kernel))
  have m2 : ∀ {w : Cond} {i : Nat}, tables_1_2[i]? = some w → w ∈ tables_1 := fun h => List.mem_append_right _ (List.mem_append_left _ (List.mem_of_getElem? h))
  have hN : xNc s := ⟨va_Nc.of (C := "java/lang/IllegalStateException") (T := "java/util/NoSuchElementException") (hfl _ (by decide +kernel)), va_Nc.of (C := "java/lang/IllegalArgumentException") (T := "java/util/NoSuchElementException") (hfl _ (by decide +kernel)), va_Nc.of (C := "java/lang/IllegalArgumentException") (T := "java/lang/IllegalStateException") (hfl _ (by decide +kernel)),
    va_Nw.of rfl (htt (.castable "java/util/NoSuchElementException" "java/util/NoSuchElementException") (m2 (i := 42) rfl)), va_Nw.of rfl (htt (.castable "java/lang/IllegalStateException" "java/lang/IllegalStateException") (m2 (i := 113) rfl)), va_Nw.of rfl (htt (.castable "java/lang/IllegalArgumentException" "java/lang/IllegalArgumentException") (m2 (i := 142) rfl))⟩
  have hNLo : va_Nw nestLo s := va_Nw.of rfl (htt _ (show nestLo ∈ tables_1 from List.mem_append_right _ (List.mem_append_right _ (List.mem_append_left _ (List.mem_of_getElem? (i := 202) rfl)))))
  have hNSh : va_Nw nestSh s := va_Nw.of rfl (htt _ (show nestSh ∈ tables_1 from List.mem_append_right _ (List.mem_append_right _ (List.mem_append_right _ (List.mem_append_left _ (List.mem_of_getElem? (i := 25) rfl))))))
  obtain ⟨d0, i0, hKn0⟩ := u_known (C := R_H) (T := T_H) (N := 12) (n := 12) hts iw_H (hts _ wd_1_22)
  obtain ⟨d1, i1, hKn1⟩ := u_known (C := R_De) (T := T_De) (N := 4) (n := 4) hts iw_De (hts _ wd_1_30)
  obtain ⟨d2, i2, hKn2⟩ := u_known (C := R_Si) (T := T_Si) (N := 3) (n := 3) hts iw_Si (hts _ wd_1_59)
  obtain ⟨d3, i3, hKn3⟩ := u_known (C := R_Co) (T := T_Co) (N := 7) (n := 7) hts iw_Co (hts _ wd_1_69)
  obtain ⟨d4, i4, hKn4⟩ := u_known (C := R_Fi) (T := T_Fi) (N := 5) (n := 5) hts iw_Fi (hts _ wd_1_91)
  obtain ⟨d5, i5, hKn5⟩ := u_known (C := R_It) (T := T_It) (N := 5) (n := 5) hts iw_It (hts _ wd_1_107)
  obtain ⟨d6, i6, hKn6⟩ := u_known (C := R_Mo) (T := T_Mo) (N := 3) (n := 3) hts iw_Mo (hts _ wd_1_123)
  obtain ⟨d7, i7, hKn7⟩ := u_known (C := R_So) (T := T_So) (N := 4) (n := 4) hts iw_So (hts _ wd_1_139)
  obtain ⟨d8, i8, hKn8⟩ := u_known (C := R_Lo) (T := T_Lo) (N := 6) (n := 6) hts iw_Lo (hts _ wd_1_152)
  obtain ⟨d9, i9, hKn9⟩ := u_known (C := R_Sh) (T := T_Sh) (N := 7) (n := 7) hts iw_Sh (hts _ wd_1_171)
  obtain ⟨d10, i10, hKn10⟩ := u_known (C := R_Cl) (T := T_Cl) (N := 6) (n := 6) hts iw_Cl (hts _ wd_1_193)
  obtain ⟨d11, i11, hKn11⟩ := u_known (C := R_Md) (T := T_Md) (N := 27) (n := 27) hts iw_Md (hts _ wd_4_218)
  obtain ⟨D, hKc⟩ : ∃ D : va_G, ∀ (k : Nat) (q : vw_C), hcl[k]? = some q → u_Kn s q.1 q.2.1 q.2.2 (D.1 k) (D.2 k) := by
    refine ⟨(fun k => match k with | 0 => d0 | 1 => d1 | 2 => d2 | 3 => d3 | 4 => d4 | 5 => d5 | 6 => d6 | 7 => d7 | 8 => d8 | 9 => d9 | 10 => d10 | _ => d11, fun k => match k with | 0 => i0 | 1 => i1 | 2 => i2 | 3 => i3 | 4 => i4 | 5 => i5 | 6 => i6 | 7 => i7 | 8 => i8 | 9 => i9 | 10 => i10 | _ => i11), ?_⟩
    intro k q hq
    match k, hq with
    | 0, hq => cases hq; exact hKn0
    | 1, hq => cases hq; exact hKn1
    | 2, hq => cases hq; exact hKn2
    | 3, hq => cases hq; exact hKn3
    | 4, hq => cases hq; exact hKn4
    | 5, hq => cases hq; exact hKn5
    | 6, hq => cases hq; exact hKn6
    | 7, hq => cases hq; exact hKn7
    | 8, hq => cases hq; exact hKn8
    | 9, hq => cases hq; exact hKn9
    | 10, hq => cases hq; exact hKn10
    | 11, hq => cases hq; exact hKn11
    | k + 12, hq => simp [hcl] at hq
  have hS : va_S (lA s) s.heap s.heap [] := va_S.rf
  have hA : ∀ q : Nat, s.heap.size ≤ q → lA s q := fun _ h => h
  have hK : va_K D hcl [] s := ⟨hKc, fun k q h => (by cases h)⟩
  have hP : va_P D hcl [] s.heap := fun k q h => by cases h
  have hD : va_D (lA s) [] := ⟨fun i j p q h => (by cases h), fun k q h => (by cases h)⟩
  have hl := lv_entry ([.ref b]) (n := 7) (Nat.le_of_ble_eq_true rfl)
  rw [lg_entry_eq]
  generalize (lg_sl ([.ref b]) ++ List.replicate (7 - (lg_sl ([.ref b])).length) Slot.unset).toArray = ls at hl ⊢
  have hl : lv_has ls 7 [(0, .ref b)] := hl
  refine va_new (ci := 0) (fs := [.null, .null, .null, .null, .null, .null, .null, .null, .null, .null, .int 0, .int 0]) (C := R_H) (T := T_H) (N := 12) hx hb hts iw_H ty_H to_H hown (hts _ wd_1_21) (hts _ wd_1_22) (hts _ wd_1_1) hK hP hD hS hA rfl (fun j hj => by rcases (show j = 0 ∨ j = 1 ∨ j = 2 ∨ j = 3 ∨ j = 4 ∨ j = 5 ∨ j = 6 ∨ j = 7 ∨ j = 8 ∨ j = 9 ∨ j = 10 ∨ j = 11 by omega) with rfl | rfl | rfl | rfl | rfl | rfl | rfl | rfl | rfl | rfl | rfl | rfl <;> rfl) (Nat.le_of_ble_eq_true rfl) (Nat.le_of_ble_eq_true rfl) d_Lw_law_0 (fun h0 H hP hD hS => ?_)
  refine W.widen (k := 1) (n := 12) (by decide) (by decide) ?_
  refine lv_dup hx hb d_Lw_law_3 rfl ?_
  have hP : va_P D hcl [(h0, .inr (0, [.null, .null, .null, .null, .null, .null, .null, .null, .null, .null, .int 0, .int 0]))] H := hP
  have hD : va_D (lA s) [(h0, .inr (0, [.null, .null, .null, .null, .null, .null, .null, .null, .null, .null, .int 0, .int 0]))] := hD
  have hFc := va_free (wc := [(h0, .inr (0, [.null, .null, .null, .null, .null, .null, .null, .null, .null, .null, .int 0, .int 0]))]) hD hS hA [0] rfl
  refine va_callv (va_runI (As := []) (rest := [.ref h0]) ⟨hx, hb, hml, hown, hts⟩ (k_H_init l D h0 _) (xCI 0 hts wd_1_25 wd_1_1 wd_1_23 wd_1_24 rfl (by decide +kernel) ⟨Nat.le_of_ble_eq_true rfl, Nat.le_of_ble_eq_true rfl⟩) (sPre hK hP hD) rfl rfl hl.1 rfl (lv_room (Nat.le_of_ble_eq_true rfl)) d_Lw_law_4 ⟨Nat.le_of_ble_eq_true rfl, Nat.le_of_ble_eq_true rfl⟩) hS (fun q _ h => hFc q h) hFc (fun u t H1 locs ht hvm hw hB hz1 hk1 hS => ?_)
  obtain ⟨ca, ad, e0, hPh, hKh, hDh⟩ := l_house (sz := 0) hB
  subst e0
  rw [ht] at hPh
  have hKh := va_K.moved hvm.symm hKh
  have hDh := hDh.weaken (fun _ q _ h => hFc q.1 h)
  obtain ⟨hIh, hAh⟩ := hW_I hDh
  generalize H1 = H at hPh hS ⊢
  refine W.widen (k := 34) (n := 1254) (by decide) (by decide) ?_
  refine lv_astore_n (lv' := [(1, .ref (ad 0)), (0, .ref b)]) hx hb d_Lw_law_7 rfl hl (by decide) rfl (fun ls hl => ?_)
  have hP : va_P D hcl [] H := fun k q h => by cases h
  have hD : va_D (lA s) [] := ⟨fun i j p q h => (by cases h), fun k q h => (by cases h)⟩
  have hPh0 := hPh
  have hP : va_P D hcl (hW ca ad st0H) H := hPh
  have hD : va_D (lA s) (hW ca ad st0H) := hDh
  refine va_new (ci := 11) (tys := []) (fs := [.int 0, .int 0, .int 0, .null, .null, .null, .null, .null, .null, .null, .null, .null, .null, .null, .null, .null, .null, .null, .null, .null, .null, .null, .null, .null, .null, .null, .null]) (C := R_Md) (T := T_Md) (N := 27) hx hb hts iw_Md ty_Md to_Md hown (hts _ wd_4_217) (hts _ wd_4_218) (hts _ wd_1_13) hK hP hD hS hA rfl (fun j hj => by rcases (show j = 0 ∨ j = 1 ∨ j = 2 ∨ j = 3 ∨ j = 4 ∨ j = 5 ∨ j = 6 ∨ j = 7 ∨ j = 8 ∨ j = 9 ∨ j = 10 ∨ j = 11 ∨ j = 12 ∨ j = 13 ∨ j = 14 ∨ j = 15 ∨ j = 16 ∨ j = 17 ∨ j = 18 ∨ j = 19 ∨ j = 20 ∨ j = 21 ∨ j = 22 ∨ j = 23 ∨ j = 24 ∨ j = 25 ∨ j = 26 by omega) with rfl | rfl | rfl | rfl | rfl | rfl | rfl | rfl | rfl | rfl | rfl | rfl | rfl | rfl | rfl | rfl | rfl | rfl | rfl | rfl | rfl | rfl | rfl | rfl | rfl | rfl | rfl <;> rfl) (Nat.le_of_ble_eq_true rfl) (Nat.le_of_ble_eq_true rfl) d_Lw_law_8 (fun h1 H hP hD hS => ?_)
  have hPh := hP.left
  have hDd := hD
  have hPn := hP
  have hP := hP.right
  have hne : ∀ k, k < 34 → ad k ≠ h1 := by
    intro k hk e
    have h1' : k < (hW ca ad st0H).length := hk
    have h2 := hDd.1 k 34 _ (h1, .inr (11, [.int 0, .int 0, .int 0, .null, .null, .null, .null, .null, .null, .null, .null, .null, .null, .null, .null, .null, .null, .null, .null, .null, .null, .null, .null, .null, .null, .null, .null])) (by rw [List.getElem?_append_left h1']; exact List.getElem?_eq_getElem h1') rfl (by rw [(hW_ix (List.getElem?_eq_getElem h1')).2]; exact e)
    omega
  have hD : va_D (lA s) [(h1, .inr (11, [.int 0, .int 0, .int 0, .null, .null, .null, .null, .null, .null, .null, .null, .null, .null, .null, .null, .null, .null, .null, .null, .null, .null, .null, .null, .null, .null, .null, .null]))] := ⟨fun i j p q h1 h2 _ => by
    match i, j, h1, h2 with
    | 0, 0, _, _ => rfl, fun k q h => by
    match k, h with
    | 0, h => cases h; exact hDd.2 34 _ rfl⟩
  refine W.widen (k := 35) (n := 1281) (by decide) (by decide) ?_
  refine lv_dup hx hb d_Lw_law_11 rfl ?_
  have hP : va_P D hcl [(h1, .inr (11, [.int 0, .int 0, .int 0, .null, .null, .null, .null, .null, .null, .null, .null, .null, .null, .null, .null, .null, .null, .null, .null, .null, .null, .null, .null, .null, .null, .null, .null]))] H := hP
  have hD : va_D (lA s) [(h1, .inr (11, [.int 0, .int 0, .int 0, .null, .null, .null, .null, .null, .null, .null, .null, .null, .null, .null, .null, .null, .null, .null, .null, .null, .null, .null, .null, .null, .null, .null, .null]))] := hD
  have hFc := va_free (wc := [(h1, .inr (11, [.int 0, .int 0, .int 0, .null, .null, .null, .null, .null, .null, .null, .null, .null, .null, .null, .null, .null, .null, .null, .null, .null, .null, .null, .null, .null, .null, .null, .null]))]) hD hS hA [0] rfl
  refine va_callv (va_runI (As := []) (rest := [.ref h1]) ⟨hx, hb, hml, hown, hts⟩ (k_Md_init l D h1 _) (xCI 0 hts wd_4_221 wd_1_13 wd_4_219 wd_4_220 rfl (by decide +kernel) ⟨Nat.le_of_ble_eq_true rfl, Nat.le_of_ble_eq_true rfl⟩) (sPre hK hP hD) rfl rfl hl.1 rfl (lv_room (Nat.le_of_ble_eq_true rfl)) d_Lw_law_12 ⟨Nat.le_of_ble_eq_true rfl, Nat.le_of_ble_eq_true rfl⟩) hS (fun q _ h => hFc q h) hFc (fun u t H1 locs ht hvm hw hB hz1 hk1 hS => ?_)
  obtain ⟨cb, bd, e1, hPm, hKm, hDm⟩ := l_model (sz := 0) hB
  subst e1
  rw [ht] at hPm
  have hKm := va_K.moved hvm.symm hKm
  obtain ⟨hIm, hAm0⟩ := mW_I hDm
  have hAm : ∀ k, k < 25 → lA s (bd k) := fun k hk => hFc _ (hAm0 k hk)
  have hlth := hW_lt hPh
  have hdis : ∀ i j, i < 34 → j < 25 → ad i ≠ bd j := by
    intro i j hi hj e
    rcases hAm0 j hj with ⟨k, ee, h⟩ | h
    · match k, h with
      | 0, h => exact hne i hi (e.trans (congrArg Prod.fst (Option.some.inj h)).symm)
    · have := hlth i hi
      omega
  have hPh := hW_keep hPh (B := va_A [(bd 0, .inr (11, [.int 0, .int 0, .int 0, .null, .null, .null, .null, .null, .null, .null, .null, .null, .null, .null, .null, .null, .null, .null, .null, .null, .null, .null, .null, .null, .null, .null, .null]))] H.size) (fun k hk hlt hb0 => by
    rcases hb0 with ⟨j, ee, h⟩ | h
    · match j, h with
      | 0, h => exact hdis k 0 hk (by decide) (congrArg Prod.fst (Option.some.inj h)).symm
    · exact absurd hlt (Nat.not_lt.mpr h)) hk1
  have hltm := mW_lt hPm
  have hlth := hW_lt hPh
  generalize H1 = H at hPh hPm hS hltm hlth ⊢
  refine W.widen (k := 59) (n := 3523) (by decide) (by decide) ?_
  refine lv_astore_n (lv' := [(2, .ref (bd 0)), (1, .ref (ad 0)), (0, .ref b)]) hx hb d_Lw_law_15 rfl hl (by decide) rfl (fun ls hl => ?_)
  refine lv_iconst (v := 1) hx hb d_Lw_law_16 (by decide) ?_
  have hK0 : va_K D hcl [] s := hK
  have hPe : va_P D hcl (hW ca ad st0H ++ mW cb bd st0M) H := va_P.app hPh hPm
  have hDe : va_D (lA s) (hW ca ad st0H ++ mW cb bd st0M) := va_D.app (hW_D hIh (fun k hk => hAh k hk)) (mW_D hIm hAm) (fun i j p q hp hq e => by
    obtain ⟨a1, a2⟩ := hW_ix hp
    obtain ⟨b1, b2⟩ := mW_ix hq
    exact hdis i j a1 b1 (by rw [← a2, ← b2]; exact e))
  refine va_newa (atype := .long) (a0 := (1, .inr (.inl (fun _ => 0)))) (ty := .long) hx hb (hts _ wd_6_21) rfl hK0 hPe hDe hS hA (fun _ => rfl) (by decide) (by decide +kernel) (by decide +kernel) (Nat.le_of_ble_eq_true rfl) (Nat.le_of_ble_eq_true rfl) d_Lw_law_17 (fun o co H hKo hPe hDe hS => ?_)
  have hPw : lW D ca cb co ad bd o st0H st0M (fun _ => 0) H := ⟨hPe.left.left, hPe.left.right, hPe.right⟩
  have hao : lA s o := hDe.2 59 _ rfl
  have hneo : (∀ i, i < 34 → ad i ≠ o) ∧ ∀ j, j < 25 → bd j ≠ o := by
    refine ⟨fun i hi e => ?_, fun j hj e => ?_⟩
    · have h1 : i < (hW ca ad st0H).length := hi
      have h2 := hDe.1 i 59 ((hW ca ad st0H)[i]) (o, .inl (co, 1, .inr (.inl (fun _ => 0)))) (by
        rw [List.append_assoc, List.getElem?_append_left h1]; exact List.getElem?_eq_getElem h1) rfl (by rw [(hW_ix (List.getElem?_eq_getElem h1)).2]; exact e)
      omega
    · have h1 : j < (mW cb bd st0M).length := hj
      have h2 := hDe.1 (34 + j) 59 ((mW cb bd st0M)[j]) (o, .inl (co, 1, .inr (.inl (fun _ => 0)))) (by
        rw [List.append_assoc, List.getElem?_append_right (show (hW ca ad st0H).length ≤ 34 + j from Nat.le_add_right 34 j)]
        rw [show 34 + j - (hW ca ad st0H).length = j from Nat.add_sub_cancel_left 34 j, List.getElem?_append_left h1]; exact List.getElem?_eq_getElem h1) rfl (by rw [(mW_ix (List.getElem?_eq_getElem h1)).2]; exact e)
      omega
  have G : lX D ca cb co ad bd o s := ⟨⟨hKh, hIh, hAh, hA, hth, hNLo, hNSh⟩, ⟨hKm, hIm, hAm, hA⟩, hKo, ⟨hdis, hneo.1, hneo.2⟩, hN, hao⟩
  refine W.widen (k := 60) (n := 3524) (by decide) (by decide) ?_
  refine lv_astore_n (lv' := [(3, .ref o), (2, .ref (bd 0)), (1, .ref (ad 0)), (0, .ref b)]) hx hb d_Lw_law_19 rfl hl (by decide) rfl (fun ls hl => ?_)
  refine lv_iconst (v := 0) hx hb d_Lw_law_20 (by decide) ?_
  refine lv_istore (lv' := [(4, .int 0), (3, .ref o), (2, .ref (bd 0)), (1, .ref (ad 0)), (0, .ref b)]) hx hb d_Lw_law_21 hl (by decide) rfl (fun ls hl => ?_)
  exact law_loop htl C0 G hL P (L + 1) 0 (Nat.zero_le _) (by omega) st0H st0M (fun _ => 0) hR0 H _ hPw hS ls (lv_sub hl [4, 3, 2, 1, 0] rfl)

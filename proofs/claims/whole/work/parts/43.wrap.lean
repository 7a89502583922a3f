theorem w_in0 : vp_in (0 : Int32) 1 := by unfold vp_in; decide
theorem w_keep {D : va_G} {co : ClassId} {ad : Nat → Nat} {o : Nat} {f : Nat → Int64} {H H1 : Heap} (hne : ∀ k, k < 34 → ad k ≠ o) (hPo : va_P D hcl (wO co o f) H) (hfr : ∀ q : Nat, q < H.size → ¬ hA ad H.size q → H1[q]? = H[q]?) : va_P D hcl (wO co o f) H1 := by
  have hlt : o < H.size := (hPo 0 _ rfl).lt
  refine hPo.kept (fun k q hk => ?_)
  match k, hk with
  | 0, hk =>
    cases hk
    refine hfr o hlt (fun h => ?_)
    rcases h with ⟨j, hj, e⟩ | h
    · exact hne j hj e.symm
    · exact absurd hlt (Nat.not_lt.mpr h)
theorem w_D {ca : Nat → ClassId} {co : ClassId} {ad : Nat → Nat} {o : Nat} {st : pu_St} {f : Nat → Int64} {sz : Nat} (hi : hI ad) (hne : ∀ k, k < 34 → ad k ≠ o) : va_D (wA ad o sz) (hW ca ad st ++ wO co o f) := by
  refine va_D.app (hW_D hi (fun k hk => Or.inl (Or.inl ⟨k, hk, rfl⟩))) ⟨fun i j p q hp hq e => ?_, fun k q hk => ?_⟩ (fun i j p q hp hq e => ?_)
  · match i, j, hp, hq with
    | 0, 0, _, _ => rfl
  · match k, hk with
    | 0, hk => cases hk; exact Or.inr rfl
  · obtain ⟨a1, a2⟩ := hW_ix hp
    match j, hq with
    | 0, hq =>
      cases hq
      exact hne i a1 (a2.symm.trans e)
set_option maxHeartbeats 4000000 in
set_option maxRecDepth 100000 in
theorem w_desk (l : Launch) (htl : l.stackTraces = false) (D : va_G) (ca : Nat → ClassId) (co : ClassId) (ad : Nat → Nat) (o : Nat) (st : pu_St) (f : Nat → Int64) (sz : Nat) (x1 x2 : Int32) (r : Int32 ⊕ Nat) (st' : pu_St) (h : f_H_desk st x1 x2 = some (r, st')) (hk : ∀ k, r = .inr k → k ∈ [1, 2, 3]) : Met l y_Lw_desk (.codeWith y_Lw_desk b_Lw_desk 5 (some .int) [(0, 10, 13, 13), (0, 10, 17, 15), (0, 10, 21, 17)] :: tG) { frames := 8, cells := xc r, slots := xs r, locals := 136 } (va_Pc [.ref (ad 0), .int x1, .int x2, .ref o] (wPc D ca co ad o st f sz)) (wQ D ca co ad o (wk [1, 2, 3] r) st' (wfI f r) sz) (xc r) (xs r) (wA ad o sz) := by
  refine wMet (by decide +kernel) ?_
  intro p e s m below meth c hx hb hml hr hlocks hown hts htab GX hP hPo
  obtain ⟨G, hKo, hne, hN⟩ := GX
  have hown : s.vm.findClass "MuseumHouseLaw" = some m.cls := hown
  have hS : va_S (wA ad o s.heap.size) s.heap s.heap [] := va_S.rf
  have hl := lv_entry ([.ref (ad 0), .int x1, .int x2, .ref o]) (n := 5) (Nat.le_of_ble_eq_true rfl)
  rw [lg_entry_eq]
  generalize (lg_sl ([.ref (ad 0), .int x1, .int x2, .ref o]) ++ List.replicate (5 - (lg_sl ([.ref (ad 0), .int x1, .int x2, .ref o])).length) Slot.unset).toArray = ls at hl ⊢
  have hl : lv_has ls 5 [(0, .ref (ad 0)), (1, .int x1), (2, .int x2), (3, .ref o)] := hl
  refine lv_aload_n hx hb d_Lw_desk_0 rfl (lv_at hl 3 rfl) ?_
  refine lv_iconst (v := 0) hx hb d_Lw_desk_1 (by decide) ?_
  refine lv_aload_n hx hb d_Lw_desk_2 rfl (lv_at hl 0 rfl) ?_
  refine lv_iload_n hx hb d_Lw_desk_3 rfl (lv_at hl 1 rfl) ?_
  refine lv_iload_n hx hb d_Lw_desk_4 rfl (lv_at hl 2 rfl) ?_
  cases r with
  | inl v =>
    refine wCallI G hS (va_runV (As := [.int x1, .int x2]) (rest := [.int 0, .ref o]) ⟨hx, hb, hml, hown, hts⟩ (MetX.met (c_H_desk l htl D ca ad st _ x1 x2 _ _ h) (fun _ _ _ _ q => ⟨_, q.1⟩)) (xCW (C := "MuseumHouse") 2 hts wd_2_22 wd_1_1 wd_2_19 wd_2_20 wd_2_21 (by decide +kernel) ⟨Nat.le_of_ble_eq_true rfl, Nat.le_of_ble_eq_true rfl⟩) (G.preV hP hS 0 rfl rfl) rfl rfl hl.1 rfl (lv_room (Nat.le_of_ble_eq_true rfl)) d_Lw_desk_5 ⟨Nat.zero_le _, Nat.zero_le _⟩) (fun H locs hP hS hfr => ?_)
    have hPo := w_keep hne hPo hfr
    have hPc := va_P.app hP hPo
    have hDc := w_D (ca := ca) (co := co) (st := st') (f := f) (sz := s.heap.size) G.2.1 hne
    refine lv_i2l hx hb d_Lw_desk_8 rfl ?_
    refine va_last hx hb hKo hPc hDc hS 34 0 rfl rfl w_in0 d_Lw_desk_9 (fun H locs hPc _ hS => ?_)
    have hPc : va_P D hcl (hW ca ad st' ++ wO co o (vp_updL f (0 : Int32).toNatClampNeg v.toInt64)) H := hPc
    refine lv_goto (tgt := 25) hx hb d_Lw_desk_10 (by decide) ?_
    refine lv_iconst (v := 0) hx hb d_Lw_desk_25 (by decide) ?_
    exact W.iret (v := 0) hx hb hr (fun t ht _ => ⟨rfl, by rw [ht]; exact hPc.left, by rw [ht]; exact hPc.right, hS.F ht⟩) hS.2.2 d_Lw_desk_26
  | inr k =>
    have hk1 := hk k rfl
    simp only [List.mem_cons, List.not_mem_nil, or_false] at hk1
    rcases hk1 with rfl | rfl | rfl
    · refine wThrV G hS hown hts ⟨hx, hb, hml, hown, hts⟩ (As := [.int x1, .int x2]) (rest := [.int 0, .ref o]) (c_H_desk l htl D ca ad st _ x1 x2 _ _ h) (xCW (C := "MuseumHouse") 2 hts wd_2_22 wd_1_1 wd_2_19 wd_2_20 wd_2_21 (by decide +kernel) ⟨Nat.le_of_ble_eq_true rfl, Nat.le_of_ble_eq_true rfl⟩) (G.preV hP hS 0 rfl rfl) rfl rfl hl.1 rfl (lv_room (Nat.le_of_ble_eq_true rfl)) d_Lw_desk_5 ⟨Nat.le_of_ble_eq_true rfl, Nat.le_of_ble_eq_true rfl⟩ [] ⟨0, 10, 13, 13⟩ [⟨0, 10, 17, 15⟩, ⟨0, 10, 21, 17⟩] htab (fun y hy => by cases hy) (by decide) (by decide) wd_2_16 hN.2.2.2.1 (fun x H locs hP hS hfr => ?_)
      have hPo := w_keep hne hPo hfr
      refine lv_astore (lv' := [(4, .ref x), (0, .ref (ad 0)), (1, .int x1), (2, .int x2), (3, .ref o)]) hx hb d_Lw_desk_13 hl (by decide) rfl (fun ls hl => ?_)
      refine lv_iconst (v := 1) hx hb d_Lw_desk_15 (by decide) ?_
      exact W.iret (v := 1) hx hb hr (fun t ht _ => ⟨by rw [show wk [1, 2, 3] (.inr 1) = 1 from by decide +kernel], by rw [ht]; exact hP, by rw [ht]; exact hPo, hS.F ht⟩) hS.2.2 d_Lw_desk_16
    · refine wThrV G hS hown hts ⟨hx, hb, hml, hown, hts⟩ (As := [.int x1, .int x2]) (rest := [.int 0, .ref o]) (c_H_desk l htl D ca ad st _ x1 x2 _ _ h) (xCW (C := "MuseumHouse") 2 hts wd_2_22 wd_1_1 wd_2_19 wd_2_20 wd_2_21 (by decide +kernel) ⟨Nat.le_of_ble_eq_true rfl, Nat.le_of_ble_eq_true rfl⟩) (G.preV hP hS 0 rfl rfl) rfl rfl hl.1 rfl (lv_room (Nat.le_of_ble_eq_true rfl)) d_Lw_desk_5 ⟨Nat.le_of_ble_eq_true rfl, Nat.le_of_ble_eq_true rfl⟩ [⟨0, 10, 13, 13⟩] ⟨0, 10, 17, 15⟩ [⟨0, 10, 21, 17⟩] htab (by
        intro y hy
        simp only [List.mem_cons, List.not_mem_nil, or_false] at hy
        rcases hy with rfl
        · exact ⟨by decide, by decide, _, wd_2_16, hN.1⟩) (by decide) (by decide) wd_2_17 hN.2.2.2.2.1 (fun x H locs hP hS hfr => ?_)
      have hPo := w_keep hne hPo hfr
      refine lv_astore (lv' := [(4, .ref x), (0, .ref (ad 0)), (1, .int x1), (2, .int x2), (3, .ref o)]) hx hb d_Lw_desk_17 hl (by decide) rfl (fun ls hl => ?_)
      refine lv_iconst (v := 2) hx hb d_Lw_desk_19 (by decide) ?_
      exact W.iret (v := 2) hx hb hr (fun t ht _ => ⟨by rw [show wk [1, 2, 3] (.inr 2) = 2 from by decide +kernel], by rw [ht]; exact hP, by rw [ht]; exact hPo, hS.F ht⟩) hS.2.2 d_Lw_desk_20
    · refine wThrV G hS hown hts ⟨hx, hb, hml, hown, hts⟩ (As := [.int x1, .int x2]) (rest := [.int 0, .ref o]) (c_H_desk l htl D ca ad st _ x1 x2 _ _ h) (xCW (C := "MuseumHouse") 2 hts wd_2_22 wd_1_1 wd_2_19 wd_2_20 wd_2_21 (by decide +kernel) ⟨Nat.le_of_ble_eq_true rfl, Nat.le_of_ble_eq_true rfl⟩) (G.preV hP hS 0 rfl rfl) rfl rfl hl.1 rfl (lv_room (Nat.le_of_ble_eq_true rfl)) d_Lw_desk_5 ⟨Nat.le_of_ble_eq_true rfl, Nat.le_of_ble_eq_true rfl⟩ [⟨0, 10, 13, 13⟩, ⟨0, 10, 17, 15⟩] ⟨0, 10, 21, 17⟩ [] htab (by
        intro y hy
        simp only [List.mem_cons, List.not_mem_nil, or_false] at hy
        rcases hy with rfl | rfl
        · exact ⟨by decide, by decide, _, wd_2_16, hN.2.1⟩
        · exact ⟨by decide, by decide, _, wd_2_17, hN.2.2.1⟩) (by decide) (by decide) wd_2_18 hN.2.2.2.2.2 (fun x H locs hP hS hfr => ?_)
      have hPo := w_keep hne hPo hfr
      refine lv_astore (lv' := [(4, .ref x), (0, .ref (ad 0)), (1, .int x1), (2, .int x2), (3, .ref o)]) hx hb d_Lw_desk_21 hl (by decide) rfl (fun ls hl => ?_)
      refine lv_iconst (v := 3) hx hb d_Lw_desk_23 (by decide) ?_
      exact W.iret (v := 3) hx hb hr (fun t ht _ => ⟨by rw [show wk [1, 2, 3] (.inr 3) = 3 from by decide +kernel], by rw [ht]; exact hP, by rw [ht]; exact hPo, hS.F ht⟩) hS.2.2 d_Lw_desk_24
set_option maxHeartbeats 4000000 in
set_option maxRecDepth 100000 in
theorem w_day (l : Launch) (htl : l.stackTraces = false) (D : va_G) (ca : Nat → ClassId) (co : ClassId) (ad : Nat → Nat) (o : Nat) (st : pu_St) (f : Nat → Int64) (sz : Nat) (x1 : Int32) (r : Int32 ⊕ Nat) (st' : pu_St) (h : f_H_day st x1 = some (r, st')) (hk : ∀ k, r = .inr k → k ∈ [3]) : Met l y_Lw_day (.codeWith y_Lw_day b_Lw_day 4 (some .int) [(0, 9, 12, 17)] :: tG) { frames := 8, cells := xc r, slots := xs r, locals := 133 } (va_Pc [.ref (ad 0), .int x1, .ref o] (wPc D ca co ad o st f sz)) (wQ D ca co ad o (wk [3] r) st' (wfI f r) sz) (xc r) (xs r) (wA ad o sz) := by
  refine wMet (by decide +kernel) ?_
  intro p e s m below meth c hx hb hml hr hlocks hown hts htab GX hP hPo
  obtain ⟨G, hKo, hne, hN⟩ := GX
  have hown : s.vm.findClass "MuseumHouseLaw" = some m.cls := hown
  have hS : va_S (wA ad o s.heap.size) s.heap s.heap [] := va_S.rf
  have hl := lv_entry ([.ref (ad 0), .int x1, .ref o]) (n := 4) (Nat.le_of_ble_eq_true rfl)
  rw [lg_entry_eq]
  generalize (lg_sl ([.ref (ad 0), .int x1, .ref o]) ++ List.replicate (4 - (lg_sl ([.ref (ad 0), .int x1, .ref o])).length) Slot.unset).toArray = ls at hl ⊢
  have hl : lv_has ls 4 [(0, .ref (ad 0)), (1, .int x1), (2, .ref o)] := hl
  refine lv_aload_n hx hb d_Lw_day_0 rfl (lv_at hl 2 rfl) ?_
  refine lv_iconst (v := 0) hx hb d_Lw_day_1 (by decide) ?_
  refine lv_aload_n hx hb d_Lw_day_2 rfl (lv_at hl 0 rfl) ?_
  refine lv_iload_n hx hb d_Lw_day_3 rfl (lv_at hl 1 rfl) ?_
  cases r with
  | inl v =>
    refine wCallI G hS (va_runV (As := [.int x1]) (rest := [.int 0, .ref o]) ⟨hx, hb, hml, hown, hts⟩ (MetX.met (c_H_day l htl D ca ad st _ x1 _ _ h) (fun _ _ _ _ q => ⟨_, q.1⟩)) (xCW (C := "MuseumHouse") 1 hts wd_2_171 wd_1_1 wd_2_168 wd_2_169 wd_2_170 (by decide +kernel) ⟨Nat.le_of_ble_eq_true rfl, Nat.le_of_ble_eq_true rfl⟩) (G.preV hP hS 0 rfl rfl) rfl rfl hl.1 rfl (lv_room (Nat.le_of_ble_eq_true rfl)) d_Lw_day_4 ⟨Nat.zero_le _, Nat.zero_le _⟩) (fun H locs hP hS hfr => ?_)
    have hPo := w_keep hne hPo hfr
    have hPc := va_P.app hP hPo
    have hDc := w_D (ca := ca) (co := co) (st := st') (f := f) (sz := s.heap.size) G.2.1 hne
    refine lv_i2l hx hb d_Lw_day_7 rfl ?_
    refine va_last hx hb hKo hPc hDc hS 34 0 rfl rfl w_in0 d_Lw_day_8 (fun H locs hPc _ hS => ?_)
    have hPc : va_P D hcl (hW ca ad st' ++ wO co o (vp_updL f (0 : Int32).toNatClampNeg v.toInt64)) H := hPc
    refine lv_goto (tgt := 15) hx hb d_Lw_day_9 (by decide) ?_
    refine lv_iconst (v := 0) hx hb d_Lw_day_15 (by decide) ?_
    exact W.iret (v := 0) hx hb hr (fun t ht _ => ⟨rfl, by rw [ht]; exact hPc.left, by rw [ht]; exact hPc.right, hS.F ht⟩) hS.2.2 d_Lw_day_16
  | inr k =>
    have hk1 := hk k rfl
    simp only [List.mem_cons, List.not_mem_nil, or_false] at hk1
    rcases hk1 with rfl
    · refine wThrV G hS hown hts ⟨hx, hb, hml, hown, hts⟩ (As := [.int x1]) (rest := [.int 0, .ref o]) (c_H_day l htl D ca ad st _ x1 _ _ h) (xCW (C := "MuseumHouse") 1 hts wd_2_171 wd_1_1 wd_2_168 wd_2_169 wd_2_170 (by decide +kernel) ⟨Nat.le_of_ble_eq_true rfl, Nat.le_of_ble_eq_true rfl⟩) (G.preV hP hS 0 rfl rfl) rfl rfl hl.1 rfl (lv_room (Nat.le_of_ble_eq_true rfl)) d_Lw_day_4 ⟨Nat.le_of_ble_eq_true rfl, Nat.le_of_ble_eq_true rfl⟩ [] ⟨0, 9, 12, 17⟩ [] htab (fun y hy => by cases hy) (by decide) (by decide) wd_2_18 hN.2.2.2.2.2 (fun x H locs hP hS hfr => ?_)
      have hPo := w_keep hne hPo hfr
      refine lv_astore_n (lv' := [(3, .ref x), (0, .ref (ad 0)), (1, .int x1), (2, .ref o)]) hx hb d_Lw_day_12 rfl hl (by decide) rfl (fun ls hl => ?_)
      refine lv_iconst (v := 1) hx hb d_Lw_day_13 (by decide) ?_
      exact W.iret (v := 1) hx hb hr (fun t ht _ => ⟨by rw [show wk [3] (.inr 3) = 1 from by decide +kernel], by rw [ht]; exact hP, by rw [ht]; exact hPo, hS.F ht⟩) hS.2.2 d_Lw_day_14
set_option maxHeartbeats 4000000 in
set_option maxRecDepth 100000 in
theorem w_site (l : Launch) (htl : l.stackTraces = false) (D : va_G) (ca : Nat → ClassId) (co : ClassId) (ad : Nat → Nat) (o : Nat) (st : pu_St) (f : Nat → Int64) (sz : Nat) (x1 : Int32) (r : Int32 ⊕ Nat) (st' : pu_St) (h : f_H_site st x1 = some (r, st')) (hk : ∀ k, r = .inr k → k ∈ [1, 2]) : Met l y_Lw_site (.codeWith y_Lw_site b_Lw_site 4 (some .int) [(0, 9, 12, 13), (0, 9, 15, 15)] :: tG) { frames := 8, cells := xc r, slots := xs r, locals := 135 } (va_Pc [.ref (ad 0), .int x1, .ref o] (wPc D ca co ad o st f sz)) (wQ D ca co ad o (wk [1, 2] r) st' (wfI f r) sz) (xc r) (xs r) (wA ad o sz) := by
  refine wMet (by decide +kernel) ?_
  intro p e s m below meth c hx hb hml hr hlocks hown hts htab GX hP hPo
  obtain ⟨G, hKo, hne, hN⟩ := GX
  have hown : s.vm.findClass "MuseumHouseLaw" = some m.cls := hown
  have hS : va_S (wA ad o s.heap.size) s.heap s.heap [] := va_S.rf
  have hl := lv_entry ([.ref (ad 0), .int x1, .ref o]) (n := 4) (Nat.le_of_ble_eq_true rfl)
  rw [lg_entry_eq]
  generalize (lg_sl ([.ref (ad 0), .int x1, .ref o]) ++ List.replicate (4 - (lg_sl ([.ref (ad 0), .int x1, .ref o])).length) Slot.unset).toArray = ls at hl ⊢
  have hl : lv_has ls 4 [(0, .ref (ad 0)), (1, .int x1), (2, .ref o)] := hl
  refine lv_aload_n hx hb d_Lw_site_0 rfl (lv_at hl 2 rfl) ?_
  refine lv_iconst (v := 0) hx hb d_Lw_site_1 (by decide) ?_
  refine lv_aload_n hx hb d_Lw_site_2 rfl (lv_at hl 0 rfl) ?_
  refine lv_iload_n hx hb d_Lw_site_3 rfl (lv_at hl 1 rfl) ?_
  cases r with
  | inl v =>
    refine wCallI G hS (va_runV (As := [.int x1]) (rest := [.int 0, .ref o]) ⟨hx, hb, hml, hown, hts⟩ (MetX.met (c_H_site l htl D ca ad st _ x1 _ _ h) (fun _ _ _ _ q => ⟨_, q.1⟩)) (xCW (C := "MuseumHouse") 1 hts wd_2_178 wd_1_1 wd_2_175 wd_2_176 wd_2_177 (by decide +kernel) ⟨Nat.le_of_ble_eq_true rfl, Nat.le_of_ble_eq_true rfl⟩) (G.preV hP hS 0 rfl rfl) rfl rfl hl.1 rfl (lv_room (Nat.le_of_ble_eq_true rfl)) d_Lw_site_4 ⟨Nat.zero_le _, Nat.zero_le _⟩) (fun H locs hP hS hfr => ?_)
    have hPo := w_keep hne hPo hfr
    have hPc := va_P.app hP hPo
    have hDc := w_D (ca := ca) (co := co) (st := st') (f := f) (sz := s.heap.size) G.2.1 hne
    refine lv_i2l hx hb d_Lw_site_7 rfl ?_
    refine va_last hx hb hKo hPc hDc hS 34 0 rfl rfl w_in0 d_Lw_site_8 (fun H locs hPc _ hS => ?_)
    have hPc : va_P D hcl (hW ca ad st' ++ wO co o (vp_updL f (0 : Int32).toNatClampNeg v.toInt64)) H := hPc
    refine lv_goto (tgt := 18) hx hb d_Lw_site_9 (by decide) ?_
    refine lv_iconst (v := 0) hx hb d_Lw_site_18 (by decide) ?_
    exact W.iret (v := 0) hx hb hr (fun t ht _ => ⟨rfl, by rw [ht]; exact hPc.left, by rw [ht]; exact hPc.right, hS.F ht⟩) hS.2.2 d_Lw_site_19
  | inr k =>
    have hk1 := hk k rfl
    simp only [List.mem_cons, List.not_mem_nil, or_false] at hk1
    rcases hk1 with rfl | rfl
    · refine wThrV G hS hown hts ⟨hx, hb, hml, hown, hts⟩ (As := [.int x1]) (rest := [.int 0, .ref o]) (c_H_site l htl D ca ad st _ x1 _ _ h) (xCW (C := "MuseumHouse") 1 hts wd_2_178 wd_1_1 wd_2_175 wd_2_176 wd_2_177 (by decide +kernel) ⟨Nat.le_of_ble_eq_true rfl, Nat.le_of_ble_eq_true rfl⟩) (G.preV hP hS 0 rfl rfl) rfl rfl hl.1 rfl (lv_room (Nat.le_of_ble_eq_true rfl)) d_Lw_site_4 ⟨Nat.le_of_ble_eq_true rfl, Nat.le_of_ble_eq_true rfl⟩ [] ⟨0, 9, 12, 13⟩ [⟨0, 9, 15, 15⟩] htab (fun y hy => by cases hy) (by decide) (by decide) wd_2_16 hN.2.2.2.1 (fun x H locs hP hS hfr => ?_)
      have hPo := w_keep hne hPo hfr
      refine lv_astore_n (lv' := [(3, .ref x), (0, .ref (ad 0)), (1, .int x1), (2, .ref o)]) hx hb d_Lw_site_12 rfl hl (by decide) rfl (fun ls hl => ?_)
      refine lv_iconst (v := 1) hx hb d_Lw_site_13 (by decide) ?_
      exact W.iret (v := 1) hx hb hr (fun t ht _ => ⟨by rw [show wk [1, 2] (.inr 1) = 1 from by decide +kernel], by rw [ht]; exact hP, by rw [ht]; exact hPo, hS.F ht⟩) hS.2.2 d_Lw_site_14
    · refine wThrV G hS hown hts ⟨hx, hb, hml, hown, hts⟩ (As := [.int x1]) (rest := [.int 0, .ref o]) (c_H_site l htl D ca ad st _ x1 _ _ h) (xCW (C := "MuseumHouse") 1 hts wd_2_178 wd_1_1 wd_2_175 wd_2_176 wd_2_177 (by decide +kernel) ⟨Nat.le_of_ble_eq_true rfl, Nat.le_of_ble_eq_true rfl⟩) (G.preV hP hS 0 rfl rfl) rfl rfl hl.1 rfl (lv_room (Nat.le_of_ble_eq_true rfl)) d_Lw_site_4 ⟨Nat.le_of_ble_eq_true rfl, Nat.le_of_ble_eq_true rfl⟩ [⟨0, 9, 12, 13⟩] ⟨0, 9, 15, 15⟩ [] htab (by
        intro y hy
        simp only [List.mem_cons, List.not_mem_nil, or_false] at hy
        rcases hy with rfl
        · exact ⟨by decide, by decide, _, wd_2_16, hN.1⟩) (by decide) (by decide) wd_2_17 hN.2.2.2.2.1 (fun x H locs hP hS hfr => ?_)
      have hPo := w_keep hne hPo hfr
      refine lv_astore_n (lv' := [(3, .ref x), (0, .ref (ad 0)), (1, .int x1), (2, .ref o)]) hx hb d_Lw_site_15 rfl hl (by decide) rfl (fun ls hl => ?_)
      refine lv_iconst (v := 2) hx hb d_Lw_site_16 (by decide) ?_
      exact W.iret (v := 2) hx hb hr (fun t ht _ => ⟨by rw [show wk [1, 2] (.inr 2) = 2 from by decide +kernel], by rw [ht]; exact hP, by rw [ht]; exact hPo, hS.F ht⟩) hS.2.2 d_Lw_site_17
set_option maxHeartbeats 4000000 in
set_option maxRecDepth 100000 in
theorem w_context (l : Launch) (htl : l.stackTraces = false) (D : va_G) (ca : Nat → ClassId) (co : ClassId) (ad : Nat → Nat) (o : Nat) (st : pu_St) (f : Nat → Int64) (sz : Nat) (x1 x2 : Int32) (r : Int32 ⊕ Nat) (st' : pu_St) (h : f_H_context st x1 x2 = some (r, st')) (hk : ∀ k, r = .inr k → k ∈ [1, 2]) : Met l y_Lw_context (.codeWith y_Lw_context b_Lw_context 5 (some .int) [(0, 10, 13, 13), (0, 10, 17, 15)] :: tG) { frames := 8, cells := xc r, slots := xs r, locals := 137 } (va_Pc [.ref (ad 0), .int x1, .int x2, .ref o] (wPc D ca co ad o st f sz)) (wQ D ca co ad o (wk [1, 2] r) st' (wfI f r) sz) (xc r) (xs r) (wA ad o sz) := by
  refine wMet (by decide +kernel) ?_
  intro p e s m below meth c hx hb hml hr hlocks hown hts htab GX hP hPo
  obtain ⟨G, hKo, hne, hN⟩ := GX
  have hown : s.vm.findClass "MuseumHouseLaw" = some m.cls := hown
  have hS : va_S (wA ad o s.heap.size) s.heap s.heap [] := va_S.rf
  have hl := lv_entry ([.ref (ad 0), .int x1, .int x2, .ref o]) (n := 5) (Nat.le_of_ble_eq_true rfl)
  rw [lg_entry_eq]
  generalize (lg_sl ([.ref (ad 0), .int x1, .int x2, .ref o]) ++ List.replicate (5 - (lg_sl ([.ref (ad 0), .int x1, .int x2, .ref o])).length) Slot.unset).toArray = ls at hl ⊢
  have hl : lv_has ls 5 [(0, .ref (ad 0)), (1, .int x1), (2, .int x2), (3, .ref o)] := hl
  refine lv_aload_n hx hb d_Lw_context_0 rfl (lv_at hl 3 rfl) ?_
  refine lv_iconst (v := 0) hx hb d_Lw_context_1 (by decide) ?_
  refine lv_aload_n hx hb d_Lw_context_2 rfl (lv_at hl 0 rfl) ?_
  refine lv_iload_n hx hb d_Lw_context_3 rfl (lv_at hl 1 rfl) ?_
  refine lv_iload_n hx hb d_Lw_context_4 rfl (lv_at hl 2 rfl) ?_
  cases r with
  | inl v =>
    refine wCallI G hS (va_runV (As := [.int x1, .int x2]) (rest := [.int 0, .ref o]) ⟨hx, hb, hml, hown, hts⟩ (MetX.met (c_H_context l htl D ca ad st _ x1 x2 _ _ h) (fun _ _ _ _ q => ⟨_, q.1⟩)) (xCW (C := "MuseumHouse") 2 hts wd_2_198 wd_1_1 wd_2_195 wd_2_196 wd_2_197 (by decide +kernel) ⟨Nat.le_of_ble_eq_true rfl, Nat.le_of_ble_eq_true rfl⟩) (G.preV hP hS 0 rfl rfl) rfl rfl hl.1 rfl (lv_room (Nat.le_of_ble_eq_true rfl)) d_Lw_context_5 ⟨Nat.zero_le _, Nat.zero_le _⟩) (fun H locs hP hS hfr => ?_)
    have hPo := w_keep hne hPo hfr
    have hPc := va_P.app hP hPo
    have hDc := w_D (ca := ca) (co := co) (st := st') (f := f) (sz := s.heap.size) G.2.1 hne
    refine lv_i2l hx hb d_Lw_context_8 rfl ?_
    refine va_last hx hb hKo hPc hDc hS 34 0 rfl rfl w_in0 d_Lw_context_9 (fun H locs hPc _ hS => ?_)
    have hPc : va_P D hcl (hW ca ad st' ++ wO co o (vp_updL f (0 : Int32).toNatClampNeg v.toInt64)) H := hPc
    refine lv_goto (tgt := 21) hx hb d_Lw_context_10 (by decide) ?_
    refine lv_iconst (v := 0) hx hb d_Lw_context_21 (by decide) ?_
    exact W.iret (v := 0) hx hb hr (fun t ht _ => ⟨rfl, by rw [ht]; exact hPc.left, by rw [ht]; exact hPc.right, hS.F ht⟩) hS.2.2 d_Lw_context_22
  | inr k =>
    have hk1 := hk k rfl
    simp only [List.mem_cons, List.not_mem_nil, or_false] at hk1
    rcases hk1 with rfl | rfl
    · refine wThrV G hS hown hts ⟨hx, hb, hml, hown, hts⟩ (As := [.int x1, .int x2]) (rest := [.int 0, .ref o]) (c_H_context l htl D ca ad st _ x1 x2 _ _ h) (xCW (C := "MuseumHouse") 2 hts wd_2_198 wd_1_1 wd_2_195 wd_2_196 wd_2_197 (by decide +kernel) ⟨Nat.le_of_ble_eq_true rfl, Nat.le_of_ble_eq_true rfl⟩) (G.preV hP hS 0 rfl rfl) rfl rfl hl.1 rfl (lv_room (Nat.le_of_ble_eq_true rfl)) d_Lw_context_5 ⟨Nat.le_of_ble_eq_true rfl, Nat.le_of_ble_eq_true rfl⟩ [] ⟨0, 10, 13, 13⟩ [⟨0, 10, 17, 15⟩] htab (fun y hy => by cases hy) (by decide) (by decide) wd_2_16 hN.2.2.2.1 (fun x H locs hP hS hfr => ?_)
      have hPo := w_keep hne hPo hfr
      refine lv_astore (lv' := [(4, .ref x), (0, .ref (ad 0)), (1, .int x1), (2, .int x2), (3, .ref o)]) hx hb d_Lw_context_13 hl (by decide) rfl (fun ls hl => ?_)
      refine lv_iconst (v := 1) hx hb d_Lw_context_15 (by decide) ?_
      exact W.iret (v := 1) hx hb hr (fun t ht _ => ⟨by rw [show wk [1, 2] (.inr 1) = 1 from by decide +kernel], by rw [ht]; exact hP, by rw [ht]; exact hPo, hS.F ht⟩) hS.2.2 d_Lw_context_16
    · refine wThrV G hS hown hts ⟨hx, hb, hml, hown, hts⟩ (As := [.int x1, .int x2]) (rest := [.int 0, .ref o]) (c_H_context l htl D ca ad st _ x1 x2 _ _ h) (xCW (C := "MuseumHouse") 2 hts wd_2_198 wd_1_1 wd_2_195 wd_2_196 wd_2_197 (by decide +kernel) ⟨Nat.le_of_ble_eq_true rfl, Nat.le_of_ble_eq_true rfl⟩) (G.preV hP hS 0 rfl rfl) rfl rfl hl.1 rfl (lv_room (Nat.le_of_ble_eq_true rfl)) d_Lw_context_5 ⟨Nat.le_of_ble_eq_true rfl, Nat.le_of_ble_eq_true rfl⟩ [⟨0, 10, 13, 13⟩] ⟨0, 10, 17, 15⟩ [] htab (by
        intro y hy
        simp only [List.mem_cons, List.not_mem_nil, or_false] at hy
        rcases hy with rfl
        · exact ⟨by decide, by decide, _, wd_2_16, hN.1⟩) (by decide) (by decide) wd_2_17 hN.2.2.2.2.1 (fun x H locs hP hS hfr => ?_)
      have hPo := w_keep hne hPo hfr
      refine lv_astore (lv' := [(4, .ref x), (0, .ref (ad 0)), (1, .int x1), (2, .int x2), (3, .ref o)]) hx hb d_Lw_context_17 hl (by decide) rfl (fun ls hl => ?_)
      refine lv_iconst (v := 2) hx hb d_Lw_context_19 (by decide) ?_
      exact W.iret (v := 2) hx hb hr (fun t ht _ => ⟨by rw [show wk [1, 2] (.inr 2) = 2 from by decide +kernel], by rw [ht]; exact hP, by rw [ht]; exact hPo, hS.F ht⟩) hS.2.2 d_Lw_context_20
set_option maxHeartbeats 4000000 in
set_option maxRecDepth 100000 in
theorem w_above (l : Launch) (htl : l.stackTraces = false) (D : va_G) (ca : Nat → ClassId) (co : ClassId) (ad : Nat → Nat) (o : Nat) (st : pu_St) (f : Nat → Int64) (sz : Nat) (x1 x2 x3 : Int32) (r : Int32 ⊕ Nat) (st' : pu_St) (h : f_H_above st x1 x2 x3 = some (r, st')) (hk : ∀ k, r = .inr k → k ∈ [1, 2, 3]) : Met l y_Lw_above (.codeWith y_Lw_above b_Lw_above 6 (some .int) [(0, 19, 22, 13), (0, 19, 26, 15), (0, 19, 30, 17)] :: tG) { frames := 8, cells := xc r, slots := xs r, locals := 140 } (va_Pc [.ref (ad 0), .int x1, .int x2, .int x3, .ref o] (wPc D ca co ad o st f sz)) (wQ D ca co ad o (wk [1, 2, 3] r) st' (wfZ f r) sz) (xc r) (xs r) (wA ad o sz) := by
  refine wMet (by decide +kernel) ?_
  intro p e s m below meth c hx hb hml hr hlocks hown hts htab GX hP hPo
  obtain ⟨G, hKo, hne, hN⟩ := GX
  have hown : s.vm.findClass "MuseumHouseLaw" = some m.cls := hown
  have hS : va_S (wA ad o s.heap.size) s.heap s.heap [] := va_S.rf
  have hl := lv_entry ([.ref (ad 0), .int x1, .int x2, .int x3, .ref o]) (n := 6) (Nat.le_of_ble_eq_true rfl)
  rw [lg_entry_eq]
  generalize (lg_sl ([.ref (ad 0), .int x1, .int x2, .int x3, .ref o]) ++ List.replicate (6 - (lg_sl ([.ref (ad 0), .int x1, .int x2, .int x3, .ref o])).length) Slot.unset).toArray = ls at hl ⊢
  have hl : lv_has ls 6 [(0, .ref (ad 0)), (1, .int x1), (2, .int x2), (3, .int x3), (4, .ref o)] := hl
  refine lv_aload hx hb d_Lw_above_0 (lv_at hl 4 rfl) ?_
  refine lv_iconst (v := 0) hx hb d_Lw_above_2 (by decide) ?_
  refine lv_aload_n hx hb d_Lw_above_3 rfl (lv_at hl 0 rfl) ?_
  refine lv_iload_n hx hb d_Lw_above_4 rfl (lv_at hl 1 rfl) ?_
  refine lv_iload_n hx hb d_Lw_above_5 rfl (lv_at hl 2 rfl) ?_
  refine lv_iload_n hx hb d_Lw_above_6 rfl (lv_at hl 3 rfl) ?_
  cases r with
  | inl v =>
    refine wCallI G hS (va_runV (As := [.int x1, .int x2, .int x3]) (rest := [.int 0, .ref o]) ⟨hx, hb, hml, hown, hts⟩ (MetX.met (c_H_above l htl D ca ad st _ x1 x2 x3 _ _ h) (fun _ _ _ _ q => ⟨_, q.1⟩)) (xCW (C := "MuseumHouse") 3 hts wd_2_218 wd_1_1 wd_2_215 wd_2_216 wd_2_217 (by decide +kernel) ⟨Nat.le_of_ble_eq_true rfl, Nat.le_of_ble_eq_true rfl⟩) (G.preV hP hS 0 rfl rfl) rfl rfl hl.1 rfl (lv_room (Nat.le_of_ble_eq_true rfl)) d_Lw_above_7 ⟨Nat.zero_le _, Nat.zero_le _⟩) (fun H locs hP hS hfr => ?_)
    have hPo := w_keep hne hPo hfr
    have hPc := va_P.app hP hPo
    have hDc := w_D (ca := ca) (co := co) (st := st') (f := f) (sz := s.heap.size) G.2.1 hne
    refine lv_if_eq (tgt := 17) hx hb d_Lw_above_10 (by decide) (fun cz => ?_) (fun cz => ?_)
    · refine lv_lconst (v := 0) hx hb d_Lw_above_17 (by decide) ?_
      refine va_last hx hb hKo hPc hDc hS 34 0 rfl rfl w_in0 d_Lw_above_18 (fun H locs hPc _ hS => ?_)
      have hPc : va_P D hcl (hW ca ad st' ++ wO co o (vp_updL f (0 : Int32).toNatClampNeg 0)) H := hPc
      refine lv_goto (tgt := 34) hx hb d_Lw_above_19 (by decide) ?_
      refine lv_iconst (v := 0) hx hb d_Lw_above_34 (by decide) ?_
      exact W.iret (v := 0) hx hb hr (fun t ht _ => ⟨rfl, by rw [ht]; exact hPc.left, by rw [ht]; show va_P D hcl (wO co o (vp_updL f (0 : Int32).toNatClampNeg (if v = 0 then 0 else 1))) H; rw [if_pos cz]; exact hPc.right, hS.F ht⟩) hS.2.2 d_Lw_above_35
    · refine lv_lconst (v := 1) hx hb d_Lw_above_13 (by decide) ?_
      refine lv_goto (tgt := 18) hx hb d_Lw_above_14 (by decide) ?_
      refine va_last hx hb hKo hPc hDc hS 34 0 rfl rfl w_in0 d_Lw_above_18 (fun H locs hPc _ hS => ?_)
      have hPc : va_P D hcl (hW ca ad st' ++ wO co o (vp_updL f (0 : Int32).toNatClampNeg 1)) H := hPc
      refine lv_goto (tgt := 34) hx hb d_Lw_above_19 (by decide) ?_
      refine lv_iconst (v := 0) hx hb d_Lw_above_34 (by decide) ?_
      exact W.iret (v := 0) hx hb hr (fun t ht _ => ⟨rfl, by rw [ht]; exact hPc.left, by rw [ht]; show va_P D hcl (wO co o (vp_updL f (0 : Int32).toNatClampNeg (if v = 0 then 0 else 1))) H; rw [if_neg cz]; exact hPc.right, hS.F ht⟩) hS.2.2 d_Lw_above_35
  | inr k =>
    have hk1 := hk k rfl
    simp only [List.mem_cons, List.not_mem_nil, or_false] at hk1
    rcases hk1 with rfl | rfl | rfl
    · refine wThrV G hS hown hts ⟨hx, hb, hml, hown, hts⟩ (As := [.int x1, .int x2, .int x3]) (rest := [.int 0, .ref o]) (c_H_above l htl D ca ad st _ x1 x2 x3 _ _ h) (xCW (C := "MuseumHouse") 3 hts wd_2_218 wd_1_1 wd_2_215 wd_2_216 wd_2_217 (by decide +kernel) ⟨Nat.le_of_ble_eq_true rfl, Nat.le_of_ble_eq_true rfl⟩) (G.preV hP hS 0 rfl rfl) rfl rfl hl.1 rfl (lv_room (Nat.le_of_ble_eq_true rfl)) d_Lw_above_7 ⟨Nat.le_of_ble_eq_true rfl, Nat.le_of_ble_eq_true rfl⟩ [] ⟨0, 19, 22, 13⟩ [⟨0, 19, 26, 15⟩, ⟨0, 19, 30, 17⟩] htab (fun y hy => by cases hy) (by decide) (by decide) wd_2_16 hN.2.2.2.1 (fun x H locs hP hS hfr => ?_)
      have hPo := w_keep hne hPo hfr
      refine lv_astore (lv' := [(5, .ref x), (0, .ref (ad 0)), (1, .int x1), (2, .int x2), (3, .int x3), (4, .ref o)]) hx hb d_Lw_above_22 hl (by decide) rfl (fun ls hl => ?_)
      refine lv_iconst (v := 1) hx hb d_Lw_above_24 (by decide) ?_
      exact W.iret (v := 1) hx hb hr (fun t ht _ => ⟨by rw [show wk [1, 2, 3] (.inr 1) = 1 from by decide +kernel], by rw [ht]; exact hP, by rw [ht]; exact hPo, hS.F ht⟩) hS.2.2 d_Lw_above_25
    · refine wThrV G hS hown hts ⟨hx, hb, hml, hown, hts⟩ (As := [.int x1, .int x2, .int x3]) (rest := [.int 0, .ref o]) (c_H_above l htl D ca ad st _ x1 x2 x3 _ _ h) (xCW (C := "MuseumHouse") 3 hts wd_2_218 wd_1_1 wd_2_215 wd_2_216 wd_2_217 (by decide +kernel) ⟨Nat.le_of_ble_eq_true rfl, Nat.le_of_ble_eq_true rfl⟩) (G.preV hP hS 0 rfl rfl) rfl rfl hl.1 rfl (lv_room (Nat.le_of_ble_eq_true rfl)) d_Lw_above_7 ⟨Nat.le_of_ble_eq_true rfl, Nat.le_of_ble_eq_true rfl⟩ [⟨0, 19, 22, 13⟩] ⟨0, 19, 26, 15⟩ [⟨0, 19, 30, 17⟩] htab (by
        intro y hy
        simp only [List.mem_cons, List.not_mem_nil, or_false] at hy
        rcases hy with rfl
        · exact ⟨by decide, by decide, _, wd_2_16, hN.1⟩) (by decide) (by decide) wd_2_17 hN.2.2.2.2.1 (fun x H locs hP hS hfr => ?_)
      have hPo := w_keep hne hPo hfr
      refine lv_astore (lv' := [(5, .ref x), (0, .ref (ad 0)), (1, .int x1), (2, .int x2), (3, .int x3), (4, .ref o)]) hx hb d_Lw_above_26 hl (by decide) rfl (fun ls hl => ?_)
      refine lv_iconst (v := 2) hx hb d_Lw_above_28 (by decide) ?_
      exact W.iret (v := 2) hx hb hr (fun t ht _ => ⟨by rw [show wk [1, 2, 3] (.inr 2) = 2 from by decide +kernel], by rw [ht]; exact hP, by rw [ht]; exact hPo, hS.F ht⟩) hS.2.2 d_Lw_above_29
    · refine wThrV G hS hown hts ⟨hx, hb, hml, hown, hts⟩ (As := [.int x1, .int x2, .int x3]) (rest := [.int 0, .ref o]) (c_H_above l htl D ca ad st _ x1 x2 x3 _ _ h) (xCW (C := "MuseumHouse") 3 hts wd_2_218 wd_1_1 wd_2_215 wd_2_216 wd_2_217 (by decide +kernel) ⟨Nat.le_of_ble_eq_true rfl, Nat.le_of_ble_eq_true rfl⟩) (G.preV hP hS 0 rfl rfl) rfl rfl hl.1 rfl (lv_room (Nat.le_of_ble_eq_true rfl)) d_Lw_above_7 ⟨Nat.le_of_ble_eq_true rfl, Nat.le_of_ble_eq_true rfl⟩ [⟨0, 19, 22, 13⟩, ⟨0, 19, 26, 15⟩] ⟨0, 19, 30, 17⟩ [] htab (by
        intro y hy
        simp only [List.mem_cons, List.not_mem_nil, or_false] at hy
        rcases hy with rfl | rfl
        · exact ⟨by decide, by decide, _, wd_2_16, hN.2.1⟩
        · exact ⟨by decide, by decide, _, wd_2_17, hN.2.2.1⟩) (by decide) (by decide) wd_2_18 hN.2.2.2.2.2 (fun x H locs hP hS hfr => ?_)
      have hPo := w_keep hne hPo hfr
      refine lv_astore (lv' := [(5, .ref x), (0, .ref (ad 0)), (1, .int x1), (2, .int x2), (3, .int x3), (4, .ref o)]) hx hb d_Lw_above_30 hl (by decide) rfl (fun ls hl => ?_)
      refine lv_iconst (v := 3) hx hb d_Lw_above_32 (by decide) ?_
      exact W.iret (v := 3) hx hb hr (fun t ht _ => ⟨by rw [show wk [1, 2, 3] (.inr 3) = 3 from by decide +kernel], by rw [ht]; exact hP, by rw [ht]; exact hPo, hS.F ht⟩) hS.2.2 d_Lw_above_33
set_option maxHeartbeats 4000000 in
set_option maxRecDepth 100000 in
theorem w_span (l : Launch) (htl : l.stackTraces = false) (D : va_G) (ca : Nat → ClassId) (co : ClassId) (ad : Nat → Nat) (o : Nat) (st : pu_St) (f : Nat → Int64) (sz : Nat) (x1 x2 x3 x4 : Int32) (r : Int32 ⊕ Nat) (st' : pu_St) (h : f_H_span st x1 x2 x3 x4 = some (r, st')) (hk : ∀ k, r = .inr k → k ∈ [1, 2, 3]) : Met l y_Lw_span (.codeWith y_Lw_span b_Lw_span 7 (some .int) [(0, 14, 17, 13), (0, 14, 21, 15), (0, 14, 25, 17)] :: tG) { frames := 8, cells := xc r, slots := xs r, locals := 139 } (va_Pc [.ref (ad 0), .int x1, .int x2, .int x3, .int x4, .ref o] (wPc D ca co ad o st f sz)) (wQ D ca co ad o (wk [1, 2, 3] r) st' (wfI f r) sz) (xc r) (xs r) (wA ad o sz) := by
  refine wMet (by decide +kernel) ?_
  intro p e s m below meth c hx hb hml hr hlocks hown hts htab GX hP hPo
  obtain ⟨G, hKo, hne, hN⟩ := GX
  have hown : s.vm.findClass "MuseumHouseLaw" = some m.cls := hown
  have hS : va_S (wA ad o s.heap.size) s.heap s.heap [] := va_S.rf
  have hl := lv_entry ([.ref (ad 0), .int x1, .int x2, .int x3, .int x4, .ref o]) (n := 7) (Nat.le_of_ble_eq_true rfl)
  rw [lg_entry_eq]
  generalize (lg_sl ([.ref (ad 0), .int x1, .int x2, .int x3, .int x4, .ref o]) ++ List.replicate (7 - (lg_sl ([.ref (ad 0), .int x1, .int x2, .int x3, .int x4, .ref o])).length) Slot.unset).toArray = ls at hl ⊢
  have hl : lv_has ls 7 [(0, .ref (ad 0)), (1, .int x1), (2, .int x2), (3, .int x3), (4, .int x4), (5, .ref o)] := hl
  refine lv_aload hx hb d_Lw_span_0 (lv_at hl 5 rfl) ?_
  refine lv_iconst (v := 0) hx hb d_Lw_span_2 (by decide) ?_
  refine lv_aload_n hx hb d_Lw_span_3 rfl (lv_at hl 0 rfl) ?_
  refine lv_iload_n hx hb d_Lw_span_4 rfl (lv_at hl 1 rfl) ?_
  refine lv_iload_n hx hb d_Lw_span_5 rfl (lv_at hl 2 rfl) ?_
  refine lv_iload_n hx hb d_Lw_span_6 rfl (lv_at hl 3 rfl) ?_
  refine lv_iload hx hb d_Lw_span_7 (lv_at hl 4 rfl) ?_
  cases r with
  | inl v =>
    refine wCallI G hS (va_runV (As := [.int x1, .int x2, .int x3, .int x4]) (rest := [.int 0, .ref o]) ⟨hx, hb, hml, hown, hts⟩ (MetX.met (c_H_span l htl D ca ad st _ x1 x2 x3 x4 _ _ h) (fun _ _ _ _ q => ⟨_, q.1⟩)) (xCW (C := "MuseumHouse") 4 hts wd_3_30 wd_1_1 wd_3_27 wd_3_28 wd_3_29 (by decide +kernel) ⟨Nat.le_of_ble_eq_true rfl, Nat.le_of_ble_eq_true rfl⟩) (G.preV hP hS 0 rfl rfl) rfl rfl hl.1 rfl (lv_room (Nat.le_of_ble_eq_true rfl)) d_Lw_span_9 ⟨Nat.zero_le _, Nat.zero_le _⟩) (fun H locs hP hS hfr => ?_)
    have hPo := w_keep hne hPo hfr
    have hPc := va_P.app hP hPo
    have hDc := w_D (ca := ca) (co := co) (st := st') (f := f) (sz := s.heap.size) G.2.1 hne
    refine lv_i2l hx hb d_Lw_span_12 rfl ?_
    refine va_last hx hb hKo hPc hDc hS 34 0 rfl rfl w_in0 d_Lw_span_13 (fun H locs hPc _ hS => ?_)
    have hPc : va_P D hcl (hW ca ad st' ++ wO co o (vp_updL f (0 : Int32).toNatClampNeg v.toInt64)) H := hPc
    refine lv_goto (tgt := 29) hx hb d_Lw_span_14 (by decide) ?_
    refine lv_iconst (v := 0) hx hb d_Lw_span_29 (by decide) ?_
    exact W.iret (v := 0) hx hb hr (fun t ht _ => ⟨rfl, by rw [ht]; exact hPc.left, by rw [ht]; exact hPc.right, hS.F ht⟩) hS.2.2 d_Lw_span_30
  | inr k =>
    have hk1 := hk k rfl
    simp only [List.mem_cons, List.not_mem_nil, or_false] at hk1
    rcases hk1 with rfl | rfl | rfl
    · refine wThrV G hS hown hts ⟨hx, hb, hml, hown, hts⟩ (As := [.int x1, .int x2, .int x3, .int x4]) (rest := [.int 0, .ref o]) (c_H_span l htl D ca ad st _ x1 x2 x3 x4 _ _ h) (xCW (C := "MuseumHouse") 4 hts wd_3_30 wd_1_1 wd_3_27 wd_3_28 wd_3_29 (by decide +kernel) ⟨Nat.le_of_ble_eq_true rfl, Nat.le_of_ble_eq_true rfl⟩) (G.preV hP hS 0 rfl rfl) rfl rfl hl.1 rfl (lv_room (Nat.le_of_ble_eq_true rfl)) d_Lw_span_9 ⟨Nat.le_of_ble_eq_true rfl, Nat.le_of_ble_eq_true rfl⟩ [] ⟨0, 14, 17, 13⟩ [⟨0, 14, 21, 15⟩, ⟨0, 14, 25, 17⟩] htab (fun y hy => by cases hy) (by decide) (by decide) wd_2_16 hN.2.2.2.1 (fun x H locs hP hS hfr => ?_)
      have hPo := w_keep hne hPo hfr
      refine lv_astore (lv' := [(6, .ref x), (0, .ref (ad 0)), (1, .int x1), (2, .int x2), (3, .int x3), (4, .int x4), (5, .ref o)]) hx hb d_Lw_span_17 hl (by decide) rfl (fun ls hl => ?_)
      refine lv_iconst (v := 1) hx hb d_Lw_span_19 (by decide) ?_
      exact W.iret (v := 1) hx hb hr (fun t ht _ => ⟨by rw [show wk [1, 2, 3] (.inr 1) = 1 from by decide +kernel], by rw [ht]; exact hP, by rw [ht]; exact hPo, hS.F ht⟩) hS.2.2 d_Lw_span_20
    · refine wThrV G hS hown hts ⟨hx, hb, hml, hown, hts⟩ (As := [.int x1, .int x2, .int x3, .int x4]) (rest := [.int 0, .ref o]) (c_H_span l htl D ca ad st _ x1 x2 x3 x4 _ _ h) (xCW (C := "MuseumHouse") 4 hts wd_3_30 wd_1_1 wd_3_27 wd_3_28 wd_3_29 (by decide +kernel) ⟨Nat.le_of_ble_eq_true rfl, Nat.le_of_ble_eq_true rfl⟩) (G.preV hP hS 0 rfl rfl) rfl rfl hl.1 rfl (lv_room (Nat.le_of_ble_eq_true rfl)) d_Lw_span_9 ⟨Nat.le_of_ble_eq_true rfl, Nat.le_of_ble_eq_true rfl⟩ [⟨0, 14, 17, 13⟩] ⟨0, 14, 21, 15⟩ [⟨0, 14, 25, 17⟩] htab (by
        intro y hy
        simp only [List.mem_cons, List.not_mem_nil, or_false] at hy
        rcases hy with rfl
        · exact ⟨by decide, by decide, _, wd_2_16, hN.1⟩) (by decide) (by decide) wd_2_17 hN.2.2.2.2.1 (fun x H locs hP hS hfr => ?_)
      have hPo := w_keep hne hPo hfr
      refine lv_astore (lv' := [(6, .ref x), (0, .ref (ad 0)), (1, .int x1), (2, .int x2), (3, .int x3), (4, .int x4), (5, .ref o)]) hx hb d_Lw_span_21 hl (by decide) rfl (fun ls hl => ?_)
      refine lv_iconst (v := 2) hx hb d_Lw_span_23 (by decide) ?_
      exact W.iret (v := 2) hx hb hr (fun t ht _ => ⟨by rw [show wk [1, 2, 3] (.inr 2) = 2 from by decide +kernel], by rw [ht]; exact hP, by rw [ht]; exact hPo, hS.F ht⟩) hS.2.2 d_Lw_span_24
    · refine wThrV G hS hown hts ⟨hx, hb, hml, hown, hts⟩ (As := [.int x1, .int x2, .int x3, .int x4]) (rest := [.int 0, .ref o]) (c_H_span l htl D ca ad st _ x1 x2 x3 x4 _ _ h) (xCW (C := "MuseumHouse") 4 hts wd_3_30 wd_1_1 wd_3_27 wd_3_28 wd_3_29 (by decide +kernel) ⟨Nat.le_of_ble_eq_true rfl, Nat.le_of_ble_eq_true rfl⟩) (G.preV hP hS 0 rfl rfl) rfl rfl hl.1 rfl (lv_room (Nat.le_of_ble_eq_true rfl)) d_Lw_span_9 ⟨Nat.le_of_ble_eq_true rfl, Nat.le_of_ble_eq_true rfl⟩ [⟨0, 14, 17, 13⟩, ⟨0, 14, 21, 15⟩] ⟨0, 14, 25, 17⟩ [] htab (by
        intro y hy
        simp only [List.mem_cons, List.not_mem_nil, or_false] at hy
        rcases hy with rfl | rfl
        · exact ⟨by decide, by decide, _, wd_2_16, hN.2.1⟩
        · exact ⟨by decide, by decide, _, wd_2_17, hN.2.2.1⟩) (by decide) (by decide) wd_2_18 hN.2.2.2.2.2 (fun x H locs hP hS hfr => ?_)
      have hPo := w_keep hne hPo hfr
      refine lv_astore (lv' := [(6, .ref x), (0, .ref (ad 0)), (1, .int x1), (2, .int x2), (3, .int x3), (4, .int x4), (5, .ref o)]) hx hb d_Lw_span_25 hl (by decide) rfl (fun ls hl => ?_)
      refine lv_iconst (v := 3) hx hb d_Lw_span_27 (by decide) ?_
      exact W.iret (v := 3) hx hb hr (fun t ht _ => ⟨by rw [show wk [1, 2, 3] (.inr 3) = 3 from by decide +kernel], by rw [ht]; exact hP, by rw [ht]; exact hPo, hS.F ht⟩) hS.2.2 d_Lw_span_28
set_option maxHeartbeats 4000000 in
set_option maxRecDepth 100000 in
theorem w_isAbove (l : Launch) (htl : l.stackTraces = false) (D : va_G) (ca : Nat → ClassId) (co : ClassId) (ad : Nat → Nat) (o : Nat) (st : pu_St) (f : Nat → Int64) (sz : Nat) (x1 x2 : Int32) (r : Int32 ⊕ Nat) (st' : pu_St) (h : f_H_isAbove st x1 x2 = some (r, st')) (hk : ∀ k, r = .inr k → k ∈ [1]) : Met l y_Lw_isAbove (.codeWith y_Lw_isAbove b_Lw_isAbove 5 (some .int) [(0, 17, 20, 13)] :: tG) { frames := 8, cells := xc r, slots := xs r, locals := 137 } (va_Pc [.ref (ad 0), .int x1, .int x2, .ref o] (wPc D ca co ad o st f sz)) (wQ D ca co ad o (wk [1] r) st' (wfZ f r) sz) (xc r) (xs r) (wA ad o sz) := by
  refine wMet (by decide +kernel) ?_
  intro p e s m below meth c hx hb hml hr hlocks hown hts htab GX hP hPo
  obtain ⟨G, hKo, hne, hN⟩ := GX
  have hown : s.vm.findClass "MuseumHouseLaw" = some m.cls := hown
  have hS : va_S (wA ad o s.heap.size) s.heap s.heap [] := va_S.rf
  have hl := lv_entry ([.ref (ad 0), .int x1, .int x2, .ref o]) (n := 5) (Nat.le_of_ble_eq_true rfl)
  rw [lg_entry_eq]
  generalize (lg_sl ([.ref (ad 0), .int x1, .int x2, .ref o]) ++ List.replicate (5 - (lg_sl ([.ref (ad 0), .int x1, .int x2, .ref o])).length) Slot.unset).toArray = ls at hl ⊢
  have hl : lv_has ls 5 [(0, .ref (ad 0)), (1, .int x1), (2, .int x2), (3, .ref o)] := hl
  refine lv_aload_n hx hb d_Lw_isAbove_0 rfl (lv_at hl 3 rfl) ?_
  refine lv_iconst (v := 0) hx hb d_Lw_isAbove_1 (by decide) ?_
  refine lv_aload_n hx hb d_Lw_isAbove_2 rfl (lv_at hl 0 rfl) ?_
  refine lv_iload_n hx hb d_Lw_isAbove_3 rfl (lv_at hl 1 rfl) ?_
  refine lv_iload_n hx hb d_Lw_isAbove_4 rfl (lv_at hl 2 rfl) ?_
  cases r with
  | inl v =>
    refine wCallI G hS (va_runV (As := [.int x1, .int x2]) (rest := [.int 0, .ref o]) ⟨hx, hb, hml, hown, hts⟩ (MetX.met (c_H_isAbove l htl D ca ad st _ x1 x2 _ _ h) (fun _ _ _ _ q => ⟨_, q.1⟩)) (xCW (C := "MuseumHouse") 2 hts wd_3_46 wd_1_1 wd_3_43 wd_3_44 wd_3_45 (by decide +kernel) ⟨Nat.le_of_ble_eq_true rfl, Nat.le_of_ble_eq_true rfl⟩) (G.preV hP hS 0 rfl rfl) rfl rfl hl.1 rfl (lv_room (Nat.le_of_ble_eq_true rfl)) d_Lw_isAbove_5 ⟨Nat.zero_le _, Nat.zero_le _⟩) (fun H locs hP hS hfr => ?_)
    have hPo := w_keep hne hPo hfr
    have hPc := va_P.app hP hPo
    have hDc := w_D (ca := ca) (co := co) (st := st') (f := f) (sz := s.heap.size) G.2.1 hne
    refine lv_if_eq (tgt := 15) hx hb d_Lw_isAbove_8 (by decide) (fun cz => ?_) (fun cz => ?_)
    · refine lv_lconst (v := 0) hx hb d_Lw_isAbove_15 (by decide) ?_
      refine va_last hx hb hKo hPc hDc hS 34 0 rfl rfl w_in0 d_Lw_isAbove_16 (fun H locs hPc _ hS => ?_)
      have hPc : va_P D hcl (hW ca ad st' ++ wO co o (vp_updL f (0 : Int32).toNatClampNeg 0)) H := hPc
      refine lv_goto (tgt := 24) hx hb d_Lw_isAbove_17 (by decide) ?_
      refine lv_iconst (v := 0) hx hb d_Lw_isAbove_24 (by decide) ?_
      exact W.iret (v := 0) hx hb hr (fun t ht _ => ⟨rfl, by rw [ht]; exact hPc.left, by rw [ht]; show va_P D hcl (wO co o (vp_updL f (0 : Int32).toNatClampNeg (if v = 0 then 0 else 1))) H; rw [if_pos cz]; exact hPc.right, hS.F ht⟩) hS.2.2 d_Lw_isAbove_25
    · refine lv_lconst (v := 1) hx hb d_Lw_isAbove_11 (by decide) ?_
      refine lv_goto (tgt := 16) hx hb d_Lw_isAbove_12 (by decide) ?_
      refine va_last hx hb hKo hPc hDc hS 34 0 rfl rfl w_in0 d_Lw_isAbove_16 (fun H locs hPc _ hS => ?_)
      have hPc : va_P D hcl (hW ca ad st' ++ wO co o (vp_updL f (0 : Int32).toNatClampNeg 1)) H := hPc
      refine lv_goto (tgt := 24) hx hb d_Lw_isAbove_17 (by decide) ?_
      refine lv_iconst (v := 0) hx hb d_Lw_isAbove_24 (by decide) ?_
      exact W.iret (v := 0) hx hb hr (fun t ht _ => ⟨rfl, by rw [ht]; exact hPc.left, by rw [ht]; show va_P D hcl (wO co o (vp_updL f (0 : Int32).toNatClampNeg (if v = 0 then 0 else 1))) H; rw [if_neg cz]; exact hPc.right, hS.F ht⟩) hS.2.2 d_Lw_isAbove_25
  | inr k =>
    have hk1 := hk k rfl
    simp only [List.mem_cons, List.not_mem_nil, or_false] at hk1
    rcases hk1 with rfl
    · refine wThrV G hS hown hts ⟨hx, hb, hml, hown, hts⟩ (As := [.int x1, .int x2]) (rest := [.int 0, .ref o]) (c_H_isAbove l htl D ca ad st _ x1 x2 _ _ h) (xCW (C := "MuseumHouse") 2 hts wd_3_46 wd_1_1 wd_3_43 wd_3_44 wd_3_45 (by decide +kernel) ⟨Nat.le_of_ble_eq_true rfl, Nat.le_of_ble_eq_true rfl⟩) (G.preV hP hS 0 rfl rfl) rfl rfl hl.1 rfl (lv_room (Nat.le_of_ble_eq_true rfl)) d_Lw_isAbove_5 ⟨Nat.le_of_ble_eq_true rfl, Nat.le_of_ble_eq_true rfl⟩ [] ⟨0, 17, 20, 13⟩ [] htab (fun y hy => by cases hy) (by decide) (by decide) wd_2_16 hN.2.2.2.1 (fun x H locs hP hS hfr => ?_)
      have hPo := w_keep hne hPo hfr
      refine lv_astore (lv' := [(4, .ref x), (0, .ref (ad 0)), (1, .int x1), (2, .int x2), (3, .ref o)]) hx hb d_Lw_isAbove_20 hl (by decide) rfl (fun ls hl => ?_)
      refine lv_iconst (v := 1) hx hb d_Lw_isAbove_22 (by decide) ?_
      exact W.iret (v := 1) hx hb hr (fun t ht _ => ⟨by rw [show wk [1] (.inr 1) = 1 from by decide +kernel], by rw [ht]; exact hP, by rw [ht]; exact hPo, hS.F ht⟩) hS.2.2 d_Lw_isAbove_23
set_option maxHeartbeats 4000000 in
set_option maxRecDepth 100000 in
theorem w_year (l : Launch) (htl : l.stackTraces = false) (D : va_G) (ca : Nat → ClassId) (co : ClassId) (ad : Nat → Nat) (o : Nat) (st : pu_St) (f : Nat → Int64) (sz : Nat) (x1 x2 : Int32) (r : Int32 ⊕ Nat) (st' : pu_St) (h : f_H_year st x1 x2 = some (r, st')) (hk : ∀ k, r = .inr k → k ∈ [1, 3]) : Met l y_Lw_year (.codeWith y_Lw_year b_Lw_year 5 (some .int) [(0, 10, 13, 13), (0, 10, 17, 17)] :: tG) { frames := 8, cells := xc r, slots := xs r, locals := 136 } (va_Pc [.ref (ad 0), .int x1, .int x2, .ref o] (wPc D ca co ad o st f sz)) (wQ D ca co ad o (wk [1, 3] r) st' (wfI f r) sz) (xc r) (xs r) (wA ad o sz) := by
  refine wMet (by decide +kernel) ?_
  intro p e s m below meth c hx hb hml hr hlocks hown hts htab GX hP hPo
  obtain ⟨G, hKo, hne, hN⟩ := GX
  have hown : s.vm.findClass "MuseumHouseLaw" = some m.cls := hown
  have hS : va_S (wA ad o s.heap.size) s.heap s.heap [] := va_S.rf
  have hl := lv_entry ([.ref (ad 0), .int x1, .int x2, .ref o]) (n := 5) (Nat.le_of_ble_eq_true rfl)
  rw [lg_entry_eq]
  generalize (lg_sl ([.ref (ad 0), .int x1, .int x2, .ref o]) ++ List.replicate (5 - (lg_sl ([.ref (ad 0), .int x1, .int x2, .ref o])).length) Slot.unset).toArray = ls at hl ⊢
  have hl : lv_has ls 5 [(0, .ref (ad 0)), (1, .int x1), (2, .int x2), (3, .ref o)] := hl
  refine lv_aload_n hx hb d_Lw_year_0 rfl (lv_at hl 3 rfl) ?_
  refine lv_iconst (v := 0) hx hb d_Lw_year_1 (by decide) ?_
  refine lv_aload_n hx hb d_Lw_year_2 rfl (lv_at hl 0 rfl) ?_
  refine lv_iload_n hx hb d_Lw_year_3 rfl (lv_at hl 1 rfl) ?_
  refine lv_iload_n hx hb d_Lw_year_4 rfl (lv_at hl 2 rfl) ?_
  cases r with
  | inl v =>
    refine wCallI G hS (va_runV (As := [.int x1, .int x2]) (rest := [.int 0, .ref o]) ⟨hx, hb, hml, hown, hts⟩ (MetX.met (c_H_year l htl D ca ad st _ x1 x2 _ _ h) (fun _ _ _ _ q => ⟨_, q.1⟩)) (xCW (C := "MuseumHouse") 2 hts wd_3_53 wd_1_1 wd_3_50 wd_3_51 wd_3_52 (by decide +kernel) ⟨Nat.le_of_ble_eq_true rfl, Nat.le_of_ble_eq_true rfl⟩) (G.preV hP hS 0 rfl rfl) rfl rfl hl.1 rfl (lv_room (Nat.le_of_ble_eq_true rfl)) d_Lw_year_5 ⟨Nat.zero_le _, Nat.zero_le _⟩) (fun H locs hP hS hfr => ?_)
    have hPo := w_keep hne hPo hfr
    have hPc := va_P.app hP hPo
    have hDc := w_D (ca := ca) (co := co) (st := st') (f := f) (sz := s.heap.size) G.2.1 hne
    refine lv_i2l hx hb d_Lw_year_8 rfl ?_
    refine va_last hx hb hKo hPc hDc hS 34 0 rfl rfl w_in0 d_Lw_year_9 (fun H locs hPc _ hS => ?_)
    have hPc : va_P D hcl (hW ca ad st' ++ wO co o (vp_updL f (0 : Int32).toNatClampNeg v.toInt64)) H := hPc
    refine lv_goto (tgt := 21) hx hb d_Lw_year_10 (by decide) ?_
    refine lv_iconst (v := 0) hx hb d_Lw_year_21 (by decide) ?_
    exact W.iret (v := 0) hx hb hr (fun t ht _ => ⟨rfl, by rw [ht]; exact hPc.left, by rw [ht]; exact hPc.right, hS.F ht⟩) hS.2.2 d_Lw_year_22
  | inr k =>
    have hk1 := hk k rfl
    simp only [List.mem_cons, List.not_mem_nil, or_false] at hk1
    rcases hk1 with rfl | rfl
    · refine wThrV G hS hown hts ⟨hx, hb, hml, hown, hts⟩ (As := [.int x1, .int x2]) (rest := [.int 0, .ref o]) (c_H_year l htl D ca ad st _ x1 x2 _ _ h) (xCW (C := "MuseumHouse") 2 hts wd_3_53 wd_1_1 wd_3_50 wd_3_51 wd_3_52 (by decide +kernel) ⟨Nat.le_of_ble_eq_true rfl, Nat.le_of_ble_eq_true rfl⟩) (G.preV hP hS 0 rfl rfl) rfl rfl hl.1 rfl (lv_room (Nat.le_of_ble_eq_true rfl)) d_Lw_year_5 ⟨Nat.le_of_ble_eq_true rfl, Nat.le_of_ble_eq_true rfl⟩ [] ⟨0, 10, 13, 13⟩ [⟨0, 10, 17, 17⟩] htab (fun y hy => by cases hy) (by decide) (by decide) wd_2_16 hN.2.2.2.1 (fun x H locs hP hS hfr => ?_)
      have hPo := w_keep hne hPo hfr
      refine lv_astore (lv' := [(4, .ref x), (0, .ref (ad 0)), (1, .int x1), (2, .int x2), (3, .ref o)]) hx hb d_Lw_year_13 hl (by decide) rfl (fun ls hl => ?_)
      refine lv_iconst (v := 1) hx hb d_Lw_year_15 (by decide) ?_
      exact W.iret (v := 1) hx hb hr (fun t ht _ => ⟨by rw [show wk [1, 3] (.inr 1) = 1 from by decide +kernel], by rw [ht]; exact hP, by rw [ht]; exact hPo, hS.F ht⟩) hS.2.2 d_Lw_year_16
    · refine wThrV G hS hown hts ⟨hx, hb, hml, hown, hts⟩ (As := [.int x1, .int x2]) (rest := [.int 0, .ref o]) (c_H_year l htl D ca ad st _ x1 x2 _ _ h) (xCW (C := "MuseumHouse") 2 hts wd_3_53 wd_1_1 wd_3_50 wd_3_51 wd_3_52 (by decide +kernel) ⟨Nat.le_of_ble_eq_true rfl, Nat.le_of_ble_eq_true rfl⟩) (G.preV hP hS 0 rfl rfl) rfl rfl hl.1 rfl (lv_room (Nat.le_of_ble_eq_true rfl)) d_Lw_year_5 ⟨Nat.le_of_ble_eq_true rfl, Nat.le_of_ble_eq_true rfl⟩ [⟨0, 10, 13, 13⟩] ⟨0, 10, 17, 17⟩ [] htab (by
        intro y hy
        simp only [List.mem_cons, List.not_mem_nil, or_false] at hy
        rcases hy with rfl
        · exact ⟨by decide, by decide, _, wd_2_16, hN.2.1⟩) (by decide) (by decide) wd_2_18 hN.2.2.2.2.2 (fun x H locs hP hS hfr => ?_)
      have hPo := w_keep hne hPo hfr
      refine lv_astore (lv' := [(4, .ref x), (0, .ref (ad 0)), (1, .int x1), (2, .int x2), (3, .ref o)]) hx hb d_Lw_year_17 hl (by decide) rfl (fun ls hl => ?_)
      refine lv_iconst (v := 2) hx hb d_Lw_year_19 (by decide) ?_
      exact W.iret (v := 2) hx hb hr (fun t ht _ => ⟨by rw [show wk [1, 3] (.inr 3) = 2 from by decide +kernel], by rw [ht]; exact hP, by rw [ht]; exact hPo, hS.F ht⟩) hS.2.2 d_Lw_year_20
set_option maxHeartbeats 4000000 in
set_option maxRecDepth 100000 in
theorem w_find (l : Launch) (htl : l.stackTraces = false) (D : va_G) (ca : Nat → ClassId) (co : ClassId) (ad : Nat → Nat) (o : Nat) (st : pu_St) (f : Nat → Int64) (sz : Nat) (x1 x2 x3 : Int32) (r : Int32 ⊕ Nat) (st' : pu_St) (h : f_H_find st x1 x2 x3 = some (r, st')) (hk : ∀ k, r = .inr k → k ∈ [1, 2, 3]) : Met l y_Lw_find (.codeWith y_Lw_find b_Lw_find 6 (some .int) [(0, 12, 15, 13), (0, 12, 19, 15), (0, 12, 23, 17)] :: tG) { frames := 8, cells := xc r, slots := xs r, locals := 138 } (va_Pc [.ref (ad 0), .int x1, .int x2, .int x3, .ref o] (wPc D ca co ad o st f sz)) (wQ D ca co ad o (wk [1, 2, 3] r) st' (wfI f r) sz) (xc r) (xs r) (wA ad o sz) := by
  refine wMet (by decide +kernel) ?_
  intro p e s m below meth c hx hb hml hr hlocks hown hts htab GX hP hPo
  obtain ⟨G, hKo, hne, hN⟩ := GX
  have hown : s.vm.findClass "MuseumHouseLaw" = some m.cls := hown
  have hS : va_S (wA ad o s.heap.size) s.heap s.heap [] := va_S.rf
  have hl := lv_entry ([.ref (ad 0), .int x1, .int x2, .int x3, .ref o]) (n := 6) (Nat.le_of_ble_eq_true rfl)
  rw [lg_entry_eq]
  generalize (lg_sl ([.ref (ad 0), .int x1, .int x2, .int x3, .ref o]) ++ List.replicate (6 - (lg_sl ([.ref (ad 0), .int x1, .int x2, .int x3, .ref o])).length) Slot.unset).toArray = ls at hl ⊢
  have hl : lv_has ls 6 [(0, .ref (ad 0)), (1, .int x1), (2, .int x2), (3, .int x3), (4, .ref o)] := hl
  refine lv_aload hx hb d_Lw_find_0 (lv_at hl 4 rfl) ?_
  refine lv_iconst (v := 0) hx hb d_Lw_find_2 (by decide) ?_
  refine lv_aload_n hx hb d_Lw_find_3 rfl (lv_at hl 0 rfl) ?_
  refine lv_iload_n hx hb d_Lw_find_4 rfl (lv_at hl 1 rfl) ?_
  refine lv_iload_n hx hb d_Lw_find_5 rfl (lv_at hl 2 rfl) ?_
  refine lv_iload_n hx hb d_Lw_find_6 rfl (lv_at hl 3 rfl) ?_
  cases r with
  | inl v =>
    refine wCallI G hS (va_runV (As := [.int x1, .int x2, .int x3]) (rest := [.int 0, .ref o]) ⟨hx, hb, hml, hown, hts⟩ (MetX.met (c_H_find l htl D ca ad st _ x1 x2 x3 _ _ h) (fun _ _ _ _ q => ⟨_, q.1⟩)) (xCW (C := "MuseumHouse") 3 hts wd_3_61 wd_1_1 wd_3_58 wd_3_59 wd_3_60 (by decide +kernel) ⟨Nat.le_of_ble_eq_true rfl, Nat.le_of_ble_eq_true rfl⟩) (G.preV hP hS 0 rfl rfl) rfl rfl hl.1 rfl (lv_room (Nat.le_of_ble_eq_true rfl)) d_Lw_find_7 ⟨Nat.zero_le _, Nat.zero_le _⟩) (fun H locs hP hS hfr => ?_)
    have hPo := w_keep hne hPo hfr
    have hPc := va_P.app hP hPo
    have hDc := w_D (ca := ca) (co := co) (st := st') (f := f) (sz := s.heap.size) G.2.1 hne
    refine lv_i2l hx hb d_Lw_find_10 rfl ?_
    refine va_last hx hb hKo hPc hDc hS 34 0 rfl rfl w_in0 d_Lw_find_11 (fun H locs hPc _ hS => ?_)
    have hPc : va_P D hcl (hW ca ad st' ++ wO co o (vp_updL f (0 : Int32).toNatClampNeg v.toInt64)) H := hPc
    refine lv_goto (tgt := 27) hx hb d_Lw_find_12 (by decide) ?_
    refine lv_iconst (v := 0) hx hb d_Lw_find_27 (by decide) ?_
    exact W.iret (v := 0) hx hb hr (fun t ht _ => ⟨rfl, by rw [ht]; exact hPc.left, by rw [ht]; exact hPc.right, hS.F ht⟩) hS.2.2 d_Lw_find_28
  | inr k =>
    have hk1 := hk k rfl
    simp only [List.mem_cons, List.not_mem_nil, or_false] at hk1
    rcases hk1 with rfl | rfl | rfl
    · refine wThrV G hS hown hts ⟨hx, hb, hml, hown, hts⟩ (As := [.int x1, .int x2, .int x3]) (rest := [.int 0, .ref o]) (c_H_find l htl D ca ad st _ x1 x2 x3 _ _ h) (xCW (C := "MuseumHouse") 3 hts wd_3_61 wd_1_1 wd_3_58 wd_3_59 wd_3_60 (by decide +kernel) ⟨Nat.le_of_ble_eq_true rfl, Nat.le_of_ble_eq_true rfl⟩) (G.preV hP hS 0 rfl rfl) rfl rfl hl.1 rfl (lv_room (Nat.le_of_ble_eq_true rfl)) d_Lw_find_7 ⟨Nat.le_of_ble_eq_true rfl, Nat.le_of_ble_eq_true rfl⟩ [] ⟨0, 12, 15, 13⟩ [⟨0, 12, 19, 15⟩, ⟨0, 12, 23, 17⟩] htab (fun y hy => by cases hy) (by decide) (by decide) wd_2_16 hN.2.2.2.1 (fun x H locs hP hS hfr => ?_)
      have hPo := w_keep hne hPo hfr
      refine lv_astore (lv' := [(5, .ref x), (0, .ref (ad 0)), (1, .int x1), (2, .int x2), (3, .int x3), (4, .ref o)]) hx hb d_Lw_find_15 hl (by decide) rfl (fun ls hl => ?_)
      refine lv_iconst (v := 1) hx hb d_Lw_find_17 (by decide) ?_
      exact W.iret (v := 1) hx hb hr (fun t ht _ => ⟨by rw [show wk [1, 2, 3] (.inr 1) = 1 from by decide +kernel], by rw [ht]; exact hP, by rw [ht]; exact hPo, hS.F ht⟩) hS.2.2 d_Lw_find_18
    · refine wThrV G hS hown hts ⟨hx, hb, hml, hown, hts⟩ (As := [.int x1, .int x2, .int x3]) (rest := [.int 0, .ref o]) (c_H_find l htl D ca ad st _ x1 x2 x3 _ _ h) (xCW (C := "MuseumHouse") 3 hts wd_3_61 wd_1_1 wd_3_58 wd_3_59 wd_3_60 (by decide +kernel) ⟨Nat.le_of_ble_eq_true rfl, Nat.le_of_ble_eq_true rfl⟩) (G.preV hP hS 0 rfl rfl) rfl rfl hl.1 rfl (lv_room (Nat.le_of_ble_eq_true rfl)) d_Lw_find_7 ⟨Nat.le_of_ble_eq_true rfl, Nat.le_of_ble_eq_true rfl⟩ [⟨0, 12, 15, 13⟩] ⟨0, 12, 19, 15⟩ [⟨0, 12, 23, 17⟩] htab (by
        intro y hy
        simp only [List.mem_cons, List.not_mem_nil, or_false] at hy
        rcases hy with rfl
        · exact ⟨by decide, by decide, _, wd_2_16, hN.1⟩) (by decide) (by decide) wd_2_17 hN.2.2.2.2.1 (fun x H locs hP hS hfr => ?_)
      have hPo := w_keep hne hPo hfr
      refine lv_astore (lv' := [(5, .ref x), (0, .ref (ad 0)), (1, .int x1), (2, .int x2), (3, .int x3), (4, .ref o)]) hx hb d_Lw_find_19 hl (by decide) rfl (fun ls hl => ?_)
      refine lv_iconst (v := 2) hx hb d_Lw_find_21 (by decide) ?_
      exact W.iret (v := 2) hx hb hr (fun t ht _ => ⟨by rw [show wk [1, 2, 3] (.inr 2) = 2 from by decide +kernel], by rw [ht]; exact hP, by rw [ht]; exact hPo, hS.F ht⟩) hS.2.2 d_Lw_find_22
    · refine wThrV G hS hown hts ⟨hx, hb, hml, hown, hts⟩ (As := [.int x1, .int x2, .int x3]) (rest := [.int 0, .ref o]) (c_H_find l htl D ca ad st _ x1 x2 x3 _ _ h) (xCW (C := "MuseumHouse") 3 hts wd_3_61 wd_1_1 wd_3_58 wd_3_59 wd_3_60 (by decide +kernel) ⟨Nat.le_of_ble_eq_true rfl, Nat.le_of_ble_eq_true rfl⟩) (G.preV hP hS 0 rfl rfl) rfl rfl hl.1 rfl (lv_room (Nat.le_of_ble_eq_true rfl)) d_Lw_find_7 ⟨Nat.le_of_ble_eq_true rfl, Nat.le_of_ble_eq_true rfl⟩ [⟨0, 12, 15, 13⟩, ⟨0, 12, 19, 15⟩] ⟨0, 12, 23, 17⟩ [] htab (by
        intro y hy
        simp only [List.mem_cons, List.not_mem_nil, or_false] at hy
        rcases hy with rfl | rfl
        · exact ⟨by decide, by decide, _, wd_2_16, hN.2.1⟩
        · exact ⟨by decide, by decide, _, wd_2_17, hN.2.2.1⟩) (by decide) (by decide) wd_2_18 hN.2.2.2.2.2 (fun x H locs hP hS hfr => ?_)
      have hPo := w_keep hne hPo hfr
      refine lv_astore (lv' := [(5, .ref x), (0, .ref (ad 0)), (1, .int x1), (2, .int x2), (3, .int x3), (4, .ref o)]) hx hb d_Lw_find_23 hl (by decide) rfl (fun ls hl => ?_)
      refine lv_iconst (v := 3) hx hb d_Lw_find_25 (by decide) ?_
      exact W.iret (v := 3) hx hb hr (fun t ht _ => ⟨by rw [show wk [1, 2, 3] (.inr 3) = 3 from by decide +kernel], by rw [ht]; exact hP, by rw [ht]; exact hPo, hS.F ht⟩) hS.2.2 d_Lw_find_26
set_option maxHeartbeats 4000000 in
set_option maxRecDepth 100000 in
theorem w_object (l : Launch) (htl : l.stackTraces = false) (D : va_G) (ca : Nat → ClassId) (co : ClassId) (ad : Nat → Nat) (o : Nat) (st : pu_St) (f : Nat → Int64) (sz : Nat) (x1 x2 : Int32) (r : Int32 ⊕ Nat) (st' : pu_St) (h : f_H_object st x1 x2 = some (r, st')) (hk : ∀ k, r = .inr k → k ∈ [1, 2, 3]) : Met l y_Lw_object (.codeWith y_Lw_object b_Lw_object 5 (some .int) [(0, 10, 13, 13), (0, 10, 17, 15), (0, 10, 21, 17)] :: tG) { frames := 8, cells := xc r, slots := xs r, locals := 137 } (va_Pc [.ref (ad 0), .int x1, .int x2, .ref o] (wPc D ca co ad o st f sz)) (wQ D ca co ad o (wk [1, 2, 3] r) st' (wfI f r) sz) (xc r) (xs r) (wA ad o sz) := by
  refine wMet (by decide +kernel) ?_
  intro p e s m below meth c hx hb hml hr hlocks hown hts htab GX hP hPo
  obtain ⟨G, hKo, hne, hN⟩ := GX
  have hown : s.vm.findClass "MuseumHouseLaw" = some m.cls := hown
  have hS : va_S (wA ad o s.heap.size) s.heap s.heap [] := va_S.rf
  have hl := lv_entry ([.ref (ad 0), .int x1, .int x2, .ref o]) (n := 5) (Nat.le_of_ble_eq_true rfl)
  rw [lg_entry_eq]
  generalize (lg_sl ([.ref (ad 0), .int x1, .int x2, .ref o]) ++ List.replicate (5 - (lg_sl ([.ref (ad 0), .int x1, .int x2, .ref o])).length) Slot.unset).toArray = ls at hl ⊢
  have hl : lv_has ls 5 [(0, .ref (ad 0)), (1, .int x1), (2, .int x2), (3, .ref o)] := hl
  refine lv_aload_n hx hb d_Lw_object_0 rfl (lv_at hl 3 rfl) ?_
  refine lv_iconst (v := 0) hx hb d_Lw_object_1 (by decide) ?_
  refine lv_aload_n hx hb d_Lw_object_2 rfl (lv_at hl 0 rfl) ?_
  refine lv_iload_n hx hb d_Lw_object_3 rfl (lv_at hl 1 rfl) ?_
  refine lv_iload_n hx hb d_Lw_object_4 rfl (lv_at hl 2 rfl) ?_
  cases r with
  | inl v =>
    refine wCallI G hS (va_runV (As := [.int x1, .int x2]) (rest := [.int 0, .ref o]) ⟨hx, hb, hml, hown, hts⟩ (MetX.met (c_H_object l htl D ca ad st _ x1 x2 _ _ h) (fun _ _ _ _ q => ⟨_, q.1⟩)) (xCW (C := "MuseumHouse") 2 hts wd_3_84 wd_1_1 wd_3_81 wd_3_82 wd_3_83 (by decide +kernel) ⟨Nat.le_of_ble_eq_true rfl, Nat.le_of_ble_eq_true rfl⟩) (G.preV hP hS 0 rfl rfl) rfl rfl hl.1 rfl (lv_room (Nat.le_of_ble_eq_true rfl)) d_Lw_object_5 ⟨Nat.zero_le _, Nat.zero_le _⟩) (fun H locs hP hS hfr => ?_)
    have hPo := w_keep hne hPo hfr
    have hPc := va_P.app hP hPo
    have hDc := w_D (ca := ca) (co := co) (st := st') (f := f) (sz := s.heap.size) G.2.1 hne
    refine lv_i2l hx hb d_Lw_object_8 rfl ?_
    refine va_last hx hb hKo hPc hDc hS 34 0 rfl rfl w_in0 d_Lw_object_9 (fun H locs hPc _ hS => ?_)
    have hPc : va_P D hcl (hW ca ad st' ++ wO co o (vp_updL f (0 : Int32).toNatClampNeg v.toInt64)) H := hPc
    refine lv_goto (tgt := 25) hx hb d_Lw_object_10 (by decide) ?_
    refine lv_iconst (v := 0) hx hb d_Lw_object_25 (by decide) ?_
    exact W.iret (v := 0) hx hb hr (fun t ht _ => ⟨rfl, by rw [ht]; exact hPc.left, by rw [ht]; exact hPc.right, hS.F ht⟩) hS.2.2 d_Lw_object_26
  | inr k =>
    have hk1 := hk k rfl
    simp only [List.mem_cons, List.not_mem_nil, or_false] at hk1
    rcases hk1 with rfl | rfl | rfl
    · refine wThrV G hS hown hts ⟨hx, hb, hml, hown, hts⟩ (As := [.int x1, .int x2]) (rest := [.int 0, .ref o]) (c_H_object l htl D ca ad st _ x1 x2 _ _ h) (xCW (C := "MuseumHouse") 2 hts wd_3_84 wd_1_1 wd_3_81 wd_3_82 wd_3_83 (by decide +kernel) ⟨Nat.le_of_ble_eq_true rfl, Nat.le_of_ble_eq_true rfl⟩) (G.preV hP hS 0 rfl rfl) rfl rfl hl.1 rfl (lv_room (Nat.le_of_ble_eq_true rfl)) d_Lw_object_5 ⟨Nat.le_of_ble_eq_true rfl, Nat.le_of_ble_eq_true rfl⟩ [] ⟨0, 10, 13, 13⟩ [⟨0, 10, 17, 15⟩, ⟨0, 10, 21, 17⟩] htab (fun y hy => by cases hy) (by decide) (by decide) wd_2_16 hN.2.2.2.1 (fun x H locs hP hS hfr => ?_)
      have hPo := w_keep hne hPo hfr
      refine lv_astore (lv' := [(4, .ref x), (0, .ref (ad 0)), (1, .int x1), (2, .int x2), (3, .ref o)]) hx hb d_Lw_object_13 hl (by decide) rfl (fun ls hl => ?_)
      refine lv_iconst (v := 1) hx hb d_Lw_object_15 (by decide) ?_
      exact W.iret (v := 1) hx hb hr (fun t ht _ => ⟨by rw [show wk [1, 2, 3] (.inr 1) = 1 from by decide +kernel], by rw [ht]; exact hP, by rw [ht]; exact hPo, hS.F ht⟩) hS.2.2 d_Lw_object_16
    · refine wThrV G hS hown hts ⟨hx, hb, hml, hown, hts⟩ (As := [.int x1, .int x2]) (rest := [.int 0, .ref o]) (c_H_object l htl D ca ad st _ x1 x2 _ _ h) (xCW (C := "MuseumHouse") 2 hts wd_3_84 wd_1_1 wd_3_81 wd_3_82 wd_3_83 (by decide +kernel) ⟨Nat.le_of_ble_eq_true rfl, Nat.le_of_ble_eq_true rfl⟩) (G.preV hP hS 0 rfl rfl) rfl rfl hl.1 rfl (lv_room (Nat.le_of_ble_eq_true rfl)) d_Lw_object_5 ⟨Nat.le_of_ble_eq_true rfl, Nat.le_of_ble_eq_true rfl⟩ [⟨0, 10, 13, 13⟩] ⟨0, 10, 17, 15⟩ [⟨0, 10, 21, 17⟩] htab (by
        intro y hy
        simp only [List.mem_cons, List.not_mem_nil, or_false] at hy
        rcases hy with rfl
        · exact ⟨by decide, by decide, _, wd_2_16, hN.1⟩) (by decide) (by decide) wd_2_17 hN.2.2.2.2.1 (fun x H locs hP hS hfr => ?_)
      have hPo := w_keep hne hPo hfr
      refine lv_astore (lv' := [(4, .ref x), (0, .ref (ad 0)), (1, .int x1), (2, .int x2), (3, .ref o)]) hx hb d_Lw_object_17 hl (by decide) rfl (fun ls hl => ?_)
      refine lv_iconst (v := 2) hx hb d_Lw_object_19 (by decide) ?_
      exact W.iret (v := 2) hx hb hr (fun t ht _ => ⟨by rw [show wk [1, 2, 3] (.inr 2) = 2 from by decide +kernel], by rw [ht]; exact hP, by rw [ht]; exact hPo, hS.F ht⟩) hS.2.2 d_Lw_object_20
    · refine wThrV G hS hown hts ⟨hx, hb, hml, hown, hts⟩ (As := [.int x1, .int x2]) (rest := [.int 0, .ref o]) (c_H_object l htl D ca ad st _ x1 x2 _ _ h) (xCW (C := "MuseumHouse") 2 hts wd_3_84 wd_1_1 wd_3_81 wd_3_82 wd_3_83 (by decide +kernel) ⟨Nat.le_of_ble_eq_true rfl, Nat.le_of_ble_eq_true rfl⟩) (G.preV hP hS 0 rfl rfl) rfl rfl hl.1 rfl (lv_room (Nat.le_of_ble_eq_true rfl)) d_Lw_object_5 ⟨Nat.le_of_ble_eq_true rfl, Nat.le_of_ble_eq_true rfl⟩ [⟨0, 10, 13, 13⟩, ⟨0, 10, 17, 15⟩] ⟨0, 10, 21, 17⟩ [] htab (by
        intro y hy
        simp only [List.mem_cons, List.not_mem_nil, or_false] at hy
        rcases hy with rfl | rfl
        · exact ⟨by decide, by decide, _, wd_2_16, hN.2.1⟩
        · exact ⟨by decide, by decide, _, wd_2_17, hN.2.2.1⟩) (by decide) (by decide) wd_2_18 hN.2.2.2.2.2 (fun x H locs hP hS hfr => ?_)
      have hPo := w_keep hne hPo hfr
      refine lv_astore (lv' := [(4, .ref x), (0, .ref (ad 0)), (1, .int x1), (2, .int x2), (3, .ref o)]) hx hb d_Lw_object_21 hl (by decide) rfl (fun ls hl => ?_)
      refine lv_iconst (v := 3) hx hb d_Lw_object_23 (by decide) ?_
      exact W.iret (v := 3) hx hb hr (fun t ht _ => ⟨by rw [show wk [1, 2, 3] (.inr 3) = 3 from by decide +kernel], by rw [ht]; exact hP, by rw [ht]; exact hPo, hS.F ht⟩) hS.2.2 d_Lw_object_24
set_option maxHeartbeats 4000000 in
set_option maxRecDepth 100000 in
theorem w_store (l : Launch) (htl : l.stackTraces = false) (D : va_G) (ca : Nat → ClassId) (co : ClassId) (ad : Nat → Nat) (o : Nat) (st : pu_St) (f : Nat → Int64) (sz : Nat) (x1 x2 : Int32) (r : Int32 ⊕ Nat) (st' : pu_St) (h : f_H_store st x1 x2 = some (r, st')) (hk : ∀ k, r = .inr k → k ∈ [1, 2]) : Met l y_Lw_store (.codeWith y_Lw_store b_Lw_store 5 (some .int) [(0, 10, 13, 13), (0, 10, 17, 15)] :: tG) { frames := 9, cells := xc r, slots := xs r, locals := 158 } (va_Pc [.ref (ad 0), .int x1, .int x2, .ref o] (wPc D ca co ad o st f sz)) (wQ D ca co ad o (wk [1, 2] r) st' (wfI f r) sz) (xc r) (xs r) (wA ad o sz) := by
  refine wMet (by decide +kernel) ?_
  intro p e s m below meth c hx hb hml hr hlocks hown hts htab GX hP hPo
  obtain ⟨G, hKo, hne, hN⟩ := GX
  have hown : s.vm.findClass "MuseumHouseLaw" = some m.cls := hown
  have hS : va_S (wA ad o s.heap.size) s.heap s.heap [] := va_S.rf
  have hl := lv_entry ([.ref (ad 0), .int x1, .int x2, .ref o]) (n := 5) (Nat.le_of_ble_eq_true rfl)
  rw [lg_entry_eq]
  generalize (lg_sl ([.ref (ad 0), .int x1, .int x2, .ref o]) ++ List.replicate (5 - (lg_sl ([.ref (ad 0), .int x1, .int x2, .ref o])).length) Slot.unset).toArray = ls at hl ⊢
  have hl : lv_has ls 5 [(0, .ref (ad 0)), (1, .int x1), (2, .int x2), (3, .ref o)] := hl
  refine lv_aload_n hx hb d_Lw_store_0 rfl (lv_at hl 3 rfl) ?_
  refine lv_iconst (v := 0) hx hb d_Lw_store_1 (by decide) ?_
  refine lv_aload_n hx hb d_Lw_store_2 rfl (lv_at hl 0 rfl) ?_
  refine lv_iload_n hx hb d_Lw_store_3 rfl (lv_at hl 1 rfl) ?_
  refine lv_iload_n hx hb d_Lw_store_4 rfl (lv_at hl 2 rfl) ?_
  cases r with
  | inl v =>
    refine wCallI G hS (va_runV (As := [.int x1, .int x2]) (rest := [.int 0, .ref o]) ⟨hx, hb, hml, hown, hts⟩ (MetX.met (c_H_store l htl D ca ad st _ x1 x2 _ _ h) (fun _ _ _ _ q => ⟨_, q.1⟩)) (xCW (C := "MuseumHouse") 2 hts wd_3_115 wd_1_1 wd_3_112 wd_3_113 wd_3_114 (by decide +kernel) ⟨Nat.le_of_ble_eq_true rfl, Nat.le_of_ble_eq_true rfl⟩) (G.preV hP hS 0 rfl rfl) rfl rfl hl.1 rfl (lv_room (Nat.le_of_ble_eq_true rfl)) d_Lw_store_5 ⟨Nat.zero_le _, Nat.zero_le _⟩) (fun H locs hP hS hfr => ?_)
    have hPo := w_keep hne hPo hfr
    have hPc := va_P.app hP hPo
    have hDc := w_D (ca := ca) (co := co) (st := st') (f := f) (sz := s.heap.size) G.2.1 hne
    refine lv_i2l hx hb d_Lw_store_8 rfl ?_
    refine va_last hx hb hKo hPc hDc hS 34 0 rfl rfl w_in0 d_Lw_store_9 (fun H locs hPc _ hS => ?_)
    have hPc : va_P D hcl (hW ca ad st' ++ wO co o (vp_updL f (0 : Int32).toNatClampNeg v.toInt64)) H := hPc
    refine lv_goto (tgt := 21) hx hb d_Lw_store_10 (by decide) ?_
    refine lv_iconst (v := 0) hx hb d_Lw_store_21 (by decide) ?_
    exact W.iret (v := 0) hx hb hr (fun t ht _ => ⟨rfl, by rw [ht]; exact hPc.left, by rw [ht]; exact hPc.right, hS.F ht⟩) hS.2.2 d_Lw_store_22
  | inr k =>
    have hk1 := hk k rfl
    simp only [List.mem_cons, List.not_mem_nil, or_false] at hk1
    rcases hk1 with rfl | rfl
    · refine wThrV G hS hown hts ⟨hx, hb, hml, hown, hts⟩ (As := [.int x1, .int x2]) (rest := [.int 0, .ref o]) (c_H_store l htl D ca ad st _ x1 x2 _ _ h) (xCW (C := "MuseumHouse") 2 hts wd_3_115 wd_1_1 wd_3_112 wd_3_113 wd_3_114 (by decide +kernel) ⟨Nat.le_of_ble_eq_true rfl, Nat.le_of_ble_eq_true rfl⟩) (G.preV hP hS 0 rfl rfl) rfl rfl hl.1 rfl (lv_room (Nat.le_of_ble_eq_true rfl)) d_Lw_store_5 ⟨Nat.le_of_ble_eq_true rfl, Nat.le_of_ble_eq_true rfl⟩ [] ⟨0, 10, 13, 13⟩ [⟨0, 10, 17, 15⟩] htab (fun y hy => by cases hy) (by decide) (by decide) wd_2_16 hN.2.2.2.1 (fun x H locs hP hS hfr => ?_)
      have hPo := w_keep hne hPo hfr
      refine lv_astore (lv' := [(4, .ref x), (0, .ref (ad 0)), (1, .int x1), (2, .int x2), (3, .ref o)]) hx hb d_Lw_store_13 hl (by decide) rfl (fun ls hl => ?_)
      refine lv_iconst (v := 1) hx hb d_Lw_store_15 (by decide) ?_
      exact W.iret (v := 1) hx hb hr (fun t ht _ => ⟨by rw [show wk [1, 2] (.inr 1) = 1 from by decide +kernel], by rw [ht]; exact hP, by rw [ht]; exact hPo, hS.F ht⟩) hS.2.2 d_Lw_store_16
    · refine wThrV G hS hown hts ⟨hx, hb, hml, hown, hts⟩ (As := [.int x1, .int x2]) (rest := [.int 0, .ref o]) (c_H_store l htl D ca ad st _ x1 x2 _ _ h) (xCW (C := "MuseumHouse") 2 hts wd_3_115 wd_1_1 wd_3_112 wd_3_113 wd_3_114 (by decide +kernel) ⟨Nat.le_of_ble_eq_true rfl, Nat.le_of_ble_eq_true rfl⟩) (G.preV hP hS 0 rfl rfl) rfl rfl hl.1 rfl (lv_room (Nat.le_of_ble_eq_true rfl)) d_Lw_store_5 ⟨Nat.le_of_ble_eq_true rfl, Nat.le_of_ble_eq_true rfl⟩ [⟨0, 10, 13, 13⟩] ⟨0, 10, 17, 15⟩ [] htab (by
        intro y hy
        simp only [List.mem_cons, List.not_mem_nil, or_false] at hy
        rcases hy with rfl
        · exact ⟨by decide, by decide, _, wd_2_16, hN.1⟩) (by decide) (by decide) wd_2_17 hN.2.2.2.2.1 (fun x H locs hP hS hfr => ?_)
      have hPo := w_keep hne hPo hfr
      refine lv_astore (lv' := [(4, .ref x), (0, .ref (ad 0)), (1, .int x1), (2, .int x2), (3, .ref o)]) hx hb d_Lw_store_17 hl (by decide) rfl (fun ls hl => ?_)
      refine lv_iconst (v := 2) hx hb d_Lw_store_19 (by decide) ?_
      exact W.iret (v := 2) hx hb hr (fun t ht _ => ⟨by rw [show wk [1, 2] (.inr 2) = 2 from by decide +kernel], by rw [ht]; exact hP, by rw [ht]; exact hPo, hS.F ht⟩) hS.2.2 d_Lw_store_20
set_option maxHeartbeats 4000000 in
set_option maxRecDepth 100000 in
theorem w_carry (l : Launch) (htl : l.stackTraces = false) (D : va_G) (ca : Nat → ClassId) (co : ClassId) (ad : Nat → Nat) (o : Nat) (st : pu_St) (f : Nat → Int64) (sz : Nat) (x1 x2 x3 : Int32) (r : Int32 ⊕ Nat) (st' : pu_St) (h : f_H_carry st x1 x2 x3 = some (r, st')) (hk : ∀ k, r = .inr k → k ∈ [1, 2, 3]) : Met l y_Lw_carry (.codeWith y_Lw_carry b_Lw_carry 6 (some .int) [(0, 19, 22, 13), (0, 19, 26, 15), (0, 19, 30, 17)] :: tG) { frames := 9, cells := xc r, slots := xs r, locals := 161 } (va_Pc [.ref (ad 0), .int x1, .int x2, .int x3, .ref o] (wPc D ca co ad o st f sz)) (wQ D ca co ad o (wk [1, 2, 3] r) st' (wfZ f r) sz) (xc r) (xs r) (wA ad o sz) := by
  refine wMet (by decide +kernel) ?_
  intro p e s m below meth c hx hb hml hr hlocks hown hts htab GX hP hPo
  obtain ⟨G, hKo, hne, hN⟩ := GX
  have hown : s.vm.findClass "MuseumHouseLaw" = some m.cls := hown
  have hS : va_S (wA ad o s.heap.size) s.heap s.heap [] := va_S.rf
  have hl := lv_entry ([.ref (ad 0), .int x1, .int x2, .int x3, .ref o]) (n := 6) (Nat.le_of_ble_eq_true rfl)
  rw [lg_entry_eq]
  generalize (lg_sl ([.ref (ad 0), .int x1, .int x2, .int x3, .ref o]) ++ List.replicate (6 - (lg_sl ([.ref (ad 0), .int x1, .int x2, .int x3, .ref o])).length) Slot.unset).toArray = ls at hl ⊢
  have hl : lv_has ls 6 [(0, .ref (ad 0)), (1, .int x1), (2, .int x2), (3, .int x3), (4, .ref o)] := hl
  refine lv_aload hx hb d_Lw_carry_0 (lv_at hl 4 rfl) ?_
  refine lv_iconst (v := 0) hx hb d_Lw_carry_2 (by decide) ?_
  refine lv_aload_n hx hb d_Lw_carry_3 rfl (lv_at hl 0 rfl) ?_
  refine lv_iload_n hx hb d_Lw_carry_4 rfl (lv_at hl 1 rfl) ?_
  refine lv_iload_n hx hb d_Lw_carry_5 rfl (lv_at hl 2 rfl) ?_
  refine lv_iload_n hx hb d_Lw_carry_6 rfl (lv_at hl 3 rfl) ?_
  cases r with
  | inl v =>
    refine wCallI G hS (va_runV (As := [.int x1, .int x2, .int x3]) (rest := [.int 0, .ref o]) ⟨hx, hb, hml, hown, hts⟩ (MetX.met (c_H_carry l htl D ca ad st _ x1 x2 x3 _ _ h) (fun _ _ _ _ q => ⟨_, q.1⟩)) (xCW (C := "MuseumHouse") 3 hts wd_3_139 wd_1_1 wd_3_136 wd_3_137 wd_3_138 (by decide +kernel) ⟨Nat.le_of_ble_eq_true rfl, Nat.le_of_ble_eq_true rfl⟩) (G.preV hP hS 0 rfl rfl) rfl rfl hl.1 rfl (lv_room (Nat.le_of_ble_eq_true rfl)) d_Lw_carry_7 ⟨Nat.zero_le _, Nat.zero_le _⟩) (fun H locs hP hS hfr => ?_)
    have hPo := w_keep hne hPo hfr
    have hPc := va_P.app hP hPo
    have hDc := w_D (ca := ca) (co := co) (st := st') (f := f) (sz := s.heap.size) G.2.1 hne
    refine lv_if_eq (tgt := 17) hx hb d_Lw_carry_10 (by decide) (fun cz => ?_) (fun cz => ?_)
    · refine lv_lconst (v := 0) hx hb d_Lw_carry_17 (by decide) ?_
      refine va_last hx hb hKo hPc hDc hS 34 0 rfl rfl w_in0 d_Lw_carry_18 (fun H locs hPc _ hS => ?_)
      have hPc : va_P D hcl (hW ca ad st' ++ wO co o (vp_updL f (0 : Int32).toNatClampNeg 0)) H := hPc
      refine lv_goto (tgt := 34) hx hb d_Lw_carry_19 (by decide) ?_
      refine lv_iconst (v := 0) hx hb d_Lw_carry_34 (by decide) ?_
      exact W.iret (v := 0) hx hb hr (fun t ht _ => ⟨rfl, by rw [ht]; exact hPc.left, by rw [ht]; show va_P D hcl (wO co o (vp_updL f (0 : Int32).toNatClampNeg (if v = 0 then 0 else 1))) H; rw [if_pos cz]; exact hPc.right, hS.F ht⟩) hS.2.2 d_Lw_carry_35
    · refine lv_lconst (v := 1) hx hb d_Lw_carry_13 (by decide) ?_
      refine lv_goto (tgt := 18) hx hb d_Lw_carry_14 (by decide) ?_
      refine va_last hx hb hKo hPc hDc hS 34 0 rfl rfl w_in0 d_Lw_carry_18 (fun H locs hPc _ hS => ?_)
      have hPc : va_P D hcl (hW ca ad st' ++ wO co o (vp_updL f (0 : Int32).toNatClampNeg 1)) H := hPc
      refine lv_goto (tgt := 34) hx hb d_Lw_carry_19 (by decide) ?_
      refine lv_iconst (v := 0) hx hb d_Lw_carry_34 (by decide) ?_
      exact W.iret (v := 0) hx hb hr (fun t ht _ => ⟨rfl, by rw [ht]; exact hPc.left, by rw [ht]; show va_P D hcl (wO co o (vp_updL f (0 : Int32).toNatClampNeg (if v = 0 then 0 else 1))) H; rw [if_neg cz]; exact hPc.right, hS.F ht⟩) hS.2.2 d_Lw_carry_35
  | inr k =>
    have hk1 := hk k rfl
    simp only [List.mem_cons, List.not_mem_nil, or_false] at hk1
    rcases hk1 with rfl | rfl | rfl
    · refine wThrV G hS hown hts ⟨hx, hb, hml, hown, hts⟩ (As := [.int x1, .int x2, .int x3]) (rest := [.int 0, .ref o]) (c_H_carry l htl D ca ad st _ x1 x2 x3 _ _ h) (xCW (C := "MuseumHouse") 3 hts wd_3_139 wd_1_1 wd_3_136 wd_3_137 wd_3_138 (by decide +kernel) ⟨Nat.le_of_ble_eq_true rfl, Nat.le_of_ble_eq_true rfl⟩) (G.preV hP hS 0 rfl rfl) rfl rfl hl.1 rfl (lv_room (Nat.le_of_ble_eq_true rfl)) d_Lw_carry_7 ⟨Nat.le_of_ble_eq_true rfl, Nat.le_of_ble_eq_true rfl⟩ [] ⟨0, 19, 22, 13⟩ [⟨0, 19, 26, 15⟩, ⟨0, 19, 30, 17⟩] htab (fun y hy => by cases hy) (by decide) (by decide) wd_2_16 hN.2.2.2.1 (fun x H locs hP hS hfr => ?_)
      have hPo := w_keep hne hPo hfr
      refine lv_astore (lv' := [(5, .ref x), (0, .ref (ad 0)), (1, .int x1), (2, .int x2), (3, .int x3), (4, .ref o)]) hx hb d_Lw_carry_22 hl (by decide) rfl (fun ls hl => ?_)
      refine lv_iconst (v := 1) hx hb d_Lw_carry_24 (by decide) ?_
      exact W.iret (v := 1) hx hb hr (fun t ht _ => ⟨by rw [show wk [1, 2, 3] (.inr 1) = 1 from by decide +kernel], by rw [ht]; exact hP, by rw [ht]; exact hPo, hS.F ht⟩) hS.2.2 d_Lw_carry_25
    · refine wThrV G hS hown hts ⟨hx, hb, hml, hown, hts⟩ (As := [.int x1, .int x2, .int x3]) (rest := [.int 0, .ref o]) (c_H_carry l htl D ca ad st _ x1 x2 x3 _ _ h) (xCW (C := "MuseumHouse") 3 hts wd_3_139 wd_1_1 wd_3_136 wd_3_137 wd_3_138 (by decide +kernel) ⟨Nat.le_of_ble_eq_true rfl, Nat.le_of_ble_eq_true rfl⟩) (G.preV hP hS 0 rfl rfl) rfl rfl hl.1 rfl (lv_room (Nat.le_of_ble_eq_true rfl)) d_Lw_carry_7 ⟨Nat.le_of_ble_eq_true rfl, Nat.le_of_ble_eq_true rfl⟩ [⟨0, 19, 22, 13⟩] ⟨0, 19, 26, 15⟩ [⟨0, 19, 30, 17⟩] htab (by
        intro y hy
        simp only [List.mem_cons, List.not_mem_nil, or_false] at hy
        rcases hy with rfl
        · exact ⟨by decide, by decide, _, wd_2_16, hN.1⟩) (by decide) (by decide) wd_2_17 hN.2.2.2.2.1 (fun x H locs hP hS hfr => ?_)
      have hPo := w_keep hne hPo hfr
      refine lv_astore (lv' := [(5, .ref x), (0, .ref (ad 0)), (1, .int x1), (2, .int x2), (3, .int x3), (4, .ref o)]) hx hb d_Lw_carry_26 hl (by decide) rfl (fun ls hl => ?_)
      refine lv_iconst (v := 2) hx hb d_Lw_carry_28 (by decide) ?_
      exact W.iret (v := 2) hx hb hr (fun t ht _ => ⟨by rw [show wk [1, 2, 3] (.inr 2) = 2 from by decide +kernel], by rw [ht]; exact hP, by rw [ht]; exact hPo, hS.F ht⟩) hS.2.2 d_Lw_carry_29
    · refine wThrV G hS hown hts ⟨hx, hb, hml, hown, hts⟩ (As := [.int x1, .int x2, .int x3]) (rest := [.int 0, .ref o]) (c_H_carry l htl D ca ad st _ x1 x2 x3 _ _ h) (xCW (C := "MuseumHouse") 3 hts wd_3_139 wd_1_1 wd_3_136 wd_3_137 wd_3_138 (by decide +kernel) ⟨Nat.le_of_ble_eq_true rfl, Nat.le_of_ble_eq_true rfl⟩) (G.preV hP hS 0 rfl rfl) rfl rfl hl.1 rfl (lv_room (Nat.le_of_ble_eq_true rfl)) d_Lw_carry_7 ⟨Nat.le_of_ble_eq_true rfl, Nat.le_of_ble_eq_true rfl⟩ [⟨0, 19, 22, 13⟩, ⟨0, 19, 26, 15⟩] ⟨0, 19, 30, 17⟩ [] htab (by
        intro y hy
        simp only [List.mem_cons, List.not_mem_nil, or_false] at hy
        rcases hy with rfl | rfl
        · exact ⟨by decide, by decide, _, wd_2_16, hN.2.1⟩
        · exact ⟨by decide, by decide, _, wd_2_17, hN.2.2.1⟩) (by decide) (by decide) wd_2_18 hN.2.2.2.2.2 (fun x H locs hP hS hfr => ?_)
      have hPo := w_keep hne hPo hfr
      refine lv_astore (lv' := [(5, .ref x), (0, .ref (ad 0)), (1, .int x1), (2, .int x2), (3, .int x3), (4, .ref o)]) hx hb d_Lw_carry_30 hl (by decide) rfl (fun ls hl => ?_)
      refine lv_iconst (v := 3) hx hb d_Lw_carry_32 (by decide) ?_
      exact W.iret (v := 3) hx hb hr (fun t ht _ => ⟨by rw [show wk [1, 2, 3] (.inr 3) = 3 from by decide +kernel], by rw [ht]; exact hP, by rw [ht]; exact hPo, hS.F ht⟩) hS.2.2 d_Lw_carry_33
set_option maxHeartbeats 4000000 in
set_option maxRecDepth 100000 in
theorem w_within (l : Launch) (htl : l.stackTraces = false) (D : va_G) (ca : Nat → ClassId) (co : ClassId) (ad : Nat → Nat) (o : Nat) (st : pu_St) (f : Nat → Int64) (sz : Nat) (x1 x2 : Int32) (r : Int32 ⊕ Nat) (st' : pu_St) (h : f_H_within st x1 x2 = some (r, st')) (hk : ∀ k, r = .inr k → k ∈ [1]) : Met l y_Lw_within (.codeWith y_Lw_within b_Lw_within 5 (some .int) [(0, 17, 20, 13)] :: tG) { frames := 8, cells := xc r, slots := xs r, locals := 137 } (va_Pc [.ref (ad 0), .int x1, .int x2, .ref o] (wPc D ca co ad o st f sz)) (wQ D ca co ad o (wk [1] r) st' (wfZ f r) sz) (xc r) (xs r) (wA ad o sz) := by
  refine wMet (by decide +kernel) ?_
  intro p e s m below meth c hx hb hml hr hlocks hown hts htab GX hP hPo
  obtain ⟨G, hKo, hne, hN⟩ := GX
  have hown : s.vm.findClass "MuseumHouseLaw" = some m.cls := hown
  have hS : va_S (wA ad o s.heap.size) s.heap s.heap [] := va_S.rf
  have hl := lv_entry ([.ref (ad 0), .int x1, .int x2, .ref o]) (n := 5) (Nat.le_of_ble_eq_true rfl)
  rw [lg_entry_eq]
  generalize (lg_sl ([.ref (ad 0), .int x1, .int x2, .ref o]) ++ List.replicate (5 - (lg_sl ([.ref (ad 0), .int x1, .int x2, .ref o])).length) Slot.unset).toArray = ls at hl ⊢
  have hl : lv_has ls 5 [(0, .ref (ad 0)), (1, .int x1), (2, .int x2), (3, .ref o)] := hl
  refine lv_aload_n hx hb d_Lw_within_0 rfl (lv_at hl 3 rfl) ?_
  refine lv_iconst (v := 0) hx hb d_Lw_within_1 (by decide) ?_
  refine lv_aload_n hx hb d_Lw_within_2 rfl (lv_at hl 0 rfl) ?_
  refine lv_iload_n hx hb d_Lw_within_3 rfl (lv_at hl 1 rfl) ?_
  refine lv_iload_n hx hb d_Lw_within_4 rfl (lv_at hl 2 rfl) ?_
  cases r with
  | inl v =>
    refine wCallI G hS (va_runV (As := [.int x1, .int x2]) (rest := [.int 0, .ref o]) ⟨hx, hb, hml, hown, hts⟩ (MetX.met (c_H_within l htl D ca ad st _ x1 x2 _ _ h) (fun _ _ _ _ q => ⟨_, q.1⟩)) (xCW (C := "MuseumHouse") 2 hts wd_3_162 wd_1_1 wd_3_159 wd_3_160 wd_3_161 (by decide +kernel) ⟨Nat.le_of_ble_eq_true rfl, Nat.le_of_ble_eq_true rfl⟩) (G.preV hP hS 0 rfl rfl) rfl rfl hl.1 rfl (lv_room (Nat.le_of_ble_eq_true rfl)) d_Lw_within_5 ⟨Nat.zero_le _, Nat.zero_le _⟩) (fun H locs hP hS hfr => ?_)
    have hPo := w_keep hne hPo hfr
    have hPc := va_P.app hP hPo
    have hDc := w_D (ca := ca) (co := co) (st := st') (f := f) (sz := s.heap.size) G.2.1 hne
    refine lv_if_eq (tgt := 15) hx hb d_Lw_within_8 (by decide) (fun cz => ?_) (fun cz => ?_)
    · refine lv_lconst (v := 0) hx hb d_Lw_within_15 (by decide) ?_
      refine va_last hx hb hKo hPc hDc hS 34 0 rfl rfl w_in0 d_Lw_within_16 (fun H locs hPc _ hS => ?_)
      have hPc : va_P D hcl (hW ca ad st' ++ wO co o (vp_updL f (0 : Int32).toNatClampNeg 0)) H := hPc
      refine lv_goto (tgt := 24) hx hb d_Lw_within_17 (by decide) ?_
      refine lv_iconst (v := 0) hx hb d_Lw_within_24 (by decide) ?_
      exact W.iret (v := 0) hx hb hr (fun t ht _ => ⟨rfl, by rw [ht]; exact hPc.left, by rw [ht]; show va_P D hcl (wO co o (vp_updL f (0 : Int32).toNatClampNeg (if v = 0 then 0 else 1))) H; rw [if_pos cz]; exact hPc.right, hS.F ht⟩) hS.2.2 d_Lw_within_25
    · refine lv_lconst (v := 1) hx hb d_Lw_within_11 (by decide) ?_
      refine lv_goto (tgt := 16) hx hb d_Lw_within_12 (by decide) ?_
      refine va_last hx hb hKo hPc hDc hS 34 0 rfl rfl w_in0 d_Lw_within_16 (fun H locs hPc _ hS => ?_)
      have hPc : va_P D hcl (hW ca ad st' ++ wO co o (vp_updL f (0 : Int32).toNatClampNeg 1)) H := hPc
      refine lv_goto (tgt := 24) hx hb d_Lw_within_17 (by decide) ?_
      refine lv_iconst (v := 0) hx hb d_Lw_within_24 (by decide) ?_
      exact W.iret (v := 0) hx hb hr (fun t ht _ => ⟨rfl, by rw [ht]; exact hPc.left, by rw [ht]; show va_P D hcl (wO co o (vp_updL f (0 : Int32).toNatClampNeg (if v = 0 then 0 else 1))) H; rw [if_neg cz]; exact hPc.right, hS.F ht⟩) hS.2.2 d_Lw_within_25
  | inr k =>
    have hk1 := hk k rfl
    simp only [List.mem_cons, List.not_mem_nil, or_false] at hk1
    rcases hk1 with rfl
    · refine wThrV G hS hown hts ⟨hx, hb, hml, hown, hts⟩ (As := [.int x1, .int x2]) (rest := [.int 0, .ref o]) (c_H_within l htl D ca ad st _ x1 x2 _ _ h) (xCW (C := "MuseumHouse") 2 hts wd_3_162 wd_1_1 wd_3_159 wd_3_160 wd_3_161 (by decide +kernel) ⟨Nat.le_of_ble_eq_true rfl, Nat.le_of_ble_eq_true rfl⟩) (G.preV hP hS 0 rfl rfl) rfl rfl hl.1 rfl (lv_room (Nat.le_of_ble_eq_true rfl)) d_Lw_within_5 ⟨Nat.le_of_ble_eq_true rfl, Nat.le_of_ble_eq_true rfl⟩ [] ⟨0, 17, 20, 13⟩ [] htab (fun y hy => by cases hy) (by decide) (by decide) wd_2_16 hN.2.2.2.1 (fun x H locs hP hS hfr => ?_)
      have hPo := w_keep hne hPo hfr
      refine lv_astore (lv' := [(4, .ref x), (0, .ref (ad 0)), (1, .int x1), (2, .int x2), (3, .ref o)]) hx hb d_Lw_within_20 hl (by decide) rfl (fun ls hl => ?_)
      refine lv_iconst (v := 1) hx hb d_Lw_within_22 (by decide) ?_
      exact W.iret (v := 1) hx hb hr (fun t ht _ => ⟨by rw [show wk [1] (.inr 1) = 1 from by decide +kernel], by rw [ht]; exact hP, by rw [ht]; exact hPo, hS.F ht⟩) hS.2.2 d_Lw_within_23
set_option maxHeartbeats 4000000 in
set_option maxRecDepth 100000 in
theorem w_move (l : Launch) (htl : l.stackTraces = false) (D : va_G) (ca : Nat → ClassId) (co : ClassId) (ad : Nat → Nat) (o : Nat) (st : pu_St) (f : Nat → Int64) (sz : Nat) (x1 x2 x3 x4 : Int32) (r : Int32 ⊕ Nat) (st' : pu_St) (h : f_H_move st x1 x2 x3 x4 = some (r, st')) (hk : ∀ k, r = .inr k → k ∈ [1, 2, 3]) : Met l y_Lw_move (.codeWith y_Lw_move b_Lw_move 7 (some .int) [(0, 21, 24, 13), (0, 21, 28, 15), (0, 21, 32, 17)] :: tG) { frames := 8, cells := xc r, slots := xs r, locals := 141 } (va_Pc [.ref (ad 0), .int x1, .int x2, .int x3, .int x4, .ref o] (wPc D ca co ad o st f sz)) (wQ D ca co ad o (wk [1, 2, 3] r) st' (wfZ f r) sz) (xc r) (xs r) (wA ad o sz) := by
  refine wMet (by decide +kernel) ?_
  intro p e s m below meth c hx hb hml hr hlocks hown hts htab GX hP hPo
  obtain ⟨G, hKo, hne, hN⟩ := GX
  have hown : s.vm.findClass "MuseumHouseLaw" = some m.cls := hown
  have hS : va_S (wA ad o s.heap.size) s.heap s.heap [] := va_S.rf
  have hl := lv_entry ([.ref (ad 0), .int x1, .int x2, .int x3, .int x4, .ref o]) (n := 7) (Nat.le_of_ble_eq_true rfl)
  rw [lg_entry_eq]
  generalize (lg_sl ([.ref (ad 0), .int x1, .int x2, .int x3, .int x4, .ref o]) ++ List.replicate (7 - (lg_sl ([.ref (ad 0), .int x1, .int x2, .int x3, .int x4, .ref o])).length) Slot.unset).toArray = ls at hl ⊢
  have hl : lv_has ls 7 [(0, .ref (ad 0)), (1, .int x1), (2, .int x2), (3, .int x3), (4, .int x4), (5, .ref o)] := hl
  refine lv_aload hx hb d_Lw_move_0 (lv_at hl 5 rfl) ?_
  refine lv_iconst (v := 0) hx hb d_Lw_move_2 (by decide) ?_
  refine lv_aload_n hx hb d_Lw_move_3 rfl (lv_at hl 0 rfl) ?_
  refine lv_iload_n hx hb d_Lw_move_4 rfl (lv_at hl 1 rfl) ?_
  refine lv_iload_n hx hb d_Lw_move_5 rfl (lv_at hl 2 rfl) ?_
  refine lv_iload_n hx hb d_Lw_move_6 rfl (lv_at hl 3 rfl) ?_
  refine lv_iload hx hb d_Lw_move_7 (lv_at hl 4 rfl) ?_
  cases r with
  | inl v =>
    refine wCallI G hS (va_runV (As := [.int x1, .int x2, .int x3, .int x4]) (rest := [.int 0, .ref o]) ⟨hx, hb, hml, hown, hts⟩ (MetX.met (c_H_move l htl D ca ad st _ x1 x2 x3 x4 _ _ h) (fun _ _ _ _ q => ⟨_, q.1⟩)) (xCW (C := "MuseumHouse") 4 hts wd_3_170 wd_1_1 wd_3_167 wd_3_168 wd_3_169 (by decide +kernel) ⟨Nat.le_of_ble_eq_true rfl, Nat.le_of_ble_eq_true rfl⟩) (G.preV hP hS 0 rfl rfl) rfl rfl hl.1 rfl (lv_room (Nat.le_of_ble_eq_true rfl)) d_Lw_move_9 ⟨Nat.zero_le _, Nat.zero_le _⟩) (fun H locs hP hS hfr => ?_)
    have hPo := w_keep hne hPo hfr
    have hPc := va_P.app hP hPo
    have hDc := w_D (ca := ca) (co := co) (st := st') (f := f) (sz := s.heap.size) G.2.1 hne
    refine lv_if_eq (tgt := 19) hx hb d_Lw_move_12 (by decide) (fun cz => ?_) (fun cz => ?_)
    · refine lv_lconst (v := 0) hx hb d_Lw_move_19 (by decide) ?_
      refine va_last hx hb hKo hPc hDc hS 34 0 rfl rfl w_in0 d_Lw_move_20 (fun H locs hPc _ hS => ?_)
      have hPc : va_P D hcl (hW ca ad st' ++ wO co o (vp_updL f (0 : Int32).toNatClampNeg 0)) H := hPc
      refine lv_goto (tgt := 36) hx hb d_Lw_move_21 (by decide) ?_
      refine lv_iconst (v := 0) hx hb d_Lw_move_36 (by decide) ?_
      exact W.iret (v := 0) hx hb hr (fun t ht _ => ⟨rfl, by rw [ht]; exact hPc.left, by rw [ht]; show va_P D hcl (wO co o (vp_updL f (0 : Int32).toNatClampNeg (if v = 0 then 0 else 1))) H; rw [if_pos cz]; exact hPc.right, hS.F ht⟩) hS.2.2 d_Lw_move_37
    · refine lv_lconst (v := 1) hx hb d_Lw_move_15 (by decide) ?_
      refine lv_goto (tgt := 20) hx hb d_Lw_move_16 (by decide) ?_
      refine va_last hx hb hKo hPc hDc hS 34 0 rfl rfl w_in0 d_Lw_move_20 (fun H locs hPc _ hS => ?_)
      have hPc : va_P D hcl (hW ca ad st' ++ wO co o (vp_updL f (0 : Int32).toNatClampNeg 1)) H := hPc
      refine lv_goto (tgt := 36) hx hb d_Lw_move_21 (by decide) ?_
      refine lv_iconst (v := 0) hx hb d_Lw_move_36 (by decide) ?_
      exact W.iret (v := 0) hx hb hr (fun t ht _ => ⟨rfl, by rw [ht]; exact hPc.left, by rw [ht]; show va_P D hcl (wO co o (vp_updL f (0 : Int32).toNatClampNeg (if v = 0 then 0 else 1))) H; rw [if_neg cz]; exact hPc.right, hS.F ht⟩) hS.2.2 d_Lw_move_37
  | inr k =>
    have hk1 := hk k rfl
    simp only [List.mem_cons, List.not_mem_nil, or_false] at hk1
    rcases hk1 with rfl | rfl | rfl
    · refine wThrV G hS hown hts ⟨hx, hb, hml, hown, hts⟩ (As := [.int x1, .int x2, .int x3, .int x4]) (rest := [.int 0, .ref o]) (c_H_move l htl D ca ad st _ x1 x2 x3 x4 _ _ h) (xCW (C := "MuseumHouse") 4 hts wd_3_170 wd_1_1 wd_3_167 wd_3_168 wd_3_169 (by decide +kernel) ⟨Nat.le_of_ble_eq_true rfl, Nat.le_of_ble_eq_true rfl⟩) (G.preV hP hS 0 rfl rfl) rfl rfl hl.1 rfl (lv_room (Nat.le_of_ble_eq_true rfl)) d_Lw_move_9 ⟨Nat.le_of_ble_eq_true rfl, Nat.le_of_ble_eq_true rfl⟩ [] ⟨0, 21, 24, 13⟩ [⟨0, 21, 28, 15⟩, ⟨0, 21, 32, 17⟩] htab (fun y hy => by cases hy) (by decide) (by decide) wd_2_16 hN.2.2.2.1 (fun x H locs hP hS hfr => ?_)
      have hPo := w_keep hne hPo hfr
      refine lv_astore (lv' := [(6, .ref x), (0, .ref (ad 0)), (1, .int x1), (2, .int x2), (3, .int x3), (4, .int x4), (5, .ref o)]) hx hb d_Lw_move_24 hl (by decide) rfl (fun ls hl => ?_)
      refine lv_iconst (v := 1) hx hb d_Lw_move_26 (by decide) ?_
      exact W.iret (v := 1) hx hb hr (fun t ht _ => ⟨by rw [show wk [1, 2, 3] (.inr 1) = 1 from by decide +kernel], by rw [ht]; exact hP, by rw [ht]; exact hPo, hS.F ht⟩) hS.2.2 d_Lw_move_27
    · refine wThrV G hS hown hts ⟨hx, hb, hml, hown, hts⟩ (As := [.int x1, .int x2, .int x3, .int x4]) (rest := [.int 0, .ref o]) (c_H_move l htl D ca ad st _ x1 x2 x3 x4 _ _ h) (xCW (C := "MuseumHouse") 4 hts wd_3_170 wd_1_1 wd_3_167 wd_3_168 wd_3_169 (by decide +kernel) ⟨Nat.le_of_ble_eq_true rfl, Nat.le_of_ble_eq_true rfl⟩) (G.preV hP hS 0 rfl rfl) rfl rfl hl.1 rfl (lv_room (Nat.le_of_ble_eq_true rfl)) d_Lw_move_9 ⟨Nat.le_of_ble_eq_true rfl, Nat.le_of_ble_eq_true rfl⟩ [⟨0, 21, 24, 13⟩] ⟨0, 21, 28, 15⟩ [⟨0, 21, 32, 17⟩] htab (by
        intro y hy
        simp only [List.mem_cons, List.not_mem_nil, or_false] at hy
        rcases hy with rfl
        · exact ⟨by decide, by decide, _, wd_2_16, hN.1⟩) (by decide) (by decide) wd_2_17 hN.2.2.2.2.1 (fun x H locs hP hS hfr => ?_)
      have hPo := w_keep hne hPo hfr
      refine lv_astore (lv' := [(6, .ref x), (0, .ref (ad 0)), (1, .int x1), (2, .int x2), (3, .int x3), (4, .int x4), (5, .ref o)]) hx hb d_Lw_move_28 hl (by decide) rfl (fun ls hl => ?_)
      refine lv_iconst (v := 2) hx hb d_Lw_move_30 (by decide) ?_
      exact W.iret (v := 2) hx hb hr (fun t ht _ => ⟨by rw [show wk [1, 2, 3] (.inr 2) = 2 from by decide +kernel], by rw [ht]; exact hP, by rw [ht]; exact hPo, hS.F ht⟩) hS.2.2 d_Lw_move_31
    · refine wThrV G hS hown hts ⟨hx, hb, hml, hown, hts⟩ (As := [.int x1, .int x2, .int x3, .int x4]) (rest := [.int 0, .ref o]) (c_H_move l htl D ca ad st _ x1 x2 x3 x4 _ _ h) (xCW (C := "MuseumHouse") 4 hts wd_3_170 wd_1_1 wd_3_167 wd_3_168 wd_3_169 (by decide +kernel) ⟨Nat.le_of_ble_eq_true rfl, Nat.le_of_ble_eq_true rfl⟩) (G.preV hP hS 0 rfl rfl) rfl rfl hl.1 rfl (lv_room (Nat.le_of_ble_eq_true rfl)) d_Lw_move_9 ⟨Nat.le_of_ble_eq_true rfl, Nat.le_of_ble_eq_true rfl⟩ [⟨0, 21, 24, 13⟩, ⟨0, 21, 28, 15⟩] ⟨0, 21, 32, 17⟩ [] htab (by
        intro y hy
        simp only [List.mem_cons, List.not_mem_nil, or_false] at hy
        rcases hy with rfl | rfl
        · exact ⟨by decide, by decide, _, wd_2_16, hN.2.1⟩
        · exact ⟨by decide, by decide, _, wd_2_17, hN.2.2.1⟩) (by decide) (by decide) wd_2_18 hN.2.2.2.2.2 (fun x H locs hP hS hfr => ?_)
      have hPo := w_keep hne hPo hfr
      refine lv_astore (lv' := [(6, .ref x), (0, .ref (ad 0)), (1, .int x1), (2, .int x2), (3, .int x3), (4, .int x4), (5, .ref o)]) hx hb d_Lw_move_32 hl (by decide) rfl (fun ls hl => ?_)
      refine lv_iconst (v := 3) hx hb d_Lw_move_34 (by decide) ?_
      exact W.iret (v := 3) hx hb hr (fun t ht _ => ⟨by rw [show wk [1, 2, 3] (.inr 3) = 3 from by decide +kernel], by rw [ht]; exact hP, by rw [ht]; exact hPo, hS.F ht⟩) hS.2.2 d_Lw_move_35
set_option maxHeartbeats 4000000 in
set_option maxRecDepth 100000 in
theorem w_place (l : Launch) (htl : l.stackTraces = false) (D : va_G) (ca : Nat → ClassId) (co : ClassId) (ad : Nat → Nat) (o : Nat) (st : pu_St) (f : Nat → Int64) (sz : Nat) (x1 x2 : Int32) (r : Int32 ⊕ Nat) (st' : pu_St) (h : f_H_place st x1 x2 = some (r, st')) (hk : ∀ k, r = .inr k → k ∈ [1, 3]) : Met l y_Lw_place (.codeWith y_Lw_place b_Lw_place 5 (some .int) [(0, 10, 13, 13), (0, 10, 17, 17)] :: tG) { frames := 8, cells := xc r, slots := xs r, locals := 136 } (va_Pc [.ref (ad 0), .int x1, .int x2, .ref o] (wPc D ca co ad o st f sz)) (wQ D ca co ad o (wk [1, 3] r) st' (wfI f r) sz) (xc r) (xs r) (wA ad o sz) := by
  refine wMet (by decide +kernel) ?_
  intro p e s m below meth c hx hb hml hr hlocks hown hts htab GX hP hPo
  obtain ⟨G, hKo, hne, hN⟩ := GX
  have hown : s.vm.findClass "MuseumHouseLaw" = some m.cls := hown
  have hS : va_S (wA ad o s.heap.size) s.heap s.heap [] := va_S.rf
  have hl := lv_entry ([.ref (ad 0), .int x1, .int x2, .ref o]) (n := 5) (Nat.le_of_ble_eq_true rfl)
  rw [lg_entry_eq]
  generalize (lg_sl ([.ref (ad 0), .int x1, .int x2, .ref o]) ++ List.replicate (5 - (lg_sl ([.ref (ad 0), .int x1, .int x2, .ref o])).length) Slot.unset).toArray = ls at hl ⊢
  have hl : lv_has ls 5 [(0, .ref (ad 0)), (1, .int x1), (2, .int x2), (3, .ref o)] := hl
  refine lv_aload_n hx hb d_Lw_place_0 rfl (lv_at hl 3 rfl) ?_
  refine lv_iconst (v := 0) hx hb d_Lw_place_1 (by decide) ?_
  refine lv_aload_n hx hb d_Lw_place_2 rfl (lv_at hl 0 rfl) ?_
  refine lv_iload_n hx hb d_Lw_place_3 rfl (lv_at hl 1 rfl) ?_
  refine lv_iload_n hx hb d_Lw_place_4 rfl (lv_at hl 2 rfl) ?_
  cases r with
  | inl v =>
    refine wCallI G hS (va_runV (As := [.int x1, .int x2]) (rest := [.int 0, .ref o]) ⟨hx, hb, hml, hown, hts⟩ (MetX.met (c_H_place l htl D ca ad st _ x1 x2 _ _ h) (fun _ _ _ _ q => ⟨_, q.1⟩)) (xCW (C := "MuseumHouse") 2 hts wd_3_215 wd_1_1 wd_3_212 wd_3_213 wd_3_214 (by decide +kernel) ⟨Nat.le_of_ble_eq_true rfl, Nat.le_of_ble_eq_true rfl⟩) (G.preV hP hS 0 rfl rfl) rfl rfl hl.1 rfl (lv_room (Nat.le_of_ble_eq_true rfl)) d_Lw_place_5 ⟨Nat.zero_le _, Nat.zero_le _⟩) (fun H locs hP hS hfr => ?_)
    have hPo := w_keep hne hPo hfr
    have hPc := va_P.app hP hPo
    have hDc := w_D (ca := ca) (co := co) (st := st') (f := f) (sz := s.heap.size) G.2.1 hne
    refine lv_i2l hx hb d_Lw_place_8 rfl ?_
    refine va_last hx hb hKo hPc hDc hS 34 0 rfl rfl w_in0 d_Lw_place_9 (fun H locs hPc _ hS => ?_)
    have hPc : va_P D hcl (hW ca ad st' ++ wO co o (vp_updL f (0 : Int32).toNatClampNeg v.toInt64)) H := hPc
    refine lv_goto (tgt := 21) hx hb d_Lw_place_10 (by decide) ?_
    refine lv_iconst (v := 0) hx hb d_Lw_place_21 (by decide) ?_
    exact W.iret (v := 0) hx hb hr (fun t ht _ => ⟨rfl, by rw [ht]; exact hPc.left, by rw [ht]; exact hPc.right, hS.F ht⟩) hS.2.2 d_Lw_place_22
  | inr k =>
    have hk1 := hk k rfl
    simp only [List.mem_cons, List.not_mem_nil, or_false] at hk1
    rcases hk1 with rfl | rfl
    · refine wThrV G hS hown hts ⟨hx, hb, hml, hown, hts⟩ (As := [.int x1, .int x2]) (rest := [.int 0, .ref o]) (c_H_place l htl D ca ad st _ x1 x2 _ _ h) (xCW (C := "MuseumHouse") 2 hts wd_3_215 wd_1_1 wd_3_212 wd_3_213 wd_3_214 (by decide +kernel) ⟨Nat.le_of_ble_eq_true rfl, Nat.le_of_ble_eq_true rfl⟩) (G.preV hP hS 0 rfl rfl) rfl rfl hl.1 rfl (lv_room (Nat.le_of_ble_eq_true rfl)) d_Lw_place_5 ⟨Nat.le_of_ble_eq_true rfl, Nat.le_of_ble_eq_true rfl⟩ [] ⟨0, 10, 13, 13⟩ [⟨0, 10, 17, 17⟩] htab (fun y hy => by cases hy) (by decide) (by decide) wd_2_16 hN.2.2.2.1 (fun x H locs hP hS hfr => ?_)
      have hPo := w_keep hne hPo hfr
      refine lv_astore (lv' := [(4, .ref x), (0, .ref (ad 0)), (1, .int x1), (2, .int x2), (3, .ref o)]) hx hb d_Lw_place_13 hl (by decide) rfl (fun ls hl => ?_)
      refine lv_iconst (v := 1) hx hb d_Lw_place_15 (by decide) ?_
      exact W.iret (v := 1) hx hb hr (fun t ht _ => ⟨by rw [show wk [1, 3] (.inr 1) = 1 from by decide +kernel], by rw [ht]; exact hP, by rw [ht]; exact hPo, hS.F ht⟩) hS.2.2 d_Lw_place_16
    · refine wThrV G hS hown hts ⟨hx, hb, hml, hown, hts⟩ (As := [.int x1, .int x2]) (rest := [.int 0, .ref o]) (c_H_place l htl D ca ad st _ x1 x2 _ _ h) (xCW (C := "MuseumHouse") 2 hts wd_3_215 wd_1_1 wd_3_212 wd_3_213 wd_3_214 (by decide +kernel) ⟨Nat.le_of_ble_eq_true rfl, Nat.le_of_ble_eq_true rfl⟩) (G.preV hP hS 0 rfl rfl) rfl rfl hl.1 rfl (lv_room (Nat.le_of_ble_eq_true rfl)) d_Lw_place_5 ⟨Nat.le_of_ble_eq_true rfl, Nat.le_of_ble_eq_true rfl⟩ [⟨0, 10, 13, 13⟩] ⟨0, 10, 17, 17⟩ [] htab (by
        intro y hy
        simp only [List.mem_cons, List.not_mem_nil, or_false] at hy
        rcases hy with rfl
        · exact ⟨by decide, by decide, _, wd_2_16, hN.2.1⟩) (by decide) (by decide) wd_2_18 hN.2.2.2.2.2 (fun x H locs hP hS hfr => ?_)
      have hPo := w_keep hne hPo hfr
      refine lv_astore (lv' := [(4, .ref x), (0, .ref (ad 0)), (1, .int x1), (2, .int x2), (3, .ref o)]) hx hb d_Lw_place_17 hl (by decide) rfl (fun ls hl => ?_)
      refine lv_iconst (v := 2) hx hb d_Lw_place_19 (by decide) ?_
      exact W.iret (v := 2) hx hb hr (fun t ht _ => ⟨by rw [show wk [1, 3] (.inr 3) = 2 from by decide +kernel], by rw [ht]; exact hP, by rw [ht]; exact hPo, hS.F ht⟩) hS.2.2 d_Lw_place_20
set_option maxHeartbeats 4000000 in
set_option maxRecDepth 100000 in
theorem w_stored (l : Launch) (htl : l.stackTraces = false) (D : va_G) (ca : Nat → ClassId) (co : ClassId) (ad : Nat → Nat) (o : Nat) (st : pu_St) (f : Nat → Int64) (sz : Nat) (x1 x2 : Int32) (r : Int32 ⊕ Nat) (st' : pu_St) (h : f_H_stored st x1 x2 = some (r, st')) (hk : ∀ k, r = .inr k → k ∈ [1, 3]) : Met l y_Lw_stored (.codeWith y_Lw_stored b_Lw_stored 5 (some .int) [(0, 10, 13, 13), (0, 10, 17, 17)] :: tG) { frames := 8, cells := xc r, slots := xs r, locals := 139 } (va_Pc [.ref (ad 0), .int x1, .int x2, .ref o] (wPc D ca co ad o st f sz)) (wQ D ca co ad o (wk [1, 3] r) st' (wfI f r) sz) (xc r) (xs r) (wA ad o sz) := by
  refine wMet (by decide +kernel) ?_
  intro p e s m below meth c hx hb hml hr hlocks hown hts htab GX hP hPo
  obtain ⟨G, hKo, hne, hN⟩ := GX
  have hown : s.vm.findClass "MuseumHouseLaw" = some m.cls := hown
  have hS : va_S (wA ad o s.heap.size) s.heap s.heap [] := va_S.rf
  have hl := lv_entry ([.ref (ad 0), .int x1, .int x2, .ref o]) (n := 5) (Nat.le_of_ble_eq_true rfl)
  rw [lg_entry_eq]
  generalize (lg_sl ([.ref (ad 0), .int x1, .int x2, .ref o]) ++ List.replicate (5 - (lg_sl ([.ref (ad 0), .int x1, .int x2, .ref o])).length) Slot.unset).toArray = ls at hl ⊢
  have hl : lv_has ls 5 [(0, .ref (ad 0)), (1, .int x1), (2, .int x2), (3, .ref o)] := hl
  refine lv_aload_n hx hb d_Lw_stored_0 rfl (lv_at hl 3 rfl) ?_
  refine lv_iconst (v := 0) hx hb d_Lw_stored_1 (by decide) ?_
  refine lv_aload_n hx hb d_Lw_stored_2 rfl (lv_at hl 0 rfl) ?_
  refine lv_iload_n hx hb d_Lw_stored_3 rfl (lv_at hl 1 rfl) ?_
  refine lv_iload_n hx hb d_Lw_stored_4 rfl (lv_at hl 2 rfl) ?_
  cases r with
  | inl v =>
    refine wCallI G hS (va_runV (As := [.int x1, .int x2]) (rest := [.int 0, .ref o]) ⟨hx, hb, hml, hown, hts⟩ (MetX.met (c_H_stored l htl D ca ad st _ x1 x2 _ _ h) (fun _ _ _ _ q => ⟨_, q.1⟩)) (xCW (C := "MuseumHouse") 2 hts wd_3_231 wd_1_1 wd_3_228 wd_3_229 wd_3_230 (by decide +kernel) ⟨Nat.le_of_ble_eq_true rfl, Nat.le_of_ble_eq_true rfl⟩) (G.preV hP hS 0 rfl rfl) rfl rfl hl.1 rfl (lv_room (Nat.le_of_ble_eq_true rfl)) d_Lw_stored_5 ⟨Nat.zero_le _, Nat.zero_le _⟩) (fun H locs hP hS hfr => ?_)
    have hPo := w_keep hne hPo hfr
    have hPc := va_P.app hP hPo
    have hDc := w_D (ca := ca) (co := co) (st := st') (f := f) (sz := s.heap.size) G.2.1 hne
    refine lv_i2l hx hb d_Lw_stored_8 rfl ?_
    refine va_last hx hb hKo hPc hDc hS 34 0 rfl rfl w_in0 d_Lw_stored_9 (fun H locs hPc _ hS => ?_)
    have hPc : va_P D hcl (hW ca ad st' ++ wO co o (vp_updL f (0 : Int32).toNatClampNeg v.toInt64)) H := hPc
    refine lv_goto (tgt := 21) hx hb d_Lw_stored_10 (by decide) ?_
    refine lv_iconst (v := 0) hx hb d_Lw_stored_21 (by decide) ?_
    exact W.iret (v := 0) hx hb hr (fun t ht _ => ⟨rfl, by rw [ht]; exact hPc.left, by rw [ht]; exact hPc.right, hS.F ht⟩) hS.2.2 d_Lw_stored_22
  | inr k =>
    have hk1 := hk k rfl
    simp only [List.mem_cons, List.not_mem_nil, or_false] at hk1
    rcases hk1 with rfl | rfl
    · refine wThrV G hS hown hts ⟨hx, hb, hml, hown, hts⟩ (As := [.int x1, .int x2]) (rest := [.int 0, .ref o]) (c_H_stored l htl D ca ad st _ x1 x2 _ _ h) (xCW (C := "MuseumHouse") 2 hts wd_3_231 wd_1_1 wd_3_228 wd_3_229 wd_3_230 (by decide +kernel) ⟨Nat.le_of_ble_eq_true rfl, Nat.le_of_ble_eq_true rfl⟩) (G.preV hP hS 0 rfl rfl) rfl rfl hl.1 rfl (lv_room (Nat.le_of_ble_eq_true rfl)) d_Lw_stored_5 ⟨Nat.le_of_ble_eq_true rfl, Nat.le_of_ble_eq_true rfl⟩ [] ⟨0, 10, 13, 13⟩ [⟨0, 10, 17, 17⟩] htab (fun y hy => by cases hy) (by decide) (by decide) wd_2_16 hN.2.2.2.1 (fun x H locs hP hS hfr => ?_)
      have hPo := w_keep hne hPo hfr
      refine lv_astore (lv' := [(4, .ref x), (0, .ref (ad 0)), (1, .int x1), (2, .int x2), (3, .ref o)]) hx hb d_Lw_stored_13 hl (by decide) rfl (fun ls hl => ?_)
      refine lv_iconst (v := 1) hx hb d_Lw_stored_15 (by decide) ?_
      exact W.iret (v := 1) hx hb hr (fun t ht _ => ⟨by rw [show wk [1, 3] (.inr 1) = 1 from by decide +kernel], by rw [ht]; exact hP, by rw [ht]; exact hPo, hS.F ht⟩) hS.2.2 d_Lw_stored_16
    · refine wThrV G hS hown hts ⟨hx, hb, hml, hown, hts⟩ (As := [.int x1, .int x2]) (rest := [.int 0, .ref o]) (c_H_stored l htl D ca ad st _ x1 x2 _ _ h) (xCW (C := "MuseumHouse") 2 hts wd_3_231 wd_1_1 wd_3_228 wd_3_229 wd_3_230 (by decide +kernel) ⟨Nat.le_of_ble_eq_true rfl, Nat.le_of_ble_eq_true rfl⟩) (G.preV hP hS 0 rfl rfl) rfl rfl hl.1 rfl (lv_room (Nat.le_of_ble_eq_true rfl)) d_Lw_stored_5 ⟨Nat.le_of_ble_eq_true rfl, Nat.le_of_ble_eq_true rfl⟩ [⟨0, 10, 13, 13⟩] ⟨0, 10, 17, 17⟩ [] htab (by
        intro y hy
        simp only [List.mem_cons, List.not_mem_nil, or_false] at hy
        rcases hy with rfl
        · exact ⟨by decide, by decide, _, wd_2_16, hN.2.1⟩) (by decide) (by decide) wd_2_18 hN.2.2.2.2.2 (fun x H locs hP hS hfr => ?_)
      have hPo := w_keep hne hPo hfr
      refine lv_astore (lv' := [(4, .ref x), (0, .ref (ad 0)), (1, .int x1), (2, .int x2), (3, .ref o)]) hx hb d_Lw_stored_17 hl (by decide) rfl (fun ls hl => ?_)
      refine lv_iconst (v := 2) hx hb d_Lw_stored_19 (by decide) ?_
      exact W.iret (v := 2) hx hb hr (fun t ht _ => ⟨by rw [show wk [1, 3] (.inr 3) = 2 from by decide +kernel], by rw [ht]; exact hP, by rw [ht]; exact hPo, hS.F ht⟩) hS.2.2 d_Lw_stored_20
set_option maxHeartbeats 4000000 in
set_option maxRecDepth 100000 in
theorem w_loan (l : Launch) (htl : l.stackTraces = false) (D : va_G) (ca : Nat → ClassId) (co : ClassId) (ad : Nat → Nat) (o : Nat) (st : pu_St) (f : Nat → Int64) (sz : Nat) (x1 x2 x3 x4 : Int32) (r : Int32 ⊕ Nat) (st' : pu_St) (h : f_H_loan st x1 x2 x3 x4 = some (r, st')) (hk : ∀ k, r = .inr k → k ∈ [1, 2, 3]) : Met l y_Lw_loan (.codeWith y_Lw_loan b_Lw_loan 7 (some .int) [(0, 14, 17, 13), (0, 14, 21, 15), (0, 14, 25, 17)] :: tG) { frames := 9, cells := xc r, slots := xs r, locals := 161 } (va_Pc [.ref (ad 0), .int x1, .int x2, .int x3, .int x4, .ref o] (wPc D ca co ad o st f sz)) (wQ D ca co ad o (wk [1, 2, 3] r) st' (wfI f r) sz) (xc r) (xs r) (wA ad o sz) := by
  refine wMet (by decide +kernel) ?_
  intro p e s m below meth c hx hb hml hr hlocks hown hts htab GX hP hPo
  obtain ⟨G, hKo, hne, hN⟩ := GX
  have hown : s.vm.findClass "MuseumHouseLaw" = some m.cls := hown
  have hS : va_S (wA ad o s.heap.size) s.heap s.heap [] := va_S.rf
  have hl := lv_entry ([.ref (ad 0), .int x1, .int x2, .int x3, .int x4, .ref o]) (n := 7) (Nat.le_of_ble_eq_true rfl)
  rw [lg_entry_eq]
  generalize (lg_sl ([.ref (ad 0), .int x1, .int x2, .int x3, .int x4, .ref o]) ++ List.replicate (7 - (lg_sl ([.ref (ad 0), .int x1, .int x2, .int x3, .int x4, .ref o])).length) Slot.unset).toArray = ls at hl ⊢
  have hl : lv_has ls 7 [(0, .ref (ad 0)), (1, .int x1), (2, .int x2), (3, .int x3), (4, .int x4), (5, .ref o)] := hl
  refine lv_aload hx hb d_Lw_loan_0 (lv_at hl 5 rfl) ?_
  refine lv_iconst (v := 0) hx hb d_Lw_loan_2 (by decide) ?_
  refine lv_aload_n hx hb d_Lw_loan_3 rfl (lv_at hl 0 rfl) ?_
  refine lv_iload_n hx hb d_Lw_loan_4 rfl (lv_at hl 1 rfl) ?_
  refine lv_iload_n hx hb d_Lw_loan_5 rfl (lv_at hl 2 rfl) ?_
  refine lv_iload_n hx hb d_Lw_loan_6 rfl (lv_at hl 3 rfl) ?_
  refine lv_iload hx hb d_Lw_loan_7 (lv_at hl 4 rfl) ?_
  cases r with
  | inl v =>
    refine wCallI G hS (va_runV (As := [.int x1, .int x2, .int x3, .int x4]) (rest := [.int 0, .ref o]) ⟨hx, hb, hml, hown, hts⟩ (MetX.met (c_H_loan l htl D ca ad st _ x1 x2 x3 x4 _ _ h) (fun _ _ _ _ q => ⟨_, q.1⟩)) (xCW (C := "MuseumHouse") 4 hts wd_3_239 wd_1_1 wd_3_236 wd_3_237 wd_3_238 (by decide +kernel) ⟨Nat.le_of_ble_eq_true rfl, Nat.le_of_ble_eq_true rfl⟩) (G.preV hP hS 0 rfl rfl) rfl rfl hl.1 rfl (lv_room (Nat.le_of_ble_eq_true rfl)) d_Lw_loan_9 ⟨Nat.zero_le _, Nat.zero_le _⟩) (fun H locs hP hS hfr => ?_)
    have hPo := w_keep hne hPo hfr
    have hPc := va_P.app hP hPo
    have hDc := w_D (ca := ca) (co := co) (st := st') (f := f) (sz := s.heap.size) G.2.1 hne
    refine lv_i2l hx hb d_Lw_loan_12 rfl ?_
    refine va_last hx hb hKo hPc hDc hS 34 0 rfl rfl w_in0 d_Lw_loan_13 (fun H locs hPc _ hS => ?_)
    have hPc : va_P D hcl (hW ca ad st' ++ wO co o (vp_updL f (0 : Int32).toNatClampNeg v.toInt64)) H := hPc
    refine lv_goto (tgt := 29) hx hb d_Lw_loan_14 (by decide) ?_
    refine lv_iconst (v := 0) hx hb d_Lw_loan_29 (by decide) ?_
    exact W.iret (v := 0) hx hb hr (fun t ht _ => ⟨rfl, by rw [ht]; exact hPc.left, by rw [ht]; exact hPc.right, hS.F ht⟩) hS.2.2 d_Lw_loan_30
  | inr k =>
    have hk1 := hk k rfl
    simp only [List.mem_cons, List.not_mem_nil, or_false] at hk1
    rcases hk1 with rfl | rfl | rfl
    · refine wThrV G hS hown hts ⟨hx, hb, hml, hown, hts⟩ (As := [.int x1, .int x2, .int x3, .int x4]) (rest := [.int 0, .ref o]) (c_H_loan l htl D ca ad st _ x1 x2 x3 x4 _ _ h) (xCW (C := "MuseumHouse") 4 hts wd_3_239 wd_1_1 wd_3_236 wd_3_237 wd_3_238 (by decide +kernel) ⟨Nat.le_of_ble_eq_true rfl, Nat.le_of_ble_eq_true rfl⟩) (G.preV hP hS 0 rfl rfl) rfl rfl hl.1 rfl (lv_room (Nat.le_of_ble_eq_true rfl)) d_Lw_loan_9 ⟨Nat.le_of_ble_eq_true rfl, Nat.le_of_ble_eq_true rfl⟩ [] ⟨0, 14, 17, 13⟩ [⟨0, 14, 21, 15⟩, ⟨0, 14, 25, 17⟩] htab (fun y hy => by cases hy) (by decide) (by decide) wd_2_16 hN.2.2.2.1 (fun x H locs hP hS hfr => ?_)
      have hPo := w_keep hne hPo hfr
      refine lv_astore (lv' := [(6, .ref x), (0, .ref (ad 0)), (1, .int x1), (2, .int x2), (3, .int x3), (4, .int x4), (5, .ref o)]) hx hb d_Lw_loan_17 hl (by decide) rfl (fun ls hl => ?_)
      refine lv_iconst (v := 1) hx hb d_Lw_loan_19 (by decide) ?_
      exact W.iret (v := 1) hx hb hr (fun t ht _ => ⟨by rw [show wk [1, 2, 3] (.inr 1) = 1 from by decide +kernel], by rw [ht]; exact hP, by rw [ht]; exact hPo, hS.F ht⟩) hS.2.2 d_Lw_loan_20
    · refine wThrV G hS hown hts ⟨hx, hb, hml, hown, hts⟩ (As := [.int x1, .int x2, .int x3, .int x4]) (rest := [.int 0, .ref o]) (c_H_loan l htl D ca ad st _ x1 x2 x3 x4 _ _ h) (xCW (C := "MuseumHouse") 4 hts wd_3_239 wd_1_1 wd_3_236 wd_3_237 wd_3_238 (by decide +kernel) ⟨Nat.le_of_ble_eq_true rfl, Nat.le_of_ble_eq_true rfl⟩) (G.preV hP hS 0 rfl rfl) rfl rfl hl.1 rfl (lv_room (Nat.le_of_ble_eq_true rfl)) d_Lw_loan_9 ⟨Nat.le_of_ble_eq_true rfl, Nat.le_of_ble_eq_true rfl⟩ [⟨0, 14, 17, 13⟩] ⟨0, 14, 21, 15⟩ [⟨0, 14, 25, 17⟩] htab (by
        intro y hy
        simp only [List.mem_cons, List.not_mem_nil, or_false] at hy
        rcases hy with rfl
        · exact ⟨by decide, by decide, _, wd_2_16, hN.1⟩) (by decide) (by decide) wd_2_17 hN.2.2.2.2.1 (fun x H locs hP hS hfr => ?_)
      have hPo := w_keep hne hPo hfr
      refine lv_astore (lv' := [(6, .ref x), (0, .ref (ad 0)), (1, .int x1), (2, .int x2), (3, .int x3), (4, .int x4), (5, .ref o)]) hx hb d_Lw_loan_21 hl (by decide) rfl (fun ls hl => ?_)
      refine lv_iconst (v := 2) hx hb d_Lw_loan_23 (by decide) ?_
      exact W.iret (v := 2) hx hb hr (fun t ht _ => ⟨by rw [show wk [1, 2, 3] (.inr 2) = 2 from by decide +kernel], by rw [ht]; exact hP, by rw [ht]; exact hPo, hS.F ht⟩) hS.2.2 d_Lw_loan_24
    · refine wThrV G hS hown hts ⟨hx, hb, hml, hown, hts⟩ (As := [.int x1, .int x2, .int x3, .int x4]) (rest := [.int 0, .ref o]) (c_H_loan l htl D ca ad st _ x1 x2 x3 x4 _ _ h) (xCW (C := "MuseumHouse") 4 hts wd_3_239 wd_1_1 wd_3_236 wd_3_237 wd_3_238 (by decide +kernel) ⟨Nat.le_of_ble_eq_true rfl, Nat.le_of_ble_eq_true rfl⟩) (G.preV hP hS 0 rfl rfl) rfl rfl hl.1 rfl (lv_room (Nat.le_of_ble_eq_true rfl)) d_Lw_loan_9 ⟨Nat.le_of_ble_eq_true rfl, Nat.le_of_ble_eq_true rfl⟩ [⟨0, 14, 17, 13⟩, ⟨0, 14, 21, 15⟩] ⟨0, 14, 25, 17⟩ [] htab (by
        intro y hy
        simp only [List.mem_cons, List.not_mem_nil, or_false] at hy
        rcases hy with rfl | rfl
        · exact ⟨by decide, by decide, _, wd_2_16, hN.2.1⟩
        · exact ⟨by decide, by decide, _, wd_2_17, hN.2.2.1⟩) (by decide) (by decide) wd_2_18 hN.2.2.2.2.2 (fun x H locs hP hS hfr => ?_)
      have hPo := w_keep hne hPo hfr
      refine lv_astore (lv' := [(6, .ref x), (0, .ref (ad 0)), (1, .int x1), (2, .int x2), (3, .int x3), (4, .int x4), (5, .ref o)]) hx hb d_Lw_loan_25 hl (by decide) rfl (fun ls hl => ?_)
      refine lv_iconst (v := 3) hx hb d_Lw_loan_27 (by decide) ?_
      exact W.iret (v := 3) hx hb hr (fun t ht _ => ⟨by rw [show wk [1, 2, 3] (.inr 3) = 3 from by decide +kernel], by rw [ht]; exact hP, by rw [ht]; exact hPo, hS.F ht⟩) hS.2.2 d_Lw_loan_28
set_option maxHeartbeats 4000000 in
set_option maxRecDepth 100000 in
theorem w_back (l : Launch) (htl : l.stackTraces = false) (D : va_G) (ca : Nat → ClassId) (co : ClassId) (ad : Nat → Nat) (o : Nat) (st : pu_St) (f : Nat → Int64) (sz : Nat) (x1 x2 x3 : Int32) (r : Int32 ⊕ Nat) (st' : pu_St) (h : f_H_back st x1 x2 x3 = some (r, st')) (hk : ∀ k, r = .inr k → k ∈ [1, 2, 3]) : Met l y_Lw_back (.codeWith y_Lw_back b_Lw_back 6 (some .int) [(0, 12, 15, 13), (0, 12, 19, 15), (0, 12, 23, 17)] :: tG) { frames := 8, cells := xc r, slots := xs r, locals := 139 } (va_Pc [.ref (ad 0), .int x1, .int x2, .int x3, .ref o] (wPc D ca co ad o st f sz)) (wQ D ca co ad o (wk [1, 2, 3] r) st' (wfI f r) sz) (xc r) (xs r) (wA ad o sz) := by
  refine wMet (by decide +kernel) ?_
  intro p e s m below meth c hx hb hml hr hlocks hown hts htab GX hP hPo
  obtain ⟨G, hKo, hne, hN⟩ := GX
  have hown : s.vm.findClass "MuseumHouseLaw" = some m.cls := hown
  have hS : va_S (wA ad o s.heap.size) s.heap s.heap [] := va_S.rf
  have hl := lv_entry ([.ref (ad 0), .int x1, .int x2, .int x3, .ref o]) (n := 6) (Nat.le_of_ble_eq_true rfl)
  rw [lg_entry_eq]
  generalize (lg_sl ([.ref (ad 0), .int x1, .int x2, .int x3, .ref o]) ++ List.replicate (6 - (lg_sl ([.ref (ad 0), .int x1, .int x2, .int x3, .ref o])).length) Slot.unset).toArray = ls at hl ⊢
  have hl : lv_has ls 6 [(0, .ref (ad 0)), (1, .int x1), (2, .int x2), (3, .int x3), (4, .ref o)] := hl
  refine lv_aload hx hb d_Lw_back_0 (lv_at hl 4 rfl) ?_
  refine lv_iconst (v := 0) hx hb d_Lw_back_2 (by decide) ?_
  refine lv_aload_n hx hb d_Lw_back_3 rfl (lv_at hl 0 rfl) ?_
  refine lv_iload_n hx hb d_Lw_back_4 rfl (lv_at hl 1 rfl) ?_
  refine lv_iload_n hx hb d_Lw_back_5 rfl (lv_at hl 2 rfl) ?_
  refine lv_iload_n hx hb d_Lw_back_6 rfl (lv_at hl 3 rfl) ?_
  cases r with
  | inl v =>
    refine wCallI G hS (va_runV (As := [.int x1, .int x2, .int x3]) (rest := [.int 0, .ref o]) ⟨hx, hb, hml, hown, hts⟩ (MetX.met (c_H_back l htl D ca ad st _ x1 x2 x3 _ _ h) (fun _ _ _ _ q => ⟨_, q.1⟩)) (xCW (C := "MuseumHouse") 3 hts wd_4_42 wd_1_1 wd_4_39 wd_4_40 wd_4_41 (by decide +kernel) ⟨Nat.le_of_ble_eq_true rfl, Nat.le_of_ble_eq_true rfl⟩) (G.preV hP hS 0 rfl rfl) rfl rfl hl.1 rfl (lv_room (Nat.le_of_ble_eq_true rfl)) d_Lw_back_7 ⟨Nat.zero_le _, Nat.zero_le _⟩) (fun H locs hP hS hfr => ?_)
    have hPo := w_keep hne hPo hfr
    have hPc := va_P.app hP hPo
    have hDc := w_D (ca := ca) (co := co) (st := st') (f := f) (sz := s.heap.size) G.2.1 hne
    refine lv_i2l hx hb d_Lw_back_10 rfl ?_
    refine va_last hx hb hKo hPc hDc hS 34 0 rfl rfl w_in0 d_Lw_back_11 (fun H locs hPc _ hS => ?_)
    have hPc : va_P D hcl (hW ca ad st' ++ wO co o (vp_updL f (0 : Int32).toNatClampNeg v.toInt64)) H := hPc
    refine lv_goto (tgt := 27) hx hb d_Lw_back_12 (by decide) ?_
    refine lv_iconst (v := 0) hx hb d_Lw_back_27 (by decide) ?_
    exact W.iret (v := 0) hx hb hr (fun t ht _ => ⟨rfl, by rw [ht]; exact hPc.left, by rw [ht]; exact hPc.right, hS.F ht⟩) hS.2.2 d_Lw_back_28
  | inr k =>
    have hk1 := hk k rfl
    simp only [List.mem_cons, List.not_mem_nil, or_false] at hk1
    rcases hk1 with rfl | rfl | rfl
    · refine wThrV G hS hown hts ⟨hx, hb, hml, hown, hts⟩ (As := [.int x1, .int x2, .int x3]) (rest := [.int 0, .ref o]) (c_H_back l htl D ca ad st _ x1 x2 x3 _ _ h) (xCW (C := "MuseumHouse") 3 hts wd_4_42 wd_1_1 wd_4_39 wd_4_40 wd_4_41 (by decide +kernel) ⟨Nat.le_of_ble_eq_true rfl, Nat.le_of_ble_eq_true rfl⟩) (G.preV hP hS 0 rfl rfl) rfl rfl hl.1 rfl (lv_room (Nat.le_of_ble_eq_true rfl)) d_Lw_back_7 ⟨Nat.le_of_ble_eq_true rfl, Nat.le_of_ble_eq_true rfl⟩ [] ⟨0, 12, 15, 13⟩ [⟨0, 12, 19, 15⟩, ⟨0, 12, 23, 17⟩] htab (fun y hy => by cases hy) (by decide) (by decide) wd_2_16 hN.2.2.2.1 (fun x H locs hP hS hfr => ?_)
      have hPo := w_keep hne hPo hfr
      refine lv_astore (lv' := [(5, .ref x), (0, .ref (ad 0)), (1, .int x1), (2, .int x2), (3, .int x3), (4, .ref o)]) hx hb d_Lw_back_15 hl (by decide) rfl (fun ls hl => ?_)
      refine lv_iconst (v := 1) hx hb d_Lw_back_17 (by decide) ?_
      exact W.iret (v := 1) hx hb hr (fun t ht _ => ⟨by rw [show wk [1, 2, 3] (.inr 1) = 1 from by decide +kernel], by rw [ht]; exact hP, by rw [ht]; exact hPo, hS.F ht⟩) hS.2.2 d_Lw_back_18
    · refine wThrV G hS hown hts ⟨hx, hb, hml, hown, hts⟩ (As := [.int x1, .int x2, .int x3]) (rest := [.int 0, .ref o]) (c_H_back l htl D ca ad st _ x1 x2 x3 _ _ h) (xCW (C := "MuseumHouse") 3 hts wd_4_42 wd_1_1 wd_4_39 wd_4_40 wd_4_41 (by decide +kernel) ⟨Nat.le_of_ble_eq_true rfl, Nat.le_of_ble_eq_true rfl⟩) (G.preV hP hS 0 rfl rfl) rfl rfl hl.1 rfl (lv_room (Nat.le_of_ble_eq_true rfl)) d_Lw_back_7 ⟨Nat.le_of_ble_eq_true rfl, Nat.le_of_ble_eq_true rfl⟩ [⟨0, 12, 15, 13⟩] ⟨0, 12, 19, 15⟩ [⟨0, 12, 23, 17⟩] htab (by
        intro y hy
        simp only [List.mem_cons, List.not_mem_nil, or_false] at hy
        rcases hy with rfl
        · exact ⟨by decide, by decide, _, wd_2_16, hN.1⟩) (by decide) (by decide) wd_2_17 hN.2.2.2.2.1 (fun x H locs hP hS hfr => ?_)
      have hPo := w_keep hne hPo hfr
      refine lv_astore (lv' := [(5, .ref x), (0, .ref (ad 0)), (1, .int x1), (2, .int x2), (3, .int x3), (4, .ref o)]) hx hb d_Lw_back_19 hl (by decide) rfl (fun ls hl => ?_)
      refine lv_iconst (v := 2) hx hb d_Lw_back_21 (by decide) ?_
      exact W.iret (v := 2) hx hb hr (fun t ht _ => ⟨by rw [show wk [1, 2, 3] (.inr 2) = 2 from by decide +kernel], by rw [ht]; exact hP, by rw [ht]; exact hPo, hS.F ht⟩) hS.2.2 d_Lw_back_22
    · refine wThrV G hS hown hts ⟨hx, hb, hml, hown, hts⟩ (As := [.int x1, .int x2, .int x3]) (rest := [.int 0, .ref o]) (c_H_back l htl D ca ad st _ x1 x2 x3 _ _ h) (xCW (C := "MuseumHouse") 3 hts wd_4_42 wd_1_1 wd_4_39 wd_4_40 wd_4_41 (by decide +kernel) ⟨Nat.le_of_ble_eq_true rfl, Nat.le_of_ble_eq_true rfl⟩) (G.preV hP hS 0 rfl rfl) rfl rfl hl.1 rfl (lv_room (Nat.le_of_ble_eq_true rfl)) d_Lw_back_7 ⟨Nat.le_of_ble_eq_true rfl, Nat.le_of_ble_eq_true rfl⟩ [⟨0, 12, 15, 13⟩, ⟨0, 12, 19, 15⟩] ⟨0, 12, 23, 17⟩ [] htab (by
        intro y hy
        simp only [List.mem_cons, List.not_mem_nil, or_false] at hy
        rcases hy with rfl | rfl
        · exact ⟨by decide, by decide, _, wd_2_16, hN.2.1⟩
        · exact ⟨by decide, by decide, _, wd_2_17, hN.2.2.1⟩) (by decide) (by decide) wd_2_18 hN.2.2.2.2.2 (fun x H locs hP hS hfr => ?_)
      have hPo := w_keep hne hPo hfr
      refine lv_astore (lv' := [(5, .ref x), (0, .ref (ad 0)), (1, .int x1), (2, .int x2), (3, .int x3), (4, .ref o)]) hx hb d_Lw_back_23 hl (by decide) rfl (fun ls hl => ?_)
      refine lv_iconst (v := 3) hx hb d_Lw_back_25 (by decide) ?_
      exact W.iret (v := 3) hx hb hr (fun t ht _ => ⟨by rw [show wk [1, 2, 3] (.inr 3) = 3 from by decide +kernel], by rw [ht]; exact hP, by rw [ht]; exact hPo, hS.F ht⟩) hS.2.2 d_Lw_back_26
set_option maxHeartbeats 4000000 in
set_option maxRecDepth 100000 in
theorem w_show (l : Launch) (htl : l.stackTraces = false) (D : va_G) (ca : Nat → ClassId) (co : ClassId) (ad : Nat → Nat) (o : Nat) (st : pu_St) (f : Nat → Int64) (sz : Nat) (x1 x2 x3 x4 : Int32) (r : Int32 ⊕ Nat) (st' : pu_St) (h : f_H_show st x1 x2 x3 x4 = some (r, st')) (hk : ∀ k, r = .inr k → k ∈ [1, 2, 3]) : Met l y_Lw_show (.codeWith y_Lw_show b_Lw_show 7 (some .int) [(0, 14, 17, 13), (0, 14, 21, 15), (0, 14, 25, 17)] :: tG) { frames := 8, cells := xc r, slots := xs r, locals := 139 } (va_Pc [.ref (ad 0), .int x1, .int x2, .int x3, .int x4, .ref o] (wPc D ca co ad o st f sz)) (wQ D ca co ad o (wk [1, 2, 3] r) st' (wfI f r) sz) (xc r) (xs r) (wA ad o sz) := by
  refine wMet (by decide +kernel) ?_
  intro p e s m below meth c hx hb hml hr hlocks hown hts htab GX hP hPo
  obtain ⟨G, hKo, hne, hN⟩ := GX
  have hown : s.vm.findClass "MuseumHouseLaw" = some m.cls := hown
  have hS : va_S (wA ad o s.heap.size) s.heap s.heap [] := va_S.rf
  have hl := lv_entry ([.ref (ad 0), .int x1, .int x2, .int x3, .int x4, .ref o]) (n := 7) (Nat.le_of_ble_eq_true rfl)
  rw [lg_entry_eq]
  generalize (lg_sl ([.ref (ad 0), .int x1, .int x2, .int x3, .int x4, .ref o]) ++ List.replicate (7 - (lg_sl ([.ref (ad 0), .int x1, .int x2, .int x3, .int x4, .ref o])).length) Slot.unset).toArray = ls at hl ⊢
  have hl : lv_has ls 7 [(0, .ref (ad 0)), (1, .int x1), (2, .int x2), (3, .int x3), (4, .int x4), (5, .ref o)] := hl
  refine lv_aload hx hb d_Lw_show_0 (lv_at hl 5 rfl) ?_
  refine lv_iconst (v := 0) hx hb d_Lw_show_2 (by decide) ?_
  refine lv_aload_n hx hb d_Lw_show_3 rfl (lv_at hl 0 rfl) ?_
  refine lv_iload_n hx hb d_Lw_show_4 rfl (lv_at hl 1 rfl) ?_
  refine lv_iload_n hx hb d_Lw_show_5 rfl (lv_at hl 2 rfl) ?_
  refine lv_iload_n hx hb d_Lw_show_6 rfl (lv_at hl 3 rfl) ?_
  refine lv_iload hx hb d_Lw_show_7 (lv_at hl 4 rfl) ?_
  cases r with
  | inl v =>
    refine wCallI G hS (va_runV (As := [.int x1, .int x2, .int x3, .int x4]) (rest := [.int 0, .ref o]) ⟨hx, hb, hml, hown, hts⟩ (MetX.met (c_H_show l htl D ca ad st _ x1 x2 x3 x4 _ _ h) (fun _ _ _ _ q => ⟨_, q.1⟩)) (xCW (C := "MuseumHouse") 4 hts wd_4_61 wd_1_1 wd_4_58 wd_4_59 wd_4_60 (by decide +kernel) ⟨Nat.le_of_ble_eq_true rfl, Nat.le_of_ble_eq_true rfl⟩) (G.preV hP hS 0 rfl rfl) rfl rfl hl.1 rfl (lv_room (Nat.le_of_ble_eq_true rfl)) d_Lw_show_9 ⟨Nat.zero_le _, Nat.zero_le _⟩) (fun H locs hP hS hfr => ?_)
    have hPo := w_keep hne hPo hfr
    have hPc := va_P.app hP hPo
    have hDc := w_D (ca := ca) (co := co) (st := st') (f := f) (sz := s.heap.size) G.2.1 hne
    refine lv_i2l hx hb d_Lw_show_12 rfl ?_
    refine va_last hx hb hKo hPc hDc hS 34 0 rfl rfl w_in0 d_Lw_show_13 (fun H locs hPc _ hS => ?_)
    have hPc : va_P D hcl (hW ca ad st' ++ wO co o (vp_updL f (0 : Int32).toNatClampNeg v.toInt64)) H := hPc
    refine lv_goto (tgt := 29) hx hb d_Lw_show_14 (by decide) ?_
    refine lv_iconst (v := 0) hx hb d_Lw_show_29 (by decide) ?_
    exact W.iret (v := 0) hx hb hr (fun t ht _ => ⟨rfl, by rw [ht]; exact hPc.left, by rw [ht]; exact hPc.right, hS.F ht⟩) hS.2.2 d_Lw_show_30
  | inr k =>
    have hk1 := hk k rfl
    simp only [List.mem_cons, List.not_mem_nil, or_false] at hk1
    rcases hk1 with rfl | rfl | rfl
    · refine wThrV G hS hown hts ⟨hx, hb, hml, hown, hts⟩ (As := [.int x1, .int x2, .int x3, .int x4]) (rest := [.int 0, .ref o]) (c_H_show l htl D ca ad st _ x1 x2 x3 x4 _ _ h) (xCW (C := "MuseumHouse") 4 hts wd_4_61 wd_1_1 wd_4_58 wd_4_59 wd_4_60 (by decide +kernel) ⟨Nat.le_of_ble_eq_true rfl, Nat.le_of_ble_eq_true rfl⟩) (G.preV hP hS 0 rfl rfl) rfl rfl hl.1 rfl (lv_room (Nat.le_of_ble_eq_true rfl)) d_Lw_show_9 ⟨Nat.le_of_ble_eq_true rfl, Nat.le_of_ble_eq_true rfl⟩ [] ⟨0, 14, 17, 13⟩ [⟨0, 14, 21, 15⟩, ⟨0, 14, 25, 17⟩] htab (fun y hy => by cases hy) (by decide) (by decide) wd_2_16 hN.2.2.2.1 (fun x H locs hP hS hfr => ?_)
      have hPo := w_keep hne hPo hfr
      refine lv_astore (lv' := [(6, .ref x), (0, .ref (ad 0)), (1, .int x1), (2, .int x2), (3, .int x3), (4, .int x4), (5, .ref o)]) hx hb d_Lw_show_17 hl (by decide) rfl (fun ls hl => ?_)
      refine lv_iconst (v := 1) hx hb d_Lw_show_19 (by decide) ?_
      exact W.iret (v := 1) hx hb hr (fun t ht _ => ⟨by rw [show wk [1, 2, 3] (.inr 1) = 1 from by decide +kernel], by rw [ht]; exact hP, by rw [ht]; exact hPo, hS.F ht⟩) hS.2.2 d_Lw_show_20
    · refine wThrV G hS hown hts ⟨hx, hb, hml, hown, hts⟩ (As := [.int x1, .int x2, .int x3, .int x4]) (rest := [.int 0, .ref o]) (c_H_show l htl D ca ad st _ x1 x2 x3 x4 _ _ h) (xCW (C := "MuseumHouse") 4 hts wd_4_61 wd_1_1 wd_4_58 wd_4_59 wd_4_60 (by decide +kernel) ⟨Nat.le_of_ble_eq_true rfl, Nat.le_of_ble_eq_true rfl⟩) (G.preV hP hS 0 rfl rfl) rfl rfl hl.1 rfl (lv_room (Nat.le_of_ble_eq_true rfl)) d_Lw_show_9 ⟨Nat.le_of_ble_eq_true rfl, Nat.le_of_ble_eq_true rfl⟩ [⟨0, 14, 17, 13⟩] ⟨0, 14, 21, 15⟩ [⟨0, 14, 25, 17⟩] htab (by
        intro y hy
        simp only [List.mem_cons, List.not_mem_nil, or_false] at hy
        rcases hy with rfl
        · exact ⟨by decide, by decide, _, wd_2_16, hN.1⟩) (by decide) (by decide) wd_2_17 hN.2.2.2.2.1 (fun x H locs hP hS hfr => ?_)
      have hPo := w_keep hne hPo hfr
      refine lv_astore (lv' := [(6, .ref x), (0, .ref (ad 0)), (1, .int x1), (2, .int x2), (3, .int x3), (4, .int x4), (5, .ref o)]) hx hb d_Lw_show_21 hl (by decide) rfl (fun ls hl => ?_)
      refine lv_iconst (v := 2) hx hb d_Lw_show_23 (by decide) ?_
      exact W.iret (v := 2) hx hb hr (fun t ht _ => ⟨by rw [show wk [1, 2, 3] (.inr 2) = 2 from by decide +kernel], by rw [ht]; exact hP, by rw [ht]; exact hPo, hS.F ht⟩) hS.2.2 d_Lw_show_24
    · refine wThrV G hS hown hts ⟨hx, hb, hml, hown, hts⟩ (As := [.int x1, .int x2, .int x3, .int x4]) (rest := [.int 0, .ref o]) (c_H_show l htl D ca ad st _ x1 x2 x3 x4 _ _ h) (xCW (C := "MuseumHouse") 4 hts wd_4_61 wd_1_1 wd_4_58 wd_4_59 wd_4_60 (by decide +kernel) ⟨Nat.le_of_ble_eq_true rfl, Nat.le_of_ble_eq_true rfl⟩) (G.preV hP hS 0 rfl rfl) rfl rfl hl.1 rfl (lv_room (Nat.le_of_ble_eq_true rfl)) d_Lw_show_9 ⟨Nat.le_of_ble_eq_true rfl, Nat.le_of_ble_eq_true rfl⟩ [⟨0, 14, 17, 13⟩, ⟨0, 14, 21, 15⟩] ⟨0, 14, 25, 17⟩ [] htab (by
        intro y hy
        simp only [List.mem_cons, List.not_mem_nil, or_false] at hy
        rcases hy with rfl | rfl
        · exact ⟨by decide, by decide, _, wd_2_16, hN.2.1⟩
        · exact ⟨by decide, by decide, _, wd_2_17, hN.2.2.1⟩) (by decide) (by decide) wd_2_18 hN.2.2.2.2.2 (fun x H locs hP hS hfr => ?_)
      have hPo := w_keep hne hPo hfr
      refine lv_astore (lv' := [(6, .ref x), (0, .ref (ad 0)), (1, .int x1), (2, .int x2), (3, .int x3), (4, .int x4), (5, .ref o)]) hx hb d_Lw_show_25 hl (by decide) rfl (fun ls hl => ?_)
      refine lv_iconst (v := 3) hx hb d_Lw_show_27 (by decide) ?_
      exact W.iret (v := 3) hx hb hr (fun t ht _ => ⟨by rw [show wk [1, 2, 3] (.inr 3) = 3 from by decide +kernel], by rw [ht]; exact hP, by rw [ht]; exact hPo, hS.F ht⟩) hS.2.2 d_Lw_show_28
set_option maxHeartbeats 4000000 in
set_option maxRecDepth 100000 in
theorem w_hang (l : Launch) (htl : l.stackTraces = false) (D : va_G) (ca : Nat → ClassId) (co : ClassId) (ad : Nat → Nat) (o : Nat) (st : pu_St) (f : Nat → Int64) (sz : Nat) (x1 x2 x3 : Int32) (r : Int32 ⊕ Nat) (st' : pu_St) (h : f_H_hang st x1 x2 x3 = some (r, st')) (hk : ∀ k, r = .inr k → k ∈ [1, 2, 3]) : Met l y_Lw_hang (.codeWith y_Lw_hang b_Lw_hang 6 (some .int) [(0, 19, 22, 13), (0, 19, 26, 15), (0, 19, 30, 17)] :: tG) { frames := 9, cells := xc r, slots := xs r, locals := 161 } (va_Pc [.ref (ad 0), .int x1, .int x2, .int x3, .ref o] (wPc D ca co ad o st f sz)) (wQ D ca co ad o (wk [1, 2, 3] r) st' (wfZ f r) sz) (xc r) (xs r) (wA ad o sz) := by
  refine wMet (by decide +kernel) ?_
  intro p e s m below meth c hx hb hml hr hlocks hown hts htab GX hP hPo
  obtain ⟨G, hKo, hne, hN⟩ := GX
  have hown : s.vm.findClass "MuseumHouseLaw" = some m.cls := hown
  have hS : va_S (wA ad o s.heap.size) s.heap s.heap [] := va_S.rf
  have hl := lv_entry ([.ref (ad 0), .int x1, .int x2, .int x3, .ref o]) (n := 6) (Nat.le_of_ble_eq_true rfl)
  rw [lg_entry_eq]
  generalize (lg_sl ([.ref (ad 0), .int x1, .int x2, .int x3, .ref o]) ++ List.replicate (6 - (lg_sl ([.ref (ad 0), .int x1, .int x2, .int x3, .ref o])).length) Slot.unset).toArray = ls at hl ⊢
  have hl : lv_has ls 6 [(0, .ref (ad 0)), (1, .int x1), (2, .int x2), (3, .int x3), (4, .ref o)] := hl
  refine lv_aload hx hb d_Lw_hang_0 (lv_at hl 4 rfl) ?_
  refine lv_iconst (v := 0) hx hb d_Lw_hang_2 (by decide) ?_
  refine lv_aload_n hx hb d_Lw_hang_3 rfl (lv_at hl 0 rfl) ?_
  refine lv_iload_n hx hb d_Lw_hang_4 rfl (lv_at hl 1 rfl) ?_
  refine lv_iload_n hx hb d_Lw_hang_5 rfl (lv_at hl 2 rfl) ?_
  refine lv_iload_n hx hb d_Lw_hang_6 rfl (lv_at hl 3 rfl) ?_
  cases r with
  | inl v =>
    refine wCallI G hS (va_runV (As := [.int x1, .int x2, .int x3]) (rest := [.int 0, .ref o]) ⟨hx, hb, hml, hown, hts⟩ (MetX.met (c_H_hang l htl D ca ad st _ x1 x2 x3 _ _ h) (fun _ _ _ _ q => ⟨_, q.1⟩)) (xCW (C := "MuseumHouse") 3 hts wd_4_81 wd_1_1 wd_4_78 wd_4_79 wd_4_80 (by decide +kernel) ⟨Nat.le_of_ble_eq_true rfl, Nat.le_of_ble_eq_true rfl⟩) (G.preV hP hS 0 rfl rfl) rfl rfl hl.1 rfl (lv_room (Nat.le_of_ble_eq_true rfl)) d_Lw_hang_7 ⟨Nat.zero_le _, Nat.zero_le _⟩) (fun H locs hP hS hfr => ?_)
    have hPo := w_keep hne hPo hfr
    have hPc := va_P.app hP hPo
    have hDc := w_D (ca := ca) (co := co) (st := st') (f := f) (sz := s.heap.size) G.2.1 hne
    refine lv_if_eq (tgt := 17) hx hb d_Lw_hang_10 (by decide) (fun cz => ?_) (fun cz => ?_)
    · refine lv_lconst (v := 0) hx hb d_Lw_hang_17 (by decide) ?_
      refine va_last hx hb hKo hPc hDc hS 34 0 rfl rfl w_in0 d_Lw_hang_18 (fun H locs hPc _ hS => ?_)
      have hPc : va_P D hcl (hW ca ad st' ++ wO co o (vp_updL f (0 : Int32).toNatClampNeg 0)) H := hPc
      refine lv_goto (tgt := 34) hx hb d_Lw_hang_19 (by decide) ?_
      refine lv_iconst (v := 0) hx hb d_Lw_hang_34 (by decide) ?_
      exact W.iret (v := 0) hx hb hr (fun t ht _ => ⟨rfl, by rw [ht]; exact hPc.left, by rw [ht]; show va_P D hcl (wO co o (vp_updL f (0 : Int32).toNatClampNeg (if v = 0 then 0 else 1))) H; rw [if_pos cz]; exact hPc.right, hS.F ht⟩) hS.2.2 d_Lw_hang_35
    · refine lv_lconst (v := 1) hx hb d_Lw_hang_13 (by decide) ?_
      refine lv_goto (tgt := 18) hx hb d_Lw_hang_14 (by decide) ?_
      refine va_last hx hb hKo hPc hDc hS 34 0 rfl rfl w_in0 d_Lw_hang_18 (fun H locs hPc _ hS => ?_)
      have hPc : va_P D hcl (hW ca ad st' ++ wO co o (vp_updL f (0 : Int32).toNatClampNeg 1)) H := hPc
      refine lv_goto (tgt := 34) hx hb d_Lw_hang_19 (by decide) ?_
      refine lv_iconst (v := 0) hx hb d_Lw_hang_34 (by decide) ?_
      exact W.iret (v := 0) hx hb hr (fun t ht _ => ⟨rfl, by rw [ht]; exact hPc.left, by rw [ht]; show va_P D hcl (wO co o (vp_updL f (0 : Int32).toNatClampNeg (if v = 0 then 0 else 1))) H; rw [if_neg cz]; exact hPc.right, hS.F ht⟩) hS.2.2 d_Lw_hang_35
  | inr k =>
    have hk1 := hk k rfl
    simp only [List.mem_cons, List.not_mem_nil, or_false] at hk1
    rcases hk1 with rfl | rfl | rfl
    · refine wThrV G hS hown hts ⟨hx, hb, hml, hown, hts⟩ (As := [.int x1, .int x2, .int x3]) (rest := [.int 0, .ref o]) (c_H_hang l htl D ca ad st _ x1 x2 x3 _ _ h) (xCW (C := "MuseumHouse") 3 hts wd_4_81 wd_1_1 wd_4_78 wd_4_79 wd_4_80 (by decide +kernel) ⟨Nat.le_of_ble_eq_true rfl, Nat.le_of_ble_eq_true rfl⟩) (G.preV hP hS 0 rfl rfl) rfl rfl hl.1 rfl (lv_room (Nat.le_of_ble_eq_true rfl)) d_Lw_hang_7 ⟨Nat.le_of_ble_eq_true rfl, Nat.le_of_ble_eq_true rfl⟩ [] ⟨0, 19, 22, 13⟩ [⟨0, 19, 26, 15⟩, ⟨0, 19, 30, 17⟩] htab (fun y hy => by cases hy) (by decide) (by decide) wd_2_16 hN.2.2.2.1 (fun x H locs hP hS hfr => ?_)
      have hPo := w_keep hne hPo hfr
      refine lv_astore (lv' := [(5, .ref x), (0, .ref (ad 0)), (1, .int x1), (2, .int x2), (3, .int x3), (4, .ref o)]) hx hb d_Lw_hang_22 hl (by decide) rfl (fun ls hl => ?_)
      refine lv_iconst (v := 1) hx hb d_Lw_hang_24 (by decide) ?_
      exact W.iret (v := 1) hx hb hr (fun t ht _ => ⟨by rw [show wk [1, 2, 3] (.inr 1) = 1 from by decide +kernel], by rw [ht]; exact hP, by rw [ht]; exact hPo, hS.F ht⟩) hS.2.2 d_Lw_hang_25
    · refine wThrV G hS hown hts ⟨hx, hb, hml, hown, hts⟩ (As := [.int x1, .int x2, .int x3]) (rest := [.int 0, .ref o]) (c_H_hang l htl D ca ad st _ x1 x2 x3 _ _ h) (xCW (C := "MuseumHouse") 3 hts wd_4_81 wd_1_1 wd_4_78 wd_4_79 wd_4_80 (by decide +kernel) ⟨Nat.le_of_ble_eq_true rfl, Nat.le_of_ble_eq_true rfl⟩) (G.preV hP hS 0 rfl rfl) rfl rfl hl.1 rfl (lv_room (Nat.le_of_ble_eq_true rfl)) d_Lw_hang_7 ⟨Nat.le_of_ble_eq_true rfl, Nat.le_of_ble_eq_true rfl⟩ [⟨0, 19, 22, 13⟩] ⟨0, 19, 26, 15⟩ [⟨0, 19, 30, 17⟩] htab (by
        intro y hy
        simp only [List.mem_cons, List.not_mem_nil, or_false] at hy
        rcases hy with rfl
        · exact ⟨by decide, by decide, _, wd_2_16, hN.1⟩) (by decide) (by decide) wd_2_17 hN.2.2.2.2.1 (fun x H locs hP hS hfr => ?_)
      have hPo := w_keep hne hPo hfr
      refine lv_astore (lv' := [(5, .ref x), (0, .ref (ad 0)), (1, .int x1), (2, .int x2), (3, .int x3), (4, .ref o)]) hx hb d_Lw_hang_26 hl (by decide) rfl (fun ls hl => ?_)
      refine lv_iconst (v := 2) hx hb d_Lw_hang_28 (by decide) ?_
      exact W.iret (v := 2) hx hb hr (fun t ht _ => ⟨by rw [show wk [1, 2, 3] (.inr 2) = 2 from by decide +kernel], by rw [ht]; exact hP, by rw [ht]; exact hPo, hS.F ht⟩) hS.2.2 d_Lw_hang_29
    · refine wThrV G hS hown hts ⟨hx, hb, hml, hown, hts⟩ (As := [.int x1, .int x2, .int x3]) (rest := [.int 0, .ref o]) (c_H_hang l htl D ca ad st _ x1 x2 x3 _ _ h) (xCW (C := "MuseumHouse") 3 hts wd_4_81 wd_1_1 wd_4_78 wd_4_79 wd_4_80 (by decide +kernel) ⟨Nat.le_of_ble_eq_true rfl, Nat.le_of_ble_eq_true rfl⟩) (G.preV hP hS 0 rfl rfl) rfl rfl hl.1 rfl (lv_room (Nat.le_of_ble_eq_true rfl)) d_Lw_hang_7 ⟨Nat.le_of_ble_eq_true rfl, Nat.le_of_ble_eq_true rfl⟩ [⟨0, 19, 22, 13⟩, ⟨0, 19, 26, 15⟩] ⟨0, 19, 30, 17⟩ [] htab (by
        intro y hy
        simp only [List.mem_cons, List.not_mem_nil, or_false] at hy
        rcases hy with rfl | rfl
        · exact ⟨by decide, by decide, _, wd_2_16, hN.2.1⟩
        · exact ⟨by decide, by decide, _, wd_2_17, hN.2.2.1⟩) (by decide) (by decide) wd_2_18 hN.2.2.2.2.2 (fun x H locs hP hS hfr => ?_)
      have hPo := w_keep hne hPo hfr
      refine lv_astore (lv' := [(5, .ref x), (0, .ref (ad 0)), (1, .int x1), (2, .int x2), (3, .int x3), (4, .ref o)]) hx hb d_Lw_hang_30 hl (by decide) rfl (fun ls hl => ?_)
      refine lv_iconst (v := 3) hx hb d_Lw_hang_32 (by decide) ?_
      exact W.iret (v := 3) hx hb hr (fun t ht _ => ⟨by rw [show wk [1, 2, 3] (.inr 3) = 3 from by decide +kernel], by rw [ht]; exact hP, by rw [ht]; exact hPo, hS.F ht⟩) hS.2.2 d_Lw_hang_33
set_option maxHeartbeats 4000000 in
set_option maxRecDepth 100000 in
theorem w_take (l : Launch) (htl : l.stackTraces = false) (D : va_G) (ca : Nat → ClassId) (co : ClassId) (ad : Nat → Nat) (o : Nat) (st : pu_St) (f : Nat → Int64) (sz : Nat) (x1 x2 x3 : Int32) (r : Int32 ⊕ Nat) (st' : pu_St) (h : f_H_take st x1 x2 x3 = some (r, st')) (hk : ∀ k, r = .inr k → k ∈ [1, 2]) : Met l y_Lw_take (.codeWith y_Lw_take b_Lw_take 6 (some .int) [(0, 19, 22, 13), (0, 19, 26, 15)] :: tG) { frames := 8, cells := xc r, slots := xs r, locals := 140 } (va_Pc [.ref (ad 0), .int x1, .int x2, .int x3, .ref o] (wPc D ca co ad o st f sz)) (wQ D ca co ad o (wk [1, 2] r) st' (wfZ f r) sz) (xc r) (xs r) (wA ad o sz) := by
  refine wMet (by decide +kernel) ?_
  intro p e s m below meth c hx hb hml hr hlocks hown hts htab GX hP hPo
  obtain ⟨G, hKo, hne, hN⟩ := GX
  have hown : s.vm.findClass "MuseumHouseLaw" = some m.cls := hown
  have hS : va_S (wA ad o s.heap.size) s.heap s.heap [] := va_S.rf
  have hl := lv_entry ([.ref (ad 0), .int x1, .int x2, .int x3, .ref o]) (n := 6) (Nat.le_of_ble_eq_true rfl)
  rw [lg_entry_eq]
  generalize (lg_sl ([.ref (ad 0), .int x1, .int x2, .int x3, .ref o]) ++ List.replicate (6 - (lg_sl ([.ref (ad 0), .int x1, .int x2, .int x3, .ref o])).length) Slot.unset).toArray = ls at hl ⊢
  have hl : lv_has ls 6 [(0, .ref (ad 0)), (1, .int x1), (2, .int x2), (3, .int x3), (4, .ref o)] := hl
  refine lv_aload hx hb d_Lw_take_0 (lv_at hl 4 rfl) ?_
  refine lv_iconst (v := 0) hx hb d_Lw_take_2 (by decide) ?_
  refine lv_aload_n hx hb d_Lw_take_3 rfl (lv_at hl 0 rfl) ?_
  refine lv_iload_n hx hb d_Lw_take_4 rfl (lv_at hl 1 rfl) ?_
  refine lv_iload_n hx hb d_Lw_take_5 rfl (lv_at hl 2 rfl) ?_
  refine lv_iload_n hx hb d_Lw_take_6 rfl (lv_at hl 3 rfl) ?_
  cases r with
  | inl v =>
    refine wCallI G hS (va_runV (As := [.int x1, .int x2, .int x3]) (rest := [.int 0, .ref o]) ⟨hx, hb, hml, hown, hts⟩ (MetX.met (c_H_take l htl D ca ad st _ x1 x2 x3 _ _ h) (fun _ _ _ _ q => ⟨_, q.1⟩)) (xCW (C := "MuseumHouse") 3 hts wd_4_101 wd_1_1 wd_4_98 wd_4_99 wd_4_100 (by decide +kernel) ⟨Nat.le_of_ble_eq_true rfl, Nat.le_of_ble_eq_true rfl⟩) (G.preV hP hS 0 rfl rfl) rfl rfl hl.1 rfl (lv_room (Nat.le_of_ble_eq_true rfl)) d_Lw_take_7 ⟨Nat.zero_le _, Nat.zero_le _⟩) (fun H locs hP hS hfr => ?_)
    have hPo := w_keep hne hPo hfr
    have hPc := va_P.app hP hPo
    have hDc := w_D (ca := ca) (co := co) (st := st') (f := f) (sz := s.heap.size) G.2.1 hne
    refine lv_if_eq (tgt := 17) hx hb d_Lw_take_10 (by decide) (fun cz => ?_) (fun cz => ?_)
    · refine lv_lconst (v := 0) hx hb d_Lw_take_17 (by decide) ?_
      refine va_last hx hb hKo hPc hDc hS 34 0 rfl rfl w_in0 d_Lw_take_18 (fun H locs hPc _ hS => ?_)
      have hPc : va_P D hcl (hW ca ad st' ++ wO co o (vp_updL f (0 : Int32).toNatClampNeg 0)) H := hPc
      refine lv_goto (tgt := 30) hx hb d_Lw_take_19 (by decide) ?_
      refine lv_iconst (v := 0) hx hb d_Lw_take_30 (by decide) ?_
      exact W.iret (v := 0) hx hb hr (fun t ht _ => ⟨rfl, by rw [ht]; exact hPc.left, by rw [ht]; show va_P D hcl (wO co o (vp_updL f (0 : Int32).toNatClampNeg (if v = 0 then 0 else 1))) H; rw [if_pos cz]; exact hPc.right, hS.F ht⟩) hS.2.2 d_Lw_take_31
    · refine lv_lconst (v := 1) hx hb d_Lw_take_13 (by decide) ?_
      refine lv_goto (tgt := 18) hx hb d_Lw_take_14 (by decide) ?_
      refine va_last hx hb hKo hPc hDc hS 34 0 rfl rfl w_in0 d_Lw_take_18 (fun H locs hPc _ hS => ?_)
      have hPc : va_P D hcl (hW ca ad st' ++ wO co o (vp_updL f (0 : Int32).toNatClampNeg 1)) H := hPc
      refine lv_goto (tgt := 30) hx hb d_Lw_take_19 (by decide) ?_
      refine lv_iconst (v := 0) hx hb d_Lw_take_30 (by decide) ?_
      exact W.iret (v := 0) hx hb hr (fun t ht _ => ⟨rfl, by rw [ht]; exact hPc.left, by rw [ht]; show va_P D hcl (wO co o (vp_updL f (0 : Int32).toNatClampNeg (if v = 0 then 0 else 1))) H; rw [if_neg cz]; exact hPc.right, hS.F ht⟩) hS.2.2 d_Lw_take_31
  | inr k =>
    have hk1 := hk k rfl
    simp only [List.mem_cons, List.not_mem_nil, or_false] at hk1
    rcases hk1 with rfl | rfl
    · refine wThrV G hS hown hts ⟨hx, hb, hml, hown, hts⟩ (As := [.int x1, .int x2, .int x3]) (rest := [.int 0, .ref o]) (c_H_take l htl D ca ad st _ x1 x2 x3 _ _ h) (xCW (C := "MuseumHouse") 3 hts wd_4_101 wd_1_1 wd_4_98 wd_4_99 wd_4_100 (by decide +kernel) ⟨Nat.le_of_ble_eq_true rfl, Nat.le_of_ble_eq_true rfl⟩) (G.preV hP hS 0 rfl rfl) rfl rfl hl.1 rfl (lv_room (Nat.le_of_ble_eq_true rfl)) d_Lw_take_7 ⟨Nat.le_of_ble_eq_true rfl, Nat.le_of_ble_eq_true rfl⟩ [] ⟨0, 19, 22, 13⟩ [⟨0, 19, 26, 15⟩] htab (fun y hy => by cases hy) (by decide) (by decide) wd_2_16 hN.2.2.2.1 (fun x H locs hP hS hfr => ?_)
      have hPo := w_keep hne hPo hfr
      refine lv_astore (lv' := [(5, .ref x), (0, .ref (ad 0)), (1, .int x1), (2, .int x2), (3, .int x3), (4, .ref o)]) hx hb d_Lw_take_22 hl (by decide) rfl (fun ls hl => ?_)
      refine lv_iconst (v := 1) hx hb d_Lw_take_24 (by decide) ?_
      exact W.iret (v := 1) hx hb hr (fun t ht _ => ⟨by rw [show wk [1, 2] (.inr 1) = 1 from by decide +kernel], by rw [ht]; exact hP, by rw [ht]; exact hPo, hS.F ht⟩) hS.2.2 d_Lw_take_25
    · refine wThrV G hS hown hts ⟨hx, hb, hml, hown, hts⟩ (As := [.int x1, .int x2, .int x3]) (rest := [.int 0, .ref o]) (c_H_take l htl D ca ad st _ x1 x2 x3 _ _ h) (xCW (C := "MuseumHouse") 3 hts wd_4_101 wd_1_1 wd_4_98 wd_4_99 wd_4_100 (by decide +kernel) ⟨Nat.le_of_ble_eq_true rfl, Nat.le_of_ble_eq_true rfl⟩) (G.preV hP hS 0 rfl rfl) rfl rfl hl.1 rfl (lv_room (Nat.le_of_ble_eq_true rfl)) d_Lw_take_7 ⟨Nat.le_of_ble_eq_true rfl, Nat.le_of_ble_eq_true rfl⟩ [⟨0, 19, 22, 13⟩] ⟨0, 19, 26, 15⟩ [] htab (by
        intro y hy
        simp only [List.mem_cons, List.not_mem_nil, or_false] at hy
        rcases hy with rfl
        · exact ⟨by decide, by decide, _, wd_2_16, hN.1⟩) (by decide) (by decide) wd_2_17 hN.2.2.2.2.1 (fun x H locs hP hS hfr => ?_)
      have hPo := w_keep hne hPo hfr
      refine lv_astore (lv' := [(5, .ref x), (0, .ref (ad 0)), (1, .int x1), (2, .int x2), (3, .int x3), (4, .ref o)]) hx hb d_Lw_take_26 hl (by decide) rfl (fun ls hl => ?_)
      refine lv_iconst (v := 2) hx hb d_Lw_take_28 (by decide) ?_
      exact W.iret (v := 2) hx hb hr (fun t ht _ => ⟨by rw [show wk [1, 2] (.inr 2) = 2 from by decide +kernel], by rw [ht]; exact hP, by rw [ht]; exact hPo, hS.F ht⟩) hS.2.2 d_Lw_take_29
set_option maxHeartbeats 4000000 in
set_option maxRecDepth 100000 in
theorem w_claim (l : Launch) (htl : l.stackTraces = false) (D : va_G) (ca : Nat → ClassId) (co : ClassId) (ad : Nat → Nat) (o : Nat) (st : pu_St) (f : Nat → Int64) (sz : Nat) (x1 x2 x3 : Int32) (r : Int32 ⊕ Nat) (st' : pu_St) (h : f_H_claim st x1 x2 x3 = some (r, st')) (hk : ∀ k, r = .inr k → k ∈ [1, 2, 3]) : Met l y_Lw_claim (.codeWith y_Lw_claim b_Lw_claim 6 (some .int) [(0, 12, 15, 13), (0, 12, 19, 15), (0, 12, 23, 17)] :: tG) { frames := 8, cells := xc r, slots := xs r, locals := 138 } (va_Pc [.ref (ad 0), .int x1, .int x2, .int x3, .ref o] (wPc D ca co ad o st f sz)) (wQ D ca co ad o (wk [1, 2, 3] r) st' (wfI f r) sz) (xc r) (xs r) (wA ad o sz) := by
  refine wMet (by decide +kernel) ?_
  intro p e s m below meth c hx hb hml hr hlocks hown hts htab GX hP hPo
  obtain ⟨G, hKo, hne, hN⟩ := GX
  have hown : s.vm.findClass "MuseumHouseLaw" = some m.cls := hown
  have hS : va_S (wA ad o s.heap.size) s.heap s.heap [] := va_S.rf
  have hl := lv_entry ([.ref (ad 0), .int x1, .int x2, .int x3, .ref o]) (n := 6) (Nat.le_of_ble_eq_true rfl)
  rw [lg_entry_eq]
  generalize (lg_sl ([.ref (ad 0), .int x1, .int x2, .int x3, .ref o]) ++ List.replicate (6 - (lg_sl ([.ref (ad 0), .int x1, .int x2, .int x3, .ref o])).length) Slot.unset).toArray = ls at hl ⊢
  have hl : lv_has ls 6 [(0, .ref (ad 0)), (1, .int x1), (2, .int x2), (3, .int x3), (4, .ref o)] := hl
  refine lv_aload hx hb d_Lw_claim_0 (lv_at hl 4 rfl) ?_
  refine lv_iconst (v := 0) hx hb d_Lw_claim_2 (by decide) ?_
  refine lv_aload_n hx hb d_Lw_claim_3 rfl (lv_at hl 0 rfl) ?_
  refine lv_iload_n hx hb d_Lw_claim_4 rfl (lv_at hl 1 rfl) ?_
  refine lv_iload_n hx hb d_Lw_claim_5 rfl (lv_at hl 2 rfl) ?_
  refine lv_iload_n hx hb d_Lw_claim_6 rfl (lv_at hl 3 rfl) ?_
  cases r with
  | inl v =>
    refine wCallI G hS (va_runV (As := [.int x1, .int x2, .int x3]) (rest := [.int 0, .ref o]) ⟨hx, hb, hml, hown, hts⟩ (MetX.met (c_H_claim l htl D ca ad st _ x1 x2 x3 _ _ h) (fun _ _ _ _ q => ⟨_, q.1⟩)) (xCW (C := "MuseumHouse") 3 hts wd_4_112 wd_1_1 wd_4_109 wd_4_110 wd_4_111 (by decide +kernel) ⟨Nat.le_of_ble_eq_true rfl, Nat.le_of_ble_eq_true rfl⟩) (G.preV hP hS 0 rfl rfl) rfl rfl hl.1 rfl (lv_room (Nat.le_of_ble_eq_true rfl)) d_Lw_claim_7 ⟨Nat.zero_le _, Nat.zero_le _⟩) (fun H locs hP hS hfr => ?_)
    have hPo := w_keep hne hPo hfr
    have hPc := va_P.app hP hPo
    have hDc := w_D (ca := ca) (co := co) (st := st') (f := f) (sz := s.heap.size) G.2.1 hne
    refine lv_i2l hx hb d_Lw_claim_10 rfl ?_
    refine va_last hx hb hKo hPc hDc hS 34 0 rfl rfl w_in0 d_Lw_claim_11 (fun H locs hPc _ hS => ?_)
    have hPc : va_P D hcl (hW ca ad st' ++ wO co o (vp_updL f (0 : Int32).toNatClampNeg v.toInt64)) H := hPc
    refine lv_goto (tgt := 27) hx hb d_Lw_claim_12 (by decide) ?_
    refine lv_iconst (v := 0) hx hb d_Lw_claim_27 (by decide) ?_
    exact W.iret (v := 0) hx hb hr (fun t ht _ => ⟨rfl, by rw [ht]; exact hPc.left, by rw [ht]; exact hPc.right, hS.F ht⟩) hS.2.2 d_Lw_claim_28
  | inr k =>
    have hk1 := hk k rfl
    simp only [List.mem_cons, List.not_mem_nil, or_false] at hk1
    rcases hk1 with rfl | rfl | rfl
    · refine wThrV G hS hown hts ⟨hx, hb, hml, hown, hts⟩ (As := [.int x1, .int x2, .int x3]) (rest := [.int 0, .ref o]) (c_H_claim l htl D ca ad st _ x1 x2 x3 _ _ h) (xCW (C := "MuseumHouse") 3 hts wd_4_112 wd_1_1 wd_4_109 wd_4_110 wd_4_111 (by decide +kernel) ⟨Nat.le_of_ble_eq_true rfl, Nat.le_of_ble_eq_true rfl⟩) (G.preV hP hS 0 rfl rfl) rfl rfl hl.1 rfl (lv_room (Nat.le_of_ble_eq_true rfl)) d_Lw_claim_7 ⟨Nat.le_of_ble_eq_true rfl, Nat.le_of_ble_eq_true rfl⟩ [] ⟨0, 12, 15, 13⟩ [⟨0, 12, 19, 15⟩, ⟨0, 12, 23, 17⟩] htab (fun y hy => by cases hy) (by decide) (by decide) wd_2_16 hN.2.2.2.1 (fun x H locs hP hS hfr => ?_)
      have hPo := w_keep hne hPo hfr
      refine lv_astore (lv' := [(5, .ref x), (0, .ref (ad 0)), (1, .int x1), (2, .int x2), (3, .int x3), (4, .ref o)]) hx hb d_Lw_claim_15 hl (by decide) rfl (fun ls hl => ?_)
      refine lv_iconst (v := 1) hx hb d_Lw_claim_17 (by decide) ?_
      exact W.iret (v := 1) hx hb hr (fun t ht _ => ⟨by rw [show wk [1, 2, 3] (.inr 1) = 1 from by decide +kernel], by rw [ht]; exact hP, by rw [ht]; exact hPo, hS.F ht⟩) hS.2.2 d_Lw_claim_18
    · refine wThrV G hS hown hts ⟨hx, hb, hml, hown, hts⟩ (As := [.int x1, .int x2, .int x3]) (rest := [.int 0, .ref o]) (c_H_claim l htl D ca ad st _ x1 x2 x3 _ _ h) (xCW (C := "MuseumHouse") 3 hts wd_4_112 wd_1_1 wd_4_109 wd_4_110 wd_4_111 (by decide +kernel) ⟨Nat.le_of_ble_eq_true rfl, Nat.le_of_ble_eq_true rfl⟩) (G.preV hP hS 0 rfl rfl) rfl rfl hl.1 rfl (lv_room (Nat.le_of_ble_eq_true rfl)) d_Lw_claim_7 ⟨Nat.le_of_ble_eq_true rfl, Nat.le_of_ble_eq_true rfl⟩ [⟨0, 12, 15, 13⟩] ⟨0, 12, 19, 15⟩ [⟨0, 12, 23, 17⟩] htab (by
        intro y hy
        simp only [List.mem_cons, List.not_mem_nil, or_false] at hy
        rcases hy with rfl
        · exact ⟨by decide, by decide, _, wd_2_16, hN.1⟩) (by decide) (by decide) wd_2_17 hN.2.2.2.2.1 (fun x H locs hP hS hfr => ?_)
      have hPo := w_keep hne hPo hfr
      refine lv_astore (lv' := [(5, .ref x), (0, .ref (ad 0)), (1, .int x1), (2, .int x2), (3, .int x3), (4, .ref o)]) hx hb d_Lw_claim_19 hl (by decide) rfl (fun ls hl => ?_)
      refine lv_iconst (v := 2) hx hb d_Lw_claim_21 (by decide) ?_
      exact W.iret (v := 2) hx hb hr (fun t ht _ => ⟨by rw [show wk [1, 2, 3] (.inr 2) = 2 from by decide +kernel], by rw [ht]; exact hP, by rw [ht]; exact hPo, hS.F ht⟩) hS.2.2 d_Lw_claim_22
    · refine wThrV G hS hown hts ⟨hx, hb, hml, hown, hts⟩ (As := [.int x1, .int x2, .int x3]) (rest := [.int 0, .ref o]) (c_H_claim l htl D ca ad st _ x1 x2 x3 _ _ h) (xCW (C := "MuseumHouse") 3 hts wd_4_112 wd_1_1 wd_4_109 wd_4_110 wd_4_111 (by decide +kernel) ⟨Nat.le_of_ble_eq_true rfl, Nat.le_of_ble_eq_true rfl⟩) (G.preV hP hS 0 rfl rfl) rfl rfl hl.1 rfl (lv_room (Nat.le_of_ble_eq_true rfl)) d_Lw_claim_7 ⟨Nat.le_of_ble_eq_true rfl, Nat.le_of_ble_eq_true rfl⟩ [⟨0, 12, 15, 13⟩, ⟨0, 12, 19, 15⟩] ⟨0, 12, 23, 17⟩ [] htab (by
        intro y hy
        simp only [List.mem_cons, List.not_mem_nil, or_false] at hy
        rcases hy with rfl | rfl
        · exact ⟨by decide, by decide, _, wd_2_16, hN.2.1⟩
        · exact ⟨by decide, by decide, _, wd_2_17, hN.2.2.1⟩) (by decide) (by decide) wd_2_18 hN.2.2.2.2.2 (fun x H locs hP hS hfr => ?_)
      have hPo := w_keep hne hPo hfr
      refine lv_astore (lv' := [(5, .ref x), (0, .ref (ad 0)), (1, .int x1), (2, .int x2), (3, .int x3), (4, .ref o)]) hx hb d_Lw_claim_23 hl (by decide) rfl (fun ls hl => ?_)
      refine lv_iconst (v := 3) hx hb d_Lw_claim_25 (by decide) ?_
      exact W.iret (v := 3) hx hb hr (fun t ht _ => ⟨by rw [show wk [1, 2, 3] (.inr 3) = 3 from by decide +kernel], by rw [ht]; exact hP, by rw [ht]; exact hPo, hS.F ht⟩) hS.2.2 d_Lw_claim_26
set_option maxHeartbeats 4000000 in
set_option maxRecDepth 100000 in
theorem w_close (l : Launch) (htl : l.stackTraces = false) (D : va_G) (ca : Nat → ClassId) (co : ClassId) (ad : Nat → Nat) (o : Nat) (st : pu_St) (f : Nat → Int64) (sz : Nat) (x1 x2 : Int32) (r : Int32 ⊕ Nat) (st' : pu_St) (h : f_H_close st x1 x2 = some (r, st')) (hk : ∀ k, r = .inr k → k ∈ [1, 2, 3]) : Met l y_Lw_close (.codeWith y_Lw_close b_Lw_close 5 (some .int) [(0, 10, 13, 13), (0, 10, 17, 15), (0, 10, 21, 17)] :: tG) { frames := 8, cells := xc r, slots := xs r, locals := 137 } (va_Pc [.ref (ad 0), .int x1, .int x2, .ref o] (wPc D ca co ad o st f sz)) (wQ D ca co ad o (wk [1, 2, 3] r) st' (wfI f r) sz) (xc r) (xs r) (wA ad o sz) := by
  refine wMet (by decide +kernel) ?_
  intro p e s m below meth c hx hb hml hr hlocks hown hts htab GX hP hPo
  obtain ⟨G, hKo, hne, hN⟩ := GX
  have hown : s.vm.findClass "MuseumHouseLaw" = some m.cls := hown
  have hS : va_S (wA ad o s.heap.size) s.heap s.heap [] := va_S.rf
  have hl := lv_entry ([.ref (ad 0), .int x1, .int x2, .ref o]) (n := 5) (Nat.le_of_ble_eq_true rfl)
  rw [lg_entry_eq]
  generalize (lg_sl ([.ref (ad 0), .int x1, .int x2, .ref o]) ++ List.replicate (5 - (lg_sl ([.ref (ad 0), .int x1, .int x2, .ref o])).length) Slot.unset).toArray = ls at hl ⊢
  have hl : lv_has ls 5 [(0, .ref (ad 0)), (1, .int x1), (2, .int x2), (3, .ref o)] := hl
  refine lv_aload_n hx hb d_Lw_close_0 rfl (lv_at hl 3 rfl) ?_
  refine lv_iconst (v := 0) hx hb d_Lw_close_1 (by decide) ?_
  refine lv_aload_n hx hb d_Lw_close_2 rfl (lv_at hl 0 rfl) ?_
  refine lv_iload_n hx hb d_Lw_close_3 rfl (lv_at hl 1 rfl) ?_
  refine lv_iload_n hx hb d_Lw_close_4 rfl (lv_at hl 2 rfl) ?_
  cases r with
  | inl v =>
    refine wCallI G hS (va_runV (As := [.int x1, .int x2]) (rest := [.int 0, .ref o]) ⟨hx, hb, hml, hown, hts⟩ (MetX.met (c_H_close l htl D ca ad st _ x1 x2 _ _ h) (fun _ _ _ _ q => ⟨_, q.1⟩)) (xCW (C := "MuseumHouse") 2 hts wd_4_136 wd_1_1 wd_4_133 wd_4_134 wd_4_135 (by decide +kernel) ⟨Nat.le_of_ble_eq_true rfl, Nat.le_of_ble_eq_true rfl⟩) (G.preV hP hS 0 rfl rfl) rfl rfl hl.1 rfl (lv_room (Nat.le_of_ble_eq_true rfl)) d_Lw_close_5 ⟨Nat.zero_le _, Nat.zero_le _⟩) (fun H locs hP hS hfr => ?_)
    have hPo := w_keep hne hPo hfr
    have hPc := va_P.app hP hPo
    have hDc := w_D (ca := ca) (co := co) (st := st') (f := f) (sz := s.heap.size) G.2.1 hne
    refine lv_i2l hx hb d_Lw_close_8 rfl ?_
    refine va_last hx hb hKo hPc hDc hS 34 0 rfl rfl w_in0 d_Lw_close_9 (fun H locs hPc _ hS => ?_)
    have hPc : va_P D hcl (hW ca ad st' ++ wO co o (vp_updL f (0 : Int32).toNatClampNeg v.toInt64)) H := hPc
    refine lv_goto (tgt := 25) hx hb d_Lw_close_10 (by decide) ?_
    refine lv_iconst (v := 0) hx hb d_Lw_close_25 (by decide) ?_
    exact W.iret (v := 0) hx hb hr (fun t ht _ => ⟨rfl, by rw [ht]; exact hPc.left, by rw [ht]; exact hPc.right, hS.F ht⟩) hS.2.2 d_Lw_close_26
  | inr k =>
    have hk1 := hk k rfl
    simp only [List.mem_cons, List.not_mem_nil, or_false] at hk1
    rcases hk1 with rfl | rfl | rfl
    · refine wThrV G hS hown hts ⟨hx, hb, hml, hown, hts⟩ (As := [.int x1, .int x2]) (rest := [.int 0, .ref o]) (c_H_close l htl D ca ad st _ x1 x2 _ _ h) (xCW (C := "MuseumHouse") 2 hts wd_4_136 wd_1_1 wd_4_133 wd_4_134 wd_4_135 (by decide +kernel) ⟨Nat.le_of_ble_eq_true rfl, Nat.le_of_ble_eq_true rfl⟩) (G.preV hP hS 0 rfl rfl) rfl rfl hl.1 rfl (lv_room (Nat.le_of_ble_eq_true rfl)) d_Lw_close_5 ⟨Nat.le_of_ble_eq_true rfl, Nat.le_of_ble_eq_true rfl⟩ [] ⟨0, 10, 13, 13⟩ [⟨0, 10, 17, 15⟩, ⟨0, 10, 21, 17⟩] htab (fun y hy => by cases hy) (by decide) (by decide) wd_2_16 hN.2.2.2.1 (fun x H locs hP hS hfr => ?_)
      have hPo := w_keep hne hPo hfr
      refine lv_astore (lv' := [(4, .ref x), (0, .ref (ad 0)), (1, .int x1), (2, .int x2), (3, .ref o)]) hx hb d_Lw_close_13 hl (by decide) rfl (fun ls hl => ?_)
      refine lv_iconst (v := 1) hx hb d_Lw_close_15 (by decide) ?_
      exact W.iret (v := 1) hx hb hr (fun t ht _ => ⟨by rw [show wk [1, 2, 3] (.inr 1) = 1 from by decide +kernel], by rw [ht]; exact hP, by rw [ht]; exact hPo, hS.F ht⟩) hS.2.2 d_Lw_close_16
    · refine wThrV G hS hown hts ⟨hx, hb, hml, hown, hts⟩ (As := [.int x1, .int x2]) (rest := [.int 0, .ref o]) (c_H_close l htl D ca ad st _ x1 x2 _ _ h) (xCW (C := "MuseumHouse") 2 hts wd_4_136 wd_1_1 wd_4_133 wd_4_134 wd_4_135 (by decide +kernel) ⟨Nat.le_of_ble_eq_true rfl, Nat.le_of_ble_eq_true rfl⟩) (G.preV hP hS 0 rfl rfl) rfl rfl hl.1 rfl (lv_room (Nat.le_of_ble_eq_true rfl)) d_Lw_close_5 ⟨Nat.le_of_ble_eq_true rfl, Nat.le_of_ble_eq_true rfl⟩ [⟨0, 10, 13, 13⟩] ⟨0, 10, 17, 15⟩ [⟨0, 10, 21, 17⟩] htab (by
        intro y hy
        simp only [List.mem_cons, List.not_mem_nil, or_false] at hy
        rcases hy with rfl
        · exact ⟨by decide, by decide, _, wd_2_16, hN.1⟩) (by decide) (by decide) wd_2_17 hN.2.2.2.2.1 (fun x H locs hP hS hfr => ?_)
      have hPo := w_keep hne hPo hfr
      refine lv_astore (lv' := [(4, .ref x), (0, .ref (ad 0)), (1, .int x1), (2, .int x2), (3, .ref o)]) hx hb d_Lw_close_17 hl (by decide) rfl (fun ls hl => ?_)
      refine lv_iconst (v := 2) hx hb d_Lw_close_19 (by decide) ?_
      exact W.iret (v := 2) hx hb hr (fun t ht _ => ⟨by rw [show wk [1, 2, 3] (.inr 2) = 2 from by decide +kernel], by rw [ht]; exact hP, by rw [ht]; exact hPo, hS.F ht⟩) hS.2.2 d_Lw_close_20
    · refine wThrV G hS hown hts ⟨hx, hb, hml, hown, hts⟩ (As := [.int x1, .int x2]) (rest := [.int 0, .ref o]) (c_H_close l htl D ca ad st _ x1 x2 _ _ h) (xCW (C := "MuseumHouse") 2 hts wd_4_136 wd_1_1 wd_4_133 wd_4_134 wd_4_135 (by decide +kernel) ⟨Nat.le_of_ble_eq_true rfl, Nat.le_of_ble_eq_true rfl⟩) (G.preV hP hS 0 rfl rfl) rfl rfl hl.1 rfl (lv_room (Nat.le_of_ble_eq_true rfl)) d_Lw_close_5 ⟨Nat.le_of_ble_eq_true rfl, Nat.le_of_ble_eq_true rfl⟩ [⟨0, 10, 13, 13⟩, ⟨0, 10, 17, 15⟩] ⟨0, 10, 21, 17⟩ [] htab (by
        intro y hy
        simp only [List.mem_cons, List.not_mem_nil, or_false] at hy
        rcases hy with rfl | rfl
        · exact ⟨by decide, by decide, _, wd_2_16, hN.2.1⟩
        · exact ⟨by decide, by decide, _, wd_2_17, hN.2.2.1⟩) (by decide) (by decide) wd_2_18 hN.2.2.2.2.2 (fun x H locs hP hS hfr => ?_)
      have hPo := w_keep hne hPo hfr
      refine lv_astore (lv' := [(4, .ref x), (0, .ref (ad 0)), (1, .int x1), (2, .int x2), (3, .ref o)]) hx hb d_Lw_close_21 hl (by decide) rfl (fun ls hl => ?_)
      refine lv_iconst (v := 3) hx hb d_Lw_close_23 (by decide) ?_
      exact W.iret (v := 3) hx hb hr (fun t ht _ => ⟨by rw [show wk [1, 2, 3] (.inr 3) = 3 from by decide +kernel], by rw [ht]; exact hP, by rw [ht]; exact hPo, hS.F ht⟩) hS.2.2 d_Lw_close_24
set_option maxHeartbeats 4000000 in
set_option maxRecDepth 100000 in
theorem w_where (l : Launch) (htl : l.stackTraces = false) (D : va_G) (ca : Nat → ClassId) (co : ClassId) (ad : Nat → Nat) (o : Nat) (st : pu_St) (f : Nat → Int64) (sz : Nat) (x1 x2 : Int32) (r : Int32 ⊕ Nat) (st' : pu_St) (h : f_H_where st x1 x2 = some (r, st')) (hk : ∀ k, r = .inr k → k ∈ [1, 3]) : Met l y_Lw_where (.codeWith y_Lw_where b_Lw_where 5 (some .int) [(0, 10, 13, 13), (0, 10, 17, 17)] :: tG) { frames := 8, cells := xc r, slots := xs r, locals := 139 } (va_Pc [.ref (ad 0), .int x1, .int x2, .ref o] (wPc D ca co ad o st f sz)) (wQ D ca co ad o (wk [1, 3] r) st' (wfI f r) sz) (xc r) (xs r) (wA ad o sz) := by
  refine wMet (by decide +kernel) ?_
  intro p e s m below meth c hx hb hml hr hlocks hown hts htab GX hP hPo
  obtain ⟨G, hKo, hne, hN⟩ := GX
  have hown : s.vm.findClass "MuseumHouseLaw" = some m.cls := hown
  have hS : va_S (wA ad o s.heap.size) s.heap s.heap [] := va_S.rf
  have hl := lv_entry ([.ref (ad 0), .int x1, .int x2, .ref o]) (n := 5) (Nat.le_of_ble_eq_true rfl)
  rw [lg_entry_eq]
  generalize (lg_sl ([.ref (ad 0), .int x1, .int x2, .ref o]) ++ List.replicate (5 - (lg_sl ([.ref (ad 0), .int x1, .int x2, .ref o])).length) Slot.unset).toArray = ls at hl ⊢
  have hl : lv_has ls 5 [(0, .ref (ad 0)), (1, .int x1), (2, .int x2), (3, .ref o)] := hl
  refine lv_aload_n hx hb d_Lw_where_0 rfl (lv_at hl 3 rfl) ?_
  refine lv_iconst (v := 0) hx hb d_Lw_where_1 (by decide) ?_
  refine lv_aload_n hx hb d_Lw_where_2 rfl (lv_at hl 0 rfl) ?_
  refine lv_iload_n hx hb d_Lw_where_3 rfl (lv_at hl 1 rfl) ?_
  refine lv_iload_n hx hb d_Lw_where_4 rfl (lv_at hl 2 rfl) ?_
  cases r with
  | inl v =>
    refine wCallI G hS (va_runV (As := [.int x1, .int x2]) (rest := [.int 0, .ref o]) ⟨hx, hb, hml, hown, hts⟩ (MetX.met (c_H_where l htl D ca ad st _ x1 x2 _ _ h) (fun _ _ _ _ q => ⟨_, q.1⟩)) (xCW (C := "MuseumHouse") 2 hts wd_4_155 wd_1_1 wd_4_152 wd_4_153 wd_4_154 (by decide +kernel) ⟨Nat.le_of_ble_eq_true rfl, Nat.le_of_ble_eq_true rfl⟩) (G.preV hP hS 0 rfl rfl) rfl rfl hl.1 rfl (lv_room (Nat.le_of_ble_eq_true rfl)) d_Lw_where_5 ⟨Nat.zero_le _, Nat.zero_le _⟩) (fun H locs hP hS hfr => ?_)
    have hPo := w_keep hne hPo hfr
    have hPc := va_P.app hP hPo
    have hDc := w_D (ca := ca) (co := co) (st := st') (f := f) (sz := s.heap.size) G.2.1 hne
    refine lv_i2l hx hb d_Lw_where_8 rfl ?_
    refine va_last hx hb hKo hPc hDc hS 34 0 rfl rfl w_in0 d_Lw_where_9 (fun H locs hPc _ hS => ?_)
    have hPc : va_P D hcl (hW ca ad st' ++ wO co o (vp_updL f (0 : Int32).toNatClampNeg v.toInt64)) H := hPc
    refine lv_goto (tgt := 21) hx hb d_Lw_where_10 (by decide) ?_
    refine lv_iconst (v := 0) hx hb d_Lw_where_21 (by decide) ?_
    exact W.iret (v := 0) hx hb hr (fun t ht _ => ⟨rfl, by rw [ht]; exact hPc.left, by rw [ht]; exact hPc.right, hS.F ht⟩) hS.2.2 d_Lw_where_22
  | inr k =>
    have hk1 := hk k rfl
    simp only [List.mem_cons, List.not_mem_nil, or_false] at hk1
    rcases hk1 with rfl | rfl
    · refine wThrV G hS hown hts ⟨hx, hb, hml, hown, hts⟩ (As := [.int x1, .int x2]) (rest := [.int 0, .ref o]) (c_H_where l htl D ca ad st _ x1 x2 _ _ h) (xCW (C := "MuseumHouse") 2 hts wd_4_155 wd_1_1 wd_4_152 wd_4_153 wd_4_154 (by decide +kernel) ⟨Nat.le_of_ble_eq_true rfl, Nat.le_of_ble_eq_true rfl⟩) (G.preV hP hS 0 rfl rfl) rfl rfl hl.1 rfl (lv_room (Nat.le_of_ble_eq_true rfl)) d_Lw_where_5 ⟨Nat.le_of_ble_eq_true rfl, Nat.le_of_ble_eq_true rfl⟩ [] ⟨0, 10, 13, 13⟩ [⟨0, 10, 17, 17⟩] htab (fun y hy => by cases hy) (by decide) (by decide) wd_2_16 hN.2.2.2.1 (fun x H locs hP hS hfr => ?_)
      have hPo := w_keep hne hPo hfr
      refine lv_astore (lv' := [(4, .ref x), (0, .ref (ad 0)), (1, .int x1), (2, .int x2), (3, .ref o)]) hx hb d_Lw_where_13 hl (by decide) rfl (fun ls hl => ?_)
      refine lv_iconst (v := 1) hx hb d_Lw_where_15 (by decide) ?_
      exact W.iret (v := 1) hx hb hr (fun t ht _ => ⟨by rw [show wk [1, 3] (.inr 1) = 1 from by decide +kernel], by rw [ht]; exact hP, by rw [ht]; exact hPo, hS.F ht⟩) hS.2.2 d_Lw_where_16
    · refine wThrV G hS hown hts ⟨hx, hb, hml, hown, hts⟩ (As := [.int x1, .int x2]) (rest := [.int 0, .ref o]) (c_H_where l htl D ca ad st _ x1 x2 _ _ h) (xCW (C := "MuseumHouse") 2 hts wd_4_155 wd_1_1 wd_4_152 wd_4_153 wd_4_154 (by decide +kernel) ⟨Nat.le_of_ble_eq_true rfl, Nat.le_of_ble_eq_true rfl⟩) (G.preV hP hS 0 rfl rfl) rfl rfl hl.1 rfl (lv_room (Nat.le_of_ble_eq_true rfl)) d_Lw_where_5 ⟨Nat.le_of_ble_eq_true rfl, Nat.le_of_ble_eq_true rfl⟩ [⟨0, 10, 13, 13⟩] ⟨0, 10, 17, 17⟩ [] htab (by
        intro y hy
        simp only [List.mem_cons, List.not_mem_nil, or_false] at hy
        rcases hy with rfl
        · exact ⟨by decide, by decide, _, wd_2_16, hN.2.1⟩) (by decide) (by decide) wd_2_18 hN.2.2.2.2.2 (fun x H locs hP hS hfr => ?_)
      have hPo := w_keep hne hPo hfr
      refine lv_astore (lv' := [(4, .ref x), (0, .ref (ad 0)), (1, .int x1), (2, .int x2), (3, .ref o)]) hx hb d_Lw_where_17 hl (by decide) rfl (fun ls hl => ?_)
      refine lv_iconst (v := 2) hx hb d_Lw_where_19 (by decide) ?_
      exact W.iret (v := 2) hx hb hr (fun t ht _ => ⟨by rw [show wk [1, 3] (.inr 3) = 2 from by decide +kernel], by rw [ht]; exact hP, by rw [ht]; exact hPo, hS.F ht⟩) hS.2.2 d_Lw_where_20
set_option maxHeartbeats 4000000 in
set_option maxRecDepth 100000 in
theorem w_origin (l : Launch) (htl : l.stackTraces = false) (D : va_G) (ca : Nat → ClassId) (co : ClassId) (ad : Nat → Nat) (o : Nat) (st : pu_St) (f : Nat → Int64) (sz : Nat) (x1 : Int32) (r : Int32 ⊕ Nat) (st' : pu_St) (h : f_H_origin st x1 = some (r, st')) (hk : ∀ k, r = .inr k → k ∈ [1]) : Met l y_Lw_origin (.codeWith y_Lw_origin b_Lw_origin 4 (some .int) [(0, 9, 12, 13)] :: tG) { frames := 8, cells := xc r, slots := xs r, locals := 137 } (va_Pc [.ref (ad 0), .int x1, .ref o] (wPc D ca co ad o st f sz)) (wQ D ca co ad o (wk [1] r) st' (wfI f r) sz) (xc r) (xs r) (wA ad o sz) := by
  refine wMet (by decide +kernel) ?_
  intro p e s m below meth c hx hb hml hr hlocks hown hts htab GX hP hPo
  obtain ⟨G, hKo, hne, hN⟩ := GX
  have hown : s.vm.findClass "MuseumHouseLaw" = some m.cls := hown
  have hS : va_S (wA ad o s.heap.size) s.heap s.heap [] := va_S.rf
  have hl := lv_entry ([.ref (ad 0), .int x1, .ref o]) (n := 4) (Nat.le_of_ble_eq_true rfl)
  rw [lg_entry_eq]
  generalize (lg_sl ([.ref (ad 0), .int x1, .ref o]) ++ List.replicate (4 - (lg_sl ([.ref (ad 0), .int x1, .ref o])).length) Slot.unset).toArray = ls at hl ⊢
  have hl : lv_has ls 4 [(0, .ref (ad 0)), (1, .int x1), (2, .ref o)] := hl
  refine lv_aload_n hx hb d_Lw_origin_0 rfl (lv_at hl 2 rfl) ?_
  refine lv_iconst (v := 0) hx hb d_Lw_origin_1 (by decide) ?_
  refine lv_aload_n hx hb d_Lw_origin_2 rfl (lv_at hl 0 rfl) ?_
  refine lv_iload_n hx hb d_Lw_origin_3 rfl (lv_at hl 1 rfl) ?_
  cases r with
  | inl v =>
    refine wCallI G hS (va_runV (As := [.int x1]) (rest := [.int 0, .ref o]) ⟨hx, hb, hml, hown, hts⟩ (MetX.met (c_H_origin l htl D ca ad st _ x1 _ _ h) (fun _ _ _ _ q => ⟨_, q.1⟩)) (xCW (C := "MuseumHouse") 1 hts wd_4_164 wd_1_1 wd_4_161 wd_4_162 wd_4_163 (by decide +kernel) ⟨Nat.le_of_ble_eq_true rfl, Nat.le_of_ble_eq_true rfl⟩) (G.preV hP hS 0 rfl rfl) rfl rfl hl.1 rfl (lv_room (Nat.le_of_ble_eq_true rfl)) d_Lw_origin_4 ⟨Nat.zero_le _, Nat.zero_le _⟩) (fun H locs hP hS hfr => ?_)
    have hPo := w_keep hne hPo hfr
    have hPc := va_P.app hP hPo
    have hDc := w_D (ca := ca) (co := co) (st := st') (f := f) (sz := s.heap.size) G.2.1 hne
    refine lv_i2l hx hb d_Lw_origin_7 rfl ?_
    refine va_last hx hb hKo hPc hDc hS 34 0 rfl rfl w_in0 d_Lw_origin_8 (fun H locs hPc _ hS => ?_)
    have hPc : va_P D hcl (hW ca ad st' ++ wO co o (vp_updL f (0 : Int32).toNatClampNeg v.toInt64)) H := hPc
    refine lv_goto (tgt := 15) hx hb d_Lw_origin_9 (by decide) ?_
    refine lv_iconst (v := 0) hx hb d_Lw_origin_15 (by decide) ?_
    exact W.iret (v := 0) hx hb hr (fun t ht _ => ⟨rfl, by rw [ht]; exact hPc.left, by rw [ht]; exact hPc.right, hS.F ht⟩) hS.2.2 d_Lw_origin_16
  | inr k =>
    have hk1 := hk k rfl
    simp only [List.mem_cons, List.not_mem_nil, or_false] at hk1
    rcases hk1 with rfl
    · refine wThrV G hS hown hts ⟨hx, hb, hml, hown, hts⟩ (As := [.int x1]) (rest := [.int 0, .ref o]) (c_H_origin l htl D ca ad st _ x1 _ _ h) (xCW (C := "MuseumHouse") 1 hts wd_4_164 wd_1_1 wd_4_161 wd_4_162 wd_4_163 (by decide +kernel) ⟨Nat.le_of_ble_eq_true rfl, Nat.le_of_ble_eq_true rfl⟩) (G.preV hP hS 0 rfl rfl) rfl rfl hl.1 rfl (lv_room (Nat.le_of_ble_eq_true rfl)) d_Lw_origin_4 ⟨Nat.le_of_ble_eq_true rfl, Nat.le_of_ble_eq_true rfl⟩ [] ⟨0, 9, 12, 13⟩ [] htab (fun y hy => by cases hy) (by decide) (by decide) wd_2_16 hN.2.2.2.1 (fun x H locs hP hS hfr => ?_)
      have hPo := w_keep hne hPo hfr
      refine lv_astore_n (lv' := [(3, .ref x), (0, .ref (ad 0)), (1, .int x1), (2, .ref o)]) hx hb d_Lw_origin_12 rfl hl (by decide) rfl (fun ls hl => ?_)
      refine lv_iconst (v := 1) hx hb d_Lw_origin_13 (by decide) ?_
      exact W.iret (v := 1) hx hb hr (fun t ht _ => ⟨by rw [show wk [1] (.inr 1) = 1 from by decide +kernel], by rw [ht]; exact hP, by rw [ht]; exact hPo, hS.F ht⟩) hS.2.2 d_Lw_origin_14
set_option maxHeartbeats 4000000 in
set_option maxRecDepth 100000 in
theorem w_hall (l : Launch) (htl : l.stackTraces = false) (D : va_G) (ca : Nat → ClassId) (co : ClassId) (ad : Nat → Nat) (o : Nat) (st : pu_St) (f : Nat → Int64) (sz : Nat) (x1 : Int32) (r : Int32 ⊕ Nat) (st' : pu_St) (h : f_H_hall st x1 = some (r, st')) (hk : ∀ k, r = .inr k → k ∈ [1]) : Met l y_Lw_hall (.codeWith y_Lw_hall b_Lw_hall 4 (some .int) [(0, 9, 12, 13)] :: tG) { frames := 8, cells := xc r, slots := xs r, locals := 135 } (va_Pc [.ref (ad 0), .int x1, .ref o] (wPc D ca co ad o st f sz)) (wQ D ca co ad o (wk [1] r) st' (wfI f r) sz) (xc r) (xs r) (wA ad o sz) := by
  refine wMet (by decide +kernel) ?_
  intro p e s m below meth c hx hb hml hr hlocks hown hts htab GX hP hPo
  obtain ⟨G, hKo, hne, hN⟩ := GX
  have hown : s.vm.findClass "MuseumHouseLaw" = some m.cls := hown
  have hS : va_S (wA ad o s.heap.size) s.heap s.heap [] := va_S.rf
  have hl := lv_entry ([.ref (ad 0), .int x1, .ref o]) (n := 4) (Nat.le_of_ble_eq_true rfl)
  rw [lg_entry_eq]
  generalize (lg_sl ([.ref (ad 0), .int x1, .ref o]) ++ List.replicate (4 - (lg_sl ([.ref (ad 0), .int x1, .ref o])).length) Slot.unset).toArray = ls at hl ⊢
  have hl : lv_has ls 4 [(0, .ref (ad 0)), (1, .int x1), (2, .ref o)] := hl
  refine lv_aload_n hx hb d_Lw_hall_0 rfl (lv_at hl 2 rfl) ?_
  refine lv_iconst (v := 0) hx hb d_Lw_hall_1 (by decide) ?_
  refine lv_aload_n hx hb d_Lw_hall_2 rfl (lv_at hl 0 rfl) ?_
  refine lv_iload_n hx hb d_Lw_hall_3 rfl (lv_at hl 1 rfl) ?_
  cases r with
  | inl v =>
    refine wCallI G hS (va_runV (As := [.int x1]) (rest := [.int 0, .ref o]) ⟨hx, hb, hml, hown, hts⟩ (MetX.met (c_H_hall l htl D ca ad st _ x1 _ _ h) (fun _ _ _ _ q => ⟨_, q.1⟩)) (xCW (C := "MuseumHouse") 1 hts wd_4_189 wd_1_1 wd_4_186 wd_4_187 wd_4_188 (by decide +kernel) ⟨Nat.le_of_ble_eq_true rfl, Nat.le_of_ble_eq_true rfl⟩) (G.preV hP hS 0 rfl rfl) rfl rfl hl.1 rfl (lv_room (Nat.le_of_ble_eq_true rfl)) d_Lw_hall_4 ⟨Nat.zero_le _, Nat.zero_le _⟩) (fun H locs hP hS hfr => ?_)
    have hPo := w_keep hne hPo hfr
    have hPc := va_P.app hP hPo
    have hDc := w_D (ca := ca) (co := co) (st := st') (f := f) (sz := s.heap.size) G.2.1 hne
    refine lv_i2l hx hb d_Lw_hall_7 rfl ?_
    refine va_last hx hb hKo hPc hDc hS 34 0 rfl rfl w_in0 d_Lw_hall_8 (fun H locs hPc _ hS => ?_)
    have hPc : va_P D hcl (hW ca ad st' ++ wO co o (vp_updL f (0 : Int32).toNatClampNeg v.toInt64)) H := hPc
    refine lv_goto (tgt := 15) hx hb d_Lw_hall_9 (by decide) ?_
    refine lv_iconst (v := 0) hx hb d_Lw_hall_15 (by decide) ?_
    exact W.iret (v := 0) hx hb hr (fun t ht _ => ⟨rfl, by rw [ht]; exact hPc.left, by rw [ht]; exact hPc.right, hS.F ht⟩) hS.2.2 d_Lw_hall_16
  | inr k =>
    have hk1 := hk k rfl
    simp only [List.mem_cons, List.not_mem_nil, or_false] at hk1
    rcases hk1 with rfl
    · refine wThrV G hS hown hts ⟨hx, hb, hml, hown, hts⟩ (As := [.int x1]) (rest := [.int 0, .ref o]) (c_H_hall l htl D ca ad st _ x1 _ _ h) (xCW (C := "MuseumHouse") 1 hts wd_4_189 wd_1_1 wd_4_186 wd_4_187 wd_4_188 (by decide +kernel) ⟨Nat.le_of_ble_eq_true rfl, Nat.le_of_ble_eq_true rfl⟩) (G.preV hP hS 0 rfl rfl) rfl rfl hl.1 rfl (lv_room (Nat.le_of_ble_eq_true rfl)) d_Lw_hall_4 ⟨Nat.le_of_ble_eq_true rfl, Nat.le_of_ble_eq_true rfl⟩ [] ⟨0, 9, 12, 13⟩ [] htab (fun y hy => by cases hy) (by decide) (by decide) wd_2_16 hN.2.2.2.1 (fun x H locs hP hS hfr => ?_)
      have hPo := w_keep hne hPo hfr
      refine lv_astore_n (lv' := [(3, .ref x), (0, .ref (ad 0)), (1, .int x1), (2, .ref o)]) hx hb d_Lw_hall_12 rfl hl (by decide) rfl (fun ls hl => ?_)
      refine lv_iconst (v := 1) hx hb d_Lw_hall_13 (by decide) ?_
      exact W.iret (v := 1) hx hb hr (fun t ht _ => ⟨by rw [show wk [1] (.inr 1) = 1 from by decide +kernel], by rw [ht]; exact hP, by rw [ht]; exact hPo, hS.F ht⟩) hS.2.2 d_Lw_hall_14
set_option maxHeartbeats 4000000 in
set_option maxRecDepth 100000 in
theorem w_count (l : Launch) (htl : l.stackTraces = false) (D : va_G) (ca : Nat → ClassId) (co : ClassId) (ad : Nat → Nat) (o : Nat) (st : pu_St) (f : Nat → Int64) (sz : Nat) (x1 : Int32) (r : Int32 ⊕ Nat) (st' : pu_St) (h : f_H_count st x1 = some (r, st')) (hk : ∀ k, r = .inr k → k ∈ [1]) : Met l y_Lw_count (.codeWith y_Lw_count b_Lw_count 4 (some .int) [(0, 9, 12, 13)] :: tG) { frames := 7, cells := xc r, slots := xs r, locals := 111 } (va_Pc [.ref (ad 0), .int x1, .ref o] (wPc D ca co ad o st f sz)) (wQ D ca co ad o (wk [1] r) st' (wfI f r) sz) (xc r) (xs r) (wA ad o sz) := by
  refine wMet (by decide +kernel) ?_
  intro p e s m below meth c hx hb hml hr hlocks hown hts htab GX hP hPo
  obtain ⟨G, hKo, hne, hN⟩ := GX
  have hown : s.vm.findClass "MuseumHouseLaw" = some m.cls := hown
  have hS : va_S (wA ad o s.heap.size) s.heap s.heap [] := va_S.rf
  have hl := lv_entry ([.ref (ad 0), .int x1, .ref o]) (n := 4) (Nat.le_of_ble_eq_true rfl)
  rw [lg_entry_eq]
  generalize (lg_sl ([.ref (ad 0), .int x1, .ref o]) ++ List.replicate (4 - (lg_sl ([.ref (ad 0), .int x1, .ref o])).length) Slot.unset).toArray = ls at hl ⊢
  have hl : lv_has ls 4 [(0, .ref (ad 0)), (1, .int x1), (2, .ref o)] := hl
  refine lv_aload_n hx hb d_Lw_count_0 rfl (lv_at hl 2 rfl) ?_
  refine lv_iconst (v := 0) hx hb d_Lw_count_1 (by decide) ?_
  refine lv_aload_n hx hb d_Lw_count_2 rfl (lv_at hl 0 rfl) ?_
  refine lv_iload_n hx hb d_Lw_count_3 rfl (lv_at hl 1 rfl) ?_
  cases r with
  | inl v =>
    refine wCallI G hS (va_runV (As := [.int x1]) (rest := [.int 0, .ref o]) ⟨hx, hb, hml, hown, hts⟩ (MetX.met (c_H_count l htl D ca ad st _ x1 _ _ h) (fun _ _ _ _ q => ⟨_, q.1⟩)) (xCW (C := "MuseumHouse") 1 hts wd_4_200 wd_1_1 wd_4_197 wd_4_198 wd_4_199 (by decide +kernel) ⟨Nat.le_of_ble_eq_true rfl, Nat.le_of_ble_eq_true rfl⟩) (G.preV hP hS 0 rfl rfl) rfl rfl hl.1 rfl (lv_room (Nat.le_of_ble_eq_true rfl)) d_Lw_count_4 ⟨Nat.zero_le _, Nat.zero_le _⟩) (fun H locs hP hS hfr => ?_)
    have hPo := w_keep hne hPo hfr
    have hPc := va_P.app hP hPo
    have hDc := w_D (ca := ca) (co := co) (st := st') (f := f) (sz := s.heap.size) G.2.1 hne
    refine lv_i2l hx hb d_Lw_count_7 rfl ?_
    refine va_last hx hb hKo hPc hDc hS 34 0 rfl rfl w_in0 d_Lw_count_8 (fun H locs hPc _ hS => ?_)
    have hPc : va_P D hcl (hW ca ad st' ++ wO co o (vp_updL f (0 : Int32).toNatClampNeg v.toInt64)) H := hPc
    refine lv_goto (tgt := 15) hx hb d_Lw_count_9 (by decide) ?_
    refine lv_iconst (v := 0) hx hb d_Lw_count_15 (by decide) ?_
    exact W.iret (v := 0) hx hb hr (fun t ht _ => ⟨rfl, by rw [ht]; exact hPc.left, by rw [ht]; exact hPc.right, hS.F ht⟩) hS.2.2 d_Lw_count_16
  | inr k =>
    have hk1 := hk k rfl
    simp only [List.mem_cons, List.not_mem_nil, or_false] at hk1
    rcases hk1 with rfl
    · refine wThrV G hS hown hts ⟨hx, hb, hml, hown, hts⟩ (As := [.int x1]) (rest := [.int 0, .ref o]) (c_H_count l htl D ca ad st _ x1 _ _ h) (xCW (C := "MuseumHouse") 1 hts wd_4_200 wd_1_1 wd_4_197 wd_4_198 wd_4_199 (by decide +kernel) ⟨Nat.le_of_ble_eq_true rfl, Nat.le_of_ble_eq_true rfl⟩) (G.preV hP hS 0 rfl rfl) rfl rfl hl.1 rfl (lv_room (Nat.le_of_ble_eq_true rfl)) d_Lw_count_4 ⟨Nat.le_of_ble_eq_true rfl, Nat.le_of_ble_eq_true rfl⟩ [] ⟨0, 9, 12, 13⟩ [] htab (fun y hy => by cases hy) (by decide) (by decide) wd_2_16 hN.2.2.2.1 (fun x H locs hP hS hfr => ?_)
      have hPo := w_keep hne hPo hfr
      refine lv_astore_n (lv' := [(3, .ref x), (0, .ref (ad 0)), (1, .int x1), (2, .ref o)]) hx hb d_Lw_count_12 rfl hl (by decide) rfl (fun ls hl => ?_)
      refine lv_iconst (v := 1) hx hb d_Lw_count_13 (by decide) ?_
      exact W.iret (v := 1) hx hb hr (fun t ht _ => ⟨by rw [show wk [1] (.inr 1) = 1 from by decide +kernel], by rw [ht]; exact hP, by rw [ht]; exact hPo, hS.F ht⟩) hS.2.2 d_Lw_count_14

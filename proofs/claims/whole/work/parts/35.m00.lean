set_option maxHeartbeats 4000000 in
set_option maxRecDepth 100000 in
theorem c_Md_thrown (l : Launch) (D : va_G) (ca : Nat → ClassId) (ad : Nat → Nat) (st : pu_St) (sz : Nat) (r : Int32) (h : f_Md_thrown st = some r) : Met l y_Md_thrown (.code y_Md_thrown b_Md_thrown 1 (some .int) :: tG) { frames := 0, cells := 0, slots := 0, locals := 0 } (va_Pc [.ref (ad 0)] (mPc D ca ad st sz)) (QcRead r) 0 0 (fun _ => False) := by
  refine mRead (by decide +kernel) ?_
  intro p e s m below meth c C G hP
  obtain ⟨hx, hb, hml, hr, hlocks, hno, hown, hts⟩ := id C
  have hown : s.vm.findClass "MuseumHouseModel" = some m.cls := hown
  have hS : va_S (mA ad s.heap.size) s.heap s.heap [] := va_S.rf
  have hl := lv_entry ([.ref (ad 0)]) (n := 1) (Nat.le_of_ble_eq_true rfl)
  rw [lg_entry_eq]
  generalize (lg_sl ([.ref (ad 0)]) ++ List.replicate (1 - (lg_sl ([.ref (ad 0)])).length) Slot.unset).toArray = ls at hl ⊢
  have hl : lv_has ls 1 [(0, .ref (ad 0))] := hl
  unfold f_Md_thrown at h
  refine lv_aload_n hx hb d_Md_thrown_0 rfl (lv_at hl 0 rfl) ?_
  refine va_get (D := D) (ci := 11) (v := .int (st.1 0)) (C := R_Md) (T := T_Md) (N := 27) hx hb hts iw_Md hown G.1 hP 0 rfl rfl 0 (by decide) (hts _ wd_4_223) (fun _ h9 => h9) rfl d_Md_thrown_1 ?_
  have h := Option.some.inj h
  exact W.iret (v := (st.1 0)) hx hb hr (fun t ht _ => ⟨by rw [h], ht⟩) (fun _ q => by cases q) d_Md_thrown_4
set_option maxHeartbeats 4000000 in
set_option maxRecDepth 100000 in
theorem c_Md_is (l : Launch) (D : va_G) (ca : Nat → ClassId) (ad : Nat → Nat) (st : pu_St) (sz : Nat) (x1 x2 : Int32) (r : Int32) (h : f_Md_is st x1 x2 = some r) : Met l y_Md_is (.code y_Md_is b_Md_is 3 (some .boolean) :: tG) { frames := 0, cells := 0, slots := 0, locals := 0 } (va_Pc [.ref (ad 0), .int x1, .int x2] (mPc D ca ad st sz)) (QcRead r) 0 0 (fun _ => False) := by
  refine mRead (by decide +kernel) ?_
  intro p e s m below meth c C G hP
  obtain ⟨hx, hb, hml, hr, hlocks, hno, hown, hts⟩ := id C
  have hown : s.vm.findClass "MuseumHouseModel" = some m.cls := hown
  have hS : va_S (mA ad s.heap.size) s.heap s.heap [] := va_S.rf
  have hl := lv_entry ([.ref (ad 0), .int x1, .int x2]) (n := 3) (Nat.le_of_ble_eq_true rfl)
  rw [lg_entry_eq]
  generalize (lg_sl ([.ref (ad 0), .int x1, .int x2]) ++ List.replicate (3 - (lg_sl ([.ref (ad 0), .int x1, .int x2])).length) Slot.unset).toArray = ls at hl ⊢
  have hl : lv_has ls 3 [(0, .ref (ad 0)), (1, .int x1), (2, .int x2)] := hl
  unfold f_Md_is at h
  refine lv_iload_n hx hb d_Md_is_0 rfl (lv_at hl 1 rfl) ?_
  refine lv_bipush (v := 100) hx hb d_Md_is_1 (by decide) ?_
  refine lv_iload_n hx hb d_Md_is_3 rfl (lv_at hl 2 rfl) ?_
  refine lv_imul hx hb d_Md_is_4 ?_
  refine lv_icmp_lt (tgt := 27) hx hb d_Md_is_5 (by decide) (fun c1 => ?_) (fun c1 => ?_)
  · rw [if_pos c1] at h
    refine lv_iconst (v := 0) hx hb d_Md_is_27 (by decide) ?_
    have h := Option.some.inj h
    exact W.zret (v := 0) (ty := .boolean) hx hb hr rfl (fun t ht _ => ⟨by rw [h], ht⟩) (fun _ q => by cases q) d_Md_is_28
  · rw [if_neg c1] at h
    refine lv_iload_n hx hb d_Md_is_8 rfl (lv_at hl 1 rfl) ?_
    refine lv_bipush (v := 100) hx hb d_Md_is_9 (by decide) ?_
    refine lv_iload_n hx hb d_Md_is_11 rfl (lv_at hl 2 rfl) ?_
    refine lv_imul hx hb d_Md_is_12 ?_
    refine lv_aload_n hx hb d_Md_is_13 rfl (lv_at hl 0 rfl) ?_
    refine va_get (D := D) (ci := 11) (v := .ref (ad 1)) (C := R_Md) (T := T_Md) (N := 27) hx hb hts iw_Md hown G.1 hP 0 rfl rfl 3 (by decide) (hts _ wd_4_226) (fun _ h9 => h9) rfl d_Md_is_14 ?_
    refine lv_iload_n hx hb d_Md_is_17 rfl (lv_at hl 2 rfl) ?_
    obtain ⟨v2, e_v2, h⟩ := pu_ob h
    refine pu_iald hx hb G.1 hP 1 0 rfl rfl e_v2 d_Md_is_18 ?_
    refine lv_iadd hx hb d_Md_is_19 ?_
    refine lv_icmp_ge (tgt := 27) hx hb d_Md_is_20 (by decide) (fun c3 => ?_) (fun c3 => ?_)
    · rw [if_pos c3] at h
      refine lv_iconst (v := 0) hx hb d_Md_is_27 (by decide) ?_
      have h := Option.some.inj h
      exact W.zret (v := 0) (ty := .boolean) hx hb hr rfl (fun t ht _ => ⟨by rw [h], ht⟩) (fun _ q => by cases q) d_Md_is_28
    · rw [if_neg c3] at h
      refine lv_iconst (v := 1) hx hb d_Md_is_23 (by decide) ?_
      refine lv_goto (tgt := 28) hx hb d_Md_is_24 (by decide) ?_
      have h := Option.some.inj h
      exact W.zret (v := 1) (ty := .boolean) hx hb hr rfl (fun t ht _ => ⟨by rw [h], ht⟩) (fun _ q => by cases q) d_Md_is_28
set_option maxHeartbeats 4000000 in
set_option maxRecDepth 100000 in
theorem c_Md_may (l : Launch) (D : va_G) (ca : Nat → ClassId) (ad : Nat → Nat) (st : pu_St) (sz : Nat) (x1 x2 : Int32) (r : Int32) (h : f_Md_may st x1 x2 = some r) : Met l y_Md_may (.code y_Md_may b_Md_may 3 (some .boolean) :: tG) { frames := 0, cells := 0, slots := 0, locals := 0 } (va_Pc [.ref (ad 0), .int x1, .int x2] (mPc D ca ad st sz)) (QcRead r) 0 0 (fun _ => False) := by
  refine mRead (by decide +kernel) ?_
  intro p e s m below meth c C G hP
  obtain ⟨hx, hb, hml, hr, hlocks, hno, hown, hts⟩ := id C
  have hown : s.vm.findClass "MuseumHouseModel" = some m.cls := hown
  have hS : va_S (mA ad s.heap.size) s.heap s.heap [] := va_S.rf
  have hl := lv_entry ([.ref (ad 0), .int x1, .int x2]) (n := 3) (Nat.le_of_ble_eq_true rfl)
  rw [lg_entry_eq]
  generalize (lg_sl ([.ref (ad 0), .int x1, .int x2]) ++ List.replicate (3 - (lg_sl ([.ref (ad 0), .int x1, .int x2])).length) Slot.unset).toArray = ls at hl ⊢
  have hl : lv_has ls 3 [(0, .ref (ad 0)), (1, .int x1), (2, .int x2)] := hl
  unfold f_Md_may at h
  refine lv_aload_n hx hb d_Md_may_0 rfl (lv_at hl 0 rfl) ?_
  refine va_get (D := D) (ci := 11) (v := .ref (ad 2)) (C := R_Md) (T := T_Md) (N := 27) hx hb hts iw_Md hown G.1 hP 0 rfl rfl 4 (by decide) (hts _ wd_4_227) (fun _ h9 => h9) rfl d_Md_may_1 ?_
  refine lv_iload_n hx hb d_Md_may_4 rfl (lv_at hl 1 rfl) ?_
  refine lv_bipush (v := 100) hx hb d_Md_may_5 (by decide) ?_
  refine lv_isub hx hb d_Md_may_7 ?_
  obtain ⟨v1, e_v1, h⟩ := pu_ob h
  refine pu_iald hx hb G.1 hP 2 1 rfl rfl e_v1 d_Md_may_8 ?_
  refine lv_iload_n hx hb d_Md_may_9 rfl (lv_at hl 2 rfl) ?_
  refine lv_iand hx hb d_Md_may_10 ?_
  refine lv_if_le (tgt := 18) hx hb d_Md_may_11 (by decide) (fun c2 => ?_) (fun c2 => ?_)
  · rw [if_pos c2] at h
    refine lv_iconst (v := 0) hx hb d_Md_may_18 (by decide) ?_
    have h := Option.some.inj h
    exact W.zret (v := 0) (ty := .boolean) hx hb hr rfl (fun t ht _ => ⟨by rw [h], ht⟩) (fun _ q => by cases q) d_Md_may_19
  · rw [if_neg c2] at h
    refine lv_iconst (v := 1) hx hb d_Md_may_14 (by decide) ?_
    refine lv_goto (tgt := 19) hx hb d_Md_may_15 (by decide) ?_
    have h := Option.some.inj h
    exact W.zret (v := 1) (ty := .boolean) hx hb hr rfl (fun t ht _ => ⟨by rw [h], ht⟩) (fun _ q => by cases q) d_Md_may_19
set_option maxHeartbeats 4000000 in
set_option maxRecDepth 100000 in
theorem c_Md_first (l : Launch) (D : va_G) (ca : Nat → ClassId) (ad : Nat → Nat) (st : pu_St) (sz : Nat) (x1 x2 x3 x4 : Int32) (r : Int32) (h : f_Md_first st x1 x2 x3 x4 = some r) : Met l y_Md_first (.code y_Md_first b_Md_first 5 (some .int) :: tG) { frames := 1, cells := 0, slots := 0, locals := 22 } (va_Pc [.ref (ad 0), .int x1, .int x2, .int x3, .int x4] (mPc D ca ad st sz)) (QcRead r) 0 0 (fun _ => False) := by
  refine mRead (by decide +kernel) ?_
  intro p e s m below meth c C G hP
  obtain ⟨hx, hb, hml, hr, hlocks, hno, hown, hts⟩ := id C
  have hown : s.vm.findClass "MuseumHouseModel" = some m.cls := hown
  have hS : va_S (mA ad s.heap.size) s.heap s.heap [] := va_S.rf
  have hl := lv_entry ([.ref (ad 0), .int x1, .int x2, .int x3, .int x4]) (n := 5) (Nat.le_of_ble_eq_true rfl)
  rw [lg_entry_eq]
  generalize (lg_sl ([.ref (ad 0), .int x1, .int x2, .int x3, .int x4]) ++ List.replicate (5 - (lg_sl ([.ref (ad 0), .int x1, .int x2, .int x3, .int x4])).length) Slot.unset).toArray = ls at hl ⊢
  have hl : lv_has ls 5 [(0, .ref (ad 0)), (1, .int x1), (2, .int x2), (3, .int x3), (4, .int x4)] := hl
  unfold f_Md_first at h
  refine lv_iload_n hx hb d_Md_first_0 rfl (lv_at hl 1 rfl) ?_
  refine lv_if_eq (tgt := 13) hx hb d_Md_first_1 (by decide) (fun c1 => ?_) (fun c1 => ?_)
  · rw [if_pos c1] at h
    refine lv_iconst (v := 1) hx hb d_Md_first_13 (by decide) ?_
    have h := Option.some.inj h
    exact W.iret (v := 1) hx hb hr (fun t ht _ => ⟨by rw [h], ht⟩) (fun _ q => by cases q) d_Md_first_14
  · rw [if_neg c1] at h
    refine lv_aload_n hx hb d_Md_first_4 rfl (lv_at hl 0 rfl) ?_
    refine lv_iload_n hx hb d_Md_first_5 rfl (lv_at hl 2 rfl) ?_
    refine lv_iconst (v := 1) hx hb d_Md_first_6 (by decide) ?_
    obtain ⟨v2, e_v2, h⟩ := pu_ob h
    refine pu_callR (va_runV (As := [.int x2, .int 1]) (rest := []) ⟨hx, hb, hml, hown, hts⟩ (c_Md_is l D ca ad st _ x2 1 v2 e_v2) (xCW (C := "MuseumHouseModel") 2 hts wd_5_80 wd_1_13 wd_5_77 wd_5_79 wd_0_14 (by decide +kernel) ⟨Nat.le_of_ble_eq_true rfl, Nat.le_of_ble_eq_true rfl⟩) (G.preV hP hS 0 rfl rfl) rfl rfl hl.1 rfl (lv_room (Nat.le_of_ble_eq_true rfl)) d_Md_first_7 ⟨Nat.zero_le _, Nat.zero_le _⟩) ?_
    refine lv_if_ne (tgt := 15) hx hb d_Md_first_10 (by decide) (fun c3 => ?_) (fun c3 => ?_)
    · rw [if_neg c3] at h
      refine lv_aload_n hx hb d_Md_first_15 rfl (lv_at hl 0 rfl) ?_
      refine lv_iload_n hx hb d_Md_first_16 rfl (lv_at hl 2 rfl) ?_
      refine lv_iload_n hx hb d_Md_first_17 rfl (lv_at hl 3 rfl) ?_
      obtain ⟨v4, e_v4, h⟩ := pu_ob h
      refine pu_callR (va_runV (As := [.int x2, .int x3]) (rest := []) ⟨hx, hb, hml, hown, hts⟩ (c_Md_may l D ca ad st _ x2 x3 v4 e_v4) (xCW (C := "MuseumHouseModel") 2 hts wd_5_84 wd_1_13 wd_5_81 wd_5_83 wd_0_15 (by decide +kernel) ⟨Nat.le_of_ble_eq_true rfl, Nat.le_of_ble_eq_true rfl⟩) (G.preV hP hS 0 rfl rfl) rfl rfl hl.1 rfl (lv_room (Nat.le_of_ble_eq_true rfl)) d_Md_first_18 ⟨Nat.zero_le _, Nat.zero_le _⟩) ?_
      refine lv_if_ne (tgt := 28) hx hb d_Md_first_21 (by decide) (fun c5 => ?_) (fun c5 => ?_)
      · rw [if_neg c5] at h
        refine lv_iload hx hb d_Md_first_28 (lv_at hl 4 rfl) ?_
        refine lv_if_ne (tgt := 37) hx hb d_Md_first_30 (by decide) (fun c6 => ?_) (fun c6 => ?_)
        · rw [if_neg c6] at h
          refine lv_iconst (v := 0) hx hb d_Md_first_37 (by decide) ?_
          have h := Option.some.inj h
          exact W.iret (v := 0) hx hb hr (fun t ht _ => ⟨by rw [h], ht⟩) (fun _ q => by cases q) d_Md_first_38
        · rw [if_pos c6] at h
          refine lv_iconst (v := 3) hx hb d_Md_first_33 (by decide) ?_
          refine lv_goto (tgt := 38) hx hb d_Md_first_34 (by decide) ?_
          have h := Option.some.inj h
          exact W.iret (v := 3) hx hb hr (fun t ht _ => ⟨by rw [h], ht⟩) (fun _ q => by cases q) d_Md_first_38
      · rw [if_pos c5] at h
        refine lv_iconst (v := 2) hx hb d_Md_first_24 (by decide) ?_
        refine lv_goto (tgt := 38) hx hb d_Md_first_25 (by decide) ?_
        have h := Option.some.inj h
        exact W.iret (v := 2) hx hb hr (fun t ht _ => ⟨by rw [h], ht⟩) (fun _ q => by cases q) d_Md_first_38
    · rw [if_pos c3] at h
      refine lv_iconst (v := 1) hx hb d_Md_first_13 (by decide) ?_
      have h := Option.some.inj h
      exact W.iret (v := 1) hx hb hr (fun t ht _ => ⟨by rw [h], ht⟩) (fun _ q => by cases q) d_Md_first_14
set_option maxHeartbeats 4000000 in
set_option maxRecDepth 100000 in
theorem c_Md_lies (l : Launch) (D : va_G) (ca : Nat → ClassId) (ad : Nat → Nat) (st : pu_St) (sz : Nat) (x0 x1 x2 : Int32) (r : Int32) (h : f_Md_lies st x0 x1 x2 = some r) : Met l y_Md_lies (.code y_Md_lies b_Md_lies 3 (some .boolean) :: tG) { frames := 0, cells := 0, slots := 0, locals := 0 } (va_Pc [.int x0, .int x1, .int x2] (mPc D ca ad st sz)) (QcRead r) 0 0 (fun _ => False) := by
  refine mRead (by decide +kernel) ?_
  intro p e s m below meth c C G hP
  obtain ⟨hx, hb, hml, hr, hlocks, hno, hown, hts⟩ := id C
  have hown : s.vm.findClass "MuseumHouseModel" = some m.cls := hown
  have hS : va_S (mA ad s.heap.size) s.heap s.heap [] := va_S.rf
  have hl := lv_entry ([.int x0, .int x1, .int x2]) (n := 3) (Nat.le_of_ble_eq_true rfl)
  rw [lg_entry_eq]
  generalize (lg_sl ([.int x0, .int x1, .int x2]) ++ List.replicate (3 - (lg_sl ([.int x0, .int x1, .int x2])).length) Slot.unset).toArray = ls at hl ⊢
  have hl : lv_has ls 3 [(0, .int x0), (1, .int x1), (2, .int x2)] := hl
  unfold f_Md_lies at h
  refine lv_iload_n hx hb d_Md_lies_0 rfl (lv_at hl 0 rfl) ?_
  refine lv_iload_n hx hb d_Md_lies_1 rfl (lv_at hl 1 rfl) ?_
  refine lv_icmp_lt (tgt := 14) hx hb d_Md_lies_2 (by decide) (fun c1 => ?_) (fun c1 => ?_)
  · rw [if_pos c1] at h
    refine lv_iconst (v := 0) hx hb d_Md_lies_14 (by decide) ?_
    have h := Option.some.inj h
    exact W.zret (v := 0) (ty := .boolean) hx hb hr rfl (fun t ht _ => ⟨by rw [h], ht⟩) (fun _ q => by cases q) d_Md_lies_15
  · rw [if_neg c1] at h
    refine lv_iload_n hx hb d_Md_lies_5 rfl (lv_at hl 0 rfl) ?_
    refine lv_iload_n hx hb d_Md_lies_6 rfl (lv_at hl 2 rfl) ?_
    refine lv_icmp_gt (tgt := 14) hx hb d_Md_lies_7 (by decide) (fun c2 => ?_) (fun c2 => ?_)
    · rw [if_pos c2] at h
      refine lv_iconst (v := 0) hx hb d_Md_lies_14 (by decide) ?_
      have h := Option.some.inj h
      exact W.zret (v := 0) (ty := .boolean) hx hb hr rfl (fun t ht _ => ⟨by rw [h], ht⟩) (fun _ q => by cases q) d_Md_lies_15
    · rw [if_neg c2] at h
      refine lv_iconst (v := 1) hx hb d_Md_lies_10 (by decide) ?_
      refine lv_goto (tgt := 15) hx hb d_Md_lies_11 (by decide) ?_
      have h := Option.some.inj h
      exact W.zret (v := 1) (ty := .boolean) hx hb hr rfl (fun t ht _ => ⟨by rw [h], ht⟩) (fun _ q => by cases q) d_Md_lies_15
set_option maxHeartbeats 4000000 in
set_option maxRecDepth 100000 in
theorem c_Md_then (l : Launch) (D : va_G) (ca : Nat → ClassId) (ad : Nat → Nat) (st : pu_St) (sz : Nat) (x0 x1 x2 : Int32) (r : Int32) (h : f_Md_then st x0 x1 x2 = some r) : Met l y_Md_then (.code y_Md_then b_Md_then 3 (some .int) :: tG) { frames := 0, cells := 0, slots := 0, locals := 0 } (va_Pc [.int x0, .int x1, .int x2] (mPc D ca ad st sz)) (QcRead r) 0 0 (fun _ => False) := by
  refine mRead (by decide +kernel) ?_
  intro p e s m below meth c C G hP
  obtain ⟨hx, hb, hml, hr, hlocks, hno, hown, hts⟩ := id C
  have hown : s.vm.findClass "MuseumHouseModel" = some m.cls := hown
  have hS : va_S (mA ad s.heap.size) s.heap s.heap [] := va_S.rf
  have hl := lv_entry ([.int x0, .int x1, .int x2]) (n := 3) (Nat.le_of_ble_eq_true rfl)
  rw [lg_entry_eq]
  generalize (lg_sl ([.int x0, .int x1, .int x2]) ++ List.replicate (3 - (lg_sl ([.int x0, .int x1, .int x2])).length) Slot.unset).toArray = ls at hl ⊢
  have hl : lv_has ls 3 [(0, .int x0), (1, .int x1), (2, .int x2)] := hl
  unfold f_Md_then at h
  refine lv_iload_n hx hb d_Md_then_0 rfl (lv_at hl 0 rfl) ?_
  refine lv_if_gt (tgt := 8) hx hb d_Md_then_1 (by decide) (fun c1 => ?_) (fun c1 => ?_)
  · rw [if_pos c1] at h
    refine lv_iload_n hx hb d_Md_then_8 rfl (lv_at hl 0 rfl) ?_
    refine lv_goto (tgt := 13) hx hb d_Md_then_9 (by decide) ?_
    have h := Option.some.inj h
    exact W.iret (v := x0) hx hb hr (fun t ht _ => ⟨by rw [h], ht⟩) (fun _ q => by cases q) d_Md_then_13
  · rw [if_neg c1] at h
    refine lv_iload_n hx hb d_Md_then_4 rfl (lv_at hl 1 rfl) ?_
    refine lv_if_eq (tgt := 12) hx hb d_Md_then_5 (by decide) (fun c2 => ?_) (fun c2 => ?_)
    · rw [if_pos c2] at h
      refine lv_iload_n hx hb d_Md_then_12 rfl (lv_at hl 2 rfl) ?_
      have h := Option.some.inj h
      exact W.iret (v := x2) hx hb hr (fun t ht _ => ⟨by rw [h], ht⟩) (fun _ q => by cases q) d_Md_then_13
    · rw [if_neg c2] at h
      refine lv_iload_n hx hb d_Md_then_8 rfl (lv_at hl 0 rfl) ?_
      refine lv_goto (tgt := 13) hx hb d_Md_then_9 (by decide) ?_
      have h := Option.some.inj h
      exact W.iret (v := x0) hx hb hr (fun t ht _ => ⟨by rw [h], ht⟩) (fun _ q => by cases q) d_Md_then_13
set_option maxHeartbeats 4000000 in
set_option maxRecDepth 100000 in
theorem t_Md_holds_b44 {l : Launch} (htl : l.stackTraces = false) {p : Program} {e : Env} {s : State} {m : MethodId} {args : Array Value} {below : List Frame} {meth : Method} {c : Code} {D : va_G} {ca : Nat → ClassId} {ad : Nat → Nat} {st' : pu_St} {v : Int32} (C : hC p s m meth c args b_Md_holds 2 (some .boolean) "MuseumHouseModel") (G : mX D ca ad (mA ad s.heap.size) s) :
    ∀ (_ : Unit) (st : pu_St) (x1 z0 : Int32), f_Md_holds_b44 st x1 z0 = some (v, st') → ∀ (H : Heap) (locs : List Loc), va_P D hcl (mW ca ad st) H → va_S (mA ad s.heap.size) s.heap H locs → ∀ ls : Array Slot, lv_has ls 2 [(0, .ref (ad 0)), (1, .int x1)] → W p l e { frames := 0, cells := 0, slots := 0, locals := 0 } s m args below meth c H locs 0 0 (MQX below (mQ D ca ad (fun v => some (.int v)) (.inl v) st' s.heap.size) args s 0 0 (mA ad s.heap.size)) (F0 m 44 ls [.int z0, .ref (ad 0)]) := by
  obtain ⟨hx, hb, hml, hr, hlocks, hno, hown, hts⟩ := id C
  intro _ st x1 z0 h H locs hP hS ls hl
  unfold f_Md_holds_b44 at h
  refine va_put (D := D) (ci := 11) (v := .int z0) (ty := .int) (C := R_Md) (T := T_Md) (N := 27) hx hb hts iw_Md ty_Md to_Md nm_Md hown G.1 hP (G.D) hS 0 rfl rfl 0 (by decide) (hts _ wd_4_223) (fun _ h9 => h9) rfl (by decide +kernel) rfl rfl (Nat.le_of_ble_eq_true rfl) d_Md_holds_44 (fun H locs hP _ hS => ?_)
  have hP : va_P D hcl (mW ca ad (va_up st.1 0 z0, st.2)) H := hP
  refine lv_iload_n hx hb d_Md_holds_47 rfl (lv_at hl 1 rfl) ?_
  refine lv_if_ne (tgt := 55) hx hb d_Md_holds_48 (by decide) (fun c5 => ?_) (fun c5 => ?_)
  · rw [if_neg c5] at h
    refine lv_iconst (v := 0) hx hb d_Md_holds_55 (by decide) ?_
    cases h
    exact W.toX (W.zret (ty := .boolean) hx hb hr rfl (fun t ht _ => ⟨rfl, by rw [ht]; exact hP, hS.F ht⟩) hS.2.2 d_Md_holds_56)
  · rw [if_pos c5] at h
    refine lv_iconst (v := 1) hx hb d_Md_holds_51 (by decide) ?_
    refine lv_goto (tgt := 56) hx hb d_Md_holds_52 (by decide) ?_
    cases h
    exact W.toX (W.zret (ty := .boolean) hx hb hr rfl (fun t ht _ => ⟨rfl, by rw [ht]; exact hP, hS.F ht⟩) hS.2.2 d_Md_holds_56)
set_option maxHeartbeats 4000000 in
set_option maxRecDepth 100000 in
theorem t_Md_holds_b13 {l : Launch} (htl : l.stackTraces = false) {p : Program} {e : Env} {s : State} {m : MethodId} {args : Array Value} {below : List Frame} {meth : Method} {c : Code} {D : va_G} {ca : Nat → ClassId} {ad : Nat → Nat} {st' : pu_St} {v : Int32} (C : hC p s m meth c args b_Md_holds 2 (some .boolean) "MuseumHouseModel") (G : mX D ca ad (mA ad s.heap.size) s) :
    ∀ (_ : Unit) (st : pu_St) (x1 z0 : Int32), f_Md_holds_b13 st x1 z0 = some (v, st') → ∀ (H : Heap) (locs : List Loc), va_P D hcl (mW ca ad st) H → va_S (mA ad s.heap.size) s.heap H locs → ∀ ls : Array Slot, lv_has ls 2 [(0, .ref (ad 0)), (1, .int x1)] → W p l e { frames := 0, cells := 0, slots := 0, locals := 0 } s m args below meth c H locs 0 0 (MQX below (mQ D ca ad (fun v => some (.int v)) (.inl v) st' s.heap.size) args s 0 0 (mA ad s.heap.size)) (F0 m 13 ls [.int z0, .ref (ad 0)]) := by
  obtain ⟨hx, hb, hml, hr, hlocks, hno, hown, hts⟩ := id C
  intro _ st x1 z0 h H locs hP hS ls hl
  unfold f_Md_holds_b13 at h
  refine va_put (D := D) (ci := 11) (v := .int z0) (ty := .int) (C := R_Md) (T := T_Md) (N := 27) hx hb hts iw_Md ty_Md to_Md nm_Md hown G.1 hP (G.D) hS 0 rfl rfl 1 (by decide) (hts _ wd_4_224) (fun _ h9 => h9) rfl (by decide +kernel) rfl rfl (Nat.le_of_ble_eq_true rfl) d_Md_holds_13 (fun H locs hP _ hS => ?_)
  have hP : va_P D hcl (mW ca ad (va_up st.1 1 z0, st.2)) H := hP
  refine lv_aload_n hx hb d_Md_holds_16 rfl (lv_at hl 0 rfl) ?_
  refine lv_iload_n hx hb d_Md_holds_17 rfl (lv_at hl 1 rfl) ?_
  refine lv_if_ne (tgt := 25) hx hb d_Md_holds_18 (by decide) (fun c2 => ?_) (fun c2 => ?_)
  · rw [if_neg c2] at h
    refine lv_iload_n hx hb d_Md_holds_25 rfl (lv_at hl 1 rfl) ?_
    refine lv_iconst (v := 1) hx hb d_Md_holds_26 (by decide) ?_
    refine lv_icmp_ne (tgt := 34) hx hb d_Md_holds_27 (by decide) (fun c3 => ?_) (fun c3 => ?_)
    · rw [if_neg c3] at h
      refine lv_iload_n hx hb d_Md_holds_34 rfl (lv_at hl 1 rfl) ?_
      refine lv_iconst (v := 4) hx hb d_Md_holds_35 (by decide) ?_
      refine lv_icmp_ge (tgt := 43) hx hb d_Md_holds_36 (by decide) (fun c4 => ?_) (fun c4 => ?_)
      · rw [if_pos c4] at h
        refine lv_iconst (v := 3) hx hb d_Md_holds_43 (by decide) ?_
        exact t_Md_holds_b44 htl C G () (va_up st.1 1 z0, st.2) x1 3 h _ _ hP hS ls (lv_sub hl [0, 1] rfl)
      · rw [if_neg c4] at h
        refine lv_iconst (v := 2) hx hb d_Md_holds_39 (by decide) ?_
        refine lv_goto (tgt := 44) hx hb d_Md_holds_40 (by decide) ?_
        exact t_Md_holds_b44 htl C G () (va_up st.1 1 z0, st.2) x1 2 h _ _ hP hS ls (lv_sub hl [0, 1] rfl)
    · rw [if_pos c3] at h
      refine lv_iconst (v := 1) hx hb d_Md_holds_30 (by decide) ?_
      refine lv_goto (tgt := 44) hx hb d_Md_holds_31 (by decide) ?_
      exact t_Md_holds_b44 htl C G () (va_up st.1 1 z0, st.2) x1 1 h _ _ hP hS ls (lv_sub hl [0, 1] rfl)
  · rw [if_pos c2] at h
    refine lv_iconst (v := 0) hx hb d_Md_holds_21 (by decide) ?_
    refine lv_goto (tgt := 44) hx hb d_Md_holds_22 (by decide) ?_
    exact t_Md_holds_b44 htl C G () (va_up st.1 1 z0, st.2) x1 0 h _ _ hP hS ls (lv_sub hl [0, 1] rfl)
set_option maxHeartbeats 4000000 in
set_option maxRecDepth 100000 in
theorem c_Md_holds (l : Launch) (htl : l.stackTraces = false) (D : va_G) (ca : Nat → ClassId) (ad : Nat → Nat) (st : pu_St) (sz : Nat) (x1 : Int32) (v : Int32) (st' : pu_St) (h : f_Md_holds st x1 = some (v, st')) : MetX l y_Md_holds (.code y_Md_holds b_Md_holds 2 (some .boolean) :: tG) { frames := 0, cells := 0, slots := 0, locals := 0 } (va_Pc [.ref (ad 0), .int x1] (mPc D ca ad st sz)) (mQ D ca ad (fun v => some (.int v)) (.inl v) st' sz) 0 0 (mA ad sz) := by
  refine mMet (by decide +kernel) ?_
  intro p e s m below meth c hsz C G hP
  obtain ⟨hx, hb, hml, hr, hlocks, hno, hown, hts⟩ := id C
  have hown : s.vm.findClass "MuseumHouseModel" = some m.cls := hown
  have hS : va_S (mA ad s.heap.size) s.heap s.heap [] := va_S.rf
  have hl := lv_entry ([.ref (ad 0), .int x1]) (n := 2) (Nat.le_of_ble_eq_true rfl)
  rw [lg_entry_eq]
  generalize (lg_sl ([.ref (ad 0), .int x1]) ++ List.replicate (2 - (lg_sl ([.ref (ad 0), .int x1])).length) Slot.unset).toArray = ls at hl ⊢
  have hl : lv_has ls 2 [(0, .ref (ad 0)), (1, .int x1)] := hl
  unfold f_Md_holds at h
  refine lv_aload_n hx hb d_Md_holds_0 rfl (lv_at hl 0 rfl) ?_
  refine lv_iload_n hx hb d_Md_holds_1 rfl (lv_at hl 1 rfl) ?_
  refine lv_if_ne (tgt := 12) hx hb d_Md_holds_2 (by decide) (fun c1 => ?_) (fun c1 => ?_)
  · rw [if_neg c1] at h
    refine lv_iload_n hx hb d_Md_holds_12 rfl (lv_at hl 1 rfl) ?_
    exact t_Md_holds_b13 htl C G () st x1 x1 h _ _ hP hS ls (lv_sub hl [0, 1] rfl)
  · rw [if_pos c1] at h
    refine lv_aload_n hx hb d_Md_holds_5 rfl (lv_at hl 0 rfl) ?_
    refine va_get (D := D) (ci := 11) (v := .int (st.1 1)) (C := R_Md) (T := T_Md) (N := 27) hx hb hts iw_Md hown G.1 hP 0 rfl rfl 1 (by decide) (hts _ wd_4_224) (fun _ h9 => h9) rfl d_Md_holds_6 ?_
    refine lv_goto (tgt := 13) hx hb d_Md_holds_9 (by decide) ?_
    exact t_Md_holds_b13 htl C G () st x1 (st.1 1) h _ _ hP hS ls (lv_sub hl [0, 1] rfl)
set_option maxHeartbeats 4000000 in
set_option maxRecDepth 100000 in
theorem c_Md_made (l : Launch) (htl : l.stackTraces = false) (D : va_G) (ca : Nat → ClassId) (ad : Nat → Nat) (st : pu_St) (sz : Nat) (x1 : Int32) (v : Int32) (st' : pu_St) (h : f_Md_made st x1 = some (v, st')) : MetX l y_Md_made (.code y_Md_made b_Md_made 2 (some .int) :: tG) { frames := 0, cells := 0, slots := 0, locals := 0 } (va_Pc [.ref (ad 0), .int x1] (mPc D ca ad st sz)) (mQ D ca ad (fun v => some (.int v)) (.inl v) st' sz) 0 0 (mA ad sz) := by
  refine mMet (by decide +kernel) ?_
  intro p e s m below meth c hsz C G hP
  obtain ⟨hx, hb, hml, hr, hlocks, hno, hown, hts⟩ := id C
  have hown : s.vm.findClass "MuseumHouseModel" = some m.cls := hown
  have hS : va_S (mA ad s.heap.size) s.heap s.heap [] := va_S.rf
  have hl := lv_entry ([.ref (ad 0), .int x1]) (n := 2) (Nat.le_of_ble_eq_true rfl)
  rw [lg_entry_eq]
  generalize (lg_sl ([.ref (ad 0), .int x1]) ++ List.replicate (2 - (lg_sl ([.ref (ad 0), .int x1])).length) Slot.unset).toArray = ls at hl ⊢
  have hl : lv_has ls 2 [(0, .ref (ad 0)), (1, .int x1)] := hl
  unfold f_Md_made at h
  refine lv_aload_n hx hb d_Md_made_0 rfl (lv_at hl 0 rfl) ?_
  refine va_get (D := D) (ci := 11) (v := .ref (ad 1)) (C := R_Md) (T := T_Md) (N := 27) hx hb hts iw_Md hown G.1 hP 0 rfl rfl 3 (by decide) (hts _ wd_4_226) (fun _ h9 => h9) rfl d_Md_made_1 ?_
  refine lv_iload_n hx hb d_Md_made_4 rfl (lv_at hl 1 rfl) ?_
  refine lv_dup2_11 hx hb d_Md_made_5 rfl rfl ?_
  obtain ⟨v1, e_v1, h⟩ := pu_ob h
  refine pu_iald hx hb G.1 hP 1 0 rfl rfl e_v1 d_Md_made_6 ?_
  refine lv_iconst (v := 1) hx hb d_Md_made_7 (by decide) ?_
  refine lv_iadd hx hb d_Md_made_8 ?_
  obtain ⟨g2, e_g2, h⟩ := pu_ob h
  refine pu_iast hx hb G.1 hP (G.D) hS 1 0 rfl rfl e_g2 d_Md_made_9 (fun H locs hP hS => ?_)
  have hP : va_P D hcl (mW ca ad (st.1, va_up st.2 0 g2)) H := hP
  refine lv_bipush (v := 100) hx hb d_Md_made_10 (by decide) ?_
  refine lv_iload_n hx hb d_Md_made_12 rfl (lv_at hl 1 rfl) ?_
  refine lv_imul hx hb d_Md_made_13 ?_
  refine lv_aload_n hx hb d_Md_made_14 rfl (lv_at hl 0 rfl) ?_
  refine va_get (D := D) (ci := 11) (v := .ref (ad 1)) (C := R_Md) (T := T_Md) (N := 27) hx hb hts iw_Md hown G.1 hP 0 rfl rfl 3 (by decide) (hts _ wd_4_226) (fun _ h9 => h9) rfl d_Md_made_15 ?_
  refine lv_iload_n hx hb d_Md_made_18 rfl (lv_at hl 1 rfl) ?_
  obtain ⟨v3, e_v3, h⟩ := pu_ob h
  refine pu_iald hx hb G.1 hP 1 0 rfl rfl e_v3 d_Md_made_19 ?_
  refine lv_iadd hx hb d_Md_made_20 ?_
  refine lv_iconst (v := 1) hx hb d_Md_made_21 (by decide) ?_
  refine lv_isub hx hb d_Md_made_22 ?_
  cases h
  exact W.toX (W.iret hx hb hr (fun t ht _ => ⟨rfl, by rw [ht]; exact hP, hS.F ht⟩) hS.2.2 d_Md_made_23)
set_option maxHeartbeats 4000000 in
set_option maxRecDepth 100000 in
theorem t_Md_desk_b63 {l : Launch} (htl : l.stackTraces = false) {p : Program} {e : Env} {s : State} {m : MethodId} {args : Array Value} {below : List Frame} {meth : Method} {c : Code} {D : va_G} {ca : Nat → ClassId} {ad : Nat → Nat} {st' : pu_St} {v : Int32} (C : hC p s m meth c args b_Md_desk 4 (some .int) "MuseumHouseModel") (G : mX D ca ad (mA ad s.heap.size) s) :
    ∀ (_ : Unit) (st : pu_St) (x1 x2 x3 z0 z1 : Int32), f_Md_desk_b63 st x1 x2 x3 z0 z1 = some (v, st') → ∀ (H : Heap) (locs : List Loc), va_P D hcl (mW ca ad st) H → va_S (mA ad s.heap.size) s.heap H locs → ∀ ls : Array Slot, lv_has ls 4 [(0, .ref (ad 0)), (1, .int x1), (2, .int x2), (3, .int x3)] → W p l e { frames := 2, cells := 0, slots := 0, locals := 46 } s m args below meth c H locs 0 0 (MQX below (mQ D ca ad (fun v => some (.int v)) (.inl v) st' s.heap.size) args s 0 0 (mA ad s.heap.size)) (F0 m 63 ls [.int z0, .int z1]) := by
  obtain ⟨hx, hb, hml, hr, hlocks, hno, hown, hts⟩ := id C
  intro _ st x1 x2 x3 z0 z1 h H locs hP hS ls hl
  unfold f_Md_desk_b63 at h
  refine lv_iconst (v := 5) hx hb d_Md_desk_63 (by decide) ?_
  obtain ⟨v9, e_v9, h⟩ := pu_ob h
  refine pu_callR (va_runS (As := [.int z1, .int z0, .int 5]) (rest := []) ⟨hx, hb, hml, hown, hts⟩ (c_Md_then l D ca ad st _ z1 z0 5 v9 e_v9) (xCS 3 hts wd_5_90 wd_1_13 wd_5_88 wd_5_89 (by decide +kernel) ⟨Nat.le_of_ble_eq_true rfl, Nat.le_of_ble_eq_true rfl⟩) (G.preS hP hS) rfl rfl hl.1 rfl (lv_room (Nat.le_of_ble_eq_true rfl)) d_Md_desk_64 ⟨Nat.zero_le _, Nat.zero_le _⟩) ?_
  refine lv_istore_n (lv' := [(3, .int v9), (0, .ref (ad 0)), (1, .int x1), (2, .int x2)]) hx hb d_Md_desk_67 rfl hl (by decide) rfl (fun ls hl => ?_)
  refine lv_aload_n hx hb d_Md_desk_68 rfl (lv_at hl 1 rfl) ?_
  refine lv_iload_n hx hb d_Md_desk_69 rfl (lv_at hl 0 rfl) ?_
  obtain ⟨q10, e_q10, h⟩ := pu_ob h
  refine mCallI G hS (va_runV (As := [.int v9]) (rest := []) ⟨hx, hb, hml, hown, hts⟩ (MetX.met (c_Md_holds l htl D ca ad st _ v9 q10.1 q10.2 e_q10) (fun _ _ _ _ q => ⟨_, q.1⟩)) (xCW (C := "MuseumHouseModel") 1 hts wd_5_94 wd_1_13 wd_5_91 wd_5_93 wd_0_16 (by decide +kernel) ⟨Nat.le_of_ble_eq_true rfl, Nat.le_of_ble_eq_true rfl⟩) (G.preV hP hS 0 rfl rfl) rfl rfl hl.1 rfl (lv_room (Nat.le_of_ble_eq_true rfl)) d_Md_desk_70 ⟨Nat.zero_le _, Nat.zero_le _⟩) (fun H locs hP hS => ?_)
  refine lv_if_ne (tgt := 78) hx hb d_Md_desk_73 (by decide) (fun c11 => ?_) (fun c11 => ?_)
  · rw [if_neg c11] at h
    refine lv_aload_n hx hb d_Md_desk_78 rfl (lv_at hl 1 rfl) ?_
    refine va_get (D := D) (ci := 11) (v := .ref (ad 2)) (C := R_Md) (T := T_Md) (N := 27) hx hb hts iw_Md hown G.1 hP 0 rfl rfl 4 (by decide) (hts _ wd_4_227) (fun _ h9 => h9) rfl d_Md_desk_79 ?_
    refine lv_aload_n hx hb d_Md_desk_82 rfl (lv_at hl 1 rfl) ?_
    refine va_get (D := D) (ci := 11) (v := .ref (ad 1)) (C := R_Md) (T := T_Md) (N := 27) hx hb hts iw_Md hown G.1 hP 0 rfl rfl 3 (by decide) (hts _ wd_4_226) (fun _ h9 => h9) rfl d_Md_desk_83 ?_
    refine lv_iconst (v := 1) hx hb d_Md_desk_86 (by decide) ?_
    obtain ⟨v12, e_v12, h⟩ := pu_ob h
    refine pu_iald hx hb G.1 hP 1 0 rfl rfl e_v12 d_Md_desk_87 ?_
    refine lv_iload_n hx hb d_Md_desk_88 rfl (lv_at hl 3 rfl) ?_
    obtain ⟨g13, e_g13, h⟩ := pu_ob h
    refine pu_iast hx hb G.1 hP (G.D) hS 2 1 rfl rfl e_g13 d_Md_desk_89 (fun H locs hP hS => ?_)
    have hP : va_P D hcl (mW ca ad (q10.2.1, va_up q10.2.2 1 g13)) H := hP
    refine lv_aload_n hx hb d_Md_desk_90 rfl (lv_at hl 1 rfl) ?_
    refine lv_iconst (v := 1) hx hb d_Md_desk_91 (by decide) ?_
    obtain ⟨q14, e_q14, h⟩ := pu_ob h
    refine mCallI G hS (va_runV (As := [.int 1]) (rest := []) ⟨hx, hb, hml, hown, hts⟩ (MetX.met (c_Md_made l htl D ca ad (q10.2.1, va_up q10.2.2 1 g13) _ 1 q14.1 q14.2 e_q14) (fun _ _ _ _ q => ⟨_, q.1⟩)) (xCW (C := "MuseumHouseModel") 1 hts wd_5_98 wd_1_13 wd_5_95 wd_5_97 wd_0_17 (by decide +kernel) ⟨Nat.le_of_ble_eq_true rfl, Nat.le_of_ble_eq_true rfl⟩) (G.preV hP hS 0 rfl rfl) rfl rfl hl.1 rfl (lv_room (Nat.le_of_ble_eq_true rfl)) d_Md_desk_92 ⟨Nat.zero_le _, Nat.zero_le _⟩) (fun H locs hP hS => ?_)
    cases h
    exact W.toX (W.iret hx hb hr (fun t ht _ => ⟨rfl, by rw [ht]; exact hP, hS.F ht⟩) hS.2.2 d_Md_desk_95)
  · rw [if_pos c11] at h
    refine lv_iconst (v := 0) hx hb d_Md_desk_76 (by decide) ?_
    cases h
    exact W.toX (W.iret hx hb hr (fun t ht _ => ⟨rfl, by rw [ht]; exact hP, hS.F ht⟩) hS.2.2 d_Md_desk_77)
set_option maxHeartbeats 4000000 in
set_option maxRecDepth 100000 in
theorem t_Md_desk_b58 {l : Launch} (htl : l.stackTraces = false) {p : Program} {e : Env} {s : State} {m : MethodId} {args : Array Value} {below : List Frame} {meth : Method} {c : Code} {D : va_G} {ca : Nat → ClassId} {ad : Nat → Nat} {st' : pu_St} {v : Int32} (C : hC p s m meth c args b_Md_desk 4 (some .int) "MuseumHouseModel") (G : mX D ca ad (mA ad s.heap.size) s) :
    ∀ (_ : Unit) (st : pu_St) (x1 x2 x3 z0 : Int32), f_Md_desk_b58 st x1 x2 x3 z0 = some (v, st') → ∀ (H : Heap) (locs : List Loc), va_P D hcl (mW ca ad st) H → va_S (mA ad s.heap.size) s.heap H locs → ∀ ls : Array Slot, lv_has ls 4 [(0, .ref (ad 0)), (1, .int x1), (2, .int x2), (3, .int x3)] → W p l e { frames := 2, cells := 0, slots := 0, locals := 46 } s m args below meth c H locs 0 0 (MQX below (mQ D ca ad (fun v => some (.int v)) (.inl v) st' s.heap.size) args s 0 0 (mA ad s.heap.size)) (F0 m 58 ls [.int z0]) := by
  obtain ⟨hx, hb, hml, hr, hlocks, hno, hown, hts⟩ := id C
  intro _ st x1 x2 x3 z0 h H locs hP hS ls hl
  unfold f_Md_desk_b58 at h
  refine lv_iconst (v := 1) hx hb d_Md_desk_58 (by decide) ?_
  refine lv_goto (tgt := 63) hx hb d_Md_desk_59 (by decide) ?_
  exact t_Md_desk_b63 htl C G () st x1 x2 x3 1 z0 h _ _ hP hS ls (lv_sub hl [0, 1, 2, 3] rfl)
set_option maxHeartbeats 4000000 in
set_option maxRecDepth 100000 in
theorem t_Md_desk_b20 {l : Launch} (htl : l.stackTraces = false) {p : Program} {e : Env} {s : State} {m : MethodId} {args : Array Value} {below : List Frame} {meth : Method} {c : Code} {D : va_G} {ca : Nat → ClassId} {ad : Nat → Nat} {st' : pu_St} {v : Int32} (C : hC p s m meth c args b_Md_desk 4 (some .int) "MuseumHouseModel") (G : mX D ca ad (mA ad s.heap.size) s) :
    ∀ (_ : Unit) (st : pu_St) (x1 x2 z0 z1 z2 z3 : Int32), f_Md_desk_b20 st x1 x2 z0 z1 z2 z3 = some (v, st') → ∀ (H : Heap) (locs : List Loc), va_P D hcl (mW ca ad st) H → va_S (mA ad s.heap.size) s.heap H locs → ∀ ls : Array Slot, lv_has ls 4 [(0, .ref (ad 0)), (1, .int x1), (2, .int x2)] → W p l e { frames := 2, cells := 0, slots := 0, locals := 46 } s m args below meth c H locs 0 0 (MQX below (mQ D ca ad (fun v => some (.int v)) (.inl v) st' s.heap.size) args s 0 0 (mA ad s.heap.size)) (F0 m 20 ls [.int z0, .int z1, .int z2, .int z3, .ref (ad 0)]) := by
  obtain ⟨hx, hb, hml, hr, hlocks, hno, hown, hts⟩ := id C
  intro _ st x1 x2 z0 z1 z2 z3 h H locs hP hS ls hl
  unfold f_Md_desk_b20 at h
  obtain ⟨v3, e_v3, h⟩ := pu_ob h
  refine pu_callR (va_runV (As := [.int z3, .int z2, .int z1, .int z0]) (rest := []) ⟨hx, hb, hml, hown, hts⟩ (c_Md_first l D ca ad st _ z3 z2 z1 z0 v3 e_v3) (xCW (C := "MuseumHouseModel") 4 hts wd_5_76 wd_1_13 wd_5_73 wd_5_75 wd_0_13 (by decide +kernel) ⟨Nat.le_of_ble_eq_true rfl, Nat.le_of_ble_eq_true rfl⟩) (G.preV hP hS 0 rfl rfl) rfl rfl hl.1 rfl (lv_room (Nat.le_of_ble_eq_true rfl)) d_Md_desk_20 ⟨Nat.zero_le _, Nat.zero_le _⟩) ?_
  refine lv_istore_n (lv' := [(3, .int v3), (0, .ref (ad 0)), (1, .int x1), (2, .int x2)]) hx hb d_Md_desk_23 rfl hl (by decide) rfl (fun ls hl => ?_)
  refine lv_iload_n hx hb d_Md_desk_24 rfl (lv_at hl 0 rfl) ?_
  refine lv_iload_n hx hb d_Md_desk_25 rfl (lv_at hl 3 rfl) ?_
  refine lv_iconst (v := 0) hx hb d_Md_desk_26 (by decide) ?_
  refine lv_bipush (v := 63) hx hb d_Md_desk_27 (by decide) ?_
  obtain ⟨v4, e_v4, h⟩ := pu_ob h
  refine pu_callR (va_runS (As := [.int x2, .int 0, .int 63]) (rest := [.int v3]) ⟨hx, hb, hml, hown, hts⟩ (c_Md_lies l D ca ad st _ x2 0 63 v4 e_v4) (xCS 3 hts wd_5_87 wd_1_13 wd_5_85 wd_5_86 (by decide +kernel) ⟨Nat.le_of_ble_eq_true rfl, Nat.le_of_ble_eq_true rfl⟩) (G.preS hP hS) rfl rfl hl.1 rfl (lv_room (Nat.le_of_ble_eq_true rfl)) d_Md_desk_29 ⟨Nat.zero_le _, Nat.zero_le _⟩) ?_
  refine lv_iconst (v := 4) hx hb d_Md_desk_32 (by decide) ?_
  obtain ⟨v5, e_v5, h⟩ := pu_ob h
  refine pu_callR (va_runS (As := [.int v3, .int v4, .int 4]) (rest := []) ⟨hx, hb, hml, hown, hts⟩ (c_Md_then l D ca ad st _ v3 v4 4 v5 e_v5) (xCS 3 hts wd_5_90 wd_1_13 wd_5_88 wd_5_89 (by decide +kernel) ⟨Nat.le_of_ble_eq_true rfl, Nat.le_of_ble_eq_true rfl⟩) (G.preS hP hS) rfl rfl hl.1 rfl (lv_room (Nat.le_of_ble_eq_true rfl)) d_Md_desk_33 ⟨Nat.zero_le _, Nat.zero_le _⟩) ?_
  refine lv_istore_n (lv' := [(3, .int v5), (0, .ref (ad 0)), (1, .int x1), (2, .int x2)]) hx hb d_Md_desk_36 rfl hl (by decide) rfl (fun ls hl => ?_)
  refine lv_iload_n hx hb d_Md_desk_37 rfl (lv_at hl 0 rfl) ?_
  refine lv_iload_n hx hb d_Md_desk_38 rfl (lv_at hl 0 rfl) ?_
  refine lv_if_gt (tgt := 58) hx hb d_Md_desk_39 (by decide) (fun c6 => ?_) (fun c6 => ?_)
  · rw [if_pos c6] at h
    exact t_Md_desk_b58 htl C G () st x1 x2 v5 v5 h _ _ hP hS ls (lv_sub hl [1, 2, 3, 0] rfl)
  · rw [if_neg c6] at h
    refine lv_iload_n hx hb d_Md_desk_42 rfl (lv_at hl 3 rfl) ?_
    refine lv_aload_n hx hb d_Md_desk_43 rfl (lv_at hl 1 rfl) ?_
    refine va_get (D := D) (ci := 11) (v := .ref (ad 2)) (C := R_Md) (T := T_Md) (N := 27) hx hb hts iw_Md hown G.1 hP 0 rfl rfl 4 (by decide) (hts _ wd_4_227) (fun _ h9 => h9) rfl d_Md_desk_44 ?_
    refine lv_iload_n hx hb d_Md_desk_47 rfl (lv_at hl 2 rfl) ?_
    refine lv_bipush (v := 100) hx hb d_Md_desk_48 (by decide) ?_
    refine lv_isub hx hb d_Md_desk_50 ?_
    obtain ⟨v7, e_v7, h⟩ := pu_ob h
    refine pu_iald hx hb G.1 hP 2 1 rfl rfl e_v7 d_Md_desk_51 ?_
    refine lv_iconst (v := (-1)) hx hb d_Md_desk_52 (by decide) ?_
    refine lv_ixor hx hb d_Md_desk_53 ?_
    refine lv_iand hx hb d_Md_desk_54 ?_
    refine lv_if_ne (tgt := 62) hx hb d_Md_desk_55 (by decide) (fun c8 => ?_) (fun c8 => ?_)
    · rw [if_neg c8] at h
      refine lv_iconst (v := 0) hx hb d_Md_desk_62 (by decide) ?_
      exact t_Md_desk_b63 htl C G () st x1 x2 v5 0 v5 h _ _ hP hS ls (lv_sub hl [1, 2, 3, 0] rfl)
    · rw [if_pos c8] at h
      exact t_Md_desk_b58 htl C G () st x1 x2 v5 v5 h _ _ hP hS ls (lv_sub hl [1, 2, 3, 0] rfl)
set_option maxHeartbeats 4000000 in
set_option maxRecDepth 100000 in
theorem c_Md_desk (l : Launch) (htl : l.stackTraces = false) (D : va_G) (ca : Nat → ClassId) (ad : Nat → Nat) (st : pu_St) (sz : Nat) (x1 x2 : Int32) (v : Int32) (st' : pu_St) (h : f_Md_desk st x1 x2 = some (v, st')) : MetX l y_Md_desk (.code y_Md_desk b_Md_desk 4 (some .int) :: tG) { frames := 2, cells := 0, slots := 0, locals := 46 } (va_Pc [.ref (ad 0), .int x1, .int x2] (mPc D ca ad st sz)) (mQ D ca ad (fun v => some (.int v)) (.inl v) st' sz) 0 0 (mA ad sz) := by
  refine mMet (by decide +kernel) ?_
  intro p e s m below meth c hsz C G hP
  obtain ⟨hx, hb, hml, hr, hlocks, hno, hown, hts⟩ := id C
  have hown : s.vm.findClass "MuseumHouseModel" = some m.cls := hown
  have hS : va_S (mA ad s.heap.size) s.heap s.heap [] := va_S.rf
  have hl := lv_entry ([.ref (ad 0), .int x1, .int x2]) (n := 4) (Nat.le_of_ble_eq_true rfl)
  rw [lg_entry_eq]
  generalize (lg_sl ([.ref (ad 0), .int x1, .int x2]) ++ List.replicate (4 - (lg_sl ([.ref (ad 0), .int x1, .int x2])).length) Slot.unset).toArray = ls at hl ⊢
  have hl : lv_has ls 4 [(0, .ref (ad 0)), (1, .int x1), (2, .int x2)] := hl
  unfold f_Md_desk at h
  refine lv_aload_n hx hb d_Md_desk_0 rfl (lv_at hl 0 rfl) ?_
  refine lv_iconst (v := 1) hx hb d_Md_desk_1 (by decide) ?_
  refine lv_iload_n hx hb d_Md_desk_2 rfl (lv_at hl 1 rfl) ?_
  refine lv_iconst (v := 1) hx hb d_Md_desk_3 (by decide) ?_
  refine lv_aload_n hx hb d_Md_desk_4 rfl (lv_at hl 0 rfl) ?_
  refine va_get (D := D) (ci := 11) (v := .ref (ad 1)) (C := R_Md) (T := T_Md) (N := 27) hx hb hts iw_Md hown G.1 hP 0 rfl rfl 3 (by decide) (hts _ wd_4_226) (fun _ h9 => h9) rfl d_Md_desk_5 ?_
  refine lv_iconst (v := 1) hx hb d_Md_desk_8 (by decide) ?_
  obtain ⟨v1, e_v1, h⟩ := pu_ob h
  refine pu_iald hx hb G.1 hP 1 0 rfl rfl e_v1 d_Md_desk_9 ?_
  refine lv_bipush (v := 6) hx hb d_Md_desk_10 (by decide) ?_
  refine lv_icmp_ge (tgt := 19) hx hb d_Md_desk_12 (by decide) (fun c2 => ?_) (fun c2 => ?_)
  · rw [if_pos c2] at h
    refine lv_iconst (v := 0) hx hb d_Md_desk_19 (by decide) ?_
    exact t_Md_desk_b20 htl C G () st x1 x2 0 1 x1 1 h _ _ hP hS ls (lv_sub hl [0, 1, 2] rfl)
  · rw [if_neg c2] at h
    refine lv_iconst (v := 1) hx hb d_Md_desk_15 (by decide) ?_
    refine lv_goto (tgt := 20) hx hb d_Md_desk_16 (by decide) ?_
    exact t_Md_desk_b20 htl C G () st x1 x2 1 1 x1 1 h _ _ hP hS ls (lv_sub hl [0, 1, 2] rfl)
set_option maxHeartbeats 4000000 in
set_option maxRecDepth 100000 in
theorem t_Md_day_b76 {l : Launch} (htl : l.stackTraces = false) {p : Program} {e : Env} {s : State} {m : MethodId} {args : Array Value} {below : List Frame} {meth : Method} {c : Code} {D : va_G} {ca : Nat → ClassId} {ad : Nat → Nat} {st' : pu_St} {v : Int32} (C : hC p s m meth c args b_Md_day 3 (some .int) "MuseumHouseModel") (G : mX D ca ad (mA ad s.heap.size) s) :
    ∀ (_ : Unit) (st : pu_St) (x1 x2 z0 : Int32), f_Md_day_b76 st x1 x2 z0 = some (v, st') → ∀ (H : Heap) (locs : List Loc), va_P D hcl (mW ca ad st) H → va_S (mA ad s.heap.size) s.heap H locs → ∀ ls : Array Slot, lv_has ls 3 [(0, .ref (ad 0)), (1, .int x1), (2, .int x2)] → W p l e { frames := 1, cells := 0, slots := 0, locals := 22 } s m args below meth c H locs 0 0 (MQX below (mQ D ca ad (fun v => some (.int v)) (.inl v) st' s.heap.size) args s 0 0 (mA ad s.heap.size)) (F0 m 76 ls [.int z0, .ref (ad 0)]) := by
  obtain ⟨hx, hb, hml, hr, hlocks, hno, hown, hts⟩ := id C
  intro _ st x1 x2 z0 h H locs hP hS ls hl
  unfold f_Md_day_b76 at h
  refine va_put (D := D) (ci := 11) (v := .int z0) (ty := .int) (C := R_Md) (T := T_Md) (N := 27) hx hb hts iw_Md ty_Md to_Md nm_Md hown G.1 hP (G.D) hS 0 rfl rfl 2 (by decide) (hts _ wd_4_225) (fun _ h9 => h9) rfl (by decide +kernel) rfl rfl (Nat.le_of_ble_eq_true rfl) d_Md_day_76 (fun H locs hP _ hS => ?_)
  have hP : va_P D hcl (mW ca ad (va_up st.1 2 z0, st.2)) H := hP
  refine lv_iload_n hx hb d_Md_day_79 rfl (lv_at hl 2 rfl) ?_
  refine lv_if_eq (tgt := 90) hx hb d_Md_day_80 (by decide) (fun c7 => ?_) (fun c7 => ?_)
  · rw [if_pos c7] at h
    refine lv_iconst (v := 0) hx hb d_Md_day_90 (by decide) ?_
    cases h
    exact W.toX (W.iret hx hb hr (fun t ht _ => ⟨rfl, by rw [ht]; exact hP, hS.F ht⟩) hS.2.2 d_Md_day_91)
  · rw [if_neg c7] at h
    refine lv_aload_n hx hb d_Md_day_83 rfl (lv_at hl 0 rfl) ?_
    refine va_get (D := D) (ci := 11) (v := .int z0) (C := R_Md) (T := T_Md) (N := 27) hx hb hts iw_Md hown G.1 hP 0 rfl rfl 2 (by decide) (hts _ wd_4_225) (fun _ h9 => h9) rfl d_Md_day_84 ?_
    refine lv_goto (tgt := 91) hx hb d_Md_day_87 (by decide) ?_
    cases h
    exact W.toX (W.iret hx hb hr (fun t ht _ => ⟨rfl, by rw [ht]; exact hP, hS.F ht⟩) hS.2.2 d_Md_day_91)
set_option maxHeartbeats 4000000 in
set_option maxRecDepth 100000 in
theorem t_Md_day_b55 {l : Launch} (htl : l.stackTraces = false) {p : Program} {e : Env} {s : State} {m : MethodId} {args : Array Value} {below : List Frame} {meth : Method} {c : Code} {D : va_G} {ca : Nat → ClassId} {ad : Nat → Nat} {st' : pu_St} {v : Int32} (C : hC p s m meth c args b_Md_day 3 (some .int) "MuseumHouseModel") (G : mX D ca ad (mA ad s.heap.size) s) :
    ∀ (_ : Unit) (st : pu_St) (x1 x2 z0 : Int32), f_Md_day_b55 st x1 x2 z0 = some (v, st') → ∀ (H : Heap) (locs : List Loc), va_P D hcl (mW ca ad st) H → va_S (mA ad s.heap.size) s.heap H locs → ∀ ls : Array Slot, lv_has ls 3 [(0, .ref (ad 0)), (1, .int x1), (2, .int x2)] → W p l e { frames := 1, cells := 0, slots := 0, locals := 22 } s m args below meth c H locs 0 0 (MQX below (mQ D ca ad (fun v => some (.int v)) (.inl v) st' s.heap.size) args s 0 0 (mA ad s.heap.size)) (F0 m 55 ls [.int z0, .ref (ad 0)]) := by
  obtain ⟨hx, hb, hml, hr, hlocks, hno, hown, hts⟩ := id C
  intro _ st x1 x2 z0 h H locs hP hS ls hl
  unfold f_Md_day_b55 at h
  refine va_put (D := D) (ci := 11) (v := .int z0) (ty := .int) (C := R_Md) (T := T_Md) (N := 27) hx hb hts iw_Md ty_Md to_Md nm_Md hown G.1 hP (G.D) hS 0 rfl rfl 0 (by decide) (hts _ wd_4_223) (fun _ h9 => h9) rfl (by decide +kernel) rfl rfl (Nat.le_of_ble_eq_true rfl) d_Md_day_55 (fun H locs hP _ hS => ?_)
  have hP : va_P D hcl (mW ca ad (va_up st.1 0 z0, st.2)) H := hP
  refine lv_aload_n hx hb d_Md_day_58 rfl (lv_at hl 0 rfl) ?_
  refine lv_iload_n hx hb d_Md_day_59 rfl (lv_at hl 2 rfl) ?_
  refine lv_if_eq (tgt := 72) hx hb d_Md_day_60 (by decide) (fun c6 => ?_) (fun c6 => ?_)
  · rw [if_pos c6] at h
    refine lv_aload_n hx hb d_Md_day_72 rfl (lv_at hl 0 rfl) ?_
    refine va_get (D := D) (ci := 11) (v := .int (st.1 2)) (C := R_Md) (T := T_Md) (N := 27) hx hb hts iw_Md hown G.1 hP 0 rfl rfl 2 (by decide) (hts _ wd_4_225) (fun _ h9 => h9) rfl d_Md_day_73 ?_
    exact t_Md_day_b76 htl C G () (va_up st.1 0 z0, st.2) x1 x2 (st.1 2) h _ _ hP hS ls (lv_sub hl [0, 1, 2] rfl)
  · rw [if_neg c6] at h
    refine lv_aload_n hx hb d_Md_day_63 rfl (lv_at hl 0 rfl) ?_
    refine va_get (D := D) (ci := 11) (v := .int (st.1 2)) (C := R_Md) (T := T_Md) (N := 27) hx hb hts iw_Md hown G.1 hP 0 rfl rfl 2 (by decide) (hts _ wd_4_225) (fun _ h9 => h9) rfl d_Md_day_64 ?_
    refine lv_iload_n hx hb d_Md_day_67 rfl (lv_at hl 1 rfl) ?_
    refine lv_iadd hx hb d_Md_day_68 ?_
    refine lv_goto (tgt := 76) hx hb d_Md_day_69 (by decide) ?_
    exact t_Md_day_b76 htl C G () (va_up st.1 0 z0, st.2) x1 x2 ((st.1 2) + x1) h _ _ hP hS ls (lv_sub hl [0, 1, 2] rfl)
set_option maxHeartbeats 4000000 in
set_option maxRecDepth 100000 in
theorem t_Md_day_b42 {l : Launch} (htl : l.stackTraces = false) {p : Program} {e : Env} {s : State} {m : MethodId} {args : Array Value} {below : List Frame} {meth : Method} {c : Code} {D : va_G} {ca : Nat → ClassId} {ad : Nat → Nat} {st' : pu_St} {v : Int32} (C : hC p s m meth c args b_Md_day 3 (some .int) "MuseumHouseModel") (G : mX D ca ad (mA ad s.heap.size) s) :
    ∀ (_ : Unit) (st : pu_St) (x1 x2 z0 : Int32), f_Md_day_b42 st x1 x2 z0 = some (v, st') → ∀ (H : Heap) (locs : List Loc), va_P D hcl (mW ca ad st) H → va_S (mA ad s.heap.size) s.heap H locs → ∀ ls : Array Slot, lv_has ls 3 [(0, .ref (ad 0)), (1, .int x1), (2, .int x2)] → W p l e { frames := 1, cells := 0, slots := 0, locals := 22 } s m args below meth c H locs 0 0 (MQX below (mQ D ca ad (fun v => some (.int v)) (.inl v) st' s.heap.size) args s 0 0 (mA ad s.heap.size)) (F0 m 42 ls [.int z0, .ref (ad 0)]) := by
  obtain ⟨hx, hb, hml, hr, hlocks, hno, hown, hts⟩ := id C
  intro _ st x1 x2 z0 h H locs hP hS ls hl
  unfold f_Md_day_b42 at h
  refine va_put (D := D) (ci := 11) (v := .int z0) (ty := .int) (C := R_Md) (T := T_Md) (N := 27) hx hb hts iw_Md ty_Md to_Md nm_Md hown G.1 hP (G.D) hS 0 rfl rfl 1 (by decide) (hts _ wd_4_224) (fun _ h9 => h9) rfl (by decide +kernel) rfl rfl (Nat.le_of_ble_eq_true rfl) d_Md_day_42 (fun H locs hP _ hS => ?_)
  have hP : va_P D hcl (mW ca ad (va_up st.1 1 z0, st.2)) H := hP
  refine lv_aload_n hx hb d_Md_day_45 rfl (lv_at hl 0 rfl) ?_
  refine lv_iload_n hx hb d_Md_day_46 rfl (lv_at hl 2 rfl) ?_
  refine lv_if_eq (tgt := 54) hx hb d_Md_day_47 (by decide) (fun c5 => ?_) (fun c5 => ?_)
  · rw [if_pos c5] at h
    refine lv_iconst (v := 1) hx hb d_Md_day_54 (by decide) ?_
    exact t_Md_day_b55 htl C G () (va_up st.1 1 z0, st.2) x1 x2 1 h _ _ hP hS ls (lv_sub hl [0, 1, 2] rfl)
  · rw [if_neg c5] at h
    refine lv_iconst (v := 0) hx hb d_Md_day_50 (by decide) ?_
    refine lv_goto (tgt := 55) hx hb d_Md_day_51 (by decide) ?_
    exact t_Md_day_b55 htl C G () (va_up st.1 1 z0, st.2) x1 x2 0 h _ _ hP hS ls (lv_sub hl [0, 1, 2] rfl)
set_option maxHeartbeats 4000000 in
set_option maxRecDepth 100000 in
theorem t_Md_day_b28 {l : Launch} (htl : l.stackTraces = false) {p : Program} {e : Env} {s : State} {m : MethodId} {args : Array Value} {below : List Frame} {meth : Method} {c : Code} {D : va_G} {ca : Nat → ClassId} {ad : Nat → Nat} {st' : pu_St} {v : Int32} (C : hC p s m meth c args b_Md_day 3 (some .int) "MuseumHouseModel") (G : mX D ca ad (mA ad s.heap.size) s) :
    ∀ (_ : Unit) (st : pu_St) (x1 z0 : Int32), f_Md_day_b28 st x1 z0 = some (v, st') → ∀ (H : Heap) (locs : List Loc), va_P D hcl (mW ca ad st) H → va_S (mA ad s.heap.size) s.heap H locs → ∀ ls : Array Slot, lv_has ls 3 [(0, .ref (ad 0)), (1, .int x1)] → W p l e { frames := 1, cells := 0, slots := 0, locals := 22 } s m args below meth c H locs 0 0 (MQX below (mQ D ca ad (fun v => some (.int v)) (.inl v) st' s.heap.size) args s 0 0 (mA ad s.heap.size)) (F0 m 28 ls [.int z0]) := by
  obtain ⟨hx, hb, hml, hr, hlocks, hno, hown, hts⟩ := id C
  intro _ st x1 z0 h H locs hP hS ls hl
  unfold f_Md_day_b28 at h
  refine lv_istore_n (lv' := [(2, .int z0), (0, .ref (ad 0)), (1, .int x1)]) hx hb d_Md_day_28 rfl hl (by decide) rfl (fun ls hl => ?_)
  refine lv_aload_n hx hb d_Md_day_29 rfl (lv_at hl 1 rfl) ?_
  refine lv_iload_n hx hb d_Md_day_30 rfl (lv_at hl 0 rfl) ?_
  refine lv_if_eq (tgt := 41) hx hb d_Md_day_31 (by decide) (fun c4 => ?_) (fun c4 => ?_)
  · rw [if_pos c4] at h
    refine lv_iconst (v := 4) hx hb d_Md_day_41 (by decide) ?_
    exact t_Md_day_b42 htl C G () st x1 z0 4 h _ _ hP hS ls (lv_sub hl [1, 2, 0] rfl)
  · rw [if_neg c4] at h
    refine lv_aload_n hx hb d_Md_day_34 rfl (lv_at hl 1 rfl) ?_
    refine va_get (D := D) (ci := 11) (v := .int (st.1 1)) (C := R_Md) (T := T_Md) (N := 27) hx hb hts iw_Md hown G.1 hP 0 rfl rfl 1 (by decide) (hts _ wd_4_224) (fun _ h9 => h9) rfl d_Md_day_35 ?_
    refine lv_goto (tgt := 42) hx hb d_Md_day_38 (by decide) ?_
    exact t_Md_day_b42 htl C G () st x1 z0 (st.1 1) h _ _ hP hS ls (lv_sub hl [1, 2, 0] rfl)
set_option maxHeartbeats 4000000 in
set_option maxRecDepth 100000 in
theorem t_Md_day_b27 {l : Launch} (htl : l.stackTraces = false) {p : Program} {e : Env} {s : State} {m : MethodId} {args : Array Value} {below : List Frame} {meth : Method} {c : Code} {D : va_G} {ca : Nat → ClassId} {ad : Nat → Nat} {st' : pu_St} {v : Int32} (C : hC p s m meth c args b_Md_day 3 (some .int) "MuseumHouseModel") (G : mX D ca ad (mA ad s.heap.size) s) :
    ∀ (_ : Unit) (st : pu_St) (x1 : Int32), f_Md_day_b27 st x1 = some (v, st') → ∀ (H : Heap) (locs : List Loc), va_P D hcl (mW ca ad st) H → va_S (mA ad s.heap.size) s.heap H locs → ∀ ls : Array Slot, lv_has ls 3 [(0, .ref (ad 0)), (1, .int x1)] → W p l e { frames := 1, cells := 0, slots := 0, locals := 22 } s m args below meth c H locs 0 0 (MQX below (mQ D ca ad (fun v => some (.int v)) (.inl v) st' s.heap.size) args s 0 0 (mA ad s.heap.size)) (F0 m 27 ls []) := by
  obtain ⟨hx, hb, hml, hr, hlocks, hno, hown, hts⟩ := id C
  intro _ st x1 h H locs hP hS ls hl
  unfold f_Md_day_b27 at h
  refine lv_iconst (v := 0) hx hb d_Md_day_27 (by decide) ?_
  exact t_Md_day_b28 htl C G () st x1 0 h _ _ hP hS ls (lv_sub hl [0, 1] rfl)
set_option maxHeartbeats 4000000 in
set_option maxRecDepth 100000 in
theorem c_Md_day (l : Launch) (htl : l.stackTraces = false) (D : va_G) (ca : Nat → ClassId) (ad : Nat → Nat) (st : pu_St) (sz : Nat) (x1 : Int32) (v : Int32) (st' : pu_St) (h : f_Md_day st x1 = some (v, st')) : MetX l y_Md_day (.code y_Md_day b_Md_day 3 (some .int) :: tG) { frames := 1, cells := 0, slots := 0, locals := 22 } (va_Pc [.ref (ad 0), .int x1] (mPc D ca ad st sz)) (mQ D ca ad (fun v => some (.int v)) (.inl v) st' sz) 0 0 (mA ad sz) := by
  refine mMet (by decide +kernel) ?_
  intro p e s m below meth c hsz C G hP
  obtain ⟨hx, hb, hml, hr, hlocks, hno, hown, hts⟩ := id C
  have hown : s.vm.findClass "MuseumHouseModel" = some m.cls := hown
  have hS : va_S (mA ad s.heap.size) s.heap s.heap [] := va_S.rf
  have hl := lv_entry ([.ref (ad 0), .int x1]) (n := 3) (Nat.le_of_ble_eq_true rfl)
  rw [lg_entry_eq]
  generalize (lg_sl ([.ref (ad 0), .int x1]) ++ List.replicate (3 - (lg_sl ([.ref (ad 0), .int x1])).length) Slot.unset).toArray = ls at hl ⊢
  have hl : lv_has ls 3 [(0, .ref (ad 0)), (1, .int x1)] := hl
  unfold f_Md_day at h
  refine lv_iload_n hx hb d_Md_day_0 rfl (lv_at hl 1 rfl) ?_
  refine lv_iconst (v := 0) hx hb d_Md_day_1 (by decide) ?_
  refine lv_sipush (v := 1000) hx hb d_Md_day_2 (by decide) ?_
  obtain ⟨v1, e_v1, h⟩ := pu_ob h
  refine pu_callR (va_runS (As := [.int x1, .int 0, .int 1000]) (rest := []) ⟨hx, hb, hml, hown, hts⟩ (c_Md_lies l D ca ad st _ x1 0 1000 v1 e_v1) (xCS 3 hts wd_5_87 wd_1_13 wd_5_85 wd_5_86 (by decide +kernel) ⟨Nat.le_of_ble_eq_true rfl, Nat.le_of_ble_eq_true rfl⟩) (G.preS hP hS) rfl rfl hl.1 rfl (lv_room (Nat.le_of_ble_eq_true rfl)) d_Md_day_5 ⟨Nat.zero_le _, Nat.zero_le _⟩) ?_
  refine lv_if_eq (tgt := 27) hx hb d_Md_day_8 (by decide) (fun c2 => ?_) (fun c2 => ?_)
  · rw [if_pos c2] at h
    exact t_Md_day_b27 htl C G () st x1 h _ _ hP hS ls (lv_sub hl [0, 1] rfl)
  · rw [if_neg c2] at h
    refine lv_aload_n hx hb d_Md_day_11 rfl (lv_at hl 0 rfl) ?_
    refine va_get (D := D) (ci := 11) (v := .int (st.1 2)) (C := R_Md) (T := T_Md) (N := 27) hx hb hts iw_Md hown G.1 hP 0 rfl rfl 2 (by decide) (hts _ wd_4_225) (fun _ h9 => h9) rfl d_Md_day_12 ?_
    refine lv_iload_n hx hb d_Md_day_15 rfl (lv_at hl 1 rfl) ?_
    refine lv_iadd hx hb d_Md_day_16 ?_
    refine lv_sipush (v := 9999) hx hb d_Md_day_17 (by decide) ?_
    refine lv_icmp_gt (tgt := 27) hx hb d_Md_day_20 (by decide) (fun c3 => ?_) (fun c3 => ?_)
    · rw [if_pos c3] at h
      exact t_Md_day_b27 htl C G () st x1 h _ _ hP hS ls (lv_sub hl [0, 1] rfl)
    · rw [if_neg c3] at h
      refine lv_iconst (v := 1) hx hb d_Md_day_23 (by decide) ?_
      refine lv_goto (tgt := 28) hx hb d_Md_day_24 (by decide) ?_
      exact t_Md_day_b28 htl C G () st x1 1 h _ _ hP hS ls (lv_sub hl [0, 1] rfl)
set_option maxHeartbeats 4000000 in
set_option maxRecDepth 100000 in
theorem t_Md_site_b20 {l : Launch} (htl : l.stackTraces = false) {p : Program} {e : Env} {s : State} {m : MethodId} {args : Array Value} {below : List Frame} {meth : Method} {c : Code} {D : va_G} {ca : Nat → ClassId} {ad : Nat → Nat} {st' : pu_St} {v : Int32} (C : hC p s m meth c args b_Md_site 2 (some .int) "MuseumHouseModel") (G : mX D ca ad (mA ad s.heap.size) s) :
    ∀ (_ : Unit) (st : pu_St) (x1 z0 z1 z2 z3 : Int32), f_Md_site_b20 st x1 z0 z1 z2 z3 = some (v, st') → ∀ (H : Heap) (locs : List Loc), va_P D hcl (mW ca ad st) H → va_S (mA ad s.heap.size) s.heap H locs → ∀ ls : Array Slot, lv_has ls 2 [(0, .ref (ad 0)), (1, .int x1)] → W p l e { frames := 2, cells := 0, slots := 0, locals := 46 } s m args below meth c H locs 0 0 (MQX below (mQ D ca ad (fun v => some (.int v)) (.inl v) st' s.heap.size) args s 0 0 (mA ad s.heap.size)) (F0 m 20 ls [.int z0, .int z1, .int z2, .int z3, .ref (ad 0), .ref (ad 0)]) := by
  obtain ⟨hx, hb, hml, hr, hlocks, hno, hown, hts⟩ := id C
  intro _ st x1 z0 z1 z2 z3 h H locs hP hS ls hl
  unfold f_Md_site_b20 at h
  obtain ⟨v3, e_v3, h⟩ := pu_ob h
  refine pu_callR (va_runV (As := [.int z3, .int z2, .int z1, .int z0]) (rest := [.ref (ad 0)]) ⟨hx, hb, hml, hown, hts⟩ (c_Md_first l D ca ad st _ z3 z2 z1 z0 v3 e_v3) (xCW (C := "MuseumHouseModel") 4 hts wd_5_76 wd_1_13 wd_5_73 wd_5_75 wd_0_13 (by decide +kernel) ⟨Nat.le_of_ble_eq_true rfl, Nat.le_of_ble_eq_true rfl⟩) (G.preV hP hS 0 rfl rfl) rfl rfl hl.1 rfl (lv_room (Nat.le_of_ble_eq_true rfl)) d_Md_site_20 ⟨Nat.zero_le _, Nat.zero_le _⟩) ?_
  obtain ⟨q4, e_q4, h⟩ := pu_ob h
  refine mCallI G hS (va_runV (As := [.int v3]) (rest := []) ⟨hx, hb, hml, hown, hts⟩ (MetX.met (c_Md_holds l htl D ca ad st _ v3 q4.1 q4.2 e_q4) (fun _ _ _ _ q => ⟨_, q.1⟩)) (xCW (C := "MuseumHouseModel") 1 hts wd_5_94 wd_1_13 wd_5_91 wd_5_93 wd_0_16 (by decide +kernel) ⟨Nat.le_of_ble_eq_true rfl, Nat.le_of_ble_eq_true rfl⟩) (G.preV hP hS 0 rfl rfl) rfl rfl hl.1 rfl (lv_room (Nat.le_of_ble_eq_true rfl)) d_Md_site_23 ⟨Nat.zero_le _, Nat.zero_le _⟩) (fun H locs hP hS => ?_)
  refine lv_if_eq (tgt := 37) hx hb d_Md_site_26 (by decide) (fun c5 => ?_) (fun c5 => ?_)
  · rw [if_pos c5] at h
    refine lv_iconst (v := 0) hx hb d_Md_site_37 (by decide) ?_
    cases h
    exact W.toX (W.iret hx hb hr (fun t ht _ => ⟨rfl, by rw [ht]; exact hP, hS.F ht⟩) hS.2.2 d_Md_site_38)
  · rw [if_neg c5] at h
    refine lv_aload_n hx hb d_Md_site_29 rfl (lv_at hl 0 rfl) ?_
    refine lv_iconst (v := 2) hx hb d_Md_site_30 (by decide) ?_
    obtain ⟨q6, e_q6, h⟩ := pu_ob h
    refine mCallI G hS (va_runV (As := [.int 2]) (rest := []) ⟨hx, hb, hml, hown, hts⟩ (MetX.met (c_Md_made l htl D ca ad q4.2 _ 2 q6.1 q6.2 e_q6) (fun _ _ _ _ q => ⟨_, q.1⟩)) (xCW (C := "MuseumHouseModel") 1 hts wd_5_98 wd_1_13 wd_5_95 wd_5_97 wd_0_17 (by decide +kernel) ⟨Nat.le_of_ble_eq_true rfl, Nat.le_of_ble_eq_true rfl⟩) (G.preV hP hS 0 rfl rfl) rfl rfl hl.1 rfl (lv_room (Nat.le_of_ble_eq_true rfl)) d_Md_site_31 ⟨Nat.zero_le _, Nat.zero_le _⟩) (fun H locs hP hS => ?_)
    refine lv_goto (tgt := 38) hx hb d_Md_site_34 (by decide) ?_
    cases h
    exact W.toX (W.iret hx hb hr (fun t ht _ => ⟨rfl, by rw [ht]; exact hP, hS.F ht⟩) hS.2.2 d_Md_site_38)
set_option maxHeartbeats 4000000 in
set_option maxRecDepth 100000 in
theorem c_Md_site (l : Launch) (htl : l.stackTraces = false) (D : va_G) (ca : Nat → ClassId) (ad : Nat → Nat) (st : pu_St) (sz : Nat) (x1 : Int32) (v : Int32) (st' : pu_St) (h : f_Md_site st x1 = some (v, st')) : MetX l y_Md_site (.code y_Md_site b_Md_site 2 (some .int) :: tG) { frames := 2, cells := 0, slots := 0, locals := 46 } (va_Pc [.ref (ad 0), .int x1] (mPc D ca ad st sz)) (mQ D ca ad (fun v => some (.int v)) (.inl v) st' sz) 0 0 (mA ad sz) := by
  refine mMet (by decide +kernel) ?_
  intro p e s m below meth c hsz C G hP
  obtain ⟨hx, hb, hml, hr, hlocks, hno, hown, hts⟩ := id C
  have hown : s.vm.findClass "MuseumHouseModel" = some m.cls := hown
  have hS : va_S (mA ad s.heap.size) s.heap s.heap [] := va_S.rf
  have hl := lv_entry ([.ref (ad 0), .int x1]) (n := 2) (Nat.le_of_ble_eq_true rfl)
  rw [lg_entry_eq]
  generalize (lg_sl ([.ref (ad 0), .int x1]) ++ List.replicate (2 - (lg_sl ([.ref (ad 0), .int x1])).length) Slot.unset).toArray = ls at hl ⊢
  have hl : lv_has ls 2 [(0, .ref (ad 0)), (1, .int x1)] := hl
  unfold f_Md_site at h
  refine lv_aload_n hx hb d_Md_site_0 rfl (lv_at hl 0 rfl) ?_
  refine lv_aload_n hx hb d_Md_site_1 rfl (lv_at hl 0 rfl) ?_
  refine lv_iconst (v := 1) hx hb d_Md_site_2 (by decide) ?_
  refine lv_iload_n hx hb d_Md_site_3 rfl (lv_at hl 1 rfl) ?_
  refine lv_iconst (v := 2) hx hb d_Md_site_4 (by decide) ?_
  refine lv_aload_n hx hb d_Md_site_5 rfl (lv_at hl 0 rfl) ?_
  refine va_get (D := D) (ci := 11) (v := .ref (ad 1)) (C := R_Md) (T := T_Md) (N := 27) hx hb hts iw_Md hown G.1 hP 0 rfl rfl 3 (by decide) (hts _ wd_4_226) (fun _ h9 => h9) rfl d_Md_site_6 ?_
  refine lv_iconst (v := 2) hx hb d_Md_site_9 (by decide) ?_
  obtain ⟨v1, e_v1, h⟩ := pu_ob h
  refine pu_iald hx hb G.1 hP 1 0 rfl rfl e_v1 d_Md_site_10 ?_
  refine lv_iconst (v := 4) hx hb d_Md_site_11 (by decide) ?_
  refine lv_icmp_ge (tgt := 19) hx hb d_Md_site_12 (by decide) (fun c2 => ?_) (fun c2 => ?_)
  · rw [if_pos c2] at h
    refine lv_iconst (v := 0) hx hb d_Md_site_19 (by decide) ?_
    exact t_Md_site_b20 htl C G () st x1 0 2 x1 1 h _ _ hP hS ls (lv_sub hl [0, 1] rfl)
  · rw [if_neg c2] at h
    refine lv_iconst (v := 1) hx hb d_Md_site_15 (by decide) ?_
    refine lv_goto (tgt := 20) hx hb d_Md_site_16 (by decide) ?_
    exact t_Md_site_b20 htl C G () st x1 1 2 x1 1 h _ _ hP hS ls (lv_sub hl [0, 1] rfl)
set_option maxHeartbeats 4000000 in
set_option maxRecDepth 100000 in
theorem t_Md_context_b26 {l : Launch} (htl : l.stackTraces = false) {p : Program} {e : Env} {s : State} {m : MethodId} {args : Array Value} {below : List Frame} {meth : Method} {c : Code} {D : va_G} {ca : Nat → ClassId} {ad : Nat → Nat} {st' : pu_St} {v : Int32} (C : hC p s m meth c args b_Md_context 3 (some .int) "MuseumHouseModel") (G : mX D ca ad (mA ad s.heap.size) s) :
    ∀ (_ : Unit) (st : pu_St) (x1 x2 z0 z1 z2 z3 : Int32), f_Md_context_b26 st x1 x2 z0 z1 z2 z3 = some (v, st') → ∀ (H : Heap) (locs : List Loc), va_P D hcl (mW ca ad st) H → va_S (mA ad s.heap.size) s.heap H locs → ∀ ls : Array Slot, lv_has ls 3 [(0, .ref (ad 0)), (1, .int x1), (2, .int x2)] → W p l e { frames := 2, cells := 0, slots := 0, locals := 46 } s m args below meth c H locs 0 0 (MQX below (mQ D ca ad (fun v => some (.int v)) (.inl v) st' s.heap.size) args s 0 0 (mA ad s.heap.size)) (F0 m 26 ls [.int z0, .int z1, .int z2, .int z3, .ref (ad 0), .ref (ad 0)]) := by
  obtain ⟨hx, hb, hml, hr, hlocks, hno, hown, hts⟩ := id C
  intro _ st x1 x2 z0 z1 z2 z3 h H locs hP hS ls hl
  unfold f_Md_context_b26 at h
  obtain ⟨v4, e_v4, h⟩ := pu_ob h
  refine pu_callR (va_runV (As := [.int z3, .int z2, .int z1, .int z0]) (rest := [.ref (ad 0)]) ⟨hx, hb, hml, hown, hts⟩ (c_Md_first l D ca ad st _ z3 z2 z1 z0 v4 e_v4) (xCW (C := "MuseumHouseModel") 4 hts wd_5_76 wd_1_13 wd_5_73 wd_5_75 wd_0_13 (by decide +kernel) ⟨Nat.le_of_ble_eq_true rfl, Nat.le_of_ble_eq_true rfl⟩) (G.preV hP hS 0 rfl rfl) rfl rfl hl.1 rfl (lv_room (Nat.le_of_ble_eq_true rfl)) d_Md_context_26 ⟨Nat.zero_le _, Nat.zero_le _⟩) ?_
  obtain ⟨q5, e_q5, h⟩ := pu_ob h
  refine mCallI G hS (va_runV (As := [.int v4]) (rest := []) ⟨hx, hb, hml, hown, hts⟩ (MetX.met (c_Md_holds l htl D ca ad st _ v4 q5.1 q5.2 e_q5) (fun _ _ _ _ q => ⟨_, q.1⟩)) (xCW (C := "MuseumHouseModel") 1 hts wd_5_94 wd_1_13 wd_5_91 wd_5_93 wd_0_16 (by decide +kernel) ⟨Nat.le_of_ble_eq_true rfl, Nat.le_of_ble_eq_true rfl⟩) (G.preV hP hS 0 rfl rfl) rfl rfl hl.1 rfl (lv_room (Nat.le_of_ble_eq_true rfl)) d_Md_context_29 ⟨Nat.zero_le _, Nat.zero_le _⟩) (fun H locs hP hS => ?_)
  refine lv_if_ne (tgt := 37) hx hb d_Md_context_32 (by decide) (fun c6 => ?_) (fun c6 => ?_)
  · rw [if_neg c6] at h
    refine lv_aload_n hx hb d_Md_context_37 rfl (lv_at hl 0 rfl) ?_
    refine va_get (D := D) (ci := 11) (v := .ref (ad 3)) (C := R_Md) (T := T_Md) (N := 27) hx hb hts iw_Md hown G.1 hP 0 rfl rfl 5 (by decide) (hts _ wd_4_228) (fun _ h9 => h9) rfl d_Md_context_38 ?_
    refine lv_aload_n hx hb d_Md_context_41 rfl (lv_at hl 0 rfl) ?_
    refine va_get (D := D) (ci := 11) (v := .ref (ad 1)) (C := R_Md) (T := T_Md) (N := 27) hx hb hts iw_Md hown G.1 hP 0 rfl rfl 3 (by decide) (hts _ wd_4_226) (fun _ h9 => h9) rfl d_Md_context_42 ?_
    refine lv_iconst (v := 3) hx hb d_Md_context_45 (by decide) ?_
    obtain ⟨v7, e_v7, h⟩ := pu_ob h
    refine pu_iald hx hb G.1 hP 1 0 rfl rfl e_v7 d_Md_context_46 ?_
    refine lv_iload_n hx hb d_Md_context_47 rfl (lv_at hl 2 rfl) ?_
    obtain ⟨g8, e_g8, h⟩ := pu_ob h
    refine pu_iast hx hb G.1 hP (G.D) hS 3 2 rfl rfl e_g8 d_Md_context_48 (fun H locs hP hS => ?_)
    have hP : va_P D hcl (mW ca ad (q5.2.1, va_up q5.2.2 2 g8)) H := hP
    refine lv_aload_n hx hb d_Md_context_49 rfl (lv_at hl 0 rfl) ?_
    refine va_get (D := D) (ci := 11) (v := .ref (ad 4)) (C := R_Md) (T := T_Md) (N := 27) hx hb hts iw_Md hown G.1 hP 0 rfl rfl 6 (by decide) (hts _ wd_4_229) (fun _ h9 => h9) rfl d_Md_context_50 ?_
    refine lv_aload_n hx hb d_Md_context_53 rfl (lv_at hl 0 rfl) ?_
    refine va_get (D := D) (ci := 11) (v := .ref (ad 1)) (C := R_Md) (T := T_Md) (N := 27) hx hb hts iw_Md hown G.1 hP 0 rfl rfl 3 (by decide) (hts _ wd_4_226) (fun _ h9 => h9) rfl d_Md_context_54 ?_
    refine lv_iconst (v := 3) hx hb d_Md_context_57 (by decide) ?_
    obtain ⟨v9, e_v9, h⟩ := pu_ob h
    refine pu_iald hx hb G.1 hP 1 0 rfl rfl e_v9 d_Md_context_58 ?_
    refine lv_iconst (v := 0) hx hb d_Md_context_59 (by decide) ?_
    obtain ⟨g10, e_g10, h⟩ := pu_ob h
    refine pu_iast hx hb G.1 hP (G.D) hS 4 3 rfl rfl e_g10 d_Md_context_60 (fun H locs hP hS => ?_)
    have hP : va_P D hcl (mW ca ad ((q5.2.1, va_up q5.2.2 2 g8).1, va_up (q5.2.1, va_up q5.2.2 2 g8).2 3 g10)) H := hP
    refine lv_aload_n hx hb d_Md_context_61 rfl (lv_at hl 0 rfl) ?_
    refine va_get (D := D) (ci := 11) (v := .ref (ad 5)) (C := R_Md) (T := T_Md) (N := 27) hx hb hts iw_Md hown G.1 hP 0 rfl rfl 7 (by decide) (hts _ wd_4_230) (fun _ h9 => h9) rfl d_Md_context_62 ?_
    refine lv_aload_n hx hb d_Md_context_65 rfl (lv_at hl 0 rfl) ?_
    refine va_get (D := D) (ci := 11) (v := .ref (ad 1)) (C := R_Md) (T := T_Md) (N := 27) hx hb hts iw_Md hown G.1 hP 0 rfl rfl 3 (by decide) (hts _ wd_4_226) (fun _ h9 => h9) rfl d_Md_context_66 ?_
    refine lv_iconst (v := 3) hx hb d_Md_context_69 (by decide) ?_
    obtain ⟨v11, e_v11, h⟩ := pu_ob h
    refine pu_iald hx hb G.1 hP 1 0 rfl rfl e_v11 d_Md_context_70 ?_
    refine lv_sipush (v := 999) hx hb d_Md_context_71 (by decide) ?_
    obtain ⟨g12, e_g12, h⟩ := pu_ob h
    refine pu_iast hx hb G.1 hP (G.D) hS 5 4 rfl rfl e_g12 d_Md_context_74 (fun H locs hP hS => ?_)
    have hP : va_P D hcl (mW ca ad (((q5.2.1, va_up q5.2.2 2 g8).1, va_up (q5.2.1, va_up q5.2.2 2 g8).2 3 g10).1, va_up ((q5.2.1, va_up q5.2.2 2 g8).1, va_up (q5.2.1, va_up q5.2.2 2 g8).2 3 g10).2 4 g12)) H := hP
    refine lv_aload_n hx hb d_Md_context_75 rfl (lv_at hl 0 rfl) ?_
    refine lv_iconst (v := 3) hx hb d_Md_context_76 (by decide) ?_
    obtain ⟨q13, e_q13, h⟩ := pu_ob h
    refine mCallI G hS (va_runV (As := [.int 3]) (rest := []) ⟨hx, hb, hml, hown, hts⟩ (MetX.met (c_Md_made l htl D ca ad (((q5.2.1, va_up q5.2.2 2 g8).1, va_up (q5.2.1, va_up q5.2.2 2 g8).2 3 g10).1, va_up ((q5.2.1, va_up q5.2.2 2 g8).1, va_up (q5.2.1, va_up q5.2.2 2 g8).2 3 g10).2 4 g12) _ 3 q13.1 q13.2 e_q13) (fun _ _ _ _ q => ⟨_, q.1⟩)) (xCW (C := "MuseumHouseModel") 1 hts wd_5_98 wd_1_13 wd_5_95 wd_5_97 wd_0_17 (by decide +kernel) ⟨Nat.le_of_ble_eq_true rfl, Nat.le_of_ble_eq_true rfl⟩) (G.preV hP hS 0 rfl rfl) rfl rfl hl.1 rfl (lv_room (Nat.le_of_ble_eq_true rfl)) d_Md_context_77 ⟨Nat.zero_le _, Nat.zero_le _⟩) (fun H locs hP hS => ?_)
    cases h
    exact W.toX (W.iret hx hb hr (fun t ht _ => ⟨rfl, by rw [ht]; exact hP, hS.F ht⟩) hS.2.2 d_Md_context_80)
  · rw [if_pos c6] at h
    refine lv_iconst (v := 0) hx hb d_Md_context_35 (by decide) ?_
    cases h
    exact W.toX (W.iret hx hb hr (fun t ht _ => ⟨rfl, by rw [ht]; exact hP, hS.F ht⟩) hS.2.2 d_Md_context_36)
set_option maxHeartbeats 4000000 in
set_option maxRecDepth 100000 in
theorem c_Md_context (l : Launch) (htl : l.stackTraces = false) (D : va_G) (ca : Nat → ClassId) (ad : Nat → Nat) (st : pu_St) (sz : Nat) (x1 x2 : Int32) (v : Int32) (st' : pu_St) (h : f_Md_context st x1 x2 = some (v, st')) : MetX l y_Md_context (.code y_Md_context b_Md_context 3 (some .int) :: tG) { frames := 2, cells := 0, slots := 0, locals := 46 } (va_Pc [.ref (ad 0), .int x1, .int x2] (mPc D ca ad st sz)) (mQ D ca ad (fun v => some (.int v)) (.inl v) st' sz) 0 0 (mA ad sz) := by
  refine mMet (by decide +kernel) ?_
  intro p e s m below meth c hsz C G hP
  obtain ⟨hx, hb, hml, hr, hlocks, hno, hown, hts⟩ := id C
  have hown : s.vm.findClass "MuseumHouseModel" = some m.cls := hown
  have hS : va_S (mA ad s.heap.size) s.heap s.heap [] := va_S.rf
  have hl := lv_entry ([.ref (ad 0), .int x1, .int x2]) (n := 3) (Nat.le_of_ble_eq_true rfl)
  rw [lg_entry_eq]
  generalize (lg_sl ([.ref (ad 0), .int x1, .int x2]) ++ List.replicate (3 - (lg_sl ([.ref (ad 0), .int x1, .int x2])).length) Slot.unset).toArray = ls at hl ⊢
  have hl : lv_has ls 3 [(0, .ref (ad 0)), (1, .int x1), (2, .int x2)] := hl
  unfold f_Md_context at h
  refine lv_aload_n hx hb d_Md_context_0 rfl (lv_at hl 0 rfl) ?_
  refine lv_aload_n hx hb d_Md_context_1 rfl (lv_at hl 0 rfl) ?_
  refine lv_aload_n hx hb d_Md_context_2 rfl (lv_at hl 0 rfl) ?_
  refine lv_iload_n hx hb d_Md_context_3 rfl (lv_at hl 2 rfl) ?_
  refine lv_iconst (v := 2) hx hb d_Md_context_4 (by decide) ?_
  obtain ⟨v1, e_v1, h⟩ := pu_ob h
  refine pu_callR (va_runV (As := [.int x2, .int 2]) (rest := [.ref (ad 0), .ref (ad 0)]) ⟨hx, hb, hml, hown, hts⟩ (c_Md_is l D ca ad st _ x2 2 v1 e_v1) (xCW (C := "MuseumHouseModel") 2 hts wd_5_80 wd_1_13 wd_5_77 wd_5_79 wd_0_14 (by decide +kernel) ⟨Nat.le_of_ble_eq_true rfl, Nat.le_of_ble_eq_true rfl⟩) (G.preV hP hS 0 rfl rfl) rfl rfl hl.1 rfl (lv_room (Nat.le_of_ble_eq_true rfl)) d_Md_context_5 ⟨Nat.zero_le _, Nat.zero_le _⟩) ?_
  refine lv_iload_n hx hb d_Md_context_8 rfl (lv_at hl 1 rfl) ?_
  refine lv_iconst (v := 2) hx hb d_Md_context_9 (by decide) ?_
  refine lv_aload_n hx hb d_Md_context_10 rfl (lv_at hl 0 rfl) ?_
  refine va_get (D := D) (ci := 11) (v := .ref (ad 1)) (C := R_Md) (T := T_Md) (N := 27) hx hb hts iw_Md hown G.1 hP 0 rfl rfl 3 (by decide) (hts _ wd_4_226) (fun _ h9 => h9) rfl d_Md_context_11 ?_
  refine lv_iconst (v := 3) hx hb d_Md_context_14 (by decide) ?_
  obtain ⟨v2, e_v2, h⟩ := pu_ob h
  refine pu_iald hx hb G.1 hP 1 0 rfl rfl e_v2 d_Md_context_15 ?_
  refine lv_bipush (v := 20) hx hb d_Md_context_16 (by decide) ?_
  refine lv_icmp_ge (tgt := 25) hx hb d_Md_context_18 (by decide) (fun c3 => ?_) (fun c3 => ?_)
  · rw [if_pos c3] at h
    refine lv_iconst (v := 0) hx hb d_Md_context_25 (by decide) ?_
    exact t_Md_context_b26 htl C G () st x1 x2 0 2 x1 v1 h _ _ hP hS ls (lv_sub hl [0, 1, 2] rfl)
  · rw [if_neg c3] at h
    refine lv_iconst (v := 1) hx hb d_Md_context_21 (by decide) ?_
    refine lv_goto (tgt := 26) hx hb d_Md_context_22 (by decide) ?_
    exact t_Md_context_b26 htl C G () st x1 x2 1 2 x1 v1 h _ _ hP hS ls (lv_sub hl [0, 1, 2] rfl)
set_option maxHeartbeats 4000000 in
set_option maxRecDepth 100000 in
theorem t_Md_follow_b37 {l : Launch} (htl : l.stackTraces = false) {p : Program} {e : Env} {s : State} {m : MethodId} {args : Array Value} {below : List Frame} {meth : Method} {c : Code} {D : va_G} {ca : Nat → ClassId} {ad : Nat → Nat} {st' : pu_St} {v : Int32} (C : hC p s m meth c args b_Md_follow 6 none "MuseumHouseModel") (G : mX D ca ad (mA ad s.heap.size) s) {k : pu_St → Int32 → Option (Int32 × pu_St)} (hk : ∀ (st : pu_St) (x1 : Int32), k st x1 = some (v, st') → ∀ (H : Heap) (locs : List Loc), va_P D hcl (mW ca ad st) H → va_S (mA ad s.heap.size) s.heap H locs → ∀ ls : Array Slot, lv_has ls 6 [(0, .ref (ad 0)), (1, .int x1)] → W p l e { frames := 0, cells := 0, slots := 0, locals := 0 } s m args below meth c H locs 0 0 (MQX below (mQ D ca ad (fun _ => none) (.inl v) st' s.heap.size) args s 0 0 (mA ad s.heap.size)) (F0 m 29 ls [])) :
    ∀ (n : Nat) (st : pu_St) (x1 x2 : Int32), f_Md_follow_b37 k n st x1 x2 = some (v, st') → ∀ (H : Heap) (locs : List Loc), va_P D hcl (mW ca ad st) H → va_S (mA ad s.heap.size) s.heap H locs → ∀ ls : Array Slot, lv_has ls 6 [(0, .ref (ad 0)), (1, .int x1), (2, .int x2)] → W p l e { frames := 0, cells := 0, slots := 0, locals := 0 } s m args below meth c H locs 0 0 (MQX below (mQ D ca ad (fun _ => none) (.inl v) st' s.heap.size) args s 0 0 (mA ad s.heap.size)) (F0 m 37 ls []) := by
  obtain ⟨hx, hb, hml, hr, hlocks, hno, hown, hts⟩ := id C
  intro n
  induction n with
  | zero => intro st x1 x2 h; cases h
  | succ n ih =>
    intro st x1 x2 h H locs hP hS ls hl
    unfold f_Md_follow_b37 at h
    refine lv_iload_n hx hb d_Md_follow_37 rfl (lv_at hl 2 rfl) ?_
    refine lv_sipush (v := 8000) hx hb d_Md_follow_38 (by decide) ?_
    refine lv_icmp_ge (tgt := 132) hx hb d_Md_follow_41 (by decide) (fun c6 => ?_) (fun c6 => ?_)
    · rw [if_pos c6] at h
      refine lv_goto (tgt := 29) hx hb d_Md_follow_132 (by decide) ?_
      exact hk st x1 h _ _ hP hS ls (lv_sub hl [0, 1] rfl)
    · rw [if_neg c6] at h
      refine lv_iload_n hx hb d_Md_follow_44 rfl (lv_at hl 2 rfl) ?_
      refine lv_sipush (v := 400) hx hb d_Md_follow_45 (by decide) ?_
      refine lv_idiv hx hb d_Md_follow_48 (by decide) ?_
      refine lv_istore_n (lv' := [(3, .int (x2 / 400)), (0, .ref (ad 0)), (1, .int x1), (2, .int x2)]) hx hb d_Md_follow_49 rfl hl (by decide) rfl (fun ls hl => ?_)
      refine lv_iload_n hx hb d_Md_follow_50 rfl (lv_at hl 3 rfl) ?_
      refine lv_bipush (v := 20) hx hb d_Md_follow_51 (by decide) ?_
      refine lv_idiv hx hb d_Md_follow_53 (by decide) ?_
      refine lv_bipush (v := 20) hx hb d_Md_follow_54 (by decide) ?_
      refine lv_irem hx hb d_Md_follow_56 (by decide) ?_
      refine lv_istore (lv' := [(4, .int ((x2 / 20) - (x2 / 20) / 20 * 20)), (3, .int (x2 / 400)), (0, .ref (ad 0)), (1, .int x1), (2, .int x2)]) hx hb d_Md_follow_57 hl (by decide) rfl (fun ls hl => ?_)
      refine lv_iload_n hx hb d_Md_follow_59 rfl (lv_at hl 4 rfl) ?_
      refine lv_bipush (v := 20) hx hb d_Md_follow_60 (by decide) ?_
      refine lv_irem hx hb d_Md_follow_62 (by decide) ?_
      refine lv_istore (lv' := [(5, .int (x2 - x2 / 20 * 20)), (4, .int ((x2 / 20) - (x2 / 20) / 20 * 20)), (3, .int (x2 / 400)), (0, .ref (ad 0)), (1, .int x1), (2, .int x2)]) hx hb d_Md_follow_63 hl (by decide) rfl (fun ls hl => ?_)
      refine lv_aload_n hx hb d_Md_follow_65 rfl (lv_at hl 3 rfl) ?_
      refine va_get (D := D) (ci := 11) (v := .ref (ad 7)) (C := R_Md) (T := T_Md) (N := 27) hx hb hts iw_Md hown G.1 hP 0 rfl rfl 9 (by decide) (hts _ wd_4_232) (fun _ h9 => h9) rfl d_Md_follow_66 ?_
      refine lv_bipush (v := 20) hx hb d_Md_follow_69 (by decide) ?_
      refine lv_iload_n hx hb d_Md_follow_71 rfl (lv_at hl 2 rfl) ?_
      refine lv_imul hx hb d_Md_follow_72 ?_
      refine lv_iload hx hb d_Md_follow_73 (lv_at hl 1 rfl) ?_
      refine lv_iadd hx hb d_Md_follow_75 ?_
      obtain ⟨v7, e_v7, h⟩ := pu_ob h
      refine pu_zald hx hb G.1 hP 7 6 rfl rfl e_v7 d_Md_follow_76 ?_
      refine lv_if_eq (tgt := 126) hx hb d_Md_follow_77 (by decide) (fun c8 => ?_) (fun c8 => ?_)
      · rw [if_pos c8] at h
        refine lv_iinc (v := (x2 + 1)) (lv' := [(2, .int (x2 + 1)), (5, .int (x2 - x2 / 20 * 20)), (4, .int ((x2 / 20) - (x2 / 20) / 20 * 20)), (3, .int (x2 / 400)), (0, .ref (ad 0)), (1, .int x1)]) hx hb d_Md_follow_126 hl (k := 5) rfl rfl (by decide) rfl (fun ls hl => ?_)
        refine lv_goto (tgt := 37) hx hb d_Md_follow_129 (by decide) ?_
        exact ih st x1 (x2 + 1) h _ _ hP hS ls (lv_sub hl [4, 5, 0] rfl)
      · rw [if_neg c8] at h
        refine lv_aload_n hx hb d_Md_follow_80 rfl (lv_at hl 3 rfl) ?_
        refine va_get (D := D) (ci := 11) (v := .ref (ad 7)) (C := R_Md) (T := T_Md) (N := 27) hx hb hts iw_Md hown G.1 hP 0 rfl rfl 9 (by decide) (hts _ wd_4_232) (fun _ h9 => h9) rfl d_Md_follow_81 ?_
        refine lv_bipush (v := 20) hx hb d_Md_follow_84 (by decide) ?_
        refine lv_iload hx hb d_Md_follow_86 (lv_at hl 1 rfl) ?_
        refine lv_imul hx hb d_Md_follow_88 ?_
        refine lv_iload hx hb d_Md_follow_89 (lv_at hl 0 rfl) ?_
        refine lv_iadd hx hb d_Md_follow_91 ?_
        obtain ⟨v9, e_v9, h⟩ := pu_ob h
        refine pu_zald hx hb G.1 hP 7 6 rfl rfl e_v9 d_Md_follow_92 ?_
        refine lv_if_eq (tgt := 126) hx hb d_Md_follow_93 (by decide) (fun c10 => ?_) (fun c10 => ?_)
        · rw [if_pos c10] at h
          refine lv_iinc (v := (x2 + 1)) (lv' := [(2, .int (x2 + 1)), (5, .int (x2 - x2 / 20 * 20)), (4, .int ((x2 / 20) - (x2 / 20) / 20 * 20)), (3, .int (x2 / 400)), (0, .ref (ad 0)), (1, .int x1)]) hx hb d_Md_follow_126 hl (k := 5) rfl rfl (by decide) rfl (fun ls hl => ?_)
          refine lv_goto (tgt := 37) hx hb d_Md_follow_129 (by decide) ?_
          exact ih st x1 (x2 + 1) h _ _ hP hS ls (lv_sub hl [4, 5, 0] rfl)
        · rw [if_neg c10] at h
          refine lv_aload_n hx hb d_Md_follow_96 rfl (lv_at hl 3 rfl) ?_
          refine va_get (D := D) (ci := 11) (v := .ref (ad 7)) (C := R_Md) (T := T_Md) (N := 27) hx hb hts iw_Md hown G.1 hP 0 rfl rfl 9 (by decide) (hts _ wd_4_232) (fun _ h9 => h9) rfl d_Md_follow_97 ?_
          refine lv_bipush (v := 20) hx hb d_Md_follow_100 (by decide) ?_
          refine lv_iload_n hx hb d_Md_follow_102 rfl (lv_at hl 2 rfl) ?_
          refine lv_imul hx hb d_Md_follow_103 ?_
          refine lv_iload hx hb d_Md_follow_104 (lv_at hl 0 rfl) ?_
          refine lv_iadd hx hb d_Md_follow_106 ?_
          obtain ⟨v11, e_v11, h⟩ := pu_ob h
          refine pu_zald hx hb G.1 hP 7 6 rfl rfl e_v11 d_Md_follow_107 ?_
          refine lv_if_ne (tgt := 126) hx hb d_Md_follow_108 (by decide) (fun c12 => ?_) (fun c12 => ?_)
          · rw [if_neg c12] at h
            refine lv_iinc (v := (x2 + 1)) (lv' := [(2, .int (x2 + 1)), (5, .int (x2 - x2 / 20 * 20)), (4, .int ((x2 / 20) - (x2 / 20) / 20 * 20)), (3, .int (x2 / 400)), (0, .ref (ad 0)), (1, .int x1)]) hx hb d_Md_follow_126 hl (k := 5) rfl rfl (by decide) rfl (fun ls hl => ?_)
            refine lv_goto (tgt := 37) hx hb d_Md_follow_129 (by decide) ?_
            exact ih st x1 (x2 + 1) h _ _ hP hS ls (lv_sub hl [4, 5, 0] rfl)
          · rw [if_pos c12] at h
            refine lv_aload_n hx hb d_Md_follow_111 rfl (lv_at hl 3 rfl) ?_
            refine va_get (D := D) (ci := 11) (v := .ref (ad 7)) (C := R_Md) (T := T_Md) (N := 27) hx hb hts iw_Md hown G.1 hP 0 rfl rfl 9 (by decide) (hts _ wd_4_232) (fun _ h9 => h9) rfl d_Md_follow_112 ?_
            refine lv_bipush (v := 20) hx hb d_Md_follow_115 (by decide) ?_
            refine lv_iload_n hx hb d_Md_follow_117 rfl (lv_at hl 2 rfl) ?_
            refine lv_imul hx hb d_Md_follow_118 ?_
            refine lv_iload hx hb d_Md_follow_119 (lv_at hl 0 rfl) ?_
            refine lv_iadd hx hb d_Md_follow_121 ?_
            refine lv_iconst (v := 1) hx hb d_Md_follow_122 (by decide) ?_
            obtain ⟨g13, e_g13, h⟩ := pu_ob h
            refine pu_zast hx hb G.1 hP (G.D) hS 7 6 rfl rfl e_g13 rfl d_Md_follow_123 (fun H locs hP hS => ?_)
            have hP : va_P D hcl (mW ca ad (st.1, va_up st.2 6 g13)) H := hP
            refine lv_iconst (v := 1) hx hb d_Md_follow_124 (by decide) ?_
            refine lv_istore_n (lv' := [(1, .int 1), (5, .int (x2 - x2 / 20 * 20)), (4, .int ((x2 / 20) - (x2 / 20) / 20 * 20)), (3, .int (x2 / 400)), (0, .ref (ad 0)), (2, .int x2)]) hx hb d_Md_follow_125 rfl hl (by decide) rfl (fun ls hl => ?_)
            refine lv_iinc (v := (x2 + 1)) (lv' := [(2, .int (x2 + 1)), (1, .int 1), (5, .int (x2 - x2 / 20 * 20)), (4, .int ((x2 / 20) - (x2 / 20) / 20 * 20)), (3, .int (x2 / 400)), (0, .ref (ad 0))]) hx hb d_Md_follow_126 hl (k := 5) rfl rfl (by decide) rfl (fun ls hl => ?_)
            refine lv_goto (tgt := 37) hx hb d_Md_follow_129 (by decide) ?_
            exact ih (st.1, va_up st.2 6 g13) 1 (x2 + 1) h _ _ hP hS ls (lv_sub hl [5, 1, 0] rfl)
set_option maxHeartbeats 4000000 in
set_option maxRecDepth 100000 in
theorem t_Md_follow_b29 {l : Launch} (htl : l.stackTraces = false) {p : Program} {e : Env} {s : State} {m : MethodId} {args : Array Value} {below : List Frame} {meth : Method} {c : Code} {D : va_G} {ca : Nat → ClassId} {ad : Nat → Nat} {st' : pu_St} {v : Int32} (C : hC p s m meth c args b_Md_follow 6 none "MuseumHouseModel") (G : mX D ca ad (mA ad s.heap.size) s) :
    ∀ (n : Nat) (st : pu_St) (x1 : Int32), f_Md_follow_b29 n st x1 = some (v, st') → ∀ (H : Heap) (locs : List Loc), va_P D hcl (mW ca ad st) H → va_S (mA ad s.heap.size) s.heap H locs → ∀ ls : Array Slot, lv_has ls 6 [(0, .ref (ad 0)), (1, .int x1)] → W p l e { frames := 0, cells := 0, slots := 0, locals := 0 } s m args below meth c H locs 0 0 (MQX below (mQ D ca ad (fun _ => none) (.inl v) st' s.heap.size) args s 0 0 (mA ad s.heap.size)) (F0 m 29 ls []) := by
  obtain ⟨hx, hb, hml, hr, hlocks, hno, hown, hts⟩ := id C
  intro n
  induction n with
  | zero => intro st x1 h; cases h
  | succ n ih =>
    intro st x1 h H locs hP hS ls hl
    unfold f_Md_follow_b29 at h
    refine lv_iload_n hx hb d_Md_follow_29 rfl (lv_at hl 1 rfl) ?_
    refine lv_if_eq (tgt := 135) hx hb d_Md_follow_30 (by decide) (fun c5 => ?_) (fun c5 => ?_)
    · rw [if_pos c5] at h
      cases h
      exact W.toX (W.vret hx hb hr (fun t ht _ => ⟨rfl, by rw [ht]; exact hP, hS.F ht⟩) hS.2.2 d_Md_follow_135)
    · rw [if_neg c5] at h
      refine lv_iconst (v := 0) hx hb d_Md_follow_33 (by decide) ?_
      refine lv_istore_n (lv' := [(1, .int 0), (0, .ref (ad 0))]) hx hb d_Md_follow_34 rfl hl (by decide) rfl (fun ls hl => ?_)
      refine lv_iconst (v := 0) hx hb d_Md_follow_35 (by decide) ?_
      refine lv_istore_n (lv' := [(2, .int 0), (1, .int 0), (0, .ref (ad 0))]) hx hb d_Md_follow_36 rfl hl (by decide) rfl (fun ls hl => ?_)
      exact t_Md_follow_b37 htl C G ih pu_fu st 0 0 h _ _ hP hS ls (lv_sub hl [2, 1, 0] rfl)
set_option maxHeartbeats 4000000 in
set_option maxRecDepth 100000 in
theorem t_Md_follow_b2 {l : Launch} (htl : l.stackTraces = false) {p : Program} {e : Env} {s : State} {m : MethodId} {args : Array Value} {below : List Frame} {meth : Method} {c : Code} {D : va_G} {ca : Nat → ClassId} {ad : Nat → Nat} {st' : pu_St} {v : Int32} (C : hC p s m meth c args b_Md_follow 6 none "MuseumHouseModel") (G : mX D ca ad (mA ad s.heap.size) s) :
    ∀ (n : Nat) (st : pu_St) (x1 : Int32), f_Md_follow_b2 n st x1 = some (v, st') → ∀ (H : Heap) (locs : List Loc), va_P D hcl (mW ca ad st) H → va_S (mA ad s.heap.size) s.heap H locs → ∀ ls : Array Slot, lv_has ls 6 [(0, .ref (ad 0)), (1, .int x1)] → W p l e { frames := 0, cells := 0, slots := 0, locals := 0 } s m args below meth c H locs 0 0 (MQX below (mQ D ca ad (fun _ => none) (.inl v) st' s.heap.size) args s 0 0 (mA ad s.heap.size)) (F0 m 2 ls []) := by
  obtain ⟨hx, hb, hml, hr, hlocks, hno, hown, hts⟩ := id C
  intro n
  induction n with
  | zero => intro st x1 h; cases h
  | succ n ih =>
    intro st x1 h H locs hP hS ls hl
    unfold f_Md_follow_b2 at h
    refine lv_iload_n hx hb d_Md_follow_2 rfl (lv_at hl 1 rfl) ?_
    refine lv_sipush (v := 400) hx hb d_Md_follow_3 (by decide) ?_
    refine lv_icmp_ge (tgt := 27) hx hb d_Md_follow_6 (by decide) (fun c1 => ?_) (fun c1 => ?_)
    · rw [if_pos c1] at h
      refine lv_iconst (v := 1) hx hb d_Md_follow_27 (by decide) ?_
      refine lv_istore_n (lv' := [(1, .int 1), (0, .ref (ad 0))]) hx hb d_Md_follow_28 rfl hl (by decide) rfl (fun ls hl => ?_)
      exact t_Md_follow_b29 htl C G pu_fu st 1 h _ _ hP hS ls (lv_sub hl [1, 0] rfl)
    · rw [if_neg c1] at h
      refine lv_aload_n hx hb d_Md_follow_9 rfl (lv_at hl 0 rfl) ?_
      refine va_get (D := D) (ci := 11) (v := .ref (ad 7)) (C := R_Md) (T := T_Md) (N := 27) hx hb hts iw_Md hown G.1 hP 0 rfl rfl 9 (by decide) (hts _ wd_4_232) (fun _ h9 => h9) rfl d_Md_follow_10 ?_
      refine lv_iload_n hx hb d_Md_follow_13 rfl (lv_at hl 1 rfl) ?_
      refine lv_aload_n hx hb d_Md_follow_14 rfl (lv_at hl 0 rfl) ?_
      refine va_get (D := D) (ci := 11) (v := .ref (ad 6)) (C := R_Md) (T := T_Md) (N := 27) hx hb hts iw_Md hown G.1 hP 0 rfl rfl 8 (by decide) (hts _ wd_4_231) (fun _ h9 => h9) rfl d_Md_follow_15 ?_
      refine lv_iload_n hx hb d_Md_follow_18 rfl (lv_at hl 1 rfl) ?_
      obtain ⟨v2, e_v2, h⟩ := pu_ob h
      refine pu_zald hx hb G.1 hP 6 5 rfl rfl e_v2 d_Md_follow_19 ?_
      obtain ⟨b3, e_b3, h⟩ := pu_ob h
      obtain ⟨e_b3, k_b3⟩ := pu_bo_inv e_b3
      rw [e_b3]
      obtain ⟨g4, e_g4, h⟩ := pu_ob h
      refine pu_zast hx hb G.1 hP (G.D) hS 7 6 rfl rfl e_g4 (by rcases k_b3 with e | e <;> rw [e] <;> rfl) d_Md_follow_20 (fun H locs hP hS => ?_)
      have hP : va_P D hcl (mW ca ad (st.1, va_up st.2 6 g4)) H := hP
      refine lv_iinc (v := (x1 + 1)) (lv' := [(1, .int (x1 + 1)), (0, .ref (ad 0))]) hx hb d_Md_follow_21 hl (k := 1) rfl rfl (by decide) rfl (fun ls hl => ?_)
      refine lv_goto (tgt := 2) hx hb d_Md_follow_24 (by decide) ?_
      exact ih (st.1, va_up st.2 6 g4) (x1 + 1) h _ _ hP hS ls (lv_sub hl [1, 0] rfl)
set_option maxHeartbeats 4000000 in
set_option maxRecDepth 100000 in
theorem c_Md_follow (l : Launch) (htl : l.stackTraces = false) (D : va_G) (ca : Nat → ClassId) (ad : Nat → Nat) (st : pu_St) (sz : Nat) (v : Int32) (st' : pu_St) (h : f_Md_follow st = some (v, st')) : MetX l y_Md_follow (.code y_Md_follow b_Md_follow 6 none :: tG) { frames := 0, cells := 0, slots := 0, locals := 0 } (va_Pc [.ref (ad 0)] (mPc D ca ad st sz)) (mQ D ca ad (fun _ => none) (.inl v) st' sz) 0 0 (mA ad sz) := by
  refine mMet (by decide +kernel) ?_
  intro p e s m below meth c hsz C G hP
  obtain ⟨hx, hb, hml, hr, hlocks, hno, hown, hts⟩ := id C
  have hown : s.vm.findClass "MuseumHouseModel" = some m.cls := hown
  have hS : va_S (mA ad s.heap.size) s.heap s.heap [] := va_S.rf
  have hl := lv_entry ([.ref (ad 0)]) (n := 6) (Nat.le_of_ble_eq_true rfl)
  rw [lg_entry_eq]
  generalize (lg_sl ([.ref (ad 0)]) ++ List.replicate (6 - (lg_sl ([.ref (ad 0)])).length) Slot.unset).toArray = ls at hl ⊢
  have hl : lv_has ls 6 [(0, .ref (ad 0))] := hl
  unfold f_Md_follow at h
  refine lv_iconst (v := 0) hx hb d_Md_follow_0 (by decide) ?_
  refine lv_istore_n (lv' := [(1, .int 0), (0, .ref (ad 0))]) hx hb d_Md_follow_1 rfl hl (by decide) rfl (fun ls hl => ?_)
  exact t_Md_follow_b2 htl C G pu_fu st 0 h _ _ hP hS ls (lv_sub hl [1, 0] rfl)

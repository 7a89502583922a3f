set_option maxHeartbeats 4000000 in
set_option maxRecDepth 100000 in
theorem c_Rg_size_Fi (l : Launch) (D : va_G) (ca : Nat → ClassId) (ad : Nat → Nat) (st : pu_St) (sz : Nat) (r : Int32) (h : f_Rg_size_Fi st = some r) : Met l y_Rg_size (.code y_Rg_size b_Rg_size 1 (some .int) :: tG) { frames := 0, cells := 0, slots := 0, locals := 0 } (va_Pc [.ref (ad 4)] (hPc D ca ad st sz)) (QcRead r) 0 0 (fun _ => False) := by
  refine hRead (by decide +kernel) ?_
  intro p e s m below meth c C G hP
  obtain ⟨hx, hb, hml, hr, hlocks, hno, hown, hts⟩ := id C
  have hown : s.vm.findClass "MuseumHouse$Register" = some m.cls := hown
  have hS : va_S (hA ad s.heap.size) s.heap s.heap [] := va_S.rf
  have hl := lv_entry ([.ref (ad 4)]) (n := 1) (Nat.le_of_ble_eq_true rfl)
  rw [lg_entry_eq]
  generalize (lg_sl ([.ref (ad 4)]) ++ List.replicate (1 - (lg_sl ([.ref (ad 4)])).length) Slot.unset).toArray = ls at hl ⊢
  have hl : lv_has ls 1 [(0, .ref (ad 4))] := hl
  unfold f_Rg_size_Fi at h
  refine lv_aload_n hx hb d_Rg_size_0 rfl (lv_at hl 0 rfl) ?_
  refine va_get (D := D) (ci := 4) (v := .int (st.1 5)) (C := R_Fi) (T := T_Fi) (N := 5) hx hb hts iw_Fi hown G.1 hP 4 rfl rfl 2 (by decide) (hts _ wd_1_47) (fun _ h9 => h9) rfl d_Rg_size_1 ?_
  have h := Option.some.inj h
  exact W.iret (v := (st.1 5)) hx hb hr (fun t ht _ => ⟨by rw [h], ht⟩) (fun _ q => by cases q) d_Rg_size_4
set_option maxHeartbeats 4000000 in
set_option maxRecDepth 100000 in
theorem c_Rg_size_Si (l : Launch) (D : va_G) (ca : Nat → ClassId) (ad : Nat → Nat) (st : pu_St) (sz : Nat) (r : Int32) (h : f_Rg_size_Si st = some r) : Met l y_Rg_size (.code y_Rg_size b_Rg_size 1 (some .int) :: tG) { frames := 0, cells := 0, slots := 0, locals := 0 } (va_Pc [.ref (ad 2)] (hPc D ca ad st sz)) (QcRead r) 0 0 (fun _ => False) := by
  refine hRead (by decide +kernel) ?_
  intro p e s m below meth c C G hP
  obtain ⟨hx, hb, hml, hr, hlocks, hno, hown, hts⟩ := id C
  have hown : s.vm.findClass "MuseumHouse$Register" = some m.cls := hown
  have hS : va_S (hA ad s.heap.size) s.heap s.heap [] := va_S.rf
  have hl := lv_entry ([.ref (ad 2)]) (n := 1) (Nat.le_of_ble_eq_true rfl)
  rw [lg_entry_eq]
  generalize (lg_sl ([.ref (ad 2)]) ++ List.replicate (1 - (lg_sl ([.ref (ad 2)])).length) Slot.unset).toArray = ls at hl ⊢
  have hl : lv_has ls 1 [(0, .ref (ad 2))] := hl
  unfold f_Rg_size_Si at h
  refine lv_aload_n hx hb d_Rg_size_0 rfl (lv_at hl 0 rfl) ?_
  refine va_get (D := D) (ci := 2) (v := .int (st.1 3)) (C := R_Si) (T := T_Si) (N := 3) hx hb hts iw_Si hown G.1 hP 2 rfl rfl 2 (by decide) (hts _ wd_1_47) (fun _ h9 => h9) rfl d_Rg_size_1 ?_
  have h := Option.some.inj h
  exact W.iret (v := (st.1 3)) hx hb hr (fun t ht _ => ⟨by rw [h], ht⟩) (fun _ q => by cases q) d_Rg_size_4
set_option maxHeartbeats 4000000 in
set_option maxRecDepth 100000 in
theorem c_Rg_size_De (l : Launch) (D : va_G) (ca : Nat → ClassId) (ad : Nat → Nat) (st : pu_St) (sz : Nat) (r : Int32) (h : f_Rg_size_De st = some r) : Met l y_Rg_size (.code y_Rg_size b_Rg_size 1 (some .int) :: tG) { frames := 0, cells := 0, slots := 0, locals := 0 } (va_Pc [.ref (ad 1)] (hPc D ca ad st sz)) (QcRead r) 0 0 (fun _ => False) := by
  refine hRead (by decide +kernel) ?_
  intro p e s m below meth c C G hP
  obtain ⟨hx, hb, hml, hr, hlocks, hno, hown, hts⟩ := id C
  have hown : s.vm.findClass "MuseumHouse$Register" = some m.cls := hown
  have hS : va_S (hA ad s.heap.size) s.heap s.heap [] := va_S.rf
  have hl := lv_entry ([.ref (ad 1)]) (n := 1) (Nat.le_of_ble_eq_true rfl)
  rw [lg_entry_eq]
  generalize (lg_sl ([.ref (ad 1)]) ++ List.replicate (1 - (lg_sl ([.ref (ad 1)])).length) Slot.unset).toArray = ls at hl ⊢
  have hl : lv_has ls 1 [(0, .ref (ad 1))] := hl
  unfold f_Rg_size_De at h
  refine lv_aload_n hx hb d_Rg_size_0 rfl (lv_at hl 0 rfl) ?_
  refine va_get (D := D) (ci := 1) (v := .int (st.1 2)) (C := R_De) (T := T_De) (N := 4) hx hb hts iw_De hown G.1 hP 1 rfl rfl 2 (by decide) (hts _ wd_1_47) (fun _ h9 => h9) rfl d_Rg_size_1 ?_
  have h := Option.some.inj h
  exact W.iret (v := (st.1 2)) hx hb hr (fun t ht _ => ⟨by rw [h], ht⟩) (fun _ q => by cases q) d_Rg_size_4
set_option maxHeartbeats 4000000 in
set_option maxRecDepth 100000 in
theorem c_H_count (l : Launch) (htl : l.stackTraces = false) (D : va_G) (ca : Nat → ClassId) (ad : Nat → Nat) (st : pu_St) (sz : Nat) (x1 : Int32) (r : Int32 ⊕ Nat) (st' : pu_St) (h : f_H_count st x1 = some (r, st')) : MetX l y_H_count (.code y_H_count b_H_count 2 (some .int) :: tG) { frames := 6, cells := xc r, slots := xs r, locals := 90 } (va_Pc [.ref (ad 0), .int x1] (hPc D ca ad st sz)) (hQ D ca ad (fun v => some (.int v)) r st' sz) (xc r) (xs r) (hA ad sz) := by
  refine hMet (by decide +kernel) ?_
  intro p e s m below meth c hsz C G hP
  obtain ⟨hx, hb, hml, hr, hlocks, hno, hown, hts⟩ := id C
  have hown : s.vm.findClass "MuseumHouse" = some m.cls := hown
  have hS : va_S (hA ad s.heap.size) s.heap s.heap [] := va_S.rf
  have hl := lv_entry ([.ref (ad 0), .int x1]) (n := 2) (Nat.le_of_ble_eq_true rfl)
  rw [lg_entry_eq]
  generalize (lg_sl ([.ref (ad 0), .int x1]) ++ List.replicate (2 - (lg_sl ([.ref (ad 0), .int x1])).length) Slot.unset).toArray = ls at hl ⊢
  have hl : lv_has ls 2 [(0, .ref (ad 0)), (1, .int x1)] := hl
  unfold f_H_count at h
  refine lv_iload_n hx hb d_H_count_0 rfl (lv_at hl 1 rfl) ?_
  by_cases c1 : x1 = 1
  · rw [if_pos c1] at h
    refine lv_tableIn (tgt := 52) hx hb d_H_count_1 (by rw [c1]; decide) (by rw [c1]; decide) (by rw [c1]; rfl) (by decide) ?_
    refine lv_aload_n hx hb d_H_count_52 rfl (lv_at hl 0 rfl) ?_
    refine va_get (D := D) (ci := 0) (v := .ref (ad 1)) (C := R_H) (T := T_H) (N := 12) hx hb hts iw_H hown G.1 hP 0 rfl rfl 0 (by decide) (hts _ wd_1_212) (fun _ h9 => h9) rfl d_H_count_53 ?_
    obtain ⟨v2, e_v2, h⟩ := pu_ob h
    refine pu_callR (va_runU (As := []) (rest := []) ⟨hx, hb, hml, hown, hts⟩ (c_Rg_size_De l D ca ad st _ v2 e_v2) (xCU (C := "MuseumHouse$Desks") (owner := "MuseumHouse$Register") (x := ⟨"MuseumHouse$Desks", "size", "()I"⟩) 0 hts wd_3_4 wd_1_2 wd_4_201 wd_4_202 wd_3_3 wd_4_203 rfl (by decide +kernel) ⟨Nat.le_of_ble_eq_true rfl, Nat.le_of_ble_eq_true rfl⟩) (G.preV hP hS 1 rfl rfl) rfl rfl hl.1 rfl (lv_room (Nat.le_of_ble_eq_true rfl)) d_H_count_56 ⟨Nat.zero_le _, Nat.zero_le _⟩) ?_
    cases h
    exact W.toX (W.iret hx hb hr (fun t ht _ => ⟨rfl, by rw [ht]; exact hP, hS.F ht⟩) hS.2.2 d_H_count_59)
  rw [if_neg c1] at h
  by_cases c3 : x1 = 2
  · rw [if_pos c3] at h
    refine lv_tableIn (tgt := 60) hx hb d_H_count_1 (by rw [c3]; decide) (by rw [c3]; decide) (by rw [c3]; rfl) (by decide) ?_
    refine lv_aload_n hx hb d_H_count_60 rfl (lv_at hl 0 rfl) ?_
    refine va_get (D := D) (ci := 0) (v := .ref (ad 2)) (C := R_H) (T := T_H) (N := 12) hx hb hts iw_H hown G.1 hP 0 rfl rfl 1 (by decide) (hts _ wd_1_213) (fun _ h9 => h9) rfl d_H_count_61 ?_
    obtain ⟨v4, e_v4, h⟩ := pu_ob h
    refine pu_callR (va_runU (As := []) (rest := []) ⟨hx, hb, hml, hown, hts⟩ (c_Rg_size_Si l D ca ad st _ v4 e_v4) (xCU (C := "MuseumHouse$Sites") (owner := "MuseumHouse$Register") (x := ⟨"MuseumHouse$Sites", "size", "()I"⟩) 0 hts wd_3_4 wd_1_2 wd_4_204 wd_4_205 wd_3_3 wd_4_206 rfl (by decide +kernel) ⟨Nat.le_of_ble_eq_true rfl, Nat.le_of_ble_eq_true rfl⟩) (G.preV hP hS 2 rfl rfl) rfl rfl hl.1 rfl (lv_room (Nat.le_of_ble_eq_true rfl)) d_H_count_64 ⟨Nat.zero_le _, Nat.zero_le _⟩) ?_
    cases h
    exact W.toX (W.iret hx hb hr (fun t ht _ => ⟨rfl, by rw [ht]; exact hP, hS.F ht⟩) hS.2.2 d_H_count_67)
  rw [if_neg c3] at h
  by_cases c5 : x1 = 3
  · rw [if_pos c5] at h
    refine lv_tableIn (tgt := 68) hx hb d_H_count_1 (by rw [c5]; decide) (by rw [c5]; decide) (by rw [c5]; rfl) (by decide) ?_
    refine lv_aload_n hx hb d_H_count_68 rfl (lv_at hl 0 rfl) ?_
    refine va_get (D := D) (ci := 0) (v := .ref (ad 3)) (C := R_H) (T := T_H) (N := 12) hx hb hts iw_H hown G.1 hP 0 rfl rfl 2 (by decide) (hts _ wd_1_214) (fun _ h9 => h9) rfl d_H_count_69 ?_
    obtain ⟨v6, e_v6, h⟩ := pu_ob h
    refine pu_callR (va_runU (As := []) (rest := []) ⟨hx, hb, hml, hown, hts⟩ (c_Rg_size_Co l D ca ad st _ v6 e_v6) (xCU (C := "MuseumHouse$Contexts") (owner := "MuseumHouse$Register") (x := ⟨"MuseumHouse$Contexts", "size", "()I"⟩) 0 hts wd_3_4 wd_1_2 wd_4_207 wd_3_0 wd_3_3 wd_3_2 rfl (by decide +kernel) ⟨Nat.le_of_ble_eq_true rfl, Nat.le_of_ble_eq_true rfl⟩) (G.preV hP hS 3 rfl rfl) rfl rfl hl.1 rfl (lv_room (Nat.le_of_ble_eq_true rfl)) d_H_count_72 ⟨Nat.zero_le _, Nat.zero_le _⟩) ?_
    cases h
    exact W.toX (W.iret hx hb hr (fun t ht _ => ⟨rfl, by rw [ht]; exact hP, hS.F ht⟩) hS.2.2 d_H_count_75)
  rw [if_neg c5] at h
  by_cases c7 : x1 = 4
  · rw [if_pos c7] at h
    refine lv_tableIn (tgt := 76) hx hb d_H_count_1 (by rw [c7]; decide) (by rw [c7]; decide) (by rw [c7]; rfl) (by decide) ?_
    refine lv_aload_n hx hb d_H_count_76 rfl (lv_at hl 0 rfl) ?_
    refine va_get (D := D) (ci := 0) (v := .ref (ad 4)) (C := R_H) (T := T_H) (N := 12) hx hb hts iw_H hown G.1 hP 0 rfl rfl 3 (by decide) (hts _ wd_1_215) (fun _ h9 => h9) rfl d_H_count_77 ?_
    obtain ⟨v8, e_v8, h⟩ := pu_ob h
    refine pu_callR (va_runU (As := []) (rest := []) ⟨hx, hb, hml, hown, hts⟩ (c_Rg_size_Fi l D ca ad st _ v8 e_v8) (xCU (C := "MuseumHouse$Finds") (owner := "MuseumHouse$Register") (x := ⟨"MuseumHouse$Finds", "size", "()I"⟩) 0 hts wd_3_4 wd_1_2 wd_4_208 wd_4_209 wd_3_3 wd_4_210 rfl (by decide +kernel) ⟨Nat.le_of_ble_eq_true rfl, Nat.le_of_ble_eq_true rfl⟩) (G.preV hP hS 4 rfl rfl) rfl rfl hl.1 rfl (lv_room (Nat.le_of_ble_eq_true rfl)) d_H_count_80 ⟨Nat.zero_le _, Nat.zero_le _⟩) ?_
    cases h
    exact W.toX (W.iret hx hb hr (fun t ht _ => ⟨rfl, by rw [ht]; exact hP, hS.F ht⟩) hS.2.2 d_H_count_83)
  rw [if_neg c7] at h
  by_cases c9 : x1 = 5
  · rw [if_pos c9] at h
    refine lv_tableIn (tgt := 84) hx hb d_H_count_1 (by rw [c9]; decide) (by rw [c9]; decide) (by rw [c9]; rfl) (by decide) ?_
    refine lv_aload_n hx hb d_H_count_84 rfl (lv_at hl 0 rfl) ?_
    refine va_get (D := D) (ci := 0) (v := .ref (ad 5)) (C := R_H) (T := T_H) (N := 12) hx hb hts iw_H hown G.1 hP 0 rfl rfl 4 (by decide) (hts _ wd_1_216) (fun _ h9 => h9) rfl d_H_count_85 ?_
    obtain ⟨v10, e_v10, h⟩ := pu_ob h
    refine pu_callR (va_runU (As := []) (rest := []) ⟨hx, hb, hml, hown, hts⟩ (c_Rg_size_It l D ca ad st _ v10 e_v10) (xCU (C := "MuseumHouse$Items") (owner := "MuseumHouse$Register") (x := ⟨"MuseumHouse$Items", "size", "()I"⟩) 0 hts wd_3_4 wd_1_2 wd_3_232 wd_3_93 wd_3_3 wd_3_94 rfl (by decide +kernel) ⟨Nat.le_of_ble_eq_true rfl, Nat.le_of_ble_eq_true rfl⟩) (G.preV hP hS 5 rfl rfl) rfl rfl hl.1 rfl (lv_room (Nat.le_of_ble_eq_true rfl)) d_H_count_88 ⟨Nat.zero_le _, Nat.zero_le _⟩) ?_
    cases h
    exact W.toX (W.iret hx hb hr (fun t ht _ => ⟨rfl, by rw [ht]; exact hP, hS.F ht⟩) hS.2.2 d_H_count_91)
  rw [if_neg c9] at h
  by_cases c11 : x1 = 6
  · rw [if_pos c11] at h
    refine lv_tableIn (tgt := 92) hx hb d_H_count_1 (by rw [c11]; decide) (by rw [c11]; decide) (by rw [c11]; rfl) (by decide) ?_
    refine lv_aload_n hx hb d_H_count_92 rfl (lv_at hl 0 rfl) ?_
    refine va_get (D := D) (ci := 0) (v := .ref (ad 7)) (C := R_H) (T := T_H) (N := 12) hx hb hts iw_H hown G.1 hP 0 rfl rfl 6 (by decide) (hts _ wd_1_218) (fun _ h9 => h9) rfl d_H_count_93 ?_
    obtain ⟨v12, e_v12, h⟩ := pu_ob h
    refine pu_callR (va_runU (As := []) (rest := []) ⟨hx, hb, hml, hown, hts⟩ (c_Rg_size_So l D ca ad st _ v12 e_v12) (xCU (C := "MuseumHouse$Stores") (owner := "MuseumHouse$Register") (x := ⟨"MuseumHouse$Stores", "size", "()I"⟩) 0 hts wd_3_4 wd_1_2 wd_4_211 wd_4_212 wd_3_3 wd_4_213 rfl (by decide +kernel) ⟨Nat.le_of_ble_eq_true rfl, Nat.le_of_ble_eq_true rfl⟩) (G.preV hP hS 7 rfl rfl) rfl rfl hl.1 rfl (lv_room (Nat.le_of_ble_eq_true rfl)) d_H_count_96 ⟨Nat.zero_le _, Nat.zero_le _⟩) ?_
    cases h
    exact W.toX (W.iret hx hb hr (fun t ht _ => ⟨rfl, by rw [ht]; exact hP, hS.F ht⟩) hS.2.2 d_H_count_99)
  rw [if_neg c11] at h
  by_cases c13 : x1 = 7
  · rw [if_pos c13] at h
    refine lv_tableIn (tgt := 100) hx hb d_H_count_1 (by rw [c13]; decide) (by rw [c13]; decide) (by rw [c13]; rfl) (by decide) ?_
    refine lv_aload_n hx hb d_H_count_100 rfl (lv_at hl 0 rfl) ?_
    refine va_get (D := D) (ci := 0) (v := .ref (ad 8)) (C := R_H) (T := T_H) (N := 12) hx hb hts iw_H hown G.1 hP 0 rfl rfl 7 (by decide) (hts _ wd_1_219) (fun _ h9 => h9) rfl d_H_count_101 ?_
    obtain ⟨v14, e_v14, h⟩ := pu_ob h
    refine pu_callR (va_runU (As := []) (rest := []) ⟨hx, hb, hml, hown, hts⟩ (c_Rg_size_Lo l D ca ad st _ v14 e_v14) (xCU (C := "MuseumHouse$Loans") (owner := "MuseumHouse$Register") (x := ⟨"MuseumHouse$Loans", "size", "()I"⟩) 0 hts wd_3_4 wd_1_2 wd_4_214 wd_3_200 wd_3_3 wd_3_201 rfl (by decide +kernel) ⟨Nat.le_of_ble_eq_true rfl, Nat.le_of_ble_eq_true rfl⟩) (G.preV hP hS 8 rfl rfl) rfl rfl hl.1 rfl (lv_room (Nat.le_of_ble_eq_true rfl)) d_H_count_104 ⟨Nat.zero_le _, Nat.zero_le _⟩) ?_
    cases h
    exact W.toX (W.iret hx hb hr (fun t ht _ => ⟨rfl, by rw [ht]; exact hP, hS.F ht⟩) hS.2.2 d_H_count_107)
  rw [if_neg c13] at h
  by_cases c15 : x1 = 8
  · rw [if_pos c15] at h
    refine lv_tableIn (tgt := 108) hx hb d_H_count_1 (by rw [c15]; decide) (by rw [c15]; decide) (by rw [c15]; rfl) (by decide) ?_
    refine lv_aload_n hx hb d_H_count_108 rfl (lv_at hl 0 rfl) ?_
    refine va_get (D := D) (ci := 0) (v := .ref (ad 9)) (C := R_H) (T := T_H) (N := 12) hx hb hts iw_H hown G.1 hP 0 rfl rfl 8 (by decide) (hts _ wd_1_220) (fun _ h9 => h9) rfl d_H_count_109 ?_
    obtain ⟨v16, e_v16, h⟩ := pu_ob h
    refine pu_callR (va_runU (As := []) (rest := []) ⟨hx, hb, hml, hown, hts⟩ (c_Rg_size_Sh l D ca ad st _ v16 e_v16) (xCU (C := "MuseumHouse$Shows") (owner := "MuseumHouse$Register") (x := ⟨"MuseumHouse$Shows", "size", "()I"⟩) 0 hts wd_3_4 wd_1_2 wd_4_215 wd_4_19 wd_3_3 wd_4_20 rfl (by decide +kernel) ⟨Nat.le_of_ble_eq_true rfl, Nat.le_of_ble_eq_true rfl⟩) (G.preV hP hS 9 rfl rfl) rfl rfl hl.1 rfl (lv_room (Nat.le_of_ble_eq_true rfl)) d_H_count_112 ⟨Nat.zero_le _, Nat.zero_le _⟩) ?_
    cases h
    exact W.toX (W.iret hx hb hr (fun t ht _ => ⟨rfl, by rw [ht]; exact hP, hS.F ht⟩) hS.2.2 d_H_count_115)
  rw [if_neg c15] at h
  by_cases c17 : x1 = 9
  · rw [if_pos c17] at h
    refine lv_tableIn (tgt := 116) hx hb d_H_count_1 (by rw [c17]; decide) (by rw [c17]; decide) (by rw [c17]; rfl) (by decide) ?_
    refine lv_aload_n hx hb d_H_count_116 rfl (lv_at hl 0 rfl) ?_
    refine va_get (D := D) (ci := 0) (v := .ref (ad 10)) (C := R_H) (T := T_H) (N := 12) hx hb hts iw_H hown G.1 hP 0 rfl rfl 9 (by decide) (hts _ wd_1_221) (fun _ h9 => h9) rfl d_H_count_117 ?_
    obtain ⟨v18, e_v18, h⟩ := pu_ob h
    refine pu_callR (va_runU (As := []) (rest := []) ⟨hx, hb, hml, hown, hts⟩ (c_Rg_size_Cl l D ca ad st _ v18 e_v18) (xCU (C := "MuseumHouse$Claims") (owner := "MuseumHouse$Register") (x := ⟨"MuseumHouse$Claims", "size", "()I"⟩) 0 hts wd_3_4 wd_1_2 wd_4_216 wd_4_12 wd_3_3 wd_4_13 rfl (by decide +kernel) ⟨Nat.le_of_ble_eq_true rfl, Nat.le_of_ble_eq_true rfl⟩) (G.preV hP hS 10 rfl rfl) rfl rfl hl.1 rfl (lv_room (Nat.le_of_ble_eq_true rfl)) d_H_count_120 ⟨Nat.zero_le _, Nat.zero_le _⟩) ?_
    cases h
    exact W.toX (W.iret hx hb hr (fun t ht _ => ⟨rfl, by rw [ht]; exact hP, hS.F ht⟩) hS.2.2 d_H_count_123)
  rw [if_neg c17] at h
  refine lv_tableOut (tgt := 124) hx hb d_H_count_1 (pu_o9 ⟨c1, c3, c5, c7, c9, c11, c13, c15, c17⟩) (by decide) ?_
  cases h
  exact hThrow G hx hb (hl.1.trans hml.symm) hown hno hlocks htl hts (by decide +kernel) xo_1 wd_2_40 wd_2_41 wd_1_17 hP hS d_H_count_124 d_H_count_127 d_H_count_128 d_H_count_131 (Nat.le_of_ble_eq_true rfl) (Nat.le_of_ble_eq_true rfl) (Nat.le_of_ble_eq_true rfl) (Nat.le_of_ble_eq_true rfl) rfl

set_option maxHeartbeats 4000000 in
set_option maxRecDepth 100000 in
theorem t_Md_year_b14 {l : Launch} (htl : l.stackTraces = false) {p : Program} {e : Env} {s : State} {m : MethodId} {args : Array Value} {below : List Frame} {meth : Method} {c : Code} {D : va_G} {ca : Nat → ClassId} {ad : Nat → Nat} {st' : pu_St} {v : Int32} (C : hC p s m meth c args b_Md_year 4 (some .int) "MuseumHouseModel") (G : mX D ca ad (mA ad s.heap.size) s) :
    ∀ (_ : Unit) (st : pu_St) (x1 x2 z0 : Int32), f_Md_year_b14 st x1 x2 z0 = some (v, st') → ∀ (H : Heap) (locs : List Loc), va_P D hcl (mW ca ad st) H → va_S (mA ad s.heap.size) s.heap H locs → ∀ ls : Array Slot, lv_has ls 4 [(0, .ref (ad 0)), (1, .int x1), (2, .int x2)] → W p l e { frames := 1, cells := 0, slots := 0, locals := 25 } s m args below meth c H locs 0 0 (MQX below (mQ D ca ad (fun v => some (.int v)) (.inl v) st' s.heap.size) args s 0 0 (mA ad s.heap.size)) (F0 m 14 ls [.int z0]) := by
  obtain ⟨hx, hb, hml, hr, hlocks, hno, hown, hts⟩ := id C
  intro _ st x1 x2 z0 h H locs hP hS ls hl
  unfold f_Md_year_b14 at h
  refine lv_istore_n (lv' := [(3, .int z0), (0, .ref (ad 0)), (1, .int x1), (2, .int x2)]) hx hb d_Md_year_14 rfl hl (by decide) rfl (fun ls hl => ?_)
  refine lv_iload_n hx hb d_Md_year_15 rfl (lv_at hl 0 rfl) ?_
  refine lv_iload_n hx hb d_Md_year_16 rfl (lv_at hl 3 rfl) ?_
  refine lv_iconst (v := 0) hx hb d_Md_year_17 (by decide) ?_
  refine lv_iconst (v := 1) hx hb d_Md_year_18 (by decide) ?_
  obtain ⟨v3, e_v3, h⟩ := pu_ob h
  refine pu_callR (va_runS (As := [.int x2, .int 0, .int 1]) (rest := [.int z0]) ⟨hx, hb, hml, hown, hts⟩ (c_Md_lies l D ca ad st _ x2 0 1 v3 e_v3) (xCS 3 hts wd_5_87 wd_1_13 wd_5_85 wd_5_86 (by decide +kernel) ⟨Nat.le_of_ble_eq_true rfl, Nat.le_of_ble_eq_true rfl⟩) (G.preS hP hS) rfl rfl hl.1 rfl (lv_room (Nat.le_of_ble_eq_true rfl)) d_Md_year_19 ⟨Nat.zero_le _, Nat.zero_le _⟩) ?_
  refine lv_iconst (v := 4) hx hb d_Md_year_22 (by decide) ?_
  obtain ⟨v4, e_v4, h⟩ := pu_ob h
  refine pu_callR (va_runS (As := [.int z0, .int v3, .int 4]) (rest := []) ⟨hx, hb, hml, hown, hts⟩ (c_Md_then l D ca ad st _ z0 v3 4 v4 e_v4) (xCS 3 hts wd_5_90 wd_1_13 wd_5_88 wd_5_89 (by decide +kernel) ⟨Nat.le_of_ble_eq_true rfl, Nat.le_of_ble_eq_true rfl⟩) (G.preS hP hS) rfl rfl hl.1 rfl (lv_room (Nat.le_of_ble_eq_true rfl)) d_Md_year_23 ⟨Nat.zero_le _, Nat.zero_le _⟩) ?_
  refine lv_istore_n (lv' := [(3, .int v4), (0, .ref (ad 0)), (1, .int x1), (2, .int x2)]) hx hb d_Md_year_26 rfl hl (by decide) rfl (fun ls hl => ?_)
  refine lv_aload_n hx hb d_Md_year_27 rfl (lv_at hl 1 rfl) ?_
  refine lv_iload_n hx hb d_Md_year_28 rfl (lv_at hl 0 rfl) ?_
  obtain ⟨q5, e_q5, h⟩ := pu_ob h
  refine mCallI G hS (va_runV (As := [.int v4]) (rest := []) ⟨hx, hb, hml, hown, hts⟩ (MetX.met (c_Md_holdsShort l htl D ca ad st _ v4 q5.1 q5.2 e_q5) (fun _ _ _ _ q => ⟨_, q.1⟩)) (xCW (C := "MuseumHouseModel") 1 hts wd_5_146 wd_1_13 wd_5_143 wd_5_145 wd_0_22 (by decide +kernel) ⟨Nat.le_of_ble_eq_true rfl, Nat.le_of_ble_eq_true rfl⟩) (G.preV hP hS 0 rfl rfl) rfl rfl hl.1 rfl (lv_room (Nat.le_of_ble_eq_true rfl)) d_Md_year_29 ⟨Nat.zero_le _, Nat.zero_le _⟩) (fun H locs hP hS => ?_)
  refine lv_if_ne (tgt := 37) hx hb d_Md_year_32 (by decide) (fun c6 => ?_) (fun c6 => ?_)
  · rw [if_neg c6] at h
    refine lv_aload_n hx hb d_Md_year_37 rfl (lv_at hl 1 rfl) ?_
    obtain ⟨q7, e_q7, h⟩ := pu_ob h
    refine mCallU G hS (va_runV (As := []) (rest := []) ⟨hx, hb, hml, hown, hts⟩ (MetX.met (c_Md_follow l htl D ca ad q5.2 _ q7.1 q7.2 e_q7) (fun _ _ _ _ q => ⟨_, q.1⟩)) (xCW (C := "MuseumHouseModel") 0 hts wd_5_118 wd_1_13 wd_5_115 wd_5_117 wd_0_18 (by decide +kernel) ⟨Nat.le_of_ble_eq_true rfl, Nat.le_of_ble_eq_true rfl⟩) (G.preV hP hS 0 rfl rfl) rfl rfl hl.1 rfl (lv_room (Nat.le_of_ble_eq_true rfl)) d_Md_year_38 ⟨Nat.zero_le _, Nat.zero_le _⟩) (fun H locs hP hS => ?_)
    refine lv_iload_n hx hb d_Md_year_41 rfl (lv_at hl 3 rfl) ?_
    refine lv_if_ne (tgt := 57) hx hb d_Md_year_42 (by decide) (fun c8 => ?_) (fun c8 => ?_)
    · rw [if_neg c8] at h
      refine lv_aload_n hx hb d_Md_year_57 rfl (lv_at hl 1 rfl) ?_
      refine lv_iload_n hx hb d_Md_year_58 rfl (lv_at hl 2 rfl) ?_
      refine lv_sipush (v := 300) hx hb d_Md_year_59 (by decide) ?_
      refine lv_isub hx hb d_Md_year_62 ?_
      obtain ⟨v9, e_v9, h⟩ := pu_ob h
      refine pu_callR (va_runV (As := [.int (x1 - 300)]) (rest := []) ⟨hx, hb, hml, hown, hts⟩ (c_Md_latest l D ca ad q7.2 _ (x1 - 300) v9 e_v9) (xCW (C := "MuseumHouseModel") 1 hts wd_5_130 wd_1_13 wd_5_127 wd_5_129 wd_0_21 (by decide +kernel) ⟨Nat.le_of_ble_eq_true rfl, Nat.le_of_ble_eq_true rfl⟩) (G.preV hP hS 0 rfl rfl) rfl rfl hl.1 rfl (lv_room (Nat.le_of_ble_eq_true rfl)) d_Md_year_63 ⟨Nat.zero_le _, Nat.zero_le _⟩) ?_
      cases h
      exact W.toX (W.iret hx hb hr (fun t ht _ => ⟨rfl, by rw [ht]; exact hP, hS.F ht⟩) hS.2.2 d_Md_year_66)
    · rw [if_pos c8] at h
      refine lv_aload_n hx hb d_Md_year_45 rfl (lv_at hl 1 rfl) ?_
      refine lv_iload_n hx hb d_Md_year_46 rfl (lv_at hl 2 rfl) ?_
      refine lv_sipush (v := 300) hx hb d_Md_year_47 (by decide) ?_
      refine lv_isub hx hb d_Md_year_50 ?_
      obtain ⟨v10, e_v10, h⟩ := pu_ob h
      refine pu_callR (va_runV (As := [.int (x1 - 300)]) (rest := []) ⟨hx, hb, hml, hown, hts⟩ (c_Md_earliest l D ca ad q7.2 _ (x1 - 300) v10 e_v10) (xCW (C := "MuseumHouseModel") 1 hts wd_5_126 wd_1_13 wd_5_123 wd_5_125 wd_0_20 (by decide +kernel) ⟨Nat.le_of_ble_eq_true rfl, Nat.le_of_ble_eq_true rfl⟩) (G.preV hP hS 0 rfl rfl) rfl rfl hl.1 rfl (lv_room (Nat.le_of_ble_eq_true rfl)) d_Md_year_51 ⟨Nat.zero_le _, Nat.zero_le _⟩) ?_
      refine lv_goto (tgt := 66) hx hb d_Md_year_54 (by decide) ?_
      cases h
      exact W.toX (W.iret hx hb hr (fun t ht _ => ⟨rfl, by rw [ht]; exact hP, hS.F ht⟩) hS.2.2 d_Md_year_66)
  · rw [if_pos c6] at h
    refine lv_iconst (v := 0) hx hb d_Md_year_35 (by decide) ?_
    cases h
    exact W.toX (W.iret hx hb hr (fun t ht _ => ⟨rfl, by rw [ht]; exact hP, hS.F ht⟩) hS.2.2 d_Md_year_36)
set_option maxHeartbeats 4000000 in
set_option maxRecDepth 100000 in
theorem c_Md_year (l : Launch) (htl : l.stackTraces = false) (D : va_G) (ca : Nat → ClassId) (ad : Nat → Nat) (st : pu_St) (sz : Nat) (x1 x2 : Int32) (v : Int32) (st' : pu_St) (h : f_Md_year st x1 x2 = some (v, st')) : MetX l y_Md_year (.code y_Md_year b_Md_year 4 (some .int) :: tG) { frames := 1, cells := 0, slots := 0, locals := 25 } (va_Pc [.ref (ad 0), .int x1, .int x2] (mPc D ca ad st sz)) (mQ D ca ad (fun v => some (.int v)) (.inl v) st' sz) 0 0 (mA ad sz) := by
  refine mMet (by decide +kernel) ?_
  intro p e s m below meth c hsz C G hP
  obtain ⟨hx, hb, hml, hr, hlocks, hno, hown, hts⟩ := id C
  have hown : s.vm.findClass "MuseumHouseModel" = some m.cls := hown
  have hS : va_S (mA ad s.heap.size) s.heap s.heap [] := va_S.rf
  have hl := lv_entry ([.ref (ad 0), .int x1, .int x2]) (n := 4) (Nat.le_of_ble_eq_true rfl)
  rw [lg_entry_eq]
  generalize (lg_sl ([.ref (ad 0), .int x1, .int x2]) ++ List.replicate (4 - (lg_sl ([.ref (ad 0), .int x1, .int x2])).length) Slot.unset).toArray = ls at hl ⊢
  have hl : lv_has ls 4 [(0, .ref (ad 0)), (1, .int x1), (2, .int x2)] := hl
  unfold f_Md_year at h
  refine lv_aload_n hx hb d_Md_year_0 rfl (lv_at hl 0 rfl) ?_
  refine lv_iload_n hx hb d_Md_year_1 rfl (lv_at hl 1 rfl) ?_
  refine lv_iconst (v := 3) hx hb d_Md_year_2 (by decide) ?_
  obtain ⟨v1, e_v1, h⟩ := pu_ob h
  refine pu_callR (va_runV (As := [.int x1, .int 3]) (rest := []) ⟨hx, hb, hml, hown, hts⟩ (c_Md_is l D ca ad st _ x1 3 v1 e_v1) (xCW (C := "MuseumHouseModel") 2 hts wd_5_80 wd_1_13 wd_5_77 wd_5_79 wd_0_14 (by decide +kernel) ⟨Nat.le_of_ble_eq_true rfl, Nat.le_of_ble_eq_true rfl⟩) (G.preV hP hS 0 rfl rfl) rfl rfl hl.1 rfl (lv_room (Nat.le_of_ble_eq_true rfl)) d_Md_year_3 ⟨Nat.zero_le _, Nat.zero_le _⟩) ?_
  refine lv_if_eq (tgt := 13) hx hb d_Md_year_6 (by decide) (fun c2 => ?_) (fun c2 => ?_)
  · rw [if_pos c2] at h
    refine lv_iconst (v := 1) hx hb d_Md_year_13 (by decide) ?_
    exact t_Md_year_b14 htl C G () st x1 x2 1 h _ _ hP hS ls (lv_sub hl [0, 1, 2] rfl)
  · rw [if_neg c2] at h
    refine lv_iconst (v := 0) hx hb d_Md_year_9 (by decide) ?_
    refine lv_goto (tgt := 14) hx hb d_Md_year_10 (by decide) ?_
    exact t_Md_year_b14 htl C G () st x1 x2 0 h _ _ hP hS ls (lv_sub hl [0, 1, 2] rfl)
set_option maxHeartbeats 4000000 in
set_option maxRecDepth 100000 in
theorem t_Md_find_b25 {l : Launch} (htl : l.stackTraces = false) {p : Program} {e : Env} {s : State} {m : MethodId} {args : Array Value} {below : List Frame} {meth : Method} {c : Code} {D : va_G} {ca : Nat → ClassId} {ad : Nat → Nat} {st' : pu_St} {v : Int32} (C : hC p s m meth c args b_Md_find 5 (some .int) "MuseumHouseModel") (G : mX D ca ad (mA ad s.heap.size) s) :
    ∀ (_ : Unit) (st : pu_St) (x1 x2 x3 z0 z1 z2 z3 : Int32), f_Md_find_b25 st x1 x2 x3 z0 z1 z2 z3 = some (v, st') → ∀ (H : Heap) (locs : List Loc), va_P D hcl (mW ca ad st) H → va_S (mA ad s.heap.size) s.heap H locs → ∀ ls : Array Slot, lv_has ls 5 [(0, .ref (ad 0)), (1, .int x1), (2, .int x2), (3, .int x3)] → W p l e { frames := 2, cells := 0, slots := 0, locals := 46 } s m args below meth c H locs 0 0 (MQX below (mQ D ca ad (fun v => some (.int v)) (.inl v) st' s.heap.size) args s 0 0 (mA ad s.heap.size)) (F0 m 25 ls [.int z0, .int z1, .int z2, .int z3, .ref (ad 0)]) := by
  obtain ⟨hx, hb, hml, hr, hlocks, hno, hown, hts⟩ := id C
  intro _ st x1 x2 x3 z0 z1 z2 z3 h H locs hP hS ls hl
  unfold f_Md_find_b25 at h
  obtain ⟨v4, e_v4, h⟩ := pu_ob h
  refine pu_callR (va_runV (As := [.int z3, .int z2, .int z1, .int z0]) (rest := []) ⟨hx, hb, hml, hown, hts⟩ (c_Md_first l D ca ad st _ z3 z2 z1 z0 v4 e_v4) (xCW (C := "MuseumHouseModel") 4 hts wd_5_76 wd_1_13 wd_5_73 wd_5_75 wd_0_13 (by decide +kernel) ⟨Nat.le_of_ble_eq_true rfl, Nat.le_of_ble_eq_true rfl⟩) (G.preV hP hS 0 rfl rfl) rfl rfl hl.1 rfl (lv_room (Nat.le_of_ble_eq_true rfl)) d_Md_find_25 ⟨Nat.zero_le _, Nat.zero_le _⟩) ?_
  refine lv_istore (lv' := [(4, .int v4), (0, .ref (ad 0)), (1, .int x1), (2, .int x2), (3, .int x3)]) hx hb d_Md_find_28 hl (by decide) rfl (fun ls hl => ?_)
  refine lv_aload_n hx hb d_Md_find_30 rfl (lv_at hl 1 rfl) ?_
  refine lv_iload hx hb d_Md_find_31 (lv_at hl 0 rfl) ?_
  refine lv_iload_n hx hb d_Md_find_33 rfl (lv_at hl 4 rfl) ?_
  refine lv_iconst (v := 0) hx hb d_Md_find_34 (by decide) ?_
  refine lv_aload_n hx hb d_Md_find_35 rfl (lv_at hl 1 rfl) ?_
  refine va_get (D := D) (ci := 11) (v := .int (st.1 2)) (C := R_Md) (T := T_Md) (N := 27) hx hb hts iw_Md hown G.1 hP 0 rfl rfl 2 (by decide) (hts _ wd_4_225) (fun _ h9 => h9) rfl d_Md_find_36 ?_
  obtain ⟨v5, e_v5, h⟩ := pu_ob h
  refine pu_callR (va_runS (As := [.int x3, .int 0, .int (st.1 2)]) (rest := [.int v4, .ref (ad 0)]) ⟨hx, hb, hml, hown, hts⟩ (c_Md_lies l D ca ad st _ x3 0 (st.1 2) v5 e_v5) (xCS 3 hts wd_5_87 wd_1_13 wd_5_85 wd_5_86 (by decide +kernel) ⟨Nat.le_of_ble_eq_true rfl, Nat.le_of_ble_eq_true rfl⟩) (G.preS hP hS) rfl rfl hl.1 rfl (lv_room (Nat.le_of_ble_eq_true rfl)) d_Md_find_39 ⟨Nat.zero_le _, Nat.zero_le _⟩) ?_
  refine lv_iconst (v := 4) hx hb d_Md_find_42 (by decide) ?_
  obtain ⟨v6, e_v6, h⟩ := pu_ob h
  refine pu_callR (va_runS (As := [.int v4, .int v5, .int 4]) (rest := [.ref (ad 0)]) ⟨hx, hb, hml, hown, hts⟩ (c_Md_then l D ca ad st _ v4 v5 4 v6 e_v6) (xCS 3 hts wd_5_90 wd_1_13 wd_5_88 wd_5_89 (by decide +kernel) ⟨Nat.le_of_ble_eq_true rfl, Nat.le_of_ble_eq_true rfl⟩) (G.preS hP hS) rfl rfl hl.1 rfl (lv_room (Nat.le_of_ble_eq_true rfl)) d_Md_find_43 ⟨Nat.zero_le _, Nat.zero_le _⟩) ?_
  obtain ⟨q7, e_q7, h⟩ := pu_ob h
  refine mCallI G hS (va_runV (As := [.int v6]) (rest := []) ⟨hx, hb, hml, hown, hts⟩ (MetX.met (c_Md_holds l htl D ca ad st _ v6 q7.1 q7.2 e_q7) (fun _ _ _ _ q => ⟨_, q.1⟩)) (xCW (C := "MuseumHouseModel") 1 hts wd_5_94 wd_1_13 wd_5_91 wd_5_93 wd_0_16 (by decide +kernel) ⟨Nat.le_of_ble_eq_true rfl, Nat.le_of_ble_eq_true rfl⟩) (G.preV hP hS 0 rfl rfl) rfl rfl hl.1 rfl (lv_room (Nat.le_of_ble_eq_true rfl)) d_Md_find_46 ⟨Nat.zero_le _, Nat.zero_le _⟩) (fun H locs hP hS => ?_)
  refine lv_if_ne (tgt := 54) hx hb d_Md_find_49 (by decide) (fun c8 => ?_) (fun c8 => ?_)
  · rw [if_neg c8] at h
    refine lv_aload_n hx hb d_Md_find_54 rfl (lv_at hl 1 rfl) ?_
    refine va_get (D := D) (ci := 11) (v := .ref (ad 8)) (C := R_Md) (T := T_Md) (N := 27) hx hb hts iw_Md hown G.1 hP 0 rfl rfl 10 (by decide) (hts _ wd_4_233) (fun _ h9 => h9) rfl d_Md_find_55 ?_
    refine lv_aload_n hx hb d_Md_find_58 rfl (lv_at hl 1 rfl) ?_
    refine va_get (D := D) (ci := 11) (v := .ref (ad 1)) (C := R_Md) (T := T_Md) (N := 27) hx hb hts iw_Md hown G.1 hP 0 rfl rfl 3 (by decide) (hts _ wd_4_226) (fun _ h9 => h9) rfl d_Md_find_59 ?_
    refine lv_iconst (v := 4) hx hb d_Md_find_62 (by decide) ?_
    obtain ⟨v9, e_v9, h⟩ := pu_ob h
    refine pu_iald hx hb G.1 hP 1 0 rfl rfl e_v9 d_Md_find_63 ?_
    refine lv_iload_n hx hb d_Md_find_64 rfl (lv_at hl 3 rfl) ?_
    obtain ⟨g10, e_g10, h⟩ := pu_ob h
    refine pu_iast hx hb G.1 hP (G.D) hS 8 7 rfl rfl e_g10 d_Md_find_65 (fun H locs hP hS => ?_)
    have hP : va_P D hcl (mW ca ad (q7.2.1, va_up q7.2.2 7 g10)) H := hP
    refine lv_aload_n hx hb d_Md_find_66 rfl (lv_at hl 1 rfl) ?_
    refine va_get (D := D) (ci := 11) (v := .ref (ad 9)) (C := R_Md) (T := T_Md) (N := 27) hx hb hts iw_Md hown G.1 hP 0 rfl rfl 11 (by decide) (hts _ wd_4_234) (fun _ h9 => h9) rfl d_Md_find_67 ?_
    refine lv_aload_n hx hb d_Md_find_70 rfl (lv_at hl 1 rfl) ?_
    refine va_get (D := D) (ci := 11) (v := .ref (ad 1)) (C := R_Md) (T := T_Md) (N := 27) hx hb hts iw_Md hown G.1 hP 0 rfl rfl 3 (by decide) (hts _ wd_4_226) (fun _ h9 => h9) rfl d_Md_find_71 ?_
    refine lv_iconst (v := 4) hx hb d_Md_find_74 (by decide) ?_
    obtain ⟨v11, e_v11, h⟩ := pu_ob h
    refine pu_iald hx hb G.1 hP 1 0 rfl rfl e_v11 d_Md_find_75 ?_
    refine lv_iload_n hx hb d_Md_find_76 rfl (lv_at hl 4 rfl) ?_
    obtain ⟨g12, e_g12, h⟩ := pu_ob h
    refine pu_iast hx hb G.1 hP (G.D) hS 9 8 rfl rfl e_g12 d_Md_find_77 (fun H locs hP hS => ?_)
    have hP : va_P D hcl (mW ca ad ((q7.2.1, va_up q7.2.2 7 g10).1, va_up (q7.2.1, va_up q7.2.2 7 g10).2 8 g12)) H := hP
    refine lv_aload_n hx hb d_Md_find_78 rfl (lv_at hl 1 rfl) ?_
    refine lv_iconst (v := 4) hx hb d_Md_find_79 (by decide) ?_
    obtain ⟨q13, e_q13, h⟩ := pu_ob h
    refine mCallI G hS (va_runV (As := [.int 4]) (rest := []) ⟨hx, hb, hml, hown, hts⟩ (MetX.met (c_Md_made l htl D ca ad ((q7.2.1, va_up q7.2.2 7 g10).1, va_up (q7.2.1, va_up q7.2.2 7 g10).2 8 g12) _ 4 q13.1 q13.2 e_q13) (fun _ _ _ _ q => ⟨_, q.1⟩)) (xCW (C := "MuseumHouseModel") 1 hts wd_5_98 wd_1_13 wd_5_95 wd_5_97 wd_0_17 (by decide +kernel) ⟨Nat.le_of_ble_eq_true rfl, Nat.le_of_ble_eq_true rfl⟩) (G.preV hP hS 0 rfl rfl) rfl rfl hl.1 rfl (lv_room (Nat.le_of_ble_eq_true rfl)) d_Md_find_80 ⟨Nat.zero_le _, Nat.zero_le _⟩) (fun H locs hP hS => ?_)
    cases h
    exact W.toX (W.iret hx hb hr (fun t ht _ => ⟨rfl, by rw [ht]; exact hP, hS.F ht⟩) hS.2.2 d_Md_find_83)
  · rw [if_pos c8] at h
    refine lv_iconst (v := 0) hx hb d_Md_find_52 (by decide) ?_
    cases h
    exact W.toX (W.iret hx hb hr (fun t ht _ => ⟨rfl, by rw [ht]; exact hP, hS.F ht⟩) hS.2.2 d_Md_find_53)
set_option maxHeartbeats 4000000 in
set_option maxRecDepth 100000 in
theorem c_Md_find (l : Launch) (htl : l.stackTraces = false) (D : va_G) (ca : Nat → ClassId) (ad : Nat → Nat) (st : pu_St) (sz : Nat) (x1 x2 x3 : Int32) (v : Int32) (st' : pu_St) (h : f_Md_find st x1 x2 x3 = some (v, st')) : MetX l y_Md_find (.code y_Md_find b_Md_find 5 (some .int) :: tG) { frames := 2, cells := 0, slots := 0, locals := 46 } (va_Pc [.ref (ad 0), .int x1, .int x2, .int x3] (mPc D ca ad st sz)) (mQ D ca ad (fun v => some (.int v)) (.inl v) st' sz) 0 0 (mA ad sz) := by
  refine mMet (by decide +kernel) ?_
  intro p e s m below meth c hsz C G hP
  obtain ⟨hx, hb, hml, hr, hlocks, hno, hown, hts⟩ := id C
  have hown : s.vm.findClass "MuseumHouseModel" = some m.cls := hown
  have hS : va_S (mA ad s.heap.size) s.heap s.heap [] := va_S.rf
  have hl := lv_entry ([.ref (ad 0), .int x1, .int x2, .int x3]) (n := 5) (Nat.le_of_ble_eq_true rfl)
  rw [lg_entry_eq]
  generalize (lg_sl ([.ref (ad 0), .int x1, .int x2, .int x3]) ++ List.replicate (5 - (lg_sl ([.ref (ad 0), .int x1, .int x2, .int x3])).length) Slot.unset).toArray = ls at hl ⊢
  have hl : lv_has ls 5 [(0, .ref (ad 0)), (1, .int x1), (2, .int x2), (3, .int x3)] := hl
  unfold f_Md_find at h
  refine lv_aload_n hx hb d_Md_find_0 rfl (lv_at hl 0 rfl) ?_
  refine lv_aload_n hx hb d_Md_find_1 rfl (lv_at hl 0 rfl) ?_
  refine lv_iload_n hx hb d_Md_find_2 rfl (lv_at hl 2 rfl) ?_
  refine lv_iconst (v := 3) hx hb d_Md_find_3 (by decide) ?_
  obtain ⟨v1, e_v1, h⟩ := pu_ob h
  refine pu_callR (va_runV (As := [.int x2, .int 3]) (rest := [.ref (ad 0)]) ⟨hx, hb, hml, hown, hts⟩ (c_Md_is l D ca ad st _ x2 3 v1 e_v1) (xCW (C := "MuseumHouseModel") 2 hts wd_5_80 wd_1_13 wd_5_77 wd_5_79 wd_0_14 (by decide +kernel) ⟨Nat.le_of_ble_eq_true rfl, Nat.le_of_ble_eq_true rfl⟩) (G.preV hP hS 0 rfl rfl) rfl rfl hl.1 rfl (lv_room (Nat.le_of_ble_eq_true rfl)) d_Md_find_4 ⟨Nat.zero_le _, Nat.zero_le _⟩) ?_
  refine lv_iload_n hx hb d_Md_find_7 rfl (lv_at hl 1 rfl) ?_
  refine lv_iconst (v := 2) hx hb d_Md_find_8 (by decide) ?_
  refine lv_aload_n hx hb d_Md_find_9 rfl (lv_at hl 0 rfl) ?_
  refine va_get (D := D) (ci := 11) (v := .ref (ad 1)) (C := R_Md) (T := T_Md) (N := 27) hx hb hts iw_Md hown G.1 hP 0 rfl rfl 3 (by decide) (hts _ wd_4_226) (fun _ h9 => h9) rfl d_Md_find_10 ?_
  refine lv_iconst (v := 4) hx hb d_Md_find_13 (by decide) ?_
  obtain ⟨v2, e_v2, h⟩ := pu_ob h
  refine pu_iald hx hb G.1 hP 1 0 rfl rfl e_v2 d_Md_find_14 ?_
  refine lv_bipush (v := 30) hx hb d_Md_find_15 (by decide) ?_
  refine lv_icmp_ge (tgt := 24) hx hb d_Md_find_17 (by decide) (fun c3 => ?_) (fun c3 => ?_)
  · rw [if_pos c3] at h
    refine lv_iconst (v := 0) hx hb d_Md_find_24 (by decide) ?_
    exact t_Md_find_b25 htl C G () st x1 x2 x3 0 2 x1 v1 h _ _ hP hS ls (lv_sub hl [0, 1, 2, 3] rfl)
  · rw [if_neg c3] at h
    refine lv_iconst (v := 1) hx hb d_Md_find_20 (by decide) ?_
    refine lv_goto (tgt := 25) hx hb d_Md_find_21 (by decide) ?_
    exact t_Md_find_b25 htl C G () st x1 x2 x3 1 2 x1 v1 h _ _ hP hS ls (lv_sub hl [0, 1, 2, 3] rfl)
set_option maxHeartbeats 4000000 in
set_option maxRecDepth 100000 in
theorem t_Md_object_b87 {l : Launch} (htl : l.stackTraces = false) {p : Program} {e : Env} {s : State} {m : MethodId} {args : Array Value} {below : List Frame} {meth : Method} {c : Code} {D : va_G} {ca : Nat → ClassId} {ad : Nat → Nat} {st' : pu_St} {v : Int32} (C : hC p s m meth c args b_Md_object 6 (some .int) "MuseumHouseModel") (G : mX D ca ad (mA ad s.heap.size) s) :
    ∀ (_ : Unit) (st : pu_St) (x1 x2 x3 x4 x5 z0 z1 : Int32), f_Md_object_b87 st x1 x2 x3 x4 x5 z0 z1 = some (v, st') → ∀ (H : Heap) (locs : List Loc), va_P D hcl (mW ca ad st) H → va_S (mA ad s.heap.size) s.heap H locs → ∀ ls : Array Slot, lv_has ls 6 [(0, .ref (ad 0)), (1, .int x1), (2, .int x2), (3, .int x3), (4, .int x4), (5, .int x5)] → W p l e { frames := 2, cells := 0, slots := 0, locals := 46 } s m args below meth c H locs 0 0 (MQX below (mQ D ca ad (fun v => some (.int v)) (.inl v) st' s.heap.size) args s 0 0 (mA ad s.heap.size)) (F0 m 87 ls [.int z0, .int z1, .ref (ad 0)]) := by
  obtain ⟨hx, hb, hml, hr, hlocks, hno, hown, hts⟩ := id C
  intro _ st x1 x2 x3 x4 x5 z0 z1 h H locs hP hS ls hl
  unfold f_Md_object_b87 at h
  refine lv_bipush (v := 9) hx hb d_Md_object_87 (by decide) ?_
  obtain ⟨v11, e_v11, h⟩ := pu_ob h
  refine pu_callR (va_runS (As := [.int z1, .int z0, .int 9]) (rest := [.ref (ad 0)]) ⟨hx, hb, hml, hown, hts⟩ (c_Md_then l D ca ad st _ z1 z0 9 v11 e_v11) (xCS 3 hts wd_5_90 wd_1_13 wd_5_88 wd_5_89 (by decide +kernel) ⟨Nat.le_of_ble_eq_true rfl, Nat.le_of_ble_eq_true rfl⟩) (G.preS hP hS) rfl rfl hl.1 rfl (lv_room (Nat.le_of_ble_eq_true rfl)) d_Md_object_89 ⟨Nat.zero_le _, Nat.zero_le _⟩) ?_
  obtain ⟨q12, e_q12, h⟩ := pu_ob h
  refine mCallI G hS (va_runV (As := [.int v11]) (rest := []) ⟨hx, hb, hml, hown, hts⟩ (MetX.met (c_Md_holds l htl D ca ad st _ v11 q12.1 q12.2 e_q12) (fun _ _ _ _ q => ⟨_, q.1⟩)) (xCW (C := "MuseumHouseModel") 1 hts wd_5_94 wd_1_13 wd_5_91 wd_5_93 wd_0_16 (by decide +kernel) ⟨Nat.le_of_ble_eq_true rfl, Nat.le_of_ble_eq_true rfl⟩) (G.preV hP hS 0 rfl rfl) rfl rfl hl.1 rfl (lv_room (Nat.le_of_ble_eq_true rfl)) d_Md_object_92 ⟨Nat.zero_le _, Nat.zero_le _⟩) (fun H locs hP hS => ?_)
  refine lv_if_ne (tgt := 100) hx hb d_Md_object_95 (by decide) (fun c13 => ?_) (fun c13 => ?_)
  · rw [if_neg c13] at h
    refine lv_aload_n hx hb d_Md_object_100 rfl (lv_at hl 0 rfl) ?_
    refine va_get (D := D) (ci := 11) (v := .ref (ad 10)) (C := R_Md) (T := T_Md) (N := 27) hx hb hts iw_Md hown G.1 hP 0 rfl rfl 12 (by decide) (hts _ wd_4_235) (fun _ h9 => h9) rfl d_Md_object_101 ?_
    refine lv_aload_n hx hb d_Md_object_104 rfl (lv_at hl 0 rfl) ?_
    refine va_get (D := D) (ci := 11) (v := .ref (ad 1)) (C := R_Md) (T := T_Md) (N := 27) hx hb hts iw_Md hown G.1 hP 0 rfl rfl 3 (by decide) (hts _ wd_4_226) (fun _ h9 => h9) rfl d_Md_object_105 ?_
    refine lv_iconst (v := 5) hx hb d_Md_object_108 (by decide) ?_
    obtain ⟨v14, e_v14, h⟩ := pu_ob h
    refine pu_iald hx hb G.1 hP 1 0 rfl rfl e_v14 d_Md_object_109 ?_
    refine lv_iload_n hx hb d_Md_object_110 rfl (lv_at hl 2 rfl) ?_
    obtain ⟨g15, e_g15, h⟩ := pu_ob h
    refine pu_iast hx hb G.1 hP (G.D) hS 10 9 rfl rfl e_g15 d_Md_object_111 (fun H locs hP hS => ?_)
    have hP : va_P D hcl (mW ca ad (q12.2.1, va_up q12.2.2 9 g15)) H := hP
    refine lv_aload_n hx hb d_Md_object_112 rfl (lv_at hl 0 rfl) ?_
    refine lv_iconst (v := 5) hx hb d_Md_object_113 (by decide) ?_
    obtain ⟨q16, e_q16, h⟩ := pu_ob h
    refine mCallI G hS (va_runV (As := [.int 5]) (rest := []) ⟨hx, hb, hml, hown, hts⟩ (MetX.met (c_Md_made l htl D ca ad (q12.2.1, va_up q12.2.2 9 g15) _ 5 q16.1 q16.2 e_q16) (fun _ _ _ _ q => ⟨_, q.1⟩)) (xCW (C := "MuseumHouseModel") 1 hts wd_5_98 wd_1_13 wd_5_95 wd_5_97 wd_0_17 (by decide +kernel) ⟨Nat.le_of_ble_eq_true rfl, Nat.le_of_ble_eq_true rfl⟩) (G.preV hP hS 0 rfl rfl) rfl rfl hl.1 rfl (lv_room (Nat.le_of_ble_eq_true rfl)) d_Md_object_114 ⟨Nat.zero_le _, Nat.zero_le _⟩) (fun H locs hP hS => ?_)
    cases h
    exact W.toX (W.iret hx hb hr (fun t ht _ => ⟨rfl, by rw [ht]; exact hP, hS.F ht⟩) hS.2.2 d_Md_object_117)
  · rw [if_pos c13] at h
    refine lv_iconst (v := 0) hx hb d_Md_object_98 (by decide) ?_
    cases h
    exact W.toX (W.iret hx hb hr (fun t ht _ => ⟨rfl, by rw [ht]; exact hP, hS.F ht⟩) hS.2.2 d_Md_object_99)
set_option maxHeartbeats 4000000 in
set_option maxRecDepth 100000 in
theorem t_Md_object_b35 {l : Launch} (htl : l.stackTraces = false) {p : Program} {e : Env} {s : State} {m : MethodId} {args : Array Value} {below : List Frame} {meth : Method} {c : Code} {D : va_G} {ca : Nat → ClassId} {ad : Nat → Nat} {st' : pu_St} {v : Int32} (C : hC p s m meth c args b_Md_object 6 (some .int) "MuseumHouseModel") (G : mX D ca ad (mA ad s.heap.size) s) :
    ∀ (n : Nat) (st : pu_St) (x1 x2 x3 x4 x5 : Int32), f_Md_object_b35 n st x1 x2 x3 x4 x5 = some (v, st') → ∀ (H : Heap) (locs : List Loc), va_P D hcl (mW ca ad st) H → va_S (mA ad s.heap.size) s.heap H locs → ∀ ls : Array Slot, lv_has ls 6 [(0, .ref (ad 0)), (1, .int x1), (2, .int x2), (3, .int x3), (4, .int x4), (5, .int x5)] → W p l e { frames := 2, cells := 0, slots := 0, locals := 46 } s m args below meth c H locs 0 0 (MQX below (mQ D ca ad (fun v => some (.int v)) (.inl v) st' s.heap.size) args s 0 0 (mA ad s.heap.size)) (F0 m 35 ls []) := by
  obtain ⟨hx, hb, hml, hr, hlocks, hno, hown, hts⟩ := id C
  intro n
  induction n with
  | zero => intro st x1 x2 x3 x4 x5 h; cases h
  | succ n ih =>
    intro st x1 x2 x3 x4 x5 h H locs hP hS ls hl
    unfold f_Md_object_b35 at h
    refine lv_iload hx hb d_Md_object_35 (lv_at hl 5 rfl) ?_
    refine lv_aload_n hx hb d_Md_object_37 rfl (lv_at hl 0 rfl) ?_
    refine va_get (D := D) (ci := 11) (v := .ref (ad 1)) (C := R_Md) (T := T_Md) (N := 27) hx hb hts iw_Md hown G.1 hP 0 rfl rfl 3 (by decide) (hts _ wd_4_226) (fun _ h9 => h9) rfl d_Md_object_38 ?_
    refine lv_iconst (v := 5) hx hb d_Md_object_41 (by decide) ?_
    obtain ⟨v5, e_v5, h⟩ := pu_ob h
    refine pu_iald hx hb G.1 hP 1 0 rfl rfl e_v5 d_Md_object_42 ?_
    refine lv_icmp_ge (tgt := 75) hx hb d_Md_object_43 (by decide) (fun c6 => ?_) (fun c6 => ?_)
    · rw [if_pos c6] at h
      refine lv_aload_n hx hb d_Md_object_75 rfl (lv_at hl 0 rfl) ?_
      refine lv_iload_n hx hb d_Md_object_76 rfl (lv_at hl 3 rfl) ?_
      refine lv_iload hx hb d_Md_object_77 (lv_at hl 4 rfl) ?_
      refine lv_if_ne (tgt := 86) hx hb d_Md_object_79 (by decide) (fun c7 => ?_) (fun c7 => ?_)
      · rw [if_neg c7] at h
        refine lv_iconst (v := 0) hx hb d_Md_object_86 (by decide) ?_
        exact t_Md_object_b87 htl C G () st x1 x2 x3 x4 x5 0 x3 h _ _ hP hS ls (lv_sub hl [0, 1, 2, 3, 4, 5] rfl)
      · rw [if_pos c7] at h
        refine lv_iconst (v := 1) hx hb d_Md_object_82 (by decide) ?_
        refine lv_goto (tgt := 87) hx hb d_Md_object_83 (by decide) ?_
        exact t_Md_object_b87 htl C G () st x1 x2 x3 x4 x5 1 x3 h _ _ hP hS ls (lv_sub hl [0, 1, 2, 3, 4, 5] rfl)
    · rw [if_neg c6] at h
      refine lv_iload hx hb d_Md_object_46 (lv_at hl 4 rfl) ?_
      refine lv_if_ne (tgt := 62) hx hb d_Md_object_48 (by decide) (fun c8 => ?_) (fun c8 => ?_)
      · rw [if_neg c8] at h
        refine lv_iconst (v := 1) hx hb d_Md_object_62 (by decide) ?_
        refine lv_goto (tgt := 67) hx hb d_Md_object_63 (by decide) ?_
        refine lv_istore (lv' := [(4, .int 1), (0, .ref (ad 0)), (1, .int x1), (2, .int x2), (3, .int x3), (5, .int x5)]) hx hb d_Md_object_67 hl (by decide) rfl (fun ls hl => ?_)
        refine lv_iinc (v := (x5 + 1)) (lv' := [(5, .int (x5 + 1)), (4, .int 1), (0, .ref (ad 0)), (1, .int x1), (2, .int x2), (3, .int x3)]) hx hb d_Md_object_69 hl (k := 5) rfl rfl (by decide) rfl (fun ls hl => ?_)
        refine lv_goto (tgt := 35) hx hb d_Md_object_72 (by decide) ?_
        exact ih st x1 x2 x3 1 (x5 + 1) h _ _ hP hS ls (lv_sub hl [2, 3, 4, 5, 1, 0] rfl)
      · rw [if_pos c8] at h
        refine lv_aload_n hx hb d_Md_object_51 rfl (lv_at hl 0 rfl) ?_
        refine va_get (D := D) (ci := 11) (v := .ref (ad 10)) (C := R_Md) (T := T_Md) (N := 27) hx hb hts iw_Md hown G.1 hP 0 rfl rfl 12 (by decide) (hts _ wd_4_235) (fun _ h9 => h9) rfl d_Md_object_52 ?_
        refine lv_iload hx hb d_Md_object_55 (lv_at hl 5 rfl) ?_
        obtain ⟨v9, e_v9, h⟩ := pu_ob h
        refine pu_iald hx hb G.1 hP 10 9 rfl rfl e_v9 d_Md_object_57 ?_
        refine lv_iload_n hx hb d_Md_object_58 rfl (lv_at hl 2 rfl) ?_
        refine lv_icmp_ne (tgt := 66) hx hb d_Md_object_59 (by decide) (fun c10 => ?_) (fun c10 => ?_)
        · rw [if_neg c10] at h
          refine lv_iconst (v := 0) hx hb d_Md_object_66 (by decide) ?_
          refine lv_istore (lv' := [(4, .int 0), (0, .ref (ad 0)), (1, .int x1), (2, .int x2), (3, .int x3), (5, .int x5)]) hx hb d_Md_object_67 hl (by decide) rfl (fun ls hl => ?_)
          refine lv_iinc (v := (x5 + 1)) (lv' := [(5, .int (x5 + 1)), (4, .int 0), (0, .ref (ad 0)), (1, .int x1), (2, .int x2), (3, .int x3)]) hx hb d_Md_object_69 hl (k := 5) rfl rfl (by decide) rfl (fun ls hl => ?_)
          refine lv_goto (tgt := 35) hx hb d_Md_object_72 (by decide) ?_
          exact ih st x1 x2 x3 0 (x5 + 1) h _ _ hP hS ls (lv_sub hl [2, 3, 4, 5, 1, 0] rfl)
        · rw [if_pos c10] at h
          refine lv_iconst (v := 1) hx hb d_Md_object_62 (by decide) ?_
          refine lv_goto (tgt := 67) hx hb d_Md_object_63 (by decide) ?_
          refine lv_istore (lv' := [(4, .int 1), (0, .ref (ad 0)), (1, .int x1), (2, .int x2), (3, .int x3), (5, .int x5)]) hx hb d_Md_object_67 hl (by decide) rfl (fun ls hl => ?_)
          refine lv_iinc (v := (x5 + 1)) (lv' := [(5, .int (x5 + 1)), (4, .int 1), (0, .ref (ad 0)), (1, .int x1), (2, .int x2), (3, .int x3)]) hx hb d_Md_object_69 hl (k := 5) rfl rfl (by decide) rfl (fun ls hl => ?_)
          refine lv_goto (tgt := 35) hx hb d_Md_object_72 (by decide) ?_
          exact ih st x1 x2 x3 1 (x5 + 1) h _ _ hP hS ls (lv_sub hl [2, 3, 4, 5, 1, 0] rfl)
set_option maxHeartbeats 4000000 in
set_option maxRecDepth 100000 in
theorem t_Md_object_b25 {l : Launch} (htl : l.stackTraces = false) {p : Program} {e : Env} {s : State} {m : MethodId} {args : Array Value} {below : List Frame} {meth : Method} {c : Code} {D : va_G} {ca : Nat → ClassId} {ad : Nat → Nat} {st' : pu_St} {v : Int32} (C : hC p s m meth c args b_Md_object 6 (some .int) "MuseumHouseModel") (G : mX D ca ad (mA ad s.heap.size) s) :
    ∀ (_ : Unit) (st : pu_St) (x1 x2 z0 z1 z2 z3 : Int32), f_Md_object_b25 st x1 x2 z0 z1 z2 z3 = some (v, st') → ∀ (H : Heap) (locs : List Loc), va_P D hcl (mW ca ad st) H → va_S (mA ad s.heap.size) s.heap H locs → ∀ ls : Array Slot, lv_has ls 6 [(0, .ref (ad 0)), (1, .int x1), (2, .int x2)] → W p l e { frames := 2, cells := 0, slots := 0, locals := 46 } s m args below meth c H locs 0 0 (MQX below (mQ D ca ad (fun v => some (.int v)) (.inl v) st' s.heap.size) args s 0 0 (mA ad s.heap.size)) (F0 m 25 ls [.int z0, .int z1, .int z2, .int z3, .ref (ad 0)]) := by
  obtain ⟨hx, hb, hml, hr, hlocks, hno, hown, hts⟩ := id C
  intro _ st x1 x2 z0 z1 z2 z3 h H locs hP hS ls hl
  unfold f_Md_object_b25 at h
  obtain ⟨v4, e_v4, h⟩ := pu_ob h
  refine pu_callR (va_runV (As := [.int z3, .int z2, .int z1, .int z0]) (rest := []) ⟨hx, hb, hml, hown, hts⟩ (c_Md_first l D ca ad st _ z3 z2 z1 z0 v4 e_v4) (xCW (C := "MuseumHouseModel") 4 hts wd_5_76 wd_1_13 wd_5_73 wd_5_75 wd_0_13 (by decide +kernel) ⟨Nat.le_of_ble_eq_true rfl, Nat.le_of_ble_eq_true rfl⟩) (G.preV hP hS 0 rfl rfl) rfl rfl hl.1 rfl (lv_room (Nat.le_of_ble_eq_true rfl)) d_Md_object_25 ⟨Nat.zero_le _, Nat.zero_le _⟩) ?_
  refine lv_istore_n (lv' := [(3, .int v4), (0, .ref (ad 0)), (1, .int x1), (2, .int x2)]) hx hb d_Md_object_28 rfl hl (by decide) rfl (fun ls hl => ?_)
  refine lv_iconst (v := 0) hx hb d_Md_object_29 (by decide) ?_
  refine lv_istore (lv' := [(4, .int 0), (3, .int v4), (0, .ref (ad 0)), (1, .int x1), (2, .int x2)]) hx hb d_Md_object_30 hl (by decide) rfl (fun ls hl => ?_)
  refine lv_iconst (v := 0) hx hb d_Md_object_32 (by decide) ?_
  refine lv_istore (lv' := [(5, .int 0), (4, .int 0), (3, .int v4), (0, .ref (ad 0)), (1, .int x1), (2, .int x2)]) hx hb d_Md_object_33 hl (by decide) rfl (fun ls hl => ?_)
  exact t_Md_object_b35 htl C G pu_fu st x1 x2 v4 0 0 h _ _ hP hS ls (lv_sub hl [3, 4, 5, 2, 1, 0] rfl)
set_option maxHeartbeats 4000000 in
set_option maxRecDepth 100000 in
theorem c_Md_object (l : Launch) (htl : l.stackTraces = false) (D : va_G) (ca : Nat → ClassId) (ad : Nat → Nat) (st : pu_St) (sz : Nat) (x1 x2 : Int32) (v : Int32) (st' : pu_St) (h : f_Md_object st x1 x2 = some (v, st')) : MetX l y_Md_object (.code y_Md_object b_Md_object 6 (some .int) :: tG) { frames := 2, cells := 0, slots := 0, locals := 46 } (va_Pc [.ref (ad 0), .int x1, .int x2] (mPc D ca ad st sz)) (mQ D ca ad (fun v => some (.int v)) (.inl v) st' sz) 0 0 (mA ad sz) := by
  refine mMet (by decide +kernel) ?_
  intro p e s m below meth c hsz C G hP
  obtain ⟨hx, hb, hml, hr, hlocks, hno, hown, hts⟩ := id C
  have hown : s.vm.findClass "MuseumHouseModel" = some m.cls := hown
  have hS : va_S (mA ad s.heap.size) s.heap s.heap [] := va_S.rf
  have hl := lv_entry ([.ref (ad 0), .int x1, .int x2]) (n := 6) (Nat.le_of_ble_eq_true rfl)
  rw [lg_entry_eq]
  generalize (lg_sl ([.ref (ad 0), .int x1, .int x2]) ++ List.replicate (6 - (lg_sl ([.ref (ad 0), .int x1, .int x2])).length) Slot.unset).toArray = ls at hl ⊢
  have hl : lv_has ls 6 [(0, .ref (ad 0)), (1, .int x1), (2, .int x2)] := hl
  unfold f_Md_object at h
  refine lv_aload_n hx hb d_Md_object_0 rfl (lv_at hl 0 rfl) ?_
  refine lv_aload_n hx hb d_Md_object_1 rfl (lv_at hl 0 rfl) ?_
  refine lv_iload_n hx hb d_Md_object_2 rfl (lv_at hl 2 rfl) ?_
  refine lv_iconst (v := 4) hx hb d_Md_object_3 (by decide) ?_
  obtain ⟨v1, e_v1, h⟩ := pu_ob h
  refine pu_callR (va_runV (As := [.int x2, .int 4]) (rest := [.ref (ad 0)]) ⟨hx, hb, hml, hown, hts⟩ (c_Md_is l D ca ad st _ x2 4 v1 e_v1) (xCW (C := "MuseumHouseModel") 2 hts wd_5_80 wd_1_13 wd_5_77 wd_5_79 wd_0_14 (by decide +kernel) ⟨Nat.le_of_ble_eq_true rfl, Nat.le_of_ble_eq_true rfl⟩) (G.preV hP hS 0 rfl rfl) rfl rfl hl.1 rfl (lv_room (Nat.le_of_ble_eq_true rfl)) d_Md_object_4 ⟨Nat.zero_le _, Nat.zero_le _⟩) ?_
  refine lv_iload_n hx hb d_Md_object_7 rfl (lv_at hl 1 rfl) ?_
  refine lv_iconst (v := 4) hx hb d_Md_object_8 (by decide) ?_
  refine lv_aload_n hx hb d_Md_object_9 rfl (lv_at hl 0 rfl) ?_
  refine va_get (D := D) (ci := 11) (v := .ref (ad 1)) (C := R_Md) (T := T_Md) (N := 27) hx hb hts iw_Md hown G.1 hP 0 rfl rfl 3 (by decide) (hts _ wd_4_226) (fun _ h9 => h9) rfl d_Md_object_10 ?_
  refine lv_iconst (v := 5) hx hb d_Md_object_13 (by decide) ?_
  obtain ⟨v2, e_v2, h⟩ := pu_ob h
  refine pu_iald hx hb G.1 hP 1 0 rfl rfl e_v2 d_Md_object_14 ?_
  refine lv_bipush (v := 30) hx hb d_Md_object_15 (by decide) ?_
  refine lv_icmp_ge (tgt := 24) hx hb d_Md_object_17 (by decide) (fun c3 => ?_) (fun c3 => ?_)
  · rw [if_pos c3] at h
    refine lv_iconst (v := 0) hx hb d_Md_object_24 (by decide) ?_
    exact t_Md_object_b25 htl C G () st x1 x2 0 4 x1 v1 h _ _ hP hS ls (lv_sub hl [0, 1, 2] rfl)
  · rw [if_neg c3] at h
    refine lv_iconst (v := 1) hx hb d_Md_object_20 (by decide) ?_
    refine lv_goto (tgt := 25) hx hb d_Md_object_21 (by decide) ?_
    exact t_Md_object_b25 htl C G () st x1 x2 1 4 x1 v1 h _ _ hP hS ls (lv_sub hl [0, 1, 2] rfl)
set_option maxHeartbeats 4000000 in
set_option maxRecDepth 100000 in
theorem t_Md_store_b75 {l : Launch} (htl : l.stackTraces = false) {p : Program} {e : Env} {s : State} {m : MethodId} {args : Array Value} {below : List Frame} {meth : Method} {c : Code} {D : va_G} {ca : Nat → ClassId} {ad : Nat → Nat} {st' : pu_St} {v : Int32} (C : hC p s m meth c args b_Md_store 3 (some .int) "MuseumHouseModel") (G : mX D ca ad (mA ad s.heap.size) s) :
    ∀ (_ : Unit) (st : pu_St) (x1 x2 z0 z1 : Int32), f_Md_store_b75 st x1 x2 z0 z1 = some (v, st') → ∀ (H : Heap) (locs : List Loc), va_P D hcl (mW ca ad st) H → va_S (mA ad s.heap.size) s.heap H locs → ∀ ls : Array Slot, lv_has ls 3 [(0, .ref (ad 0)), (1, .int x1), (2, .int x2)] → W p l e { frames := 2, cells := 0, slots := 0, locals := 46 } s m args below meth c H locs 0 0 (MQX below (mQ D ca ad (fun v => some (.int v)) (.inl v) st' s.heap.size) args s 0 0 (mA ad s.heap.size)) (F0 m 75 ls [.int z0, .int z1, .ref (ad 11)]) := by
  obtain ⟨hx, hb, hml, hr, hlocks, hno, hown, hts⟩ := id C
  intro _ st x1 x2 z0 z1 h H locs hP hS ls hl
  unfold f_Md_store_b75 at h
  obtain ⟨g11, e_g11, h⟩ := pu_ob h
  refine pu_iast hx hb G.1 hP (G.D) hS 11 10 rfl rfl e_g11 d_Md_store_75 (fun H locs hP hS => ?_)
  have hP : va_P D hcl (mW ca ad (st.1, va_up st.2 10 g11)) H := hP
  refine lv_aload_n hx hb d_Md_store_76 rfl (lv_at hl 0 rfl) ?_
  refine lv_bipush (v := 6) hx hb d_Md_store_77 (by decide) ?_
  obtain ⟨q12, e_q12, h⟩ := pu_ob h
  refine mCallI G hS (va_runV (As := [.int 6]) (rest := []) ⟨hx, hb, hml, hown, hts⟩ (MetX.met (c_Md_made l htl D ca ad (st.1, va_up st.2 10 g11) _ 6 q12.1 q12.2 e_q12) (fun _ _ _ _ q => ⟨_, q.1⟩)) (xCW (C := "MuseumHouseModel") 1 hts wd_5_98 wd_1_13 wd_5_95 wd_5_97 wd_0_17 (by decide +kernel) ⟨Nat.le_of_ble_eq_true rfl, Nat.le_of_ble_eq_true rfl⟩) (G.preV hP hS 0 rfl rfl) rfl rfl hl.1 rfl (lv_room (Nat.le_of_ble_eq_true rfl)) d_Md_store_79 ⟨Nat.zero_le _, Nat.zero_le _⟩) (fun H locs hP hS => ?_)
  cases h
  exact W.toX (W.iret hx hb hr (fun t ht _ => ⟨rfl, by rw [ht]; exact hP, hS.F ht⟩) hS.2.2 d_Md_store_82)
set_option maxHeartbeats 4000000 in
set_option maxRecDepth 100000 in
theorem t_Md_store_b40 {l : Launch} (htl : l.stackTraces = false) {p : Program} {e : Env} {s : State} {m : MethodId} {args : Array Value} {below : List Frame} {meth : Method} {c : Code} {D : va_G} {ca : Nat → ClassId} {ad : Nat → Nat} {st' : pu_St} {v : Int32} (C : hC p s m meth c args b_Md_store 3 (some .int) "MuseumHouseModel") (G : mX D ca ad (mA ad s.heap.size) s) :
    ∀ (_ : Unit) (st : pu_St) (x1 x2 z0 z1 z2 z3 : Int32), f_Md_store_b40 st x1 x2 z0 z1 z2 z3 = some (v, st') → ∀ (H : Heap) (locs : List Loc), va_P D hcl (mW ca ad st) H → va_S (mA ad s.heap.size) s.heap H locs → ∀ ls : Array Slot, lv_has ls 3 [(0, .ref (ad 0)), (1, .int x1), (2, .int x2)] → W p l e { frames := 2, cells := 0, slots := 0, locals := 46 } s m args below meth c H locs 0 0 (MQX below (mQ D ca ad (fun v => some (.int v)) (.inl v) st' s.heap.size) args s 0 0 (mA ad s.heap.size)) (F0 m 40 ls [.int z0, .int z1, .int z2, .int z3, .ref (ad 0), .ref (ad 0)]) := by
  obtain ⟨hx, hb, hml, hr, hlocks, hno, hown, hts⟩ := id C
  intro _ st x1 x2 z0 z1 z2 z3 h H locs hP hS ls hl
  unfold f_Md_store_b40 at h
  obtain ⟨v6, e_v6, h⟩ := pu_ob h
  refine pu_callR (va_runV (As := [.int z3, .int z2, .int z1, .int z0]) (rest := [.ref (ad 0)]) ⟨hx, hb, hml, hown, hts⟩ (c_Md_first l D ca ad st _ z3 z2 z1 z0 v6 e_v6) (xCW (C := "MuseumHouseModel") 4 hts wd_5_76 wd_1_13 wd_5_73 wd_5_75 wd_0_13 (by decide +kernel) ⟨Nat.le_of_ble_eq_true rfl, Nat.le_of_ble_eq_true rfl⟩) (G.preV hP hS 0 rfl rfl) rfl rfl hl.1 rfl (lv_room (Nat.le_of_ble_eq_true rfl)) d_Md_store_40 ⟨Nat.zero_le _, Nat.zero_le _⟩) ?_
  obtain ⟨q7, e_q7, h⟩ := pu_ob h
  refine mCallI G hS (va_runV (As := [.int v6]) (rest := []) ⟨hx, hb, hml, hown, hts⟩ (MetX.met (c_Md_holds l htl D ca ad st _ v6 q7.1 q7.2 e_q7) (fun _ _ _ _ q => ⟨_, q.1⟩)) (xCW (C := "MuseumHouseModel") 1 hts wd_5_94 wd_1_13 wd_5_91 wd_5_93 wd_0_16 (by decide +kernel) ⟨Nat.le_of_ble_eq_true rfl, Nat.le_of_ble_eq_true rfl⟩) (G.preV hP hS 0 rfl rfl) rfl rfl hl.1 rfl (lv_room (Nat.le_of_ble_eq_true rfl)) d_Md_store_43 ⟨Nat.zero_le _, Nat.zero_le _⟩) (fun H locs hP hS => ?_)
  refine lv_if_ne (tgt := 51) hx hb d_Md_store_46 (by decide) (fun c8 => ?_) (fun c8 => ?_)
  · rw [if_neg c8] at h
    refine lv_aload_n hx hb d_Md_store_51 rfl (lv_at hl 0 rfl) ?_
    refine va_get (D := D) (ci := 11) (v := .ref (ad 11)) (C := R_Md) (T := T_Md) (N := 27) hx hb hts iw_Md hown G.1 hP 0 rfl rfl 13 (by decide) (hts _ wd_4_236) (fun _ h9 => h9) rfl d_Md_store_52 ?_
    refine lv_aload_n hx hb d_Md_store_55 rfl (lv_at hl 0 rfl) ?_
    refine va_get (D := D) (ci := 11) (v := .ref (ad 1)) (C := R_Md) (T := T_Md) (N := 27) hx hb hts iw_Md hown G.1 hP 0 rfl rfl 3 (by decide) (hts _ wd_4_226) (fun _ h9 => h9) rfl d_Md_store_56 ?_
    refine lv_bipush (v := 6) hx hb d_Md_store_59 (by decide) ?_
    obtain ⟨v9, e_v9, h⟩ := pu_ob h
    refine pu_iald hx hb G.1 hP 1 0 rfl rfl e_v9 d_Md_store_61 ?_
    refine lv_iload_n hx hb d_Md_store_62 rfl (lv_at hl 2 rfl) ?_
    refine lv_if_ne (tgt := 70) hx hb d_Md_store_63 (by decide) (fun c10 => ?_) (fun c10 => ?_)
    · rw [if_neg c10] at h
      refine lv_iload_n hx hb d_Md_store_70 rfl (lv_at hl 2 rfl) ?_
      refine lv_sipush (v := 600) hx hb d_Md_store_71 (by decide) ?_
      refine lv_isub hx hb d_Md_store_74 ?_
      exact t_Md_store_b75 htl C G () q7.2 x1 x2 (x2 - 600) v9 h _ _ hP hS ls (lv_sub hl [0, 1, 2] rfl)
    · rw [if_pos c10] at h
      refine lv_iconst (v := (-1)) hx hb d_Md_store_66 (by decide) ?_
      refine lv_goto (tgt := 75) hx hb d_Md_store_67 (by decide) ?_
      exact t_Md_store_b75 htl C G () q7.2 x1 x2 (-1) v9 h _ _ hP hS ls (lv_sub hl [0, 1, 2] rfl)
  · rw [if_pos c8] at h
    refine lv_iconst (v := 0) hx hb d_Md_store_49 (by decide) ?_
    cases h
    exact W.toX (W.iret hx hb hr (fun t ht _ => ⟨rfl, by rw [ht]; exact hP, hS.F ht⟩) hS.2.2 d_Md_store_50)
set_option maxHeartbeats 4000000 in
set_option maxRecDepth 100000 in
theorem t_Md_store_b21 {l : Launch} (htl : l.stackTraces = false) {p : Program} {e : Env} {s : State} {m : MethodId} {args : Array Value} {below : List Frame} {meth : Method} {c : Code} {D : va_G} {ca : Nat → ClassId} {ad : Nat → Nat} {st' : pu_St} {v : Int32} (C : hC p s m meth c args b_Md_store 3 (some .int) "MuseumHouseModel") (G : mX D ca ad (mA ad s.heap.size) s) :
    ∀ (_ : Unit) (st : pu_St) (x1 x2 z0 : Int32), f_Md_store_b21 st x1 x2 z0 = some (v, st') → ∀ (H : Heap) (locs : List Loc), va_P D hcl (mW ca ad st) H → va_S (mA ad s.heap.size) s.heap H locs → ∀ ls : Array Slot, lv_has ls 3 [(0, .ref (ad 0)), (1, .int x1), (2, .int x2)] → W p l e { frames := 2, cells := 0, slots := 0, locals := 46 } s m args below meth c H locs 0 0 (MQX below (mQ D ca ad (fun v => some (.int v)) (.inl v) st' s.heap.size) args s 0 0 (mA ad s.heap.size)) (F0 m 21 ls [.int z0, .ref (ad 0), .ref (ad 0)]) := by
  obtain ⟨hx, hb, hml, hr, hlocks, hno, hown, hts⟩ := id C
  intro _ st x1 x2 z0 h H locs hP hS ls hl
  unfold f_Md_store_b21 at h
  refine lv_iload_n hx hb d_Md_store_21 rfl (lv_at hl 1 rfl) ?_
  refine lv_iconst (v := 4) hx hb d_Md_store_22 (by decide) ?_
  refine lv_aload_n hx hb d_Md_store_23 rfl (lv_at hl 0 rfl) ?_
  refine va_get (D := D) (ci := 11) (v := .ref (ad 1)) (C := R_Md) (T := T_Md) (N := 27) hx hb hts iw_Md hown G.1 hP 0 rfl rfl 3 (by decide) (hts _ wd_4_226) (fun _ h9 => h9) rfl d_Md_store_24 ?_
  refine lv_bipush (v := 6) hx hb d_Md_store_27 (by decide) ?_
  obtain ⟨v4, e_v4, h⟩ := pu_ob h
  refine pu_iald hx hb G.1 hP 1 0 rfl rfl e_v4 d_Md_store_29 ?_
  refine lv_bipush (v := 16) hx hb d_Md_store_30 (by decide) ?_
  refine lv_icmp_ge (tgt := 39) hx hb d_Md_store_32 (by decide) (fun c5 => ?_) (fun c5 => ?_)
  · rw [if_pos c5] at h
    refine lv_iconst (v := 0) hx hb d_Md_store_39 (by decide) ?_
    exact t_Md_store_b40 htl C G () st x1 x2 0 4 x1 z0 h _ _ hP hS ls (lv_sub hl [0, 1, 2] rfl)
  · rw [if_neg c5] at h
    refine lv_iconst (v := 1) hx hb d_Md_store_35 (by decide) ?_
    refine lv_goto (tgt := 40) hx hb d_Md_store_36 (by decide) ?_
    exact t_Md_store_b40 htl C G () st x1 x2 1 4 x1 z0 h _ _ hP hS ls (lv_sub hl [0, 1, 2] rfl)
set_option maxHeartbeats 4000000 in
set_option maxRecDepth 100000 in
theorem t_Md_store_b16 {l : Launch} (htl : l.stackTraces = false) {p : Program} {e : Env} {s : State} {m : MethodId} {args : Array Value} {below : List Frame} {meth : Method} {c : Code} {D : va_G} {ca : Nat → ClassId} {ad : Nat → Nat} {st' : pu_St} {v : Int32} (C : hC p s m meth c args b_Md_store 3 (some .int) "MuseumHouseModel") (G : mX D ca ad (mA ad s.heap.size) s) :
    ∀ (_ : Unit) (st : pu_St) (x1 x2 : Int32), f_Md_store_b16 st x1 x2 = some (v, st') → ∀ (H : Heap) (locs : List Loc), va_P D hcl (mW ca ad st) H → va_S (mA ad s.heap.size) s.heap H locs → ∀ ls : Array Slot, lv_has ls 3 [(0, .ref (ad 0)), (1, .int x1), (2, .int x2)] → W p l e { frames := 2, cells := 0, slots := 0, locals := 46 } s m args below meth c H locs 0 0 (MQX below (mQ D ca ad (fun v => some (.int v)) (.inl v) st' s.heap.size) args s 0 0 (mA ad s.heap.size)) (F0 m 16 ls [.ref (ad 0), .ref (ad 0)]) := by
  obtain ⟨hx, hb, hml, hr, hlocks, hno, hown, hts⟩ := id C
  intro _ st x1 x2 h H locs hP hS ls hl
  unfold f_Md_store_b16 at h
  refine lv_iconst (v := 1) hx hb d_Md_store_16 (by decide) ?_
  refine lv_goto (tgt := 21) hx hb d_Md_store_17 (by decide) ?_
  exact t_Md_store_b21 htl C G () st x1 x2 1 h _ _ hP hS ls (lv_sub hl [0, 1, 2] rfl)
set_option maxHeartbeats 4000000 in
set_option maxRecDepth 100000 in
theorem c_Md_store (l : Launch) (htl : l.stackTraces = false) (D : va_G) (ca : Nat → ClassId) (ad : Nat → Nat) (st : pu_St) (sz : Nat) (x1 x2 : Int32) (v : Int32) (st' : pu_St) (h : f_Md_store st x1 x2 = some (v, st')) : MetX l y_Md_store (.code y_Md_store b_Md_store 3 (some .int) :: tG) { frames := 2, cells := 0, slots := 0, locals := 46 } (va_Pc [.ref (ad 0), .int x1, .int x2] (mPc D ca ad st sz)) (mQ D ca ad (fun v => some (.int v)) (.inl v) st' sz) 0 0 (mA ad sz) := by
  refine mMet (by decide +kernel) ?_
  intro p e s m below meth c hsz C G hP
  obtain ⟨hx, hb, hml, hr, hlocks, hno, hown, hts⟩ := id C
  have hown : s.vm.findClass "MuseumHouseModel" = some m.cls := hown
  have hS : va_S (mA ad s.heap.size) s.heap s.heap [] := va_S.rf
  have hl := lv_entry ([.ref (ad 0), .int x1, .int x2]) (n := 3) (Nat.le_of_ble_eq_true rfl)
  rw [lg_entry_eq]
  generalize (lg_sl ([.ref (ad 0), .int x1, .int x2]) ++ List.replicate (3 - (lg_sl ([.ref (ad 0), .int x1, .int x2])).length) Slot.unset).toArray = ls at hl ⊢
  have hl : lv_has ls 3 [(0, .ref (ad 0)), (1, .int x1), (2, .int x2)] := hl
  unfold f_Md_store at h
  refine lv_aload_n hx hb d_Md_store_0 rfl (lv_at hl 0 rfl) ?_
  refine lv_aload_n hx hb d_Md_store_1 rfl (lv_at hl 0 rfl) ?_
  refine lv_iload_n hx hb d_Md_store_2 rfl (lv_at hl 2 rfl) ?_
  refine lv_if_eq (tgt := 16) hx hb d_Md_store_3 (by decide) (fun c1 => ?_) (fun c1 => ?_)
  · rw [if_pos c1] at h
    exact t_Md_store_b16 htl C G () st x1 x2 h _ _ hP hS ls (lv_sub hl [0, 1, 2] rfl)
  · rw [if_neg c1] at h
    refine lv_aload_n hx hb d_Md_store_6 rfl (lv_at hl 0 rfl) ?_
    refine lv_iload_n hx hb d_Md_store_7 rfl (lv_at hl 2 rfl) ?_
    refine lv_bipush (v := 6) hx hb d_Md_store_8 (by decide) ?_
    obtain ⟨v2, e_v2, h⟩ := pu_ob h
    refine pu_callR (va_runV (As := [.int x2, .int 6]) (rest := [.ref (ad 0), .ref (ad 0)]) ⟨hx, hb, hml, hown, hts⟩ (c_Md_is l D ca ad st _ x2 6 v2 e_v2) (xCW (C := "MuseumHouseModel") 2 hts wd_5_80 wd_1_13 wd_5_77 wd_5_79 wd_0_14 (by decide +kernel) ⟨Nat.le_of_ble_eq_true rfl, Nat.le_of_ble_eq_true rfl⟩) (G.preV hP hS 0 rfl rfl) rfl rfl hl.1 rfl (lv_room (Nat.le_of_ble_eq_true rfl)) d_Md_store_10 ⟨Nat.zero_le _, Nat.zero_le _⟩) ?_
    refine lv_if_eq (tgt := 20) hx hb d_Md_store_13 (by decide) (fun c3 => ?_) (fun c3 => ?_)
    · rw [if_pos c3] at h
      refine lv_iconst (v := 0) hx hb d_Md_store_20 (by decide) ?_
      exact t_Md_store_b21 htl C G () st x1 x2 0 h _ _ hP hS ls (lv_sub hl [0, 1, 2] rfl)
    · rw [if_neg c3] at h
      exact t_Md_store_b16 htl C G () st x1 x2 h _ _ hP hS ls (lv_sub hl [0, 1, 2] rfl)
set_option maxHeartbeats 4000000 in
set_option maxRecDepth 100000 in
theorem t_Md_isIn_b27 {l : Launch} {p : Program} {e : Env} {s : State} {m : MethodId} {args : Array Value} {below : List Frame} {meth : Method} {c : Code} {D : va_G} {ca : Nat → ClassId} {ad : Nat → Nat} {A : Nat → Prop} {st : pu_St} {r : Int32} (C : hC p s m meth c args b_Md_isIn 4 (some .boolean) "MuseumHouseModel") (G : mX D ca ad A s) (hP : va_P D hcl (mW ca ad st) s.heap) (hS : va_S A s.heap s.heap []) :
    ∀ (_ : Unit) (x1 x2 x3 : Int32), f_Md_isIn_b27 st x1 x2 x3 = some r → ∀ ls : Array Slot, lv_has ls 4 [(0, .ref (ad 0)), (1, .int x1), (2, .int x2), (3, .int x3)] → W p l e { frames := 0, cells := 0, slots := 0, locals := 0 } s m args below meth c s.heap [] 0 0 (MQ below (QcRead r) args s 0 0 (fun _ => False)) (F0 m 27 ls []) := by
  obtain ⟨hx, hb, hml, hr, hlocks, hno, hown, hts⟩ := id C
  intro _ x1 x2 x3 h ls hl
  unfold f_Md_isIn_b27 at h
  refine lv_iload_n hx hb d_Md_isIn_27 rfl (lv_at hl 3 rfl) ?_
  refine lv_iconst (v := (-1)) hx hb d_Md_isIn_28 (by decide) ?_
  refine lv_icmp_eq (tgt := 36) hx hb d_Md_isIn_29 (by decide) (fun c5 => ?_) (fun c5 => ?_)
  · rw [if_pos c5] at h
    refine lv_iconst (v := 0) hx hb d_Md_isIn_36 (by decide) ?_
    have h := Option.some.inj h
    exact W.zret (v := 0) (ty := .boolean) hx hb hr rfl (fun t ht _ => ⟨by rw [h], ht⟩) (fun _ q => by cases q) d_Md_isIn_37
  · rw [if_neg c5] at h
    refine lv_iconst (v := 1) hx hb d_Md_isIn_32 (by decide) ?_
    refine lv_goto (tgt := 37) hx hb d_Md_isIn_33 (by decide) ?_
    have h := Option.some.inj h
    exact W.zret (v := 1) (ty := .boolean) hx hb hr rfl (fun t ht _ => ⟨by rw [h], ht⟩) (fun _ q => by cases q) d_Md_isIn_37
set_option maxHeartbeats 4000000 in
set_option maxRecDepth 100000 in
theorem t_Md_isIn_b7 {l : Launch} {p : Program} {e : Env} {s : State} {m : MethodId} {args : Array Value} {below : List Frame} {meth : Method} {c : Code} {D : va_G} {ca : Nat → ClassId} {ad : Nat → Nat} {A : Nat → Prop} {st : pu_St} {r : Int32} (C : hC p s m meth c args b_Md_isIn 4 (some .boolean) "MuseumHouseModel") (G : mX D ca ad A s) (hP : va_P D hcl (mW ca ad st) s.heap) (hS : va_S A s.heap s.heap []) :
    ∀ (n : Nat) (x1 x2 x3 : Int32), f_Md_isIn_b7 n st x1 x2 x3 = some r → ∀ ls : Array Slot, lv_has ls 4 [(0, .ref (ad 0)), (1, .int x1), (2, .int x2), (3, .int x3)] → W p l e { frames := 0, cells := 0, slots := 0, locals := 0 } s m args below meth c s.heap [] 0 0 (MQ below (QcRead r) args s 0 0 (fun _ => False)) (F0 m 7 ls []) := by
  obtain ⟨hx, hb, hml, hr, hlocks, hno, hown, hts⟩ := id C
  intro n
  induction n with
  | zero => intro x1 x2 x3 h; cases h
  | succ n ih =>
    intro x1 x2 x3 h ls hl
    unfold f_Md_isIn_b7 at h
    refine lv_iload_n hx hb d_Md_isIn_7 rfl (lv_at hl 3 rfl) ?_
    refine lv_iconst (v := (-1)) hx hb d_Md_isIn_8 (by decide) ?_
    refine lv_icmp_eq (tgt := 27) hx hb d_Md_isIn_9 (by decide) (fun c2 => ?_) (fun c2 => ?_)
    · rw [if_pos c2] at h
      exact t_Md_isIn_b27 C G hP hS () x1 x2 x3 h ls (lv_sub hl [0, 1, 2, 3] rfl)
    · rw [if_neg c2] at h
      refine lv_iload_n hx hb d_Md_isIn_12 rfl (lv_at hl 3 rfl) ?_
      refine lv_iload_n hx hb d_Md_isIn_13 rfl (lv_at hl 2 rfl) ?_
      refine lv_icmp_eq (tgt := 27) hx hb d_Md_isIn_14 (by decide) (fun c3 => ?_) (fun c3 => ?_)
      · rw [if_pos c3] at h
        exact t_Md_isIn_b27 C G hP hS () x1 x2 x3 h ls (lv_sub hl [0, 1, 2, 3] rfl)
      · rw [if_neg c3] at h
        refine lv_aload_n hx hb d_Md_isIn_17 rfl (lv_at hl 0 rfl) ?_
        refine va_get (D := D) (ci := 11) (v := .ref (ad 11)) (C := R_Md) (T := T_Md) (N := 27) hx hb hts iw_Md hown G.1 hP 0 rfl rfl 13 (by decide) (hts _ wd_4_236) (fun _ h9 => h9) rfl d_Md_isIn_18 ?_
        refine lv_iload_n hx hb d_Md_isIn_21 rfl (lv_at hl 3 rfl) ?_
        obtain ⟨v4, e_v4, h⟩ := pu_ob h
        refine pu_iald hx hb G.1 hP 11 10 rfl rfl e_v4 d_Md_isIn_22 ?_
        refine lv_istore_n (lv' := [(3, .int v4), (0, .ref (ad 0)), (1, .int x1), (2, .int x2)]) hx hb d_Md_isIn_23 rfl hl (by decide) rfl (fun ls hl => ?_)
        refine lv_goto (tgt := 7) hx hb d_Md_isIn_24 (by decide) ?_
        exact ih x1 x2 v4 h ls (lv_sub hl [1, 2, 3, 0] rfl)
set_option maxHeartbeats 4000000 in
set_option maxRecDepth 100000 in
theorem c_Md_isIn (l : Launch) (D : va_G) (ca : Nat → ClassId) (ad : Nat → Nat) (st : pu_St) (sz : Nat) (x1 x2 : Int32) (r : Int32) (h : f_Md_isIn st x1 x2 = some r) : Met l y_Md_isIn (.code y_Md_isIn b_Md_isIn 4 (some .boolean) :: tG) { frames := 0, cells := 0, slots := 0, locals := 0 } (va_Pc [.ref (ad 0), .int x1, .int x2] (mPc D ca ad st sz)) (QcRead r) 0 0 (fun _ => False) := by
  refine mRead (by decide +kernel) ?_
  intro p e s m below meth c C G hP
  obtain ⟨hx, hb, hml, hr, hlocks, hno, hown, hts⟩ := id C
  have hown : s.vm.findClass "MuseumHouseModel" = some m.cls := hown
  have hS : va_S (mA ad s.heap.size) s.heap s.heap [] := va_S.rf
  have hl := lv_entry ([.ref (ad 0), .int x1, .int x2]) (n := 4) (Nat.le_of_ble_eq_true rfl)
  rw [lg_entry_eq]
  generalize (lg_sl ([.ref (ad 0), .int x1, .int x2]) ++ List.replicate (4 - (lg_sl ([.ref (ad 0), .int x1, .int x2])).length) Slot.unset).toArray = ls at hl ⊢
  have hl : lv_has ls 4 [(0, .ref (ad 0)), (1, .int x1), (2, .int x2)] := hl
  unfold f_Md_isIn at h
  refine lv_aload_n hx hb d_Md_isIn_0 rfl (lv_at hl 0 rfl) ?_
  refine va_get (D := D) (ci := 11) (v := .ref (ad 11)) (C := R_Md) (T := T_Md) (N := 27) hx hb hts iw_Md hown G.1 hP 0 rfl rfl 13 (by decide) (hts _ wd_4_236) (fun _ h9 => h9) rfl d_Md_isIn_1 ?_
  refine lv_iload_n hx hb d_Md_isIn_4 rfl (lv_at hl 1 rfl) ?_
  obtain ⟨v1, e_v1, h⟩ := pu_ob h
  refine pu_iald hx hb G.1 hP 11 10 rfl rfl e_v1 d_Md_isIn_5 ?_
  refine lv_istore_n (lv' := [(3, .int v1), (0, .ref (ad 0)), (1, .int x1), (2, .int x2)]) hx hb d_Md_isIn_6 rfl hl (by decide) rfl (fun ls hl => ?_)
  exact t_Md_isIn_b7 C G hP hS pu_fu x1 x2 v1 h ls (lv_sub hl [1, 2, 3, 0] rfl)
set_option maxHeartbeats 4000000 in
set_option maxRecDepth 100000 in
theorem t_Md_carry_b105 {l : Launch} (htl : l.stackTraces = false) {p : Program} {e : Env} {s : State} {m : MethodId} {args : Array Value} {below : List Frame} {meth : Method} {c : Code} {D : va_G} {ca : Nat → ClassId} {ad : Nat → Nat} {st' : pu_St} {v : Int32} (C : hC p s m meth c args b_Md_carry 8 (some .boolean) "MuseumHouseModel") (G : mX D ca ad (mA ad s.heap.size) s) :
    ∀ (_ : Unit) (st : pu_St) (x1 x2 x3 x4 x5 x6 z0 : Int32), f_Md_carry_b105 st x1 x2 x3 x4 x5 x6 z0 = some (v, st') → ∀ (H : Heap) (locs : List Loc), va_P D hcl (mW ca ad st) H → va_S (mA ad s.heap.size) s.heap H locs → ∀ ls : Array Slot, lv_has ls 8 [(0, .ref (ad 0)), (1, .int x1), (2, .int x2), (3, .int x3), (4, .int x4), (5, .int x5), (6, .int x6)] → W p l e { frames := 2, cells := 0, slots := 0, locals := 46 } s m args below meth c H locs 0 0 (MQX below (mQ D ca ad (fun v => some (.int v)) (.inl v) st' s.heap.size) args s 0 0 (mA ad s.heap.size)) (F0 m 105 ls [.int z0, .ref (ad 0)]) := by
  obtain ⟨hx, hb, hml, hr, hlocks, hno, hown, hts⟩ := id C
  intro _ st x1 x2 x3 x4 x5 x6 z0 h H locs hP hS ls hl
  unfold f_Md_carry_b105 at h
  obtain ⟨q14, e_q14, h⟩ := pu_ob h
  refine mCallI G hS (va_runV (As := [.int z0]) (rest := []) ⟨hx, hb, hml, hown, hts⟩ (MetX.met (c_Md_holds l htl D ca ad st _ z0 q14.1 q14.2 e_q14) (fun _ _ _ _ q => ⟨_, q.1⟩)) (xCW (C := "MuseumHouseModel") 1 hts wd_5_94 wd_1_13 wd_5_91 wd_5_93 wd_0_16 (by decide +kernel) ⟨Nat.le_of_ble_eq_true rfl, Nat.le_of_ble_eq_true rfl⟩) (G.preV hP hS 0 rfl rfl) rfl rfl hl.1 rfl (lv_room (Nat.le_of_ble_eq_true rfl)) d_Md_carry_105 ⟨Nat.zero_le _, Nat.zero_le _⟩) (fun H locs hP hS => ?_)
  refine lv_if_ne (tgt := 113) hx hb d_Md_carry_108 (by decide) (fun c15 => ?_) (fun c15 => ?_)
  · rw [if_neg c15] at h
    refine lv_aload_n hx hb d_Md_carry_113 rfl (lv_at hl 0 rfl) ?_
    refine va_get (D := D) (ci := 11) (v := .ref (ad 11)) (C := R_Md) (T := T_Md) (N := 27) hx hb hts iw_Md hown G.1 hP 0 rfl rfl 13 (by decide) (hts _ wd_4_236) (fun _ h9 => h9) rfl d_Md_carry_114 ?_
    refine lv_iload hx hb d_Md_carry_117 (lv_at hl 5 rfl) ?_
    obtain ⟨v16, e_v16, h⟩ := pu_ob h
    refine pu_iald hx hb G.1 hP 11 10 rfl rfl e_v16 d_Md_carry_119 ?_
    refine lv_istore (lv' := [(7, .int v16), (0, .ref (ad 0)), (1, .int x1), (2, .int x2), (3, .int x3), (4, .int x4), (5, .int x5), (6, .int x6)]) hx hb d_Md_carry_120 hl (by decide) rfl (fun ls hl => ?_)
    refine lv_aload_n hx hb d_Md_carry_122 rfl (lv_at hl 1 rfl) ?_
    refine va_get (D := D) (ci := 11) (v := .ref (ad 11)) (C := R_Md) (T := T_Md) (N := 27) hx hb hts iw_Md hown G.1 hP 0 rfl rfl 13 (by decide) (hts _ wd_4_236) (fun _ h9 => h9) rfl d_Md_carry_123 ?_
    refine lv_iload hx hb d_Md_carry_126 (lv_at hl 6 rfl) ?_
    refine lv_iload hx hb d_Md_carry_128 (lv_at hl 7 rfl) ?_
    obtain ⟨g17, e_g17, h⟩ := pu_ob h
    refine pu_iast hx hb G.1 hP (G.D) hS 11 10 rfl rfl e_g17 d_Md_carry_130 (fun H locs hP hS => ?_)
    have hP : va_P D hcl (mW ca ad (q14.2.1, va_up q14.2.2 10 g17)) H := hP
    refine lv_iload hx hb d_Md_carry_131 (lv_at hl 0 rfl) ?_
    refine lv_iload hx hb d_Md_carry_133 (lv_at hl 7 rfl) ?_
    refine lv_icmp_eq (tgt := 142) hx hb d_Md_carry_135 (by decide) (fun c18 => ?_) (fun c18 => ?_)
    · rw [if_pos c18] at h
      refine lv_iconst (v := 0) hx hb d_Md_carry_142 (by decide) ?_
      cases h
      exact W.toX (W.zret (ty := .boolean) hx hb hr rfl (fun t ht _ => ⟨rfl, by rw [ht]; exact hP, hS.F ht⟩) hS.2.2 d_Md_carry_143)
    · rw [if_neg c18] at h
      refine lv_iconst (v := 1) hx hb d_Md_carry_138 (by decide) ?_
      refine lv_goto (tgt := 143) hx hb d_Md_carry_139 (by decide) ?_
      cases h
      exact W.toX (W.zret (ty := .boolean) hx hb hr rfl (fun t ht _ => ⟨rfl, by rw [ht]; exact hP, hS.F ht⟩) hS.2.2 d_Md_carry_143)
  · rw [if_pos c15] at h
    refine lv_iconst (v := 0) hx hb d_Md_carry_111 (by decide) ?_
    cases h
    exact W.toX (W.zret (ty := .boolean) hx hb hr rfl (fun t ht _ => ⟨rfl, by rw [ht]; exact hP, hS.F ht⟩) hS.2.2 d_Md_carry_112)
set_option maxHeartbeats 4000000 in
set_option maxRecDepth 100000 in
theorem t_Md_carry_b104 {l : Launch} (htl : l.stackTraces = false) {p : Program} {e : Env} {s : State} {m : MethodId} {args : Array Value} {below : List Frame} {meth : Method} {c : Code} {D : va_G} {ca : Nat → ClassId} {ad : Nat → Nat} {st' : pu_St} {v : Int32} (C : hC p s m meth c args b_Md_carry 8 (some .boolean) "MuseumHouseModel") (G : mX D ca ad (mA ad s.heap.size) s) :
    ∀ (_ : Unit) (st : pu_St) (x1 x2 x3 x4 x5 x6 : Int32), f_Md_carry_b104 st x1 x2 x3 x4 x5 x6 = some (v, st') → ∀ (H : Heap) (locs : List Loc), va_P D hcl (mW ca ad st) H → va_S (mA ad s.heap.size) s.heap H locs → ∀ ls : Array Slot, lv_has ls 8 [(0, .ref (ad 0)), (1, .int x1), (2, .int x2), (3, .int x3), (4, .int x4), (5, .int x5), (6, .int x6)] → W p l e { frames := 2, cells := 0, slots := 0, locals := 46 } s m args below meth c H locs 0 0 (MQX below (mQ D ca ad (fun v => some (.int v)) (.inl v) st' s.heap.size) args s 0 0 (mA ad s.heap.size)) (F0 m 104 ls [.ref (ad 0)]) := by
  obtain ⟨hx, hb, hml, hr, hlocks, hno, hown, hts⟩ := id C
  intro _ st x1 x2 x3 x4 x5 x6 h H locs hP hS ls hl
  unfold f_Md_carry_b104 at h
  refine lv_iconst (v := 0) hx hb d_Md_carry_104 (by decide) ?_
  exact t_Md_carry_b105 htl C G () st x1 x2 x3 x4 x5 x6 0 h _ _ hP hS ls (lv_sub hl [0, 1, 2, 3, 4, 5, 6] rfl)
set_option maxHeartbeats 4000000 in
set_option maxRecDepth 100000 in
theorem t_Md_carry_b99 {l : Launch} (htl : l.stackTraces = false) {p : Program} {e : Env} {s : State} {m : MethodId} {args : Array Value} {below : List Frame} {meth : Method} {c : Code} {D : va_G} {ca : Nat → ClassId} {ad : Nat → Nat} {st' : pu_St} {v : Int32} (C : hC p s m meth c args b_Md_carry 8 (some .boolean) "MuseumHouseModel") (G : mX D ca ad (mA ad s.heap.size) s) :
    ∀ (_ : Unit) (st : pu_St) (x1 x2 x3 x4 x5 x6 : Int32), f_Md_carry_b99 st x1 x2 x3 x4 x5 x6 = some (v, st') → ∀ (H : Heap) (locs : List Loc), va_P D hcl (mW ca ad st) H → va_S (mA ad s.heap.size) s.heap H locs → ∀ ls : Array Slot, lv_has ls 8 [(0, .ref (ad 0)), (1, .int x1), (2, .int x2), (3, .int x3), (4, .int x4), (5, .int x5), (6, .int x6)] → W p l e { frames := 2, cells := 0, slots := 0, locals := 46 } s m args below meth c H locs 0 0 (MQX below (mQ D ca ad (fun v => some (.int v)) (.inl v) st' s.heap.size) args s 0 0 (mA ad s.heap.size)) (F0 m 99 ls [.ref (ad 0)]) := by
  obtain ⟨hx, hb, hml, hr, hlocks, hno, hown, hts⟩ := id C
  intro _ st x1 x2 x3 x4 x5 x6 h H locs hP hS ls hl
  unfold f_Md_carry_b99 at h
  refine lv_bipush (v := 10) hx hb d_Md_carry_99 (by decide) ?_
  refine lv_goto (tgt := 105) hx hb d_Md_carry_101 (by decide) ?_
  exact t_Md_carry_b105 htl C G () st x1 x2 x3 x4 x5 x6 10 h _ _ hP hS ls (lv_sub hl [0, 1, 2, 3, 4, 5, 6] rfl)
set_option maxHeartbeats 4000000 in
set_option maxRecDepth 100000 in
theorem t_Md_carry_b72 {l : Launch} (htl : l.stackTraces = false) {p : Program} {e : Env} {s : State} {m : MethodId} {args : Array Value} {below : List Frame} {meth : Method} {c : Code} {D : va_G} {ca : Nat → ClassId} {ad : Nat → Nat} {st' : pu_St} {v : Int32} (C : hC p s m meth c args b_Md_carry 8 (some .boolean) "MuseumHouseModel") (G : mX D ca ad (mA ad s.heap.size) s) :
    ∀ (_ : Unit) (st : pu_St) (x1 x2 x3 x4 x5 z0 : Int32), f_Md_carry_b72 st x1 x2 x3 x4 x5 z0 = some (v, st') → ∀ (H : Heap) (locs : List Loc), va_P D hcl (mW ca ad st) H → va_S (mA ad s.heap.size) s.heap H locs → ∀ ls : Array Slot, lv_has ls 8 [(0, .ref (ad 0)), (1, .int x1), (2, .int x2), (3, .int x3), (4, .int x4), (5, .int x5)] → W p l e { frames := 2, cells := 0, slots := 0, locals := 46 } s m args below meth c H locs 0 0 (MQX below (mQ D ca ad (fun v => some (.int v)) (.inl v) st' s.heap.size) args s 0 0 (mA ad s.heap.size)) (F0 m 72 ls [.int z0]) := by
  obtain ⟨hx, hb, hml, hr, hlocks, hno, hown, hts⟩ := id C
  intro _ st x1 x2 x3 x4 x5 z0 h H locs hP hS ls hl
  unfold f_Md_carry_b72 at h
  refine lv_istore (lv' := [(6, .int z0), (0, .ref (ad 0)), (1, .int x1), (2, .int x2), (3, .int x3), (4, .int x4), (5, .int x5)]) hx hb d_Md_carry_72 hl (by decide) rfl (fun ls hl => ?_)
  refine lv_aload_n hx hb d_Md_carry_74 rfl (lv_at hl 1 rfl) ?_
  refine lv_iload hx hb d_Md_carry_75 (lv_at hl 0 rfl) ?_
  refine lv_iload hx hb d_Md_carry_77 (lv_at hl 6 rfl) ?_
  refine lv_icmp_eq (tgt := 99) hx hb d_Md_carry_79 (by decide) (fun c10 => ?_) (fun c10 => ?_)
  · rw [if_pos c10] at h
    exact t_Md_carry_b99 htl C G () st x1 x2 x3 x4 x5 z0 h _ _ hP hS ls (lv_sub hl [1, 2, 3, 4, 5, 6, 0] rfl)
  · rw [if_neg c10] at h
    refine lv_iload hx hb d_Md_carry_82 (lv_at hl 0 rfl) ?_
    refine lv_iconst (v := (-1)) hx hb d_Md_carry_84 (by decide) ?_
    refine lv_icmp_eq (tgt := 104) hx hb d_Md_carry_85 (by decide) (fun c11 => ?_) (fun c11 => ?_)
    · rw [if_pos c11] at h
      exact t_Md_carry_b104 htl C G () st x1 x2 x3 x4 x5 z0 h _ _ hP hS ls (lv_sub hl [1, 2, 3, 4, 5, 6, 0] rfl)
    · rw [if_neg c11] at h
      refine lv_aload_n hx hb d_Md_carry_88 rfl (lv_at hl 1 rfl) ?_
      refine lv_iload hx hb d_Md_carry_89 (lv_at hl 0 rfl) ?_
      refine lv_iload hx hb d_Md_carry_91 (lv_at hl 6 rfl) ?_
      obtain ⟨v12, e_v12, h⟩ := pu_ob h
      refine pu_callR (va_runV (As := [.int z0, .int x5]) (rest := [.ref (ad 0)]) ⟨hx, hb, hml, hown, hts⟩ (c_Md_isIn l D ca ad st _ z0 x5 v12 e_v12) (xCW (C := "MuseumHouseModel") 2 hts wd_5_166 wd_1_13 wd_5_163 wd_5_165 wd_0_23 (by decide +kernel) ⟨Nat.le_of_ble_eq_true rfl, Nat.le_of_ble_eq_true rfl⟩) (G.preV hP hS 0 rfl rfl) rfl rfl hl.1 rfl (lv_room (Nat.le_of_ble_eq_true rfl)) d_Md_carry_93 ⟨Nat.zero_le _, Nat.zero_le _⟩) ?_
      refine lv_if_eq (tgt := 104) hx hb d_Md_carry_96 (by decide) (fun c13 => ?_) (fun c13 => ?_)
      · rw [if_pos c13] at h
        exact t_Md_carry_b104 htl C G () st x1 x2 x3 x4 x5 z0 h _ _ hP hS ls (lv_sub hl [1, 2, 3, 4, 5, 6, 0] rfl)
      · rw [if_neg c13] at h
        exact t_Md_carry_b99 htl C G () st x1 x2 x3 x4 x5 z0 h _ _ hP hS ls (lv_sub hl [1, 2, 3, 4, 5, 6, 0] rfl)
set_option maxHeartbeats 4000000 in
set_option maxRecDepth 100000 in
theorem t_Md_carry_b30 {l : Launch} (htl : l.stackTraces = false) {p : Program} {e : Env} {s : State} {m : MethodId} {args : Array Value} {below : List Frame} {meth : Method} {c : Code} {D : va_G} {ca : Nat → ClassId} {ad : Nat → Nat} {st' : pu_St} {v : Int32} (C : hC p s m meth c args b_Md_carry 8 (some .boolean) "MuseumHouseModel") (G : mX D ca ad (mA ad s.heap.size) s) :
    ∀ (_ : Unit) (st : pu_St) (x1 x2 x3 z0 : Int32), f_Md_carry_b30 st x1 x2 x3 z0 = some (v, st') → ∀ (H : Heap) (locs : List Loc), va_P D hcl (mW ca ad st) H → va_S (mA ad s.heap.size) s.heap H locs → ∀ ls : Array Slot, lv_has ls 8 [(0, .ref (ad 0)), (1, .int x1), (2, .int x2), (3, .int x3)] → W p l e { frames := 2, cells := 0, slots := 0, locals := 46 } s m args below meth c H locs 0 0 (MQX below (mQ D ca ad (fun v => some (.int v)) (.inl v) st' s.heap.size) args s 0 0 (mA ad s.heap.size)) (F0 m 30 ls [.int z0, .ref (ad 0)]) := by
  obtain ⟨hx, hb, hml, hr, hlocks, hno, hown, hts⟩ := id C
  intro _ st x1 x2 x3 z0 h H locs hP hS ls hl
  unfold f_Md_carry_b30 at h
  refine lv_iload_n hx hb d_Md_carry_30 rfl (lv_at hl 1 rfl) ?_
  refine lv_iconst (v := 4) hx hb d_Md_carry_31 (by decide) ?_
  refine lv_iconst (v := 1) hx hb d_Md_carry_32 (by decide) ?_
  obtain ⟨v6, e_v6, h⟩ := pu_ob h
  refine pu_callR (va_runV (As := [.int z0, .int x1, .int 4, .int 1]) (rest := []) ⟨hx, hb, hml, hown, hts⟩ (c_Md_first l D ca ad st _ z0 x1 4 1 v6 e_v6) (xCW (C := "MuseumHouseModel") 4 hts wd_5_76 wd_1_13 wd_5_73 wd_5_75 wd_0_13 (by decide +kernel) ⟨Nat.le_of_ble_eq_true rfl, Nat.le_of_ble_eq_true rfl⟩) (G.preV hP hS 0 rfl rfl) rfl rfl hl.1 rfl (lv_room (Nat.le_of_ble_eq_true rfl)) d_Md_carry_33 ⟨Nat.zero_le _, Nat.zero_le _⟩) ?_
  refine lv_istore (lv' := [(4, .int v6), (0, .ref (ad 0)), (1, .int x1), (2, .int x2), (3, .int x3)]) hx hb d_Md_carry_36 hl (by decide) rfl (fun ls hl => ?_)
  refine lv_iload hx hb d_Md_carry_38 (lv_at hl 0 rfl) ?_
  refine lv_if_le (tgt := 52) hx hb d_Md_carry_40 (by decide) (fun c7 => ?_) (fun c7 => ?_)
  · rw [if_pos c7] at h
    refine lv_iload_n hx hb d_Md_carry_52 rfl (lv_at hl 3 rfl) ?_
    refine lv_sipush (v := 600) hx hb d_Md_carry_53 (by decide) ?_
    refine lv_isub hx hb d_Md_carry_56 ?_
    refine lv_istore (lv' := [(5, .int (x2 - 600)), (4, .int v6), (0, .ref (ad 0)), (1, .int x1), (2, .int x2), (3, .int x3)]) hx hb d_Md_carry_57 hl (by decide) rfl (fun ls hl => ?_)
    refine lv_iload_n hx hb d_Md_carry_59 rfl (lv_at hl 5 rfl) ?_
    refine lv_if_ne (tgt := 67) hx hb d_Md_carry_60 (by decide) (fun c8 => ?_) (fun c8 => ?_)
    · rw [if_neg c8] at h
      refine lv_iload_n hx hb d_Md_carry_67 rfl (lv_at hl 5 rfl) ?_
      refine lv_sipush (v := 600) hx hb d_Md_carry_68 (by decide) ?_
      refine lv_isub hx hb d_Md_carry_71 ?_
      exact t_Md_carry_b72 htl C G () st x1 x2 x3 v6 (x2 - 600) (x3 - 600) h _ _ hP hS ls (lv_sub hl [2, 3, 4, 5, 1, 0] rfl)
    · rw [if_pos c8] at h
      refine lv_iconst (v := (-1)) hx hb d_Md_carry_63 (by decide) ?_
      refine lv_goto (tgt := 72) hx hb d_Md_carry_64 (by decide) ?_
      exact t_Md_carry_b72 htl C G () st x1 x2 x3 v6 (x2 - 600) (-1) h _ _ hP hS ls (lv_sub hl [2, 3, 4, 5, 1, 0] rfl)
  · rw [if_neg c7] at h
    refine lv_aload_n hx hb d_Md_carry_43 rfl (lv_at hl 1 rfl) ?_
    refine lv_iload hx hb d_Md_carry_44 (lv_at hl 0 rfl) ?_
    obtain ⟨q9, e_q9, h⟩ := pu_ob h
    refine mCallI G hS (va_runV (As := [.int v6]) (rest := []) ⟨hx, hb, hml, hown, hts⟩ (MetX.met (c_Md_holds l htl D ca ad st _ v6 q9.1 q9.2 e_q9) (fun _ _ _ _ q => ⟨_, q.1⟩)) (xCW (C := "MuseumHouseModel") 1 hts wd_5_94 wd_1_13 wd_5_91 wd_5_93 wd_0_16 (by decide +kernel) ⟨Nat.le_of_ble_eq_true rfl, Nat.le_of_ble_eq_true rfl⟩) (G.preV hP hS 0 rfl rfl) rfl rfl hl.1 rfl (lv_room (Nat.le_of_ble_eq_true rfl)) d_Md_carry_46 ⟨Nat.zero_le _, Nat.zero_le _⟩) (fun H locs hP hS => ?_)
    refine lv_pop hx hb d_Md_carry_49 rfl ?_
    refine lv_iconst (v := 0) hx hb d_Md_carry_50 (by decide) ?_
    cases h
    exact W.toX (W.zret (ty := .boolean) hx hb hr rfl (fun t ht _ => ⟨rfl, by rw [ht]; exact hP, hS.F ht⟩) hS.2.2 d_Md_carry_51)
set_option maxHeartbeats 4000000 in
set_option maxRecDepth 100000 in
theorem t_Md_carry_b29 {l : Launch} (htl : l.stackTraces = false) {p : Program} {e : Env} {s : State} {m : MethodId} {args : Array Value} {below : List Frame} {meth : Method} {c : Code} {D : va_G} {ca : Nat → ClassId} {ad : Nat → Nat} {st' : pu_St} {v : Int32} (C : hC p s m meth c args b_Md_carry 8 (some .boolean) "MuseumHouseModel") (G : mX D ca ad (mA ad s.heap.size) s) :
    ∀ (_ : Unit) (st : pu_St) (x1 x2 x3 : Int32), f_Md_carry_b29 st x1 x2 x3 = some (v, st') → ∀ (H : Heap) (locs : List Loc), va_P D hcl (mW ca ad st) H → va_S (mA ad s.heap.size) s.heap H locs → ∀ ls : Array Slot, lv_has ls 8 [(0, .ref (ad 0)), (1, .int x1), (2, .int x2), (3, .int x3)] → W p l e { frames := 2, cells := 0, slots := 0, locals := 46 } s m args below meth c H locs 0 0 (MQX below (mQ D ca ad (fun v => some (.int v)) (.inl v) st' s.heap.size) args s 0 0 (mA ad s.heap.size)) (F0 m 29 ls [.ref (ad 0)]) := by
  obtain ⟨hx, hb, hml, hr, hlocks, hno, hown, hts⟩ := id C
  intro _ st x1 x2 x3 h H locs hP hS ls hl
  unfold f_Md_carry_b29 at h
  refine lv_iconst (v := 0) hx hb d_Md_carry_29 (by decide) ?_
  exact t_Md_carry_b30 htl C G () st x1 x2 x3 0 h _ _ hP hS ls (lv_sub hl [0, 1, 2, 3] rfl)
set_option maxHeartbeats 4000000 in
set_option maxRecDepth 100000 in
theorem t_Md_carry_b25 {l : Launch} (htl : l.stackTraces = false) {p : Program} {e : Env} {s : State} {m : MethodId} {args : Array Value} {below : List Frame} {meth : Method} {c : Code} {D : va_G} {ca : Nat → ClassId} {ad : Nat → Nat} {st' : pu_St} {v : Int32} (C : hC p s m meth c args b_Md_carry 8 (some .boolean) "MuseumHouseModel") (G : mX D ca ad (mA ad s.heap.size) s) :
    ∀ (_ : Unit) (st : pu_St) (x1 x2 x3 : Int32), f_Md_carry_b25 st x1 x2 x3 = some (v, st') → ∀ (H : Heap) (locs : List Loc), va_P D hcl (mW ca ad st) H → va_S (mA ad s.heap.size) s.heap H locs → ∀ ls : Array Slot, lv_has ls 8 [(0, .ref (ad 0)), (1, .int x1), (2, .int x2), (3, .int x3)] → W p l e { frames := 2, cells := 0, slots := 0, locals := 46 } s m args below meth c H locs 0 0 (MQX below (mQ D ca ad (fun v => some (.int v)) (.inl v) st' s.heap.size) args s 0 0 (mA ad s.heap.size)) (F0 m 25 ls [.ref (ad 0)]) := by
  obtain ⟨hx, hb, hml, hr, hlocks, hno, hown, hts⟩ := id C
  intro _ st x1 x2 x3 h H locs hP hS ls hl
  unfold f_Md_carry_b25 at h
  refine lv_iconst (v := 1) hx hb d_Md_carry_25 (by decide) ?_
  refine lv_goto (tgt := 30) hx hb d_Md_carry_26 (by decide) ?_
  exact t_Md_carry_b30 htl C G () st x1 x2 x3 1 h _ _ hP hS ls (lv_sub hl [0, 1, 2, 3] rfl)
set_option maxHeartbeats 4000000 in
set_option maxRecDepth 100000 in
theorem c_Md_carry (l : Launch) (htl : l.stackTraces = false) (D : va_G) (ca : Nat → ClassId) (ad : Nat → Nat) (st : pu_St) (sz : Nat) (x1 x2 x3 : Int32) (v : Int32) (st' : pu_St) (h : f_Md_carry st x1 x2 x3 = some (v, st')) : MetX l y_Md_carry (.code y_Md_carry b_Md_carry 8 (some .boolean) :: tG) { frames := 2, cells := 0, slots := 0, locals := 46 } (va_Pc [.ref (ad 0), .int x1, .int x2, .int x3] (mPc D ca ad st sz)) (mQ D ca ad (fun v => some (.int v)) (.inl v) st' sz) 0 0 (mA ad sz) := by
  refine mMet (by decide +kernel) ?_
  intro p e s m below meth c hsz C G hP
  obtain ⟨hx, hb, hml, hr, hlocks, hno, hown, hts⟩ := id C
  have hown : s.vm.findClass "MuseumHouseModel" = some m.cls := hown
  have hS : va_S (mA ad s.heap.size) s.heap s.heap [] := va_S.rf
  have hl := lv_entry ([.ref (ad 0), .int x1, .int x2, .int x3]) (n := 8) (Nat.le_of_ble_eq_true rfl)
  rw [lg_entry_eq]
  generalize (lg_sl ([.ref (ad 0), .int x1, .int x2, .int x3]) ++ List.replicate (8 - (lg_sl ([.ref (ad 0), .int x1, .int x2, .int x3])).length) Slot.unset).toArray = ls at hl ⊢
  have hl : lv_has ls 8 [(0, .ref (ad 0)), (1, .int x1), (2, .int x2), (3, .int x3)] := hl
  unfold f_Md_carry at h
  refine lv_aload_n hx hb d_Md_carry_0 rfl (lv_at hl 0 rfl) ?_
  refine lv_aload_n hx hb d_Md_carry_1 rfl (lv_at hl 0 rfl) ?_
  refine lv_iload_n hx hb d_Md_carry_2 rfl (lv_at hl 2 rfl) ?_
  refine lv_bipush (v := 6) hx hb d_Md_carry_3 (by decide) ?_
  obtain ⟨v1, e_v1, h⟩ := pu_ob h
  refine pu_callR (va_runV (As := [.int x2, .int 6]) (rest := [.ref (ad 0)]) ⟨hx, hb, hml, hown, hts⟩ (c_Md_is l D ca ad st _ x2 6 v1 e_v1) (xCW (C := "MuseumHouseModel") 2 hts wd_5_80 wd_1_13 wd_5_77 wd_5_79 wd_0_14 (by decide +kernel) ⟨Nat.le_of_ble_eq_true rfl, Nat.le_of_ble_eq_true rfl⟩) (G.preV hP hS 0 rfl rfl) rfl rfl hl.1 rfl (lv_room (Nat.le_of_ble_eq_true rfl)) d_Md_carry_5 ⟨Nat.zero_le _, Nat.zero_le _⟩) ?_
  refine lv_if_eq (tgt := 29) hx hb d_Md_carry_8 (by decide) (fun c2 => ?_) (fun c2 => ?_)
  · rw [if_pos c2] at h
    exact t_Md_carry_b29 htl C G () st x1 x2 x3 h _ _ hP hS ls (lv_sub hl [0, 1, 2, 3] rfl)
  · rw [if_neg c2] at h
    refine lv_iload_n hx hb d_Md_carry_11 rfl (lv_at hl 3 rfl) ?_
    refine lv_if_eq (tgt := 25) hx hb d_Md_carry_12 (by decide) (fun c3 => ?_) (fun c3 => ?_)
    · rw [if_pos c3] at h
      exact t_Md_carry_b25 htl C G () st x1 x2 x3 h _ _ hP hS ls (lv_sub hl [0, 1, 2, 3] rfl)
    · rw [if_neg c3] at h
      refine lv_aload_n hx hb d_Md_carry_15 rfl (lv_at hl 0 rfl) ?_
      refine lv_iload_n hx hb d_Md_carry_16 rfl (lv_at hl 3 rfl) ?_
      refine lv_bipush (v := 6) hx hb d_Md_carry_17 (by decide) ?_
      obtain ⟨v4, e_v4, h⟩ := pu_ob h
      refine pu_callR (va_runV (As := [.int x3, .int 6]) (rest := [.ref (ad 0)]) ⟨hx, hb, hml, hown, hts⟩ (c_Md_is l D ca ad st _ x3 6 v4 e_v4) (xCW (C := "MuseumHouseModel") 2 hts wd_5_80 wd_1_13 wd_5_77 wd_5_79 wd_0_14 (by decide +kernel) ⟨Nat.le_of_ble_eq_true rfl, Nat.le_of_ble_eq_true rfl⟩) (G.preV hP hS 0 rfl rfl) rfl rfl hl.1 rfl (lv_room (Nat.le_of_ble_eq_true rfl)) d_Md_carry_19 ⟨Nat.zero_le _, Nat.zero_le _⟩) ?_
      refine lv_if_eq (tgt := 29) hx hb d_Md_carry_22 (by decide) (fun c5 => ?_) (fun c5 => ?_)
      · rw [if_pos c5] at h
        exact t_Md_carry_b29 htl C G () st x1 x2 x3 h _ _ hP hS ls (lv_sub hl [0, 1, 2, 3] rfl)
      · rw [if_neg c5] at h
        exact t_Md_carry_b25 htl C G () st x1 x2 x3 h _ _ hP hS ls (lv_sub hl [0, 1, 2, 3] rfl)
set_option maxHeartbeats 4000000 in
set_option maxRecDepth 100000 in
theorem t_Md_within_b26 {l : Launch} (htl : l.stackTraces = false) {p : Program} {e : Env} {s : State} {m : MethodId} {args : Array Value} {below : List Frame} {meth : Method} {c : Code} {D : va_G} {ca : Nat → ClassId} {ad : Nat → Nat} {st' : pu_St} {v : Int32} (C : hC p s m meth c args b_Md_within 3 (some .boolean) "MuseumHouseModel") (G : mX D ca ad (mA ad s.heap.size) s) :
    ∀ (_ : Unit) (st : pu_St) (x1 x2 z0 : Int32), f_Md_within_b26 st x1 x2 z0 = some (v, st') → ∀ (H : Heap) (locs : List Loc), va_P D hcl (mW ca ad st) H → va_S (mA ad s.heap.size) s.heap H locs → ∀ ls : Array Slot, lv_has ls 3 [(0, .ref (ad 0)), (1, .int x1), (2, .int x2)] → W p l e { frames := 1, cells := 0, slots := 0, locals := 23 } s m args below meth c H locs 0 0 (MQX below (mQ D ca ad (fun v => some (.int v)) (.inl v) st' s.heap.size) args s 0 0 (mA ad s.heap.size)) (F0 m 26 ls [.int z0, .ref (ad 0)]) := by
  obtain ⟨hx, hb, hml, hr, hlocks, hno, hown, hts⟩ := id C
  intro _ st x1 x2 z0 h H locs hP hS ls hl
  unfold f_Md_within_b26 at h
  obtain ⟨q5, e_q5, h⟩ := pu_ob h
  refine mCallI G hS (va_runV (As := [.int z0]) (rest := []) ⟨hx, hb, hml, hown, hts⟩ (MetX.met (c_Md_holds l htl D ca ad st _ z0 q5.1 q5.2 e_q5) (fun _ _ _ _ q => ⟨_, q.1⟩)) (xCW (C := "MuseumHouseModel") 1 hts wd_5_94 wd_1_13 wd_5_91 wd_5_93 wd_0_16 (by decide +kernel) ⟨Nat.le_of_ble_eq_true rfl, Nat.le_of_ble_eq_true rfl⟩) (G.preV hP hS 0 rfl rfl) rfl rfl hl.1 rfl (lv_room (Nat.le_of_ble_eq_true rfl)) d_Md_within_26 ⟨Nat.zero_le _, Nat.zero_le _⟩) (fun H locs hP hS => ?_)
  refine lv_if_eq (tgt := 53) hx hb d_Md_within_29 (by decide) (fun c6 => ?_) (fun c6 => ?_)
  · rw [if_pos c6] at h
    refine lv_iconst (v := 0) hx hb d_Md_within_53 (by decide) ?_
    cases h
    exact W.toX (W.zret (ty := .boolean) hx hb hr rfl (fun t ht _ => ⟨rfl, by rw [ht]; exact hP, hS.F ht⟩) hS.2.2 d_Md_within_54)
  · rw [if_neg c6] at h
    refine lv_aload_n hx hb d_Md_within_32 rfl (lv_at hl 0 rfl) ?_
    refine lv_iload_n hx hb d_Md_within_33 rfl (lv_at hl 1 rfl) ?_
    refine lv_sipush (v := 600) hx hb d_Md_within_34 (by decide) ?_
    refine lv_isub hx hb d_Md_within_37 ?_
    refine lv_iload_n hx hb d_Md_within_38 rfl (lv_at hl 2 rfl) ?_
    refine lv_sipush (v := 600) hx hb d_Md_within_39 (by decide) ?_
    refine lv_isub hx hb d_Md_within_42 ?_
    obtain ⟨v7, e_v7, h⟩ := pu_ob h
    refine pu_callR (va_runV (As := [.int (x1 - 600), .int (x2 - 600)]) (rest := []) ⟨hx, hb, hml, hown, hts⟩ (c_Md_isIn l D ca ad q5.2 _ (x1 - 600) (x2 - 600) v7 e_v7) (xCW (C := "MuseumHouseModel") 2 hts wd_5_166 wd_1_13 wd_5_163 wd_5_165 wd_0_23 (by decide +kernel) ⟨Nat.le_of_ble_eq_true rfl, Nat.le_of_ble_eq_true rfl⟩) (G.preV hP hS 0 rfl rfl) rfl rfl hl.1 rfl (lv_room (Nat.le_of_ble_eq_true rfl)) d_Md_within_43 ⟨Nat.zero_le _, Nat.zero_le _⟩) ?_
    refine lv_if_eq (tgt := 53) hx hb d_Md_within_46 (by decide) (fun c8 => ?_) (fun c8 => ?_)
    · rw [if_pos c8] at h
      refine lv_iconst (v := 0) hx hb d_Md_within_53 (by decide) ?_
      cases h
      exact W.toX (W.zret (ty := .boolean) hx hb hr rfl (fun t ht _ => ⟨rfl, by rw [ht]; exact hP, hS.F ht⟩) hS.2.2 d_Md_within_54)
    · rw [if_neg c8] at h
      refine lv_iconst (v := 1) hx hb d_Md_within_49 (by decide) ?_
      refine lv_goto (tgt := 54) hx hb d_Md_within_50 (by decide) ?_
      cases h
      exact W.toX (W.zret (ty := .boolean) hx hb hr rfl (fun t ht _ => ⟨rfl, by rw [ht]; exact hP, hS.F ht⟩) hS.2.2 d_Md_within_54)
set_option maxHeartbeats 4000000 in
set_option maxRecDepth 100000 in
theorem t_Md_within_b25 {l : Launch} (htl : l.stackTraces = false) {p : Program} {e : Env} {s : State} {m : MethodId} {args : Array Value} {below : List Frame} {meth : Method} {c : Code} {D : va_G} {ca : Nat → ClassId} {ad : Nat → Nat} {st' : pu_St} {v : Int32} (C : hC p s m meth c args b_Md_within 3 (some .boolean) "MuseumHouseModel") (G : mX D ca ad (mA ad s.heap.size) s) :
    ∀ (_ : Unit) (st : pu_St) (x1 x2 : Int32), f_Md_within_b25 st x1 x2 = some (v, st') → ∀ (H : Heap) (locs : List Loc), va_P D hcl (mW ca ad st) H → va_S (mA ad s.heap.size) s.heap H locs → ∀ ls : Array Slot, lv_has ls 3 [(0, .ref (ad 0)), (1, .int x1), (2, .int x2)] → W p l e { frames := 1, cells := 0, slots := 0, locals := 23 } s m args below meth c H locs 0 0 (MQX below (mQ D ca ad (fun v => some (.int v)) (.inl v) st' s.heap.size) args s 0 0 (mA ad s.heap.size)) (F0 m 25 ls [.ref (ad 0)]) := by
  obtain ⟨hx, hb, hml, hr, hlocks, hno, hown, hts⟩ := id C
  intro _ st x1 x2 h H locs hP hS ls hl
  unfold f_Md_within_b25 at h
  refine lv_iconst (v := 1) hx hb d_Md_within_25 (by decide) ?_
  exact t_Md_within_b26 htl C G () st x1 x2 1 h _ _ hP hS ls (lv_sub hl [0, 1, 2] rfl)
set_option maxHeartbeats 4000000 in
set_option maxRecDepth 100000 in
theorem c_Md_within (l : Launch) (htl : l.stackTraces = false) (D : va_G) (ca : Nat → ClassId) (ad : Nat → Nat) (st : pu_St) (sz : Nat) (x1 x2 : Int32) (v : Int32) (st' : pu_St) (h : f_Md_within st x1 x2 = some (v, st')) : MetX l y_Md_within (.code y_Md_within b_Md_within 3 (some .boolean) :: tG) { frames := 1, cells := 0, slots := 0, locals := 23 } (va_Pc [.ref (ad 0), .int x1, .int x2] (mPc D ca ad st sz)) (mQ D ca ad (fun v => some (.int v)) (.inl v) st' sz) 0 0 (mA ad sz) := by
  refine mMet (by decide +kernel) ?_
  intro p e s m below meth c hsz C G hP
  obtain ⟨hx, hb, hml, hr, hlocks, hno, hown, hts⟩ := id C
  have hown : s.vm.findClass "MuseumHouseModel" = some m.cls := hown
  have hS : va_S (mA ad s.heap.size) s.heap s.heap [] := va_S.rf
  have hl := lv_entry ([.ref (ad 0), .int x1, .int x2]) (n := 3) (Nat.le_of_ble_eq_true rfl)
  rw [lg_entry_eq]
  generalize (lg_sl ([.ref (ad 0), .int x1, .int x2]) ++ List.replicate (3 - (lg_sl ([.ref (ad 0), .int x1, .int x2])).length) Slot.unset).toArray = ls at hl ⊢
  have hl : lv_has ls 3 [(0, .ref (ad 0)), (1, .int x1), (2, .int x2)] := hl
  unfold f_Md_within at h
  refine lv_aload_n hx hb d_Md_within_0 rfl (lv_at hl 0 rfl) ?_
  refine lv_aload_n hx hb d_Md_within_1 rfl (lv_at hl 0 rfl) ?_
  refine lv_iload_n hx hb d_Md_within_2 rfl (lv_at hl 1 rfl) ?_
  refine lv_bipush (v := 6) hx hb d_Md_within_3 (by decide) ?_
  obtain ⟨v1, e_v1, h⟩ := pu_ob h
  refine pu_callR (va_runV (As := [.int x1, .int 6]) (rest := [.ref (ad 0)]) ⟨hx, hb, hml, hown, hts⟩ (c_Md_is l D ca ad st _ x1 6 v1 e_v1) (xCW (C := "MuseumHouseModel") 2 hts wd_5_80 wd_1_13 wd_5_77 wd_5_79 wd_0_14 (by decide +kernel) ⟨Nat.le_of_ble_eq_true rfl, Nat.le_of_ble_eq_true rfl⟩) (G.preV hP hS 0 rfl rfl) rfl rfl hl.1 rfl (lv_room (Nat.le_of_ble_eq_true rfl)) d_Md_within_5 ⟨Nat.zero_le _, Nat.zero_le _⟩) ?_
  refine lv_if_eq (tgt := 25) hx hb d_Md_within_8 (by decide) (fun c2 => ?_) (fun c2 => ?_)
  · rw [if_pos c2] at h
    exact t_Md_within_b25 htl C G () st x1 x2 h _ _ hP hS ls (lv_sub hl [0, 1, 2] rfl)
  · rw [if_neg c2] at h
    refine lv_aload_n hx hb d_Md_within_11 rfl (lv_at hl 0 rfl) ?_
    refine lv_iload_n hx hb d_Md_within_12 rfl (lv_at hl 2 rfl) ?_
    refine lv_bipush (v := 6) hx hb d_Md_within_13 (by decide) ?_
    obtain ⟨v3, e_v3, h⟩ := pu_ob h
    refine pu_callR (va_runV (As := [.int x2, .int 6]) (rest := [.ref (ad 0)]) ⟨hx, hb, hml, hown, hts⟩ (c_Md_is l D ca ad st _ x2 6 v3 e_v3) (xCW (C := "MuseumHouseModel") 2 hts wd_5_80 wd_1_13 wd_5_77 wd_5_79 wd_0_14 (by decide +kernel) ⟨Nat.le_of_ble_eq_true rfl, Nat.le_of_ble_eq_true rfl⟩) (G.preV hP hS 0 rfl rfl) rfl rfl hl.1 rfl (lv_room (Nat.le_of_ble_eq_true rfl)) d_Md_within_15 ⟨Nat.zero_le _, Nat.zero_le _⟩) ?_
    refine lv_if_eq (tgt := 25) hx hb d_Md_within_18 (by decide) (fun c4 => ?_) (fun c4 => ?_)
    · rw [if_pos c4] at h
      exact t_Md_within_b25 htl C G () st x1 x2 h _ _ hP hS ls (lv_sub hl [0, 1, 2] rfl)
    · rw [if_neg c4] at h
      refine lv_iconst (v := 0) hx hb d_Md_within_21 (by decide) ?_
      refine lv_goto (tgt := 26) hx hb d_Md_within_22 (by decide) ?_
      exact t_Md_within_b26 htl C G () st x1 x2 0 h _ _ hP hS ls (lv_sub hl [0, 1, 2] rfl)
set_option maxHeartbeats 4000000 in
set_option maxRecDepth 100000 in
theorem t_Md_loanAt_b6 {l : Launch} {p : Program} {e : Env} {s : State} {m : MethodId} {args : Array Value} {below : List Frame} {meth : Method} {c : Code} {D : va_G} {ca : Nat → ClassId} {ad : Nat → Nat} {A : Nat → Prop} {st : pu_St} {r : Int32} (C : hC p s m meth c args b_Md_loanAt 6 (some .int) "MuseumHouseModel") (G : mX D ca ad A s) (hP : va_P D hcl (mW ca ad st) s.heap) (hS : va_S A s.heap s.heap []) :
    ∀ (n : Nat) (x1 x2 x3 x4 x5 : Int32), f_Md_loanAt_b6 n st x1 x2 x3 x4 x5 = some r → ∀ ls : Array Slot, lv_has ls 6 [(0, .ref (ad 0)), (1, .int x1), (2, .int x2), (3, .int x3), (4, .int x4), (5, .int x5)] → W p l e { frames := 0, cells := 0, slots := 0, locals := 0 } s m args below meth c s.heap [] 0 0 (MQ below (QcRead r) args s 0 0 (fun _ => False)) (F0 m 6 ls []) := by
  obtain ⟨hx, hb, hml, hr, hlocks, hno, hown, hts⟩ := id C
  intro n
  induction n with
  | zero => intro x1 x2 x3 x4 x5 h; cases h
  | succ n ih =>
    intro x1 x2 x3 x4 x5 h ls hl
    unfold f_Md_loanAt_b6 at h
    refine lv_iload hx hb d_Md_loanAt_6 (lv_at hl 5 rfl) ?_
    refine lv_aload_n hx hb d_Md_loanAt_8 rfl (lv_at hl 0 rfl) ?_
    refine va_get (D := D) (ci := 11) (v := .ref (ad 1)) (C := R_Md) (T := T_Md) (N := 27) hx hb hts iw_Md hown G.1 hP 0 rfl rfl 3 (by decide) (hts _ wd_4_226) (fun _ h9 => h9) rfl d_Md_loanAt_9 ?_
    refine lv_bipush (v := 7) hx hb d_Md_loanAt_12 (by decide) ?_
    obtain ⟨v1, e_v1, h⟩ := pu_ob h
    refine pu_iald hx hb G.1 hP 1 0 rfl rfl e_v1 d_Md_loanAt_14 ?_
    refine lv_icmp_ge (tgt := 70) hx hb d_Md_loanAt_15 (by decide) (fun c2 => ?_) (fun c2 => ?_)
    · rw [if_pos c2] at h
      refine lv_iload hx hb d_Md_loanAt_70 (lv_at hl 4 rfl) ?_
      have h := Option.some.inj h
      exact W.iret (v := x4) hx hb hr (fun t ht _ => ⟨by rw [h], ht⟩) (fun _ q => by cases q) d_Md_loanAt_72
    · rw [if_neg c2] at h
      refine lv_aload_n hx hb d_Md_loanAt_18 rfl (lv_at hl 0 rfl) ?_
      refine va_get (D := D) (ci := 11) (v := .ref (ad 15)) (C := R_Md) (T := T_Md) (N := 27) hx hb hts iw_Md hown G.1 hP 0 rfl rfl 17 (by decide) (hts _ wd_5_0) (fun _ h9 => h9) rfl d_Md_loanAt_19 ?_
      refine lv_iload hx hb d_Md_loanAt_22 (lv_at hl 5 rfl) ?_
      obtain ⟨v3, e_v3, h⟩ := pu_ob h
      refine pu_iald hx hb G.1 hP 15 14 rfl rfl e_v3 d_Md_loanAt_24 ?_
      refine lv_iload_n hx hb d_Md_loanAt_25 rfl (lv_at hl 1 rfl) ?_
      refine lv_icmp_ne (tgt := 60) hx hb d_Md_loanAt_26 (by decide) (fun c4 => ?_) (fun c4 => ?_)
      · rw [if_neg c4] at h
        refine lv_iload hx hb d_Md_loanAt_60 (lv_at hl 4 rfl) ?_
        refine lv_istore (lv' := [(4, .int x4), (0, .ref (ad 0)), (1, .int x1), (2, .int x2), (3, .int x3), (5, .int x5)]) hx hb d_Md_loanAt_62 hl (by decide) rfl (fun ls hl => ?_)
        refine lv_iinc (v := (x5 + 1)) (lv' := [(5, .int (x5 + 1)), (4, .int x4), (0, .ref (ad 0)), (1, .int x1), (2, .int x2), (3, .int x3)]) hx hb d_Md_loanAt_64 hl (k := 5) rfl rfl (by decide) rfl (fun ls hl => ?_)
        refine lv_goto (tgt := 6) hx hb d_Md_loanAt_67 (by decide) ?_
        exact ih x1 x2 x3 x4 (x5 + 1) h ls (lv_sub hl [2, 3, 4, 5, 1, 0] rfl)
      · rw [if_pos c4] at h
        refine lv_aload_n hx hb d_Md_loanAt_29 rfl (lv_at hl 0 rfl) ?_
        refine va_get (D := D) (ci := 11) (v := .ref (ad 16)) (C := R_Md) (T := T_Md) (N := 27) hx hb hts iw_Md hown G.1 hP 0 rfl rfl 18 (by decide) (hts _ wd_5_1) (fun _ h9 => h9) rfl d_Md_loanAt_30 ?_
        refine lv_iload hx hb d_Md_loanAt_33 (lv_at hl 5 rfl) ?_
        obtain ⟨v5, e_v5, h⟩ := pu_ob h
        refine pu_iald hx hb G.1 hP 16 15 rfl rfl e_v5 d_Md_loanAt_35 ?_
        refine lv_iload_n hx hb d_Md_loanAt_36 rfl (lv_at hl 3 rfl) ?_
        refine lv_icmp_gt (tgt := 60) hx hb d_Md_loanAt_37 (by decide) (fun c6 => ?_) (fun c6 => ?_)
        · rw [if_pos c6] at h
          refine lv_iload hx hb d_Md_loanAt_60 (lv_at hl 4 rfl) ?_
          refine lv_istore (lv' := [(4, .int x4), (0, .ref (ad 0)), (1, .int x1), (2, .int x2), (3, .int x3), (5, .int x5)]) hx hb d_Md_loanAt_62 hl (by decide) rfl (fun ls hl => ?_)
          refine lv_iinc (v := (x5 + 1)) (lv' := [(5, .int (x5 + 1)), (4, .int x4), (0, .ref (ad 0)), (1, .int x1), (2, .int x2), (3, .int x3)]) hx hb d_Md_loanAt_64 hl (k := 5) rfl rfl (by decide) rfl (fun ls hl => ?_)
          refine lv_goto (tgt := 6) hx hb d_Md_loanAt_67 (by decide) ?_
          exact ih x1 x2 x3 x4 (x5 + 1) h ls (lv_sub hl [2, 3, 4, 5, 1, 0] rfl)
        · rw [if_neg c6] at h
          refine lv_aload_n hx hb d_Md_loanAt_40 rfl (lv_at hl 0 rfl) ?_
          refine va_get (D := D) (ci := 11) (v := .ref (ad 17)) (C := R_Md) (T := T_Md) (N := 27) hx hb hts iw_Md hown G.1 hP 0 rfl rfl 19 (by decide) (hts _ wd_5_2) (fun _ h9 => h9) rfl d_Md_loanAt_41 ?_
          refine lv_iload hx hb d_Md_loanAt_44 (lv_at hl 5 rfl) ?_
          obtain ⟨v7, e_v7, h⟩ := pu_ob h
          refine pu_iald hx hb G.1 hP 17 16 rfl rfl e_v7 d_Md_loanAt_46 ?_
          refine lv_iload_n hx hb d_Md_loanAt_47 rfl (lv_at hl 2 rfl) ?_
          refine lv_icmp_lt (tgt := 60) hx hb d_Md_loanAt_48 (by decide) (fun c8 => ?_) (fun c8 => ?_)
          · rw [if_pos c8] at h
            refine lv_iload hx hb d_Md_loanAt_60 (lv_at hl 4 rfl) ?_
            refine lv_istore (lv' := [(4, .int x4), (0, .ref (ad 0)), (1, .int x1), (2, .int x2), (3, .int x3), (5, .int x5)]) hx hb d_Md_loanAt_62 hl (by decide) rfl (fun ls hl => ?_)
            refine lv_iinc (v := (x5 + 1)) (lv' := [(5, .int (x5 + 1)), (4, .int x4), (0, .ref (ad 0)), (1, .int x1), (2, .int x2), (3, .int x3)]) hx hb d_Md_loanAt_64 hl (k := 5) rfl rfl (by decide) rfl (fun ls hl => ?_)
            refine lv_goto (tgt := 6) hx hb d_Md_loanAt_67 (by decide) ?_
            exact ih x1 x2 x3 x4 (x5 + 1) h ls (lv_sub hl [2, 3, 4, 5, 1, 0] rfl)
          · rw [if_neg c8] at h
            refine lv_sipush (v := 700) hx hb d_Md_loanAt_51 (by decide) ?_
            refine lv_iload hx hb d_Md_loanAt_54 (lv_at hl 5 rfl) ?_
            refine lv_iadd hx hb d_Md_loanAt_56 ?_
            refine lv_goto (tgt := 62) hx hb d_Md_loanAt_57 (by decide) ?_
            refine lv_istore (lv' := [(4, .int (700 + x5)), (0, .ref (ad 0)), (1, .int x1), (2, .int x2), (3, .int x3), (5, .int x5)]) hx hb d_Md_loanAt_62 hl (by decide) rfl (fun ls hl => ?_)
            refine lv_iinc (v := (x5 + 1)) (lv' := [(5, .int (x5 + 1)), (4, .int (700 + x5)), (0, .ref (ad 0)), (1, .int x1), (2, .int x2), (3, .int x3)]) hx hb d_Md_loanAt_64 hl (k := 5) rfl rfl (by decide) rfl (fun ls hl => ?_)
            refine lv_goto (tgt := 6) hx hb d_Md_loanAt_67 (by decide) ?_
            exact ih x1 x2 x3 (700 + x5) (x5 + 1) h ls (lv_sub hl [2, 3, 4, 5, 1, 0] rfl)
set_option maxHeartbeats 4000000 in
set_option maxRecDepth 100000 in
theorem c_Md_loanAt (l : Launch) (D : va_G) (ca : Nat → ClassId) (ad : Nat → Nat) (st : pu_St) (sz : Nat) (x1 x2 x3 : Int32) (r : Int32) (h : f_Md_loanAt st x1 x2 x3 = some r) : Met l y_Md_loanAt (.code y_Md_loanAt b_Md_loanAt 6 (some .int) :: tG) { frames := 0, cells := 0, slots := 0, locals := 0 } (va_Pc [.ref (ad 0), .int x1, .int x2, .int x3] (mPc D ca ad st sz)) (QcRead r) 0 0 (fun _ => False) := by
  refine mRead (by decide +kernel) ?_
  intro p e s m below meth c C G hP
  obtain ⟨hx, hb, hml, hr, hlocks, hno, hown, hts⟩ := id C
  have hown : s.vm.findClass "MuseumHouseModel" = some m.cls := hown
  have hS : va_S (mA ad s.heap.size) s.heap s.heap [] := va_S.rf
  have hl := lv_entry ([.ref (ad 0), .int x1, .int x2, .int x3]) (n := 6) (Nat.le_of_ble_eq_true rfl)
  rw [lg_entry_eq]
  generalize (lg_sl ([.ref (ad 0), .int x1, .int x2, .int x3]) ++ List.replicate (6 - (lg_sl ([.ref (ad 0), .int x1, .int x2, .int x3])).length) Slot.unset).toArray = ls at hl ⊢
  have hl : lv_has ls 6 [(0, .ref (ad 0)), (1, .int x1), (2, .int x2), (3, .int x3)] := hl
  unfold f_Md_loanAt at h
  refine lv_iconst (v := 0) hx hb d_Md_loanAt_0 (by decide) ?_
  refine lv_istore (lv' := [(4, .int 0), (0, .ref (ad 0)), (1, .int x1), (2, .int x2), (3, .int x3)]) hx hb d_Md_loanAt_1 hl (by decide) rfl (fun ls hl => ?_)
  refine lv_iconst (v := 0) hx hb d_Md_loanAt_3 (by decide) ?_
  refine lv_istore (lv' := [(5, .int 0), (4, .int 0), (0, .ref (ad 0)), (1, .int x1), (2, .int x2), (3, .int x3)]) hx hb d_Md_loanAt_4 hl (by decide) rfl (fun ls hl => ?_)
  exact t_Md_loanAt_b6 C G hP hS pu_fu x1 x2 x3 0 0 h ls (lv_sub hl [2, 3, 4, 5, 1, 0] rfl)
set_option maxHeartbeats 4000000 in
set_option maxRecDepth 100000 in
theorem c_Md_dayOf (l : Launch) (D : va_G) (ca : Nat → ClassId) (ad : Nat → Nat) (st : pu_St) (sz : Nat) (x1 : Int32) (r : Int32) (h : f_Md_dayOf st x1 = some r) : Met l y_Md_dayOf (.code y_Md_dayOf b_Md_dayOf 2 (some .int) :: tG) { frames := 0, cells := 0, slots := 0, locals := 0 } (va_Pc [.ref (ad 0), .int x1] (mPc D ca ad st sz)) (QcRead r) 0 0 (fun _ => False) := by
  refine mRead (by decide +kernel) ?_
  intro p e s m below meth c C G hP
  obtain ⟨hx, hb, hml, hr, hlocks, hno, hown, hts⟩ := id C
  have hown : s.vm.findClass "MuseumHouseModel" = some m.cls := hown
  have hS : va_S (mA ad s.heap.size) s.heap s.heap [] := va_S.rf
  have hl := lv_entry ([.ref (ad 0), .int x1]) (n := 2) (Nat.le_of_ble_eq_true rfl)
  rw [lg_entry_eq]
  generalize (lg_sl ([.ref (ad 0), .int x1]) ++ List.replicate (2 - (lg_sl ([.ref (ad 0), .int x1])).length) Slot.unset).toArray = ls at hl ⊢
  have hl : lv_has ls 2 [(0, .ref (ad 0)), (1, .int x1)] := hl
  unfold f_Md_dayOf at h
  refine lv_aload_n hx hb d_Md_dayOf_0 rfl (lv_at hl 0 rfl) ?_
  refine va_get (D := D) (ci := 11) (v := .ref (ad 9)) (C := R_Md) (T := T_Md) (N := 27) hx hb hts iw_Md hown G.1 hP 0 rfl rfl 11 (by decide) (hts _ wd_4_234) (fun _ h9 => h9) rfl d_Md_dayOf_1 ?_
  refine lv_aload_n hx hb d_Md_dayOf_4 rfl (lv_at hl 0 rfl) ?_
  refine va_get (D := D) (ci := 11) (v := .ref (ad 10)) (C := R_Md) (T := T_Md) (N := 27) hx hb hts iw_Md hown G.1 hP 0 rfl rfl 12 (by decide) (hts _ wd_4_235) (fun _ h9 => h9) rfl d_Md_dayOf_5 ?_
  refine lv_iload_n hx hb d_Md_dayOf_8 rfl (lv_at hl 1 rfl) ?_
  refine lv_sipush (v := 500) hx hb d_Md_dayOf_9 (by decide) ?_
  refine lv_isub hx hb d_Md_dayOf_12 ?_
  obtain ⟨v1, e_v1, h⟩ := pu_ob h
  refine pu_iald hx hb G.1 hP 10 9 rfl rfl e_v1 d_Md_dayOf_13 ?_
  refine lv_sipush (v := 400) hx hb d_Md_dayOf_14 (by decide) ?_
  refine lv_isub hx hb d_Md_dayOf_17 ?_
  obtain ⟨v2, e_v2, h⟩ := pu_ob h
  refine pu_iald hx hb G.1 hP 9 8 rfl rfl e_v2 d_Md_dayOf_18 ?_
  have h := Option.some.inj h
  exact W.iret (v := v2) hx hb hr (fun t ht _ => ⟨by rw [h], ht⟩) (fun _ q => by cases q) d_Md_dayOf_19

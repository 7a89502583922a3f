set_option maxHeartbeats 4000000 in
set_option maxRecDepth 100000 in
theorem c_H_take (l : Launch) (htl : l.stackTraces = false) (D : va_G) (ca : Nat → ClassId) (ad : Nat → Nat) (st : pu_St) (sz : Nat) (x1 x2 x3 : Int32) (r : Int32 ⊕ Nat) (st' : pu_St) (h : f_H_take st x1 x2 x3 = some (r, st')) : MetX l y_H_take (.code y_H_take b_H_take 8 (some .boolean) :: tG) { frames := 7, cells := xc r, slots := xs r, locals := 113 } (va_Pc [.ref (ad 0), .int x1, .int x2, .int x3] (hPc D ca ad st sz)) (hQ D ca ad (fun v => some (.int v)) r st' sz) (xc r) (xs r) (hA ad sz) := by
  refine hMet (by decide +kernel) ?_
  intro p e s m below meth c hsz C G hP
  obtain ⟨hx, hb, hml, hr, hlocks, hno, hown, hts⟩ := id C
  have hown : s.vm.findClass "MuseumHouse" = some m.cls := hown
  have hS : va_S (hA ad s.heap.size) s.heap s.heap [] := va_S.rf
  have hl := lv_entry ([.ref (ad 0), .int x1, .int x2, .int x3]) (n := 8) (Nat.le_of_ble_eq_true rfl)
  rw [lg_entry_eq]
  generalize (lg_sl ([.ref (ad 0), .int x1, .int x2, .int x3]) ++ List.replicate (8 - (lg_sl ([.ref (ad 0), .int x1, .int x2, .int x3])).length) Slot.unset).toArray = ls at hl ⊢
  have hl : lv_has ls 8 [(0, .ref (ad 0)), (1, .int x1), (2, .int x2), (3, .int x3)] := hl
  unfold f_H_take at h
  refine lv_aload_n hx hb d_H_take_0 rfl (lv_at hl 0 rfl) ?_
  refine lv_aload_n hx hb d_H_take_1 rfl (lv_at hl 0 rfl) ?_
  refine va_get (D := D) (ci := 0) (v := .ref (ad 1)) (C := R_H) (T := T_H) (N := 12) hx hb hts iw_H hown G.1 hP 0 rfl rfl 0 (by decide) (hts _ wd_1_212) (fun _ h9 => h9) rfl d_H_take_2 ?_
  refine lv_iload_n hx hb d_H_take_5 rfl (lv_at hl 1 rfl) ?_
  rcases pu_xb_inv h with ⟨v1, st2, e_v1, h⟩ | ⟨v1, st2, e_v1, h⟩
  · refine hCallI G hS (va_runV (As := [.ref (ad 1), .int x1]) (rest := []) ⟨hx, hb, hml, hown, hts⟩ (MetX.met (c_H_numberOf_De l htl D ca ad st _ x1 _ _ e_v1) (fun _ _ _ _ q => ⟨_, q.1⟩)) (xCW (C := "MuseumHouse") 2 hts wd_2_26 wd_1_1 wd_2_23 wd_2_25 wd_0_0 (by decide +kernel) ⟨Nat.le_of_ble_eq_true rfl, Nat.le_of_ble_eq_true rfl⟩) (G.preV hP hS 0 rfl rfl) rfl rfl hl.1 rfl (lv_room (Nat.le_of_ble_eq_true rfl)) d_H_take_6 ⟨Nat.zero_le _, Nat.zero_le _⟩) (fun H locs hP hS => ?_)
    refine lv_istore (lv' := [(4, .int v1), (0, .ref (ad 0)), (1, .int x1), (2, .int x2), (3, .int x3)]) hx hb d_H_take_9 hl (by decide) rfl (fun ls hl => ?_)
    refine lv_aload_n hx hb d_H_take_11 rfl (lv_at hl 1 rfl) ?_
    refine lv_aload_n hx hb d_H_take_12 rfl (lv_at hl 1 rfl) ?_
    refine va_get (D := D) (ci := 0) (v := .ref (ad 9)) (C := R_H) (T := T_H) (N := 12) hx hb hts iw_H hown G.1 hP 0 rfl rfl 8 (by decide) (hts _ wd_1_220) (fun _ h9 => h9) rfl d_H_take_13 ?_
    refine lv_iload_n hx hb d_H_take_16 rfl (lv_at hl 3 rfl) ?_
    rcases pu_xb_inv h with ⟨v3, st4, e_v3, h⟩ | ⟨v3, st4, e_v3, h⟩
    · refine hCallI G hS (va_runV (As := [.ref (ad 9), .int x2]) (rest := []) ⟨hx, hb, hml, hown, hts⟩ (MetX.met (c_H_numberOf_Sh l htl D ca ad st2 _ x2 _ _ e_v3) (fun _ _ _ _ q => ⟨_, q.1⟩)) (xCW (C := "MuseumHouse") 2 hts wd_2_26 wd_1_1 wd_2_23 wd_2_25 wd_0_0 (by decide +kernel) ⟨Nat.le_of_ble_eq_true rfl, Nat.le_of_ble_eq_true rfl⟩) (G.preV hP hS 0 rfl rfl) rfl rfl hl.1 rfl (lv_room (Nat.le_of_ble_eq_true rfl)) d_H_take_17 ⟨Nat.zero_le _, Nat.zero_le _⟩) (fun H locs hP hS => ?_)
      refine lv_istore (lv' := [(5, .int v3), (4, .int v1), (0, .ref (ad 0)), (1, .int x1), (2, .int x2), (3, .int x3)]) hx hb d_H_take_20 hl (by decide) rfl (fun ls hl => ?_)
      refine lv_aload_n hx hb d_H_take_22 rfl (lv_at hl 2 rfl) ?_
      refine lv_aload_n hx hb d_H_take_23 rfl (lv_at hl 2 rfl) ?_
      refine va_get (D := D) (ci := 0) (v := .ref (ad 5)) (C := R_H) (T := T_H) (N := 12) hx hb hts iw_H hown G.1 hP 0 rfl rfl 4 (by decide) (hts _ wd_1_216) (fun _ h9 => h9) rfl d_H_take_24 ?_
      refine lv_iload_n hx hb d_H_take_27 rfl (lv_at hl 5 rfl) ?_
      rcases pu_xb_inv h with ⟨v5, st6, e_v5, h⟩ | ⟨v5, st6, e_v5, h⟩
      · refine hCallI G hS (va_runV (As := [.ref (ad 5), .int x3]) (rest := []) ⟨hx, hb, hml, hown, hts⟩ (MetX.met (c_H_numberOf_It l htl D ca ad st4 _ x3 _ _ e_v5) (fun _ _ _ _ q => ⟨_, q.1⟩)) (xCW (C := "MuseumHouse") 2 hts wd_2_26 wd_1_1 wd_2_23 wd_2_25 wd_0_0 (by decide +kernel) ⟨Nat.le_of_ble_eq_true rfl, Nat.le_of_ble_eq_true rfl⟩) (G.preV hP hS 0 rfl rfl) rfl rfl hl.1 rfl (lv_room (Nat.le_of_ble_eq_true rfl)) d_H_take_28 ⟨Nat.zero_le _, Nat.zero_le _⟩) (fun H locs hP hS => ?_)
        refine lv_istore (lv' := [(6, .int v5), (5, .int v3), (4, .int v1), (0, .ref (ad 0)), (1, .int x1), (2, .int x2), (3, .int x3)]) hx hb d_H_take_31 hl (by decide) rfl (fun ls hl => ?_)
        refine lv_aload_n hx hb d_H_take_33 rfl (lv_at hl 3 rfl) ?_
        refine lv_iload hx hb d_H_take_34 (lv_at hl 2 rfl) ?_
        refine lv_bipush (v := 16) hx hb d_H_take_36 (by decide) ?_
        rcases pu_xb_inv h with ⟨v7, st8, e_v7, h⟩ | ⟨v7, st8, e_v7, h⟩
        · refine hCallU G hS (va_runV (As := [.int v1, .int 16]) (rest := []) ⟨hx, hb, hml, hown, hts⟩ (MetX.met (c_H_askRight l htl D ca ad st6 _ v1 16 _ _ e_v7) (fun _ _ _ _ q => ⟨_, q.1⟩)) (xCW (C := "MuseumHouse") 2 hts wd_2_106 wd_1_1 wd_2_103 wd_2_105 wd_0_2 (by decide +kernel) ⟨Nat.le_of_ble_eq_true rfl, Nat.le_of_ble_eq_true rfl⟩) (G.preV hP hS 0 rfl rfl) rfl rfl hl.1 rfl (lv_room (Nat.le_of_ble_eq_true rfl)) d_H_take_38 ⟨Nat.zero_le _, Nat.zero_le _⟩) (fun H locs hP hS => ?_)
          refine lv_aload_n hx hb d_H_take_41 rfl (lv_at hl 3 rfl) ?_
          refine va_get (D := D) (ci := 0) (v := .ref (ad 9)) (C := R_H) (T := T_H) (N := 12) hx hb hts iw_H hown G.1 hP 0 rfl rfl 8 (by decide) (hts _ wd_1_220) (fun _ h9 => h9) rfl d_H_take_42 ?_
          refine lv_iload hx hb d_H_take_45 (lv_at hl 1 rfl) ?_
          refine lv_iload hx hb d_H_take_47 (lv_at hl 0 rfl) ?_
          obtain ⟨v9, e_v9, h⟩ := pu_ob h
          refine pu_callR (va_runV (As := [.int v3, .int v5]) (rest := []) ⟨hx, hb, hml, hown, hts⟩ (c_Sh_holds l D ca ad st8 _ v3 v5 v9 e_v9) (xCW (C := "MuseumHouse$Shows") 2 hts wd_4_24 wd_1_11 wd_4_82 wd_4_22 wd_4_23 (by decide +kernel) ⟨Nat.le_of_ble_eq_true rfl, Nat.le_of_ble_eq_true rfl⟩) (G.preV hP hS 9 rfl rfl) rfl rfl hl.1 rfl (lv_room (Nat.le_of_ble_eq_true rfl)) d_H_take_49 ⟨Nat.zero_le _, Nat.zero_le _⟩) ?_
          refine lv_istore (lv' := [(7, .int v9), (6, .int v5), (5, .int v3), (4, .int v1), (0, .ref (ad 0)), (1, .int x1), (2, .int x2), (3, .int x3)]) hx hb d_H_take_52 hl (by decide) rfl (fun ls hl => ?_)
          refine lv_aload_n hx hb d_H_take_54 rfl (lv_at hl 4 rfl) ?_
          refine va_get (D := D) (ci := 0) (v := .ref (ad 9)) (C := R_H) (T := T_H) (N := 12) hx hb hts iw_H hown G.1 hP 0 rfl rfl 8 (by decide) (hts _ wd_1_220) (fun _ h9 => h9) rfl d_H_take_55 ?_
          refine lv_iload hx hb d_H_take_58 (lv_at hl 2 rfl) ?_
          refine lv_iload hx hb d_H_take_60 (lv_at hl 1 rfl) ?_
          obtain ⟨q10, e_q10, h⟩ := pu_ob h
          refine hCallU G hS (va_runV (As := [.int v3, .int v5]) (rest := []) ⟨hx, hb, hml, hown, hts⟩ (MetX.met (c_Sh_putOut l htl D ca ad st8 _ v3 v5 q10.1 q10.2 e_q10) (fun _ _ _ _ q => ⟨_, q.1⟩)) (xCW (C := "MuseumHouse$Shows") 2 hts wd_4_105 wd_1_11 wd_4_102 wd_4_103 wd_4_104 (by decide +kernel) ⟨Nat.le_of_ble_eq_true rfl, Nat.le_of_ble_eq_true rfl⟩) (G.preV hP hS 9 rfl rfl) rfl rfl hl.1 rfl (lv_room (Nat.le_of_ble_eq_true rfl)) d_H_take_62 ⟨Nat.zero_le _, Nat.zero_le _⟩) (fun H locs hP hS => ?_)
          refine lv_iload hx hb d_H_take_65 (lv_at hl 0 rfl) ?_
          obtain ⟨b11, e_b11, h⟩ := pu_ob h
          obtain ⟨e_b11, k_b11⟩ := pu_bo_inv e_b11
          cases h
          rw [e_b11]
          exact W.toX (W.zret (ty := .boolean) hx hb hr (by rcases k_b11 with e | e <;> rw [e] <;> rfl) (fun t ht _ => ⟨rfl, by rw [ht]; exact hP, hS.F ht⟩) hS.2.2 d_H_take_67)
        · cases h
          exact hThrV G hS hno hlocks ⟨hx, hb, hml, hown, hts⟩ (As := [.int v1, .int 16]) (rest := []) (c_H_askRight l htl D ca ad st6 _ v1 16 _ _ e_v7) (xCW (C := "MuseumHouse") 2 hts wd_2_106 wd_1_1 wd_2_103 wd_2_105 wd_0_2 (by decide +kernel) ⟨Nat.le_of_ble_eq_true rfl, Nat.le_of_ble_eq_true rfl⟩) (G.preV hP hS 0 rfl rfl) rfl rfl hl.1 rfl (lv_room (Nat.le_of_ble_eq_true rfl)) d_H_take_38 ⟨Nat.le_of_ble_eq_true rfl, Nat.le_of_ble_eq_true rfl⟩
      · cases h
        exact hThrV G hS hno hlocks ⟨hx, hb, hml, hown, hts⟩ (As := [.ref (ad 5), .int x3]) (rest := []) (c_H_numberOf_It l htl D ca ad st4 _ x3 _ _ e_v5) (xCW (C := "MuseumHouse") 2 hts wd_2_26 wd_1_1 wd_2_23 wd_2_25 wd_0_0 (by decide +kernel) ⟨Nat.le_of_ble_eq_true rfl, Nat.le_of_ble_eq_true rfl⟩) (G.preV hP hS 0 rfl rfl) rfl rfl hl.1 rfl (lv_room (Nat.le_of_ble_eq_true rfl)) d_H_take_28 ⟨Nat.le_of_ble_eq_true rfl, Nat.le_of_ble_eq_true rfl⟩
    · cases h
      exact hThrV G hS hno hlocks ⟨hx, hb, hml, hown, hts⟩ (As := [.ref (ad 9), .int x2]) (rest := []) (c_H_numberOf_Sh l htl D ca ad st2 _ x2 _ _ e_v3) (xCW (C := "MuseumHouse") 2 hts wd_2_26 wd_1_1 wd_2_23 wd_2_25 wd_0_0 (by decide +kernel) ⟨Nat.le_of_ble_eq_true rfl, Nat.le_of_ble_eq_true rfl⟩) (G.preV hP hS 0 rfl rfl) rfl rfl hl.1 rfl (lv_room (Nat.le_of_ble_eq_true rfl)) d_H_take_17 ⟨Nat.le_of_ble_eq_true rfl, Nat.le_of_ble_eq_true rfl⟩
  · cases h
    exact hThrV G hS hno hlocks ⟨hx, hb, hml, hown, hts⟩ (As := [.ref (ad 1), .int x1]) (rest := []) (c_H_numberOf_De l htl D ca ad st _ x1 _ _ e_v1) (xCW (C := "MuseumHouse") 2 hts wd_2_26 wd_1_1 wd_2_23 wd_2_25 wd_0_0 (by decide +kernel) ⟨Nat.le_of_ble_eq_true rfl, Nat.le_of_ble_eq_true rfl⟩) (G.preV hP hS 0 rfl rfl) rfl rfl hl.1 rfl (lv_room (Nat.le_of_ble_eq_true rfl)) d_H_take_6 ⟨Nat.le_of_ble_eq_true rfl, Nat.le_of_ble_eq_true rfl⟩
set_option maxHeartbeats 4000000 in
set_option maxRecDepth 100000 in
theorem c_Rg_isFull_Cl (l : Launch) (D : va_G) (ca : Nat → ClassId) (ad : Nat → Nat) (st : pu_St) (sz : Nat) (r : Int32) (h : f_Rg_isFull_Cl st = some r) : Met l y_Rg_isFull (.code y_Rg_isFull b_Rg_isFull 1 (some .boolean) :: tG) { frames := 0, cells := 0, slots := 0, locals := 0 } (va_Pc [.ref (ad 10)] (hPc D ca ad st sz)) (QcRead r) 0 0 (fun _ => False) := by
  refine hRead (by decide +kernel) ?_
  intro p e s m below meth c C G hP
  obtain ⟨hx, hb, hml, hr, hlocks, hno, hown, hts⟩ := id C
  have hown : s.vm.findClass "MuseumHouse$Register" = some m.cls := hown
  have hS : va_S (hA ad s.heap.size) s.heap s.heap [] := va_S.rf
  have hl := lv_entry ([.ref (ad 10)]) (n := 1) (Nat.le_of_ble_eq_true rfl)
  rw [lg_entry_eq]
  generalize (lg_sl ([.ref (ad 10)]) ++ List.replicate (1 - (lg_sl ([.ref (ad 10)])).length) Slot.unset).toArray = ls at hl ⊢
  have hl : lv_has ls 1 [(0, .ref (ad 10))] := hl
  unfold f_Rg_isFull_Cl at h
  refine lv_aload_n hx hb d_Rg_isFull_0 rfl (lv_at hl 0 rfl) ?_
  refine va_get (D := D) (ci := 10) (v := .int (st.1 10)) (C := R_Cl) (T := T_Cl) (N := 6) hx hb hts iw_Cl hown G.1 hP 10 rfl rfl 2 (by decide) (hts _ wd_1_47) (fun _ h9 => h9) rfl d_Rg_isFull_1 ?_
  refine lv_aload_n hx hb d_Rg_isFull_4 rfl (lv_at hl 0 rfl) ?_
  refine va_get (D := D) (ci := 10) (v := .int 20) (C := R_Cl) (T := T_Cl) (N := 6) hx hb hts iw_Cl hown G.1 hP 10 rfl rfl 1 (by decide) (hts _ wd_1_46) (fun _ h9 => h9) rfl d_Rg_isFull_5 ?_
  refine lv_icmp_lt (tgt := 15) hx hb d_Rg_isFull_8 (by decide) (fun c1 => ?_) (fun c1 => ?_)
  · rw [if_pos c1] at h
    refine lv_iconst (v := 0) hx hb d_Rg_isFull_15 (by decide) ?_
    have h := Option.some.inj h
    exact W.zret (v := 0) (ty := .boolean) hx hb hr rfl (fun t ht _ => ⟨by rw [h], ht⟩) (fun _ q => by cases q) d_Rg_isFull_16
  · rw [if_neg c1] at h
    refine lv_iconst (v := 1) hx hb d_Rg_isFull_11 (by decide) ?_
    refine lv_goto (tgt := 16) hx hb d_Rg_isFull_12 (by decide) ?_
    have h := Option.some.inj h
    exact W.zret (v := 1) (ty := .boolean) hx hb hr rfl (fun t ht _ => ⟨by rw [h], ht⟩) (fun _ q => by cases q) d_Rg_isFull_16
set_option maxHeartbeats 4000000 in
set_option maxRecDepth 100000 in
theorem t_Cl_hasOpenOf_b2 {l : Launch} {p : Program} {e : Env} {s : State} {m : MethodId} {args : Array Value} {below : List Frame} {meth : Method} {c : Code} {D : va_G} {ca : Nat → ClassId} {ad : Nat → Nat} {A : Nat → Prop} {st : pu_St} {r : Int32} (C : hC p s m meth c args b_Cl_hasOpenOf 4 (some .boolean) "MuseumHouse$Claims") (G : hX D ca ad A s) (hP : va_P D hcl (hW ca ad st) s.heap) (hS : va_S A s.heap s.heap []) :
    ∀ (n : Nat) (x1 x2 x3 : Int32), f_Cl_hasOpenOf_b2 n st x1 x2 x3 = some r → ∀ ls : Array Slot, lv_has ls 4 [(0, .ref (ad 10)), (1, .int x1), (2, .int x2), (3, .int x3)] → W p l e { frames := 1, cells := 0, slots := 0, locals := 20 } s m args below meth c s.heap [] 0 0 (MQ below (QcRead r) args s 0 0 (fun _ => False)) (F0 m 2 ls []) := by
  obtain ⟨hx, hb, hml, hr, hlocks, hno, hown, hts⟩ := id C
  intro n
  induction n with
  | zero => intro x1 x2 x3 h; cases h
  | succ n ih =>
    intro x1 x2 x3 h ls hl
    unfold f_Cl_hasOpenOf_b2 at h
    refine lv_iload_n hx hb d_Cl_hasOpenOf_2 rfl (lv_at hl 3 rfl) ?_
    refine lv_aload_n hx hb d_Cl_hasOpenOf_3 rfl (lv_at hl 0 rfl) ?_
    obtain ⟨v1, e_v1, h⟩ := pu_ob h
    refine pu_callR (va_runU (As := []) (rest := [.int x3]) ⟨hx, hb, hml, hown, hts⟩ (c_Rg_size_Cl l D ca ad st _ v1 e_v1) (xCU (C := "MuseumHouse$Claims") (owner := "MuseumHouse$Register") (x := ⟨"MuseumHouse$Claims", "size", "()I"⟩) 0 hts wd_3_4 wd_1_2 wd_4_11 wd_4_12 wd_3_3 wd_4_13 rfl (by decide +kernel) ⟨Nat.le_of_ble_eq_true rfl, Nat.le_of_ble_eq_true rfl⟩) (G.preV hP hS 10 rfl rfl) rfl rfl hl.1 rfl (lv_room (Nat.le_of_ble_eq_true rfl)) d_Cl_hasOpenOf_4 ⟨Nat.zero_le _, Nat.zero_le _⟩) ?_
    refine lv_icmp_ge (tgt := 47) hx hb d_Cl_hasOpenOf_7 (by decide) (fun c2 => ?_) (fun c2 => ?_)
    · rw [if_pos c2] at h
      refine lv_iconst (v := 0) hx hb d_Cl_hasOpenOf_47 (by decide) ?_
      have h := Option.some.inj h
      exact W.zret (v := 0) (ty := .boolean) hx hb hr rfl (fun t ht _ => ⟨by rw [h], ht⟩) (fun _ q => by cases q) d_Cl_hasOpenOf_48
    · rw [if_neg c2] at h
      refine lv_aload_n hx hb d_Cl_hasOpenOf_10 rfl (lv_at hl 0 rfl) ?_
      refine va_get (D := D) (ci := 10) (v := .ref (ad 33)) (C := R_Cl) (T := T_Cl) (N := 6) hx hb hts iw_Cl hown G.1 hP 10 rfl rfl 5 (by decide) (hts _ wd_1_200) (fun _ h9 => h9) rfl d_Cl_hasOpenOf_11 ?_
      refine lv_iload_n hx hb d_Cl_hasOpenOf_14 rfl (lv_at hl 3 rfl) ?_
      obtain ⟨v3, e_v3, h⟩ := pu_ob h
      refine pu_zald hx hb G.1 hP 33 22 rfl rfl e_v3 d_Cl_hasOpenOf_15 ?_
      refine lv_if_eq (tgt := 41) hx hb d_Cl_hasOpenOf_16 (by decide) (fun c4 => ?_) (fun c4 => ?_)
      · rw [if_pos c4] at h
        refine lv_iinc (v := (x3 + 1)) (lv' := [(3, .int (x3 + 1)), (0, .ref (ad 10)), (1, .int x1), (2, .int x2)]) hx hb d_Cl_hasOpenOf_41 hl (k := 3) rfl rfl (by decide) rfl (fun ls hl => ?_)
        refine lv_goto (tgt := 2) hx hb d_Cl_hasOpenOf_44 (by decide) ?_
        exact ih x1 x2 (x3 + 1) h ls (lv_sub hl [1, 2, 3, 0] rfl)
      · rw [if_neg c4] at h
        refine lv_aload_n hx hb d_Cl_hasOpenOf_19 rfl (lv_at hl 0 rfl) ?_
        refine va_get (D := D) (ci := 10) (v := .ref (ad 31)) (C := R_Cl) (T := T_Cl) (N := 6) hx hb hts iw_Cl hown G.1 hP 10 rfl rfl 3 (by decide) (hts _ wd_1_198) (fun _ h9 => h9) rfl d_Cl_hasOpenOf_20 ?_
        refine lv_iload_n hx hb d_Cl_hasOpenOf_23 rfl (lv_at hl 3 rfl) ?_
        obtain ⟨v5, e_v5, h⟩ := pu_ob h
        refine pu_iald hx hb G.1 hP 31 20 rfl rfl e_v5 d_Cl_hasOpenOf_24 ?_
        refine lv_iload_n hx hb d_Cl_hasOpenOf_25 rfl (lv_at hl 1 rfl) ?_
        refine lv_icmp_ne (tgt := 41) hx hb d_Cl_hasOpenOf_26 (by decide) (fun c6 => ?_) (fun c6 => ?_)
        · rw [if_neg c6] at h
          refine lv_iinc (v := (x3 + 1)) (lv' := [(3, .int (x3 + 1)), (0, .ref (ad 10)), (1, .int x1), (2, .int x2)]) hx hb d_Cl_hasOpenOf_41 hl (k := 3) rfl rfl (by decide) rfl (fun ls hl => ?_)
          refine lv_goto (tgt := 2) hx hb d_Cl_hasOpenOf_44 (by decide) ?_
          exact ih x1 x2 (x3 + 1) h ls (lv_sub hl [1, 2, 3, 0] rfl)
        · rw [if_pos c6] at h
          refine lv_aload_n hx hb d_Cl_hasOpenOf_29 rfl (lv_at hl 0 rfl) ?_
          refine va_get (D := D) (ci := 10) (v := .ref (ad 32)) (C := R_Cl) (T := T_Cl) (N := 6) hx hb hts iw_Cl hown G.1 hP 10 rfl rfl 4 (by decide) (hts _ wd_1_199) (fun _ h9 => h9) rfl d_Cl_hasOpenOf_30 ?_
          refine lv_iload_n hx hb d_Cl_hasOpenOf_33 rfl (lv_at hl 3 rfl) ?_
          obtain ⟨v7, e_v7, h⟩ := pu_ob h
          refine pu_iald hx hb G.1 hP 32 21 rfl rfl e_v7 d_Cl_hasOpenOf_34 ?_
          refine lv_iload_n hx hb d_Cl_hasOpenOf_35 rfl (lv_at hl 2 rfl) ?_
          refine lv_icmp_ne (tgt := 41) hx hb d_Cl_hasOpenOf_36 (by decide) (fun c8 => ?_) (fun c8 => ?_)
          · rw [if_neg c8] at h
            refine lv_iinc (v := (x3 + 1)) (lv' := [(3, .int (x3 + 1)), (0, .ref (ad 10)), (1, .int x1), (2, .int x2)]) hx hb d_Cl_hasOpenOf_41 hl (k := 3) rfl rfl (by decide) rfl (fun ls hl => ?_)
            refine lv_goto (tgt := 2) hx hb d_Cl_hasOpenOf_44 (by decide) ?_
            exact ih x1 x2 (x3 + 1) h ls (lv_sub hl [1, 2, 3, 0] rfl)
          · rw [if_pos c8] at h
            refine lv_iconst (v := 1) hx hb d_Cl_hasOpenOf_39 (by decide) ?_
            have h := Option.some.inj h
            exact W.zret (v := 1) (ty := .boolean) hx hb hr rfl (fun t ht _ => ⟨by rw [h], ht⟩) (fun _ q => by cases q) d_Cl_hasOpenOf_40
set_option maxHeartbeats 4000000 in
set_option maxRecDepth 100000 in
theorem c_Cl_hasOpenOf (l : Launch) (D : va_G) (ca : Nat → ClassId) (ad : Nat → Nat) (st : pu_St) (sz : Nat) (x1 x2 : Int32) (r : Int32) (h : f_Cl_hasOpenOf st x1 x2 = some r) : Met l y_Cl_hasOpenOf (.code y_Cl_hasOpenOf b_Cl_hasOpenOf 4 (some .boolean) :: tG) { frames := 1, cells := 0, slots := 0, locals := 20 } (va_Pc [.ref (ad 10), .int x1, .int x2] (hPc D ca ad st sz)) (QcRead r) 0 0 (fun _ => False) := by
  refine hRead (by decide +kernel) ?_
  intro p e s m below meth c C G hP
  obtain ⟨hx, hb, hml, hr, hlocks, hno, hown, hts⟩ := id C
  have hown : s.vm.findClass "MuseumHouse$Claims" = some m.cls := hown
  have hS : va_S (hA ad s.heap.size) s.heap s.heap [] := va_S.rf
  have hl := lv_entry ([.ref (ad 10), .int x1, .int x2]) (n := 4) (Nat.le_of_ble_eq_true rfl)
  rw [lg_entry_eq]
  generalize (lg_sl ([.ref (ad 10), .int x1, .int x2]) ++ List.replicate (4 - (lg_sl ([.ref (ad 10), .int x1, .int x2])).length) Slot.unset).toArray = ls at hl ⊢
  have hl : lv_has ls 4 [(0, .ref (ad 10)), (1, .int x1), (2, .int x2)] := hl
  unfold f_Cl_hasOpenOf at h
  refine lv_iconst (v := 0) hx hb d_Cl_hasOpenOf_0 (by decide) ?_
  refine lv_istore_n (lv' := [(3, .int 0), (0, .ref (ad 10)), (1, .int x1), (2, .int x2)]) hx hb d_Cl_hasOpenOf_1 rfl hl (by decide) rfl (fun ls hl => ?_)
  exact t_Cl_hasOpenOf_b2 C G hP hS pu_fu x1 x2 0 h ls (lv_sub hl [1, 2, 3, 0] rfl)
set_option maxHeartbeats 4000000 in
set_option maxRecDepth 100000 in
theorem c_Rg_enter_Cl (l : Launch) (htl : l.stackTraces = false) (D : va_G) (ca : Nat → ClassId) (ad : Nat → Nat) (st : pu_St) (sz : Nat) (v : Int32) (st' : pu_St) (h : f_Rg_enter_Cl st = some (v, st')) : MetX l y_Rg_enter (.code y_Rg_enter b_Rg_enter 2 (some .int) :: tG) { frames := 0, cells := 0, slots := 0, locals := 0 } (va_Pc [.ref (ad 10)] (hPc D ca ad st sz)) (hQ D ca ad (fun v => some (.int v)) (.inl v) st' sz) 0 0 (hA ad sz) := by
  refine hMet (by decide +kernel) ?_
  intro p e s m below meth c hsz C G hP
  obtain ⟨hx, hb, hml, hr, hlocks, hno, hown, hts⟩ := id C
  have hown : s.vm.findClass "MuseumHouse$Register" = some m.cls := hown
  have hS : va_S (hA ad s.heap.size) s.heap s.heap [] := va_S.rf
  have hl := lv_entry ([.ref (ad 10)]) (n := 2) (Nat.le_of_ble_eq_true rfl)
  rw [lg_entry_eq]
  generalize (lg_sl ([.ref (ad 10)]) ++ List.replicate (2 - (lg_sl ([.ref (ad 10)])).length) Slot.unset).toArray = ls at hl ⊢
  have hl : lv_has ls 2 [(0, .ref (ad 10))] := hl
  unfold f_Rg_enter_Cl at h
  refine lv_aload_n hx hb d_Rg_enter_0 rfl (lv_at hl 0 rfl) ?_
  refine va_get (D := D) (ci := 10) (v := .int (st.1 10)) (C := R_Cl) (T := T_Cl) (N := 6) hx hb hts iw_Cl hown G.1 hP 10 rfl rfl 2 (by decide) (hts _ wd_1_47) (fun _ h9 => h9) rfl d_Rg_enter_1 ?_
  refine lv_istore_n (lv' := [(1, .int (st.1 10)), (0, .ref (ad 10))]) hx hb d_Rg_enter_4 rfl hl (by decide) rfl (fun ls hl => ?_)
  refine lv_aload_n hx hb d_Rg_enter_5 rfl (lv_at hl 1 rfl) ?_
  refine lv_dup hx hb d_Rg_enter_6 rfl ?_
  refine va_get (D := D) (ci := 10) (v := .int (st.1 10)) (C := R_Cl) (T := T_Cl) (N := 6) hx hb hts iw_Cl hown G.1 hP 10 rfl rfl 2 (by decide) (hts _ wd_1_47) (fun _ h9 => h9) rfl d_Rg_enter_7 ?_
  refine lv_iconst (v := 1) hx hb d_Rg_enter_10 (by decide) ?_
  refine lv_iadd hx hb d_Rg_enter_11 ?_
  refine va_put (D := D) (ci := 10) (v := .int ((st.1 10) + 1)) (ty := .int) (C := R_Cl) (T := T_Cl) (N := 6) hx hb hts iw_Cl ty_Cl to_Cl nm_Cl hown G.1 hP (G.D) hS 10 rfl rfl 2 (by decide) (hts _ wd_1_47) (fun _ h9 => h9) rfl (by decide +kernel) rfl rfl (Nat.le_of_ble_eq_true rfl) d_Rg_enter_12 (fun H locs hP _ hS => ?_)
  have hP : va_P D hcl (hW ca ad (va_up st.1 10 ((st.1 10) + 1), st.2)) H := hP
  refine lv_iload_n hx hb d_Rg_enter_15 rfl (lv_at hl 0 rfl) ?_
  cases h
  exact W.toX (W.iret hx hb hr (fun t ht _ => ⟨rfl, by rw [ht]; exact hP, hS.F ht⟩) hS.2.2 d_Rg_enter_16)
set_option maxHeartbeats 4000000 in
set_option maxRecDepth 100000 in
theorem c_Rg_handleOf_Cl (l : Launch) (D : va_G) (ca : Nat → ClassId) (ad : Nat → Nat) (st : pu_St) (sz : Nat) (x1 : Int32) (r : Int32) (h : f_Rg_handleOf_Cl st x1 = some r) : Met l y_Rg_handleOf (.code y_Rg_handleOf b_Rg_handleOf 2 (some .int) :: tG) { frames := 0, cells := 0, slots := 0, locals := 0 } (va_Pc [.ref (ad 10), .int x1] (hPc D ca ad st sz)) (QcRead r) 0 0 (fun _ => False) := by
  refine hRead (by decide +kernel) ?_
  intro p e s m below meth c C G hP
  obtain ⟨hx, hb, hml, hr, hlocks, hno, hown, hts⟩ := id C
  have hown : s.vm.findClass "MuseumHouse$Register" = some m.cls := hown
  have hS : va_S (hA ad s.heap.size) s.heap s.heap [] := va_S.rf
  have hl := lv_entry ([.ref (ad 10), .int x1]) (n := 2) (Nat.le_of_ble_eq_true rfl)
  rw [lg_entry_eq]
  generalize (lg_sl ([.ref (ad 10), .int x1]) ++ List.replicate (2 - (lg_sl ([.ref (ad 10), .int x1])).length) Slot.unset).toArray = ls at hl ⊢
  have hl : lv_has ls 2 [(0, .ref (ad 10)), (1, .int x1)] := hl
  unfold f_Rg_handleOf_Cl at h
  refine lv_aload_n hx hb d_Rg_handleOf_0 rfl (lv_at hl 0 rfl) ?_
  refine va_get (D := D) (ci := 10) (v := .int 900) (C := R_Cl) (T := T_Cl) (N := 6) hx hb hts iw_Cl hown G.1 hP 10 rfl rfl 0 (by decide) (hts _ wd_1_45) (fun _ h9 => h9) rfl d_Rg_handleOf_1 ?_
  refine lv_iload_n hx hb d_Rg_handleOf_4 rfl (lv_at hl 1 rfl) ?_
  refine lv_iadd hx hb d_Rg_handleOf_5 ?_
  have h := Option.some.inj h
  exact W.iret (v := (900 + x1)) hx hb hr (fun t ht _ => ⟨by rw [h], ht⟩) (fun _ q => by cases q) d_Rg_handleOf_6
set_option maxHeartbeats 4000000 in
set_option maxRecDepth 100000 in
theorem c_Cl_raise (l : Launch) (htl : l.stackTraces = false) (D : va_G) (ca : Nat → ClassId) (ad : Nat → Nat) (st : pu_St) (sz : Nat) (x1 x2 : Int32) (v : Int32) (st' : pu_St) (h : f_Cl_raise st x1 x2 = some (v, st')) : MetX l y_Cl_raise (.code y_Cl_raise b_Cl_raise 4 (some .int) :: tG) { frames := 1, cells := 0, slots := 0, locals := 21 } (va_Pc [.ref (ad 10), .int x1, .int x2] (hPc D ca ad st sz)) (hQ D ca ad (fun v => some (.int v)) (.inl v) st' sz) 0 0 (hA ad sz) := by
  refine hMet (by decide +kernel) ?_
  intro p e s m below meth c hsz C G hP
  obtain ⟨hx, hb, hml, hr, hlocks, hno, hown, hts⟩ := id C
  have hown : s.vm.findClass "MuseumHouse$Claims" = some m.cls := hown
  have hS : va_S (hA ad s.heap.size) s.heap s.heap [] := va_S.rf
  have hl := lv_entry ([.ref (ad 10), .int x1, .int x2]) (n := 4) (Nat.le_of_ble_eq_true rfl)
  rw [lg_entry_eq]
  generalize (lg_sl ([.ref (ad 10), .int x1, .int x2]) ++ List.replicate (4 - (lg_sl ([.ref (ad 10), .int x1, .int x2])).length) Slot.unset).toArray = ls at hl ⊢
  have hl : lv_has ls 4 [(0, .ref (ad 10)), (1, .int x1), (2, .int x2)] := hl
  unfold f_Cl_raise at h
  refine lv_aload_n hx hb d_Cl_raise_0 rfl (lv_at hl 0 rfl) ?_
  obtain ⟨q1, e_q1, h⟩ := pu_ob h
  refine hCallI G hS (va_runU (As := []) (rest := []) ⟨hx, hb, hml, hown, hts⟩ (MetX.met (c_Rg_enter_Cl l htl D ca ad st _ q1.1 q1.2 e_q1) (fun _ _ _ _ q => ⟨_, q.1⟩)) (xCU (C := "MuseumHouse$Claims") (owner := "MuseumHouse$Register") (x := ⟨"MuseumHouse$Claims", "enter", "()I"⟩) 0 hts wd_1_43 wd_1_2 wd_4_124 wd_4_125 wd_1_42 wd_4_126 rfl (by decide +kernel) ⟨Nat.le_of_ble_eq_true rfl, Nat.le_of_ble_eq_true rfl⟩) (G.preV hP hS 10 rfl rfl) rfl rfl hl.1 rfl (lv_room (Nat.le_of_ble_eq_true rfl)) d_Cl_raise_1 ⟨Nat.zero_le _, Nat.zero_le _⟩) (fun H locs hP hS => ?_)
  refine lv_istore_n (lv' := [(3, .int q1.1), (0, .ref (ad 10)), (1, .int x1), (2, .int x2)]) hx hb d_Cl_raise_4 rfl hl (by decide) rfl (fun ls hl => ?_)
  refine lv_aload_n hx hb d_Cl_raise_5 rfl (lv_at hl 1 rfl) ?_
  refine va_get (D := D) (ci := 10) (v := .ref (ad 31)) (C := R_Cl) (T := T_Cl) (N := 6) hx hb hts iw_Cl hown G.1 hP 10 rfl rfl 3 (by decide) (hts _ wd_1_198) (fun _ h9 => h9) rfl d_Cl_raise_6 ?_
  refine lv_iload_n hx hb d_Cl_raise_9 rfl (lv_at hl 0 rfl) ?_
  refine lv_iload_n hx hb d_Cl_raise_10 rfl (lv_at hl 2 rfl) ?_
  obtain ⟨g2, e_g2, h⟩ := pu_ob h
  refine pu_iast hx hb G.1 hP (G.D) hS 31 20 rfl rfl e_g2 d_Cl_raise_11 (fun H locs hP hS => ?_)
  have hP : va_P D hcl (hW ca ad (q1.2.1, va_up q1.2.2 20 g2)) H := hP
  refine lv_aload_n hx hb d_Cl_raise_12 rfl (lv_at hl 1 rfl) ?_
  refine va_get (D := D) (ci := 10) (v := .ref (ad 32)) (C := R_Cl) (T := T_Cl) (N := 6) hx hb hts iw_Cl hown G.1 hP 10 rfl rfl 4 (by decide) (hts _ wd_1_199) (fun _ h9 => h9) rfl d_Cl_raise_13 ?_
  refine lv_iload_n hx hb d_Cl_raise_16 rfl (lv_at hl 0 rfl) ?_
  refine lv_iload_n hx hb d_Cl_raise_17 rfl (lv_at hl 3 rfl) ?_
  obtain ⟨g3, e_g3, h⟩ := pu_ob h
  refine pu_iast hx hb G.1 hP (G.D) hS 32 21 rfl rfl e_g3 d_Cl_raise_18 (fun H locs hP hS => ?_)
  have hP : va_P D hcl (hW ca ad ((q1.2.1, va_up q1.2.2 20 g2).1, va_up (q1.2.1, va_up q1.2.2 20 g2).2 21 g3)) H := hP
  refine lv_aload_n hx hb d_Cl_raise_19 rfl (lv_at hl 1 rfl) ?_
  refine va_get (D := D) (ci := 10) (v := .ref (ad 33)) (C := R_Cl) (T := T_Cl) (N := 6) hx hb hts iw_Cl hown G.1 hP 10 rfl rfl 5 (by decide) (hts _ wd_1_200) (fun _ h9 => h9) rfl d_Cl_raise_20 ?_
  refine lv_iload_n hx hb d_Cl_raise_23 rfl (lv_at hl 0 rfl) ?_
  refine lv_iconst (v := 1) hx hb d_Cl_raise_24 (by decide) ?_
  obtain ⟨g4, e_g4, h⟩ := pu_ob h
  refine pu_zast hx hb G.1 hP (G.D) hS 33 22 rfl rfl e_g4 rfl d_Cl_raise_25 (fun H locs hP hS => ?_)
  have hP : va_P D hcl (hW ca ad (((q1.2.1, va_up q1.2.2 20 g2).1, va_up (q1.2.1, va_up q1.2.2 20 g2).2 21 g3).1, va_up ((q1.2.1, va_up q1.2.2 20 g2).1, va_up (q1.2.1, va_up q1.2.2 20 g2).2 21 g3).2 22 g4)) H := hP
  refine lv_aload_n hx hb d_Cl_raise_26 rfl (lv_at hl 1 rfl) ?_
  refine lv_iload_n hx hb d_Cl_raise_27 rfl (lv_at hl 0 rfl) ?_
  obtain ⟨v5, e_v5, h⟩ := pu_ob h
  refine pu_callR (va_runU (As := [.int q1.1]) (rest := []) ⟨hx, hb, hml, hown, hts⟩ (c_Rg_handleOf_Cl l D ca ad (((q1.2.1, va_up q1.2.2 20 g2).1, va_up (q1.2.1, va_up q1.2.2 20 g2).2 21 g3).1, va_up ((q1.2.1, va_up q1.2.2 20 g2).1, va_up (q1.2.1, va_up q1.2.2 20 g2).2 21 g3).2 22 g4) _ q1.1 v5 e_v5) (xCU (C := "MuseumHouse$Claims") (owner := "MuseumHouse$Register") (x := ⟨"MuseumHouse$Claims", "handleOf", "(I)I"⟩) 1 hts wd_2_164 wd_1_2 wd_4_127 wd_4_128 wd_2_163 wd_4_129 rfl (by decide +kernel) ⟨Nat.le_of_ble_eq_true rfl, Nat.le_of_ble_eq_true rfl⟩) (G.preV hP hS 10 rfl rfl) rfl rfl hl.1 rfl (lv_room (Nat.le_of_ble_eq_true rfl)) d_Cl_raise_28 ⟨Nat.zero_le _, Nat.zero_le _⟩) ?_
  cases h
  exact W.toX (W.iret hx hb hr (fun t ht _ => ⟨rfl, by rw [ht]; exact hP, hS.F ht⟩) hS.2.2 d_Cl_raise_31)
set_option maxHeartbeats 4000000 in
set_option maxRecDepth 100000 in
theorem t_H_claim_b90 {l : Launch} (htl : l.stackTraces = false) {p : Program} {e : Env} {s : State} {m : MethodId} {args : Array Value} {below : List Frame} {meth : Method} {c : Code} {D : va_G} {ca : Nat → ClassId} {ad : Nat → Nat} {st' : pu_St} {r : Int32 ⊕ Nat} (C : hC p s m meth c args b_H_claim 6 (some .int) "MuseumHouse") (G : hX D ca ad (hA ad s.heap.size) s) :
    ∀ (_ : Unit) (st : pu_St) (x1 x2 x3 x4 x5 z0 z1 : Int32), f_H_claim_b90 st x1 x2 x3 x4 x5 z0 z1 = some (r, st') → ∀ (H : Heap) (locs : List Loc), va_P D hcl (hW ca ad st) H → va_S (hA ad s.heap.size) s.heap H locs → ∀ ls : Array Slot, lv_has ls 6 [(0, .ref (ad 0)), (1, .int x1), (2, .int x2), (3, .int x3), (4, .int x4), (5, .int x5)] → W p l e { frames := 7, cells := xc r, slots := xs r, locals := 113 } s m args below meth c H locs 0 0 (MQX below (hQ D ca ad (fun v => some (.int v)) r st' s.heap.size) args s (xc r) (xs r) (hA ad s.heap.size)) (F0 m 90 ls [.int z0, .int z1, .ref (ad 0)]) := by
  obtain ⟨hx, hb, hml, hr, hlocks, hno, hown, hts⟩ := id C
  intro _ st x1 x2 x3 x4 x5 z0 z1 h H locs hP hS ls hl
  unfold f_H_claim_b90 at h
  rcases pu_xb_inv h with ⟨v17, st18, e_v17, h⟩ | ⟨v17, st18, e_v17, h⟩
  · refine hCallU G hS (va_runV (As := [.int z1, .int z0]) (rest := []) ⟨hx, hb, hml, hown, hts⟩ (MetX.met (c_H_ask l htl D ca ad st _ z1 z0 _ _ e_v17) (fun _ _ _ _ q => ⟨_, q.1⟩)) (xCW (C := "MuseumHouse") 2 hts wd_2_139 wd_1_1 wd_2_136 wd_2_138 wd_0_4 (by decide +kernel) ⟨Nat.le_of_ble_eq_true rfl, Nat.le_of_ble_eq_true rfl⟩) (G.preV hP hS 0 rfl rfl) rfl rfl hl.1 rfl (lv_room (Nat.le_of_ble_eq_true rfl)) d_H_claim_90 ⟨Nat.zero_le _, Nat.zero_le _⟩) (fun H locs hP hS => ?_)
    refine lv_aload_n hx hb d_H_claim_93 rfl (lv_at hl 0 rfl) ?_
    refine va_get (D := D) (ci := 0) (v := .ref (ad 10)) (C := R_H) (T := T_H) (N := 12) hx hb hts iw_H hown G.1 hP 0 rfl rfl 9 (by decide) (hts _ wd_1_221) (fun _ h9 => h9) rfl d_H_claim_94 ?_
    refine lv_iload hx hb d_H_claim_97 (lv_at hl 5 rfl) ?_
    refine lv_iload_n hx hb d_H_claim_99 rfl (lv_at hl 3 rfl) ?_
    obtain ⟨q19, e_q19, h⟩ := pu_ob h
    refine hCallI G hS (va_runV (As := [.int x5, .int x3]) (rest := []) ⟨hx, hb, hml, hown, hts⟩ (MetX.met (c_Cl_raise l htl D ca ad st18 _ x5 x3 q19.1 q19.2 e_q19) (fun _ _ _ _ q => ⟨_, q.1⟩)) (xCW (C := "MuseumHouse$Claims") 2 hts wd_4_123 wd_1_12 wd_4_120 wd_4_121 wd_4_122 (by decide +kernel) ⟨Nat.le_of_ble_eq_true rfl, Nat.le_of_ble_eq_true rfl⟩) (G.preV hP hS 10 rfl rfl) rfl rfl hl.1 rfl (lv_room (Nat.le_of_ble_eq_true rfl)) d_H_claim_100 ⟨Nat.zero_le _, Nat.zero_le _⟩) (fun H locs hP hS => ?_)
    cases h
    exact W.toX (W.iret hx hb hr (fun t ht _ => ⟨rfl, by rw [ht]; exact hP, hS.F ht⟩) hS.2.2 d_H_claim_103)
  · cases h
    exact hThrV G hS hno hlocks ⟨hx, hb, hml, hown, hts⟩ (As := [.int z1, .int z0]) (rest := []) (c_H_ask l htl D ca ad st _ z1 z0 _ _ e_v17) (xCW (C := "MuseumHouse") 2 hts wd_2_139 wd_1_1 wd_2_136 wd_2_138 wd_0_4 (by decide +kernel) ⟨Nat.le_of_ble_eq_true rfl, Nat.le_of_ble_eq_true rfl⟩) (G.preV hP hS 0 rfl rfl) rfl rfl hl.1 rfl (lv_room (Nat.le_of_ble_eq_true rfl)) d_H_claim_90 ⟨Nat.le_of_ble_eq_true rfl, Nat.le_of_ble_eq_true rfl⟩
set_option maxHeartbeats 4000000 in
set_option maxRecDepth 100000 in
theorem t_H_claim_b66 {l : Launch} (htl : l.stackTraces = false) {p : Program} {e : Env} {s : State} {m : MethodId} {args : Array Value} {below : List Frame} {meth : Method} {c : Code} {D : va_G} {ca : Nat → ClassId} {ad : Nat → Nat} {st' : pu_St} {r : Int32 ⊕ Nat} (C : hC p s m meth c args b_H_claim 6 (some .int) "MuseumHouse") (G : hX D ca ad (hA ad s.heap.size) s) :
    ∀ (_ : Unit) (st : pu_St) (x1 x2 x3 x4 x5 z0 z1 : Int32), f_H_claim_b66 st x1 x2 x3 x4 x5 z0 z1 = some (r, st') → ∀ (H : Heap) (locs : List Loc), va_P D hcl (hW ca ad st) H → va_S (hA ad s.heap.size) s.heap H locs → ∀ ls : Array Slot, lv_has ls 6 [(0, .ref (ad 0)), (1, .int x1), (2, .int x2), (3, .int x3), (4, .int x4), (5, .int x5)] → W p l e { frames := 7, cells := xc r, slots := xs r, locals := 113 } s m args below meth c H locs 0 0 (MQX below (hQ D ca ad (fun v => some (.int v)) r st' s.heap.size) args s (xc r) (xs r) (hA ad s.heap.size)) (F0 m 66 ls [.int z0, .int z1, .ref (ad 0)]) := by
  obtain ⟨hx, hb, hml, hr, hlocks, hno, hown, hts⟩ := id C
  intro _ st x1 x2 x3 x4 x5 z0 z1 h H locs hP hS ls hl
  unfold f_H_claim_b66 at h
  rcases pu_xb_inv h with ⟨v13, st14, e_v13, h⟩ | ⟨v13, st14, e_v13, h⟩
  · refine hCallU G hS (va_runV (As := [.int z1, .int z0]) (rest := []) ⟨hx, hb, hml, hown, hts⟩ (MetX.met (c_H_ask l htl D ca ad st _ z1 z0 _ _ e_v13) (fun _ _ _ _ q => ⟨_, q.1⟩)) (xCW (C := "MuseumHouse") 2 hts wd_2_139 wd_1_1 wd_2_136 wd_2_138 wd_0_4 (by decide +kernel) ⟨Nat.le_of_ble_eq_true rfl, Nat.le_of_ble_eq_true rfl⟩) (G.preV hP hS 0 rfl rfl) rfl rfl hl.1 rfl (lv_room (Nat.le_of_ble_eq_true rfl)) d_H_claim_66 ⟨Nat.zero_le _, Nat.zero_le _⟩) (fun H locs hP hS => ?_)
    refine lv_aload_n hx hb d_H_claim_69 rfl (lv_at hl 0 rfl) ?_
    refine lv_bipush (v := 16) hx hb d_H_claim_70 (by decide) ?_
    refine lv_aload_n hx hb d_H_claim_72 rfl (lv_at hl 0 rfl) ?_
    refine va_get (D := D) (ci := 0) (v := .ref (ad 10)) (C := R_H) (T := T_H) (N := 12) hx hb hts iw_H hown G.1 hP 0 rfl rfl 9 (by decide) (hts _ wd_1_221) (fun _ h9 => h9) rfl d_H_claim_73 ?_
    refine lv_iload hx hb d_H_claim_76 (lv_at hl 5 rfl) ?_
    refine lv_iload_n hx hb d_H_claim_78 rfl (lv_at hl 3 rfl) ?_
    obtain ⟨v15, e_v15, h⟩ := pu_ob h
    refine pu_callR (va_runV (As := [.int x5, .int x3]) (rest := [.int 16, .ref (ad 0)]) ⟨hx, hb, hml, hown, hts⟩ (c_Cl_hasOpenOf l D ca ad st14 _ x5 x3 v15 e_v15) (xCW (C := "MuseumHouse$Claims") 2 hts wd_4_119 wd_1_12 wd_4_116 wd_4_117 wd_4_118 (by decide +kernel) ⟨Nat.le_of_ble_eq_true rfl, Nat.le_of_ble_eq_true rfl⟩) (G.preV hP hS 10 rfl rfl) rfl rfl hl.1 rfl (lv_room (Nat.le_of_ble_eq_true rfl)) d_H_claim_79 ⟨Nat.zero_le _, Nat.zero_le _⟩) ?_
    refine lv_if_ne (tgt := 89) hx hb d_H_claim_82 (by decide) (fun c16 => ?_) (fun c16 => ?_)
    · rw [if_neg c16] at h
      refine lv_iconst (v := 0) hx hb d_H_claim_89 (by decide) ?_
      exact t_H_claim_b90 htl C G () st14 x1 x2 x3 x4 x5 0 16 h _ _ hP hS ls (lv_sub hl [0, 1, 2, 3, 4, 5] rfl)
    · rw [if_pos c16] at h
      refine lv_iconst (v := 1) hx hb d_H_claim_85 (by decide) ?_
      refine lv_goto (tgt := 90) hx hb d_H_claim_86 (by decide) ?_
      exact t_H_claim_b90 htl C G () st14 x1 x2 x3 x4 x5 1 16 h _ _ hP hS ls (lv_sub hl [0, 1, 2, 3, 4, 5] rfl)
  · cases h
    exact hThrV G hS hno hlocks ⟨hx, hb, hml, hown, hts⟩ (As := [.int z1, .int z0]) (rest := []) (c_H_ask l htl D ca ad st _ z1 z0 _ _ e_v13) (xCW (C := "MuseumHouse") 2 hts wd_2_139 wd_1_1 wd_2_136 wd_2_138 wd_0_4 (by decide +kernel) ⟨Nat.le_of_ble_eq_true rfl, Nat.le_of_ble_eq_true rfl⟩) (G.preV hP hS 0 rfl rfl) rfl rfl hl.1 rfl (lv_room (Nat.le_of_ble_eq_true rfl)) d_H_claim_66 ⟨Nat.le_of_ble_eq_true rfl, Nat.le_of_ble_eq_true rfl⟩
set_option maxHeartbeats 4000000 in
set_option maxRecDepth 100000 in
theorem t_H_claim_b65 {l : Launch} (htl : l.stackTraces = false) {p : Program} {e : Env} {s : State} {m : MethodId} {args : Array Value} {below : List Frame} {meth : Method} {c : Code} {D : va_G} {ca : Nat → ClassId} {ad : Nat → Nat} {st' : pu_St} {r : Int32 ⊕ Nat} (C : hC p s m meth c args b_H_claim 6 (some .int) "MuseumHouse") (G : hX D ca ad (hA ad s.heap.size) s) :
    ∀ (_ : Unit) (st : pu_St) (x1 x2 x3 x4 x5 z0 : Int32), f_H_claim_b65 st x1 x2 x3 x4 x5 z0 = some (r, st') → ∀ (H : Heap) (locs : List Loc), va_P D hcl (hW ca ad st) H → va_S (hA ad s.heap.size) s.heap H locs → ∀ ls : Array Slot, lv_has ls 6 [(0, .ref (ad 0)), (1, .int x1), (2, .int x2), (3, .int x3), (4, .int x4), (5, .int x5)] → W p l e { frames := 7, cells := xc r, slots := xs r, locals := 113 } s m args below meth c H locs 0 0 (MQX below (hQ D ca ad (fun v => some (.int v)) r st' s.heap.size) args s (xc r) (xs r) (hA ad s.heap.size)) (F0 m 65 ls [.int z0, .ref (ad 0)]) := by
  obtain ⟨hx, hb, hml, hr, hlocks, hno, hown, hts⟩ := id C
  intro _ st x1 x2 x3 x4 x5 z0 h H locs hP hS ls hl
  unfold f_H_claim_b65 at h
  refine lv_iconst (v := 0) hx hb d_H_claim_65 (by decide) ?_
  exact t_H_claim_b66 htl C G () st x1 x2 x3 x4 x5 0 z0 h _ _ hP hS ls (lv_sub hl [0, 1, 2, 3, 4, 5] rfl)
set_option maxHeartbeats 4000000 in
set_option maxRecDepth 100000 in
theorem t_H_claim_b46 {l : Launch} (htl : l.stackTraces = false) {p : Program} {e : Env} {s : State} {m : MethodId} {args : Array Value} {below : List Frame} {meth : Method} {c : Code} {D : va_G} {ca : Nat → ClassId} {ad : Nat → Nat} {st' : pu_St} {r : Int32 ⊕ Nat} (C : hC p s m meth c args b_H_claim 6 (some .int) "MuseumHouse") (G : hX D ca ad (hA ad s.heap.size) s) :
    ∀ (_ : Unit) (st : pu_St) (x1 x2 x3 x4 x5 z0 : Int32), f_H_claim_b46 st x1 x2 x3 x4 x5 z0 = some (r, st') → ∀ (H : Heap) (locs : List Loc), va_P D hcl (hW ca ad st) H → va_S (hA ad s.heap.size) s.heap H locs → ∀ ls : Array Slot, lv_has ls 6 [(0, .ref (ad 0)), (1, .int x1), (2, .int x2), (3, .int x3), (4, .int x4), (5, .int x5)] → W p l e { frames := 7, cells := xc r, slots := xs r, locals := 113 } s m args below meth c H locs 0 0 (MQX below (hQ D ca ad (fun v => some (.int v)) r st' s.heap.size) args s (xc r) (xs r) (hA ad s.heap.size)) (F0 m 46 ls [.int z0, .ref (ad 0)]) := by
  obtain ⟨hx, hb, hml, hr, hlocks, hno, hown, hts⟩ := id C
  intro _ st x1 x2 x3 x4 x5 z0 h H locs hP hS ls hl
  unfold f_H_claim_b46 at h
  rcases pu_xb_inv h with ⟨v9, st10, e_v9, h⟩ | ⟨v9, st10, e_v9, h⟩
  · refine hCallU G hS (va_runV (As := [.int z0]) (rest := []) ⟨hx, hb, hml, hown, hts⟩ (MetX.met (c_H_askRoom l htl D ca ad st _ z0 _ _ e_v9) (fun _ _ _ _ q => ⟨_, q.1⟩)) (xCW (C := "MuseumHouse") 1 hts wd_2_135 wd_1_1 wd_2_132 wd_2_134 wd_0_3 (by decide +kernel) ⟨Nat.le_of_ble_eq_true rfl, Nat.le_of_ble_eq_true rfl⟩) (G.preV hP hS 0 rfl rfl) rfl rfl hl.1 rfl (lv_room (Nat.le_of_ble_eq_true rfl)) d_H_claim_46 ⟨Nat.zero_le _, Nat.zero_le _⟩) (fun H locs hP hS => ?_)
    refine lv_aload_n hx hb d_H_claim_49 rfl (lv_at hl 0 rfl) ?_
    refine lv_iconst (v := 4) hx hb d_H_claim_50 (by decide) ?_
    refine lv_iload_n hx hb d_H_claim_51 rfl (lv_at hl 3 rfl) ?_
    refine lv_if_lt (tgt := 65) hx hb d_H_claim_52 (by decide) (fun c11 => ?_) (fun c11 => ?_)
    · rw [if_pos c11] at h
      exact t_H_claim_b65 htl C G () st10 x1 x2 x3 x4 x5 4 h _ _ hP hS ls (lv_sub hl [0, 1, 2, 3, 4, 5] rfl)
    · rw [if_neg c11] at h
      refine lv_iload_n hx hb d_H_claim_55 rfl (lv_at hl 3 rfl) ?_
      refine lv_bipush (v := 9) hx hb d_H_claim_56 (by decide) ?_
      refine lv_icmp_gt (tgt := 65) hx hb d_H_claim_58 (by decide) (fun c12 => ?_) (fun c12 => ?_)
      · rw [if_pos c12] at h
        exact t_H_claim_b65 htl C G () st10 x1 x2 x3 x4 x5 4 h _ _ hP hS ls (lv_sub hl [0, 1, 2, 3, 4, 5] rfl)
      · rw [if_neg c12] at h
        refine lv_iconst (v := 1) hx hb d_H_claim_61 (by decide) ?_
        refine lv_goto (tgt := 66) hx hb d_H_claim_62 (by decide) ?_
        exact t_H_claim_b66 htl C G () st10 x1 x2 x3 x4 x5 1 4 h _ _ hP hS ls (lv_sub hl [0, 1, 2, 3, 4, 5] rfl)
  · cases h
    exact hThrV G hS hno hlocks ⟨hx, hb, hml, hown, hts⟩ (As := [.int z0]) (rest := []) (c_H_askRoom l htl D ca ad st _ z0 _ _ e_v9) (xCW (C := "MuseumHouse") 1 hts wd_2_135 wd_1_1 wd_2_132 wd_2_134 wd_0_3 (by decide +kernel) ⟨Nat.le_of_ble_eq_true rfl, Nat.le_of_ble_eq_true rfl⟩) (G.preV hP hS 0 rfl rfl) rfl rfl hl.1 rfl (lv_room (Nat.le_of_ble_eq_true rfl)) d_H_claim_46 ⟨Nat.le_of_ble_eq_true rfl, Nat.le_of_ble_eq_true rfl⟩
set_option maxHeartbeats 4000000 in
set_option maxRecDepth 100000 in
theorem c_H_claim (l : Launch) (htl : l.stackTraces = false) (D : va_G) (ca : Nat → ClassId) (ad : Nat → Nat) (st : pu_St) (sz : Nat) (x1 x2 x3 : Int32) (r : Int32 ⊕ Nat) (st' : pu_St) (h : f_H_claim st x1 x2 x3 = some (r, st')) : MetX l y_H_claim (.code y_H_claim b_H_claim 6 (some .int) :: tG) { frames := 7, cells := xc r, slots := xs r, locals := 113 } (va_Pc [.ref (ad 0), .int x1, .int x2, .int x3] (hPc D ca ad st sz)) (hQ D ca ad (fun v => some (.int v)) r st' sz) (xc r) (xs r) (hA ad sz) := by
  refine hMet (by decide +kernel) ?_
  intro p e s m below meth c hsz C G hP
  obtain ⟨hx, hb, hml, hr, hlocks, hno, hown, hts⟩ := id C
  have hown : s.vm.findClass "MuseumHouse" = some m.cls := hown
  have hS : va_S (hA ad s.heap.size) s.heap s.heap [] := va_S.rf
  have hl := lv_entry ([.ref (ad 0), .int x1, .int x2, .int x3]) (n := 6) (Nat.le_of_ble_eq_true rfl)
  rw [lg_entry_eq]
  generalize (lg_sl ([.ref (ad 0), .int x1, .int x2, .int x3]) ++ List.replicate (6 - (lg_sl ([.ref (ad 0), .int x1, .int x2, .int x3])).length) Slot.unset).toArray = ls at hl ⊢
  have hl : lv_has ls 6 [(0, .ref (ad 0)), (1, .int x1), (2, .int x2), (3, .int x3)] := hl
  unfold f_H_claim at h
  refine lv_aload_n hx hb d_H_claim_0 rfl (lv_at hl 0 rfl) ?_
  refine lv_aload_n hx hb d_H_claim_1 rfl (lv_at hl 0 rfl) ?_
  refine va_get (D := D) (ci := 0) (v := .ref (ad 1)) (C := R_H) (T := T_H) (N := 12) hx hb hts iw_H hown G.1 hP 0 rfl rfl 0 (by decide) (hts _ wd_1_212) (fun _ h9 => h9) rfl d_H_claim_2 ?_
  refine lv_iload_n hx hb d_H_claim_5 rfl (lv_at hl 1 rfl) ?_
  rcases pu_xb_inv h with ⟨v1, st2, e_v1, h⟩ | ⟨v1, st2, e_v1, h⟩
  · refine hCallI G hS (va_runV (As := [.ref (ad 1), .int x1]) (rest := []) ⟨hx, hb, hml, hown, hts⟩ (MetX.met (c_H_numberOf_De l htl D ca ad st _ x1 _ _ e_v1) (fun _ _ _ _ q => ⟨_, q.1⟩)) (xCW (C := "MuseumHouse") 2 hts wd_2_26 wd_1_1 wd_2_23 wd_2_25 wd_0_0 (by decide +kernel) ⟨Nat.le_of_ble_eq_true rfl, Nat.le_of_ble_eq_true rfl⟩) (G.preV hP hS 0 rfl rfl) rfl rfl hl.1 rfl (lv_room (Nat.le_of_ble_eq_true rfl)) d_H_claim_6 ⟨Nat.zero_le _, Nat.zero_le _⟩) (fun H locs hP hS => ?_)
    refine lv_istore (lv' := [(4, .int v1), (0, .ref (ad 0)), (1, .int x1), (2, .int x2), (3, .int x3)]) hx hb d_H_claim_9 hl (by decide) rfl (fun ls hl => ?_)
    refine lv_aload_n hx hb d_H_claim_11 rfl (lv_at hl 1 rfl) ?_
    refine lv_aload_n hx hb d_H_claim_12 rfl (lv_at hl 1 rfl) ?_
    refine va_get (D := D) (ci := 0) (v := .ref (ad 5)) (C := R_H) (T := T_H) (N := 12) hx hb hts iw_H hown G.1 hP 0 rfl rfl 4 (by decide) (hts _ wd_1_216) (fun _ h9 => h9) rfl d_H_claim_13 ?_
    refine lv_iload_n hx hb d_H_claim_16 rfl (lv_at hl 3 rfl) ?_
    rcases pu_xb_inv h with ⟨v3, st4, e_v3, h⟩ | ⟨v3, st4, e_v3, h⟩
    · refine hCallI G hS (va_runV (As := [.ref (ad 5), .int x2]) (rest := []) ⟨hx, hb, hml, hown, hts⟩ (MetX.met (c_H_numberOf_It l htl D ca ad st2 _ x2 _ _ e_v3) (fun _ _ _ _ q => ⟨_, q.1⟩)) (xCW (C := "MuseumHouse") 2 hts wd_2_26 wd_1_1 wd_2_23 wd_2_25 wd_0_0 (by decide +kernel) ⟨Nat.le_of_ble_eq_true rfl, Nat.le_of_ble_eq_true rfl⟩) (G.preV hP hS 0 rfl rfl) rfl rfl hl.1 rfl (lv_room (Nat.le_of_ble_eq_true rfl)) d_H_claim_17 ⟨Nat.zero_le _, Nat.zero_le _⟩) (fun H locs hP hS => ?_)
      refine lv_istore (lv' := [(5, .int v3), (4, .int v1), (0, .ref (ad 0)), (1, .int x1), (2, .int x2), (3, .int x3)]) hx hb d_H_claim_20 hl (by decide) rfl (fun ls hl => ?_)
      refine lv_aload_n hx hb d_H_claim_22 rfl (lv_at hl 2 rfl) ?_
      refine lv_iload hx hb d_H_claim_23 (lv_at hl 1 rfl) ?_
      refine lv_bipush (v := 32) hx hb d_H_claim_25 (by decide) ?_
      rcases pu_xb_inv h with ⟨v5, st6, e_v5, h⟩ | ⟨v5, st6, e_v5, h⟩
      · refine hCallU G hS (va_runV (As := [.int v1, .int 32]) (rest := []) ⟨hx, hb, hml, hown, hts⟩ (MetX.met (c_H_askRight l htl D ca ad st4 _ v1 32 _ _ e_v5) (fun _ _ _ _ q => ⟨_, q.1⟩)) (xCW (C := "MuseumHouse") 2 hts wd_2_106 wd_1_1 wd_2_103 wd_2_105 wd_0_2 (by decide +kernel) ⟨Nat.le_of_ble_eq_true rfl, Nat.le_of_ble_eq_true rfl⟩) (G.preV hP hS 0 rfl rfl) rfl rfl hl.1 rfl (lv_room (Nat.le_of_ble_eq_true rfl)) d_H_claim_27 ⟨Nat.zero_le _, Nat.zero_le _⟩) (fun H locs hP hS => ?_)
        refine lv_aload_n hx hb d_H_claim_30 rfl (lv_at hl 2 rfl) ?_
        refine lv_aload_n hx hb d_H_claim_31 rfl (lv_at hl 2 rfl) ?_
        refine va_get (D := D) (ci := 0) (v := .ref (ad 10)) (C := R_H) (T := T_H) (N := 12) hx hb hts iw_H hown G.1 hP 0 rfl rfl 9 (by decide) (hts _ wd_1_221) (fun _ h9 => h9) rfl d_H_claim_32 ?_
        obtain ⟨v7, e_v7, h⟩ := pu_ob h
        refine pu_callR (va_runU (As := []) (rest := [.ref (ad 0)]) ⟨hx, hb, hml, hown, hts⟩ (c_Rg_isFull_Cl l D ca ad st6 _ v7 e_v7) (xCU (C := "MuseumHouse$Claims") (owner := "MuseumHouse$Register") (x := ⟨"MuseumHouse$Claims", "isFull", "()Z"⟩) 0 hts wd_2_131 wd_1_2 wd_4_113 wd_4_114 wd_2_130 wd_4_115 rfl (by decide +kernel) ⟨Nat.le_of_ble_eq_true rfl, Nat.le_of_ble_eq_true rfl⟩) (G.preV hP hS 10 rfl rfl) rfl rfl hl.1 rfl (lv_room (Nat.le_of_ble_eq_true rfl)) d_H_claim_35 ⟨Nat.zero_le _, Nat.zero_le _⟩) ?_
        refine lv_if_ne (tgt := 45) hx hb d_H_claim_38 (by decide) (fun c8 => ?_) (fun c8 => ?_)
        · rw [if_neg c8] at h
          refine lv_iconst (v := 0) hx hb d_H_claim_45 (by decide) ?_
          exact t_H_claim_b46 htl C G () st6 x1 x2 x3 v1 v3 0 h _ _ hP hS ls (lv_sub hl [2, 3, 4, 5, 1, 0] rfl)
        · rw [if_pos c8] at h
          refine lv_iconst (v := 1) hx hb d_H_claim_41 (by decide) ?_
          refine lv_goto (tgt := 46) hx hb d_H_claim_42 (by decide) ?_
          exact t_H_claim_b46 htl C G () st6 x1 x2 x3 v1 v3 1 h _ _ hP hS ls (lv_sub hl [2, 3, 4, 5, 1, 0] rfl)
      · cases h
        exact hThrV G hS hno hlocks ⟨hx, hb, hml, hown, hts⟩ (As := [.int v1, .int 32]) (rest := []) (c_H_askRight l htl D ca ad st4 _ v1 32 _ _ e_v5) (xCW (C := "MuseumHouse") 2 hts wd_2_106 wd_1_1 wd_2_103 wd_2_105 wd_0_2 (by decide +kernel) ⟨Nat.le_of_ble_eq_true rfl, Nat.le_of_ble_eq_true rfl⟩) (G.preV hP hS 0 rfl rfl) rfl rfl hl.1 rfl (lv_room (Nat.le_of_ble_eq_true rfl)) d_H_claim_27 ⟨Nat.le_of_ble_eq_true rfl, Nat.le_of_ble_eq_true rfl⟩
    · cases h
      exact hThrV G hS hno hlocks ⟨hx, hb, hml, hown, hts⟩ (As := [.ref (ad 5), .int x2]) (rest := []) (c_H_numberOf_It l htl D ca ad st2 _ x2 _ _ e_v3) (xCW (C := "MuseumHouse") 2 hts wd_2_26 wd_1_1 wd_2_23 wd_2_25 wd_0_0 (by decide +kernel) ⟨Nat.le_of_ble_eq_true rfl, Nat.le_of_ble_eq_true rfl⟩) (G.preV hP hS 0 rfl rfl) rfl rfl hl.1 rfl (lv_room (Nat.le_of_ble_eq_true rfl)) d_H_claim_17 ⟨Nat.le_of_ble_eq_true rfl, Nat.le_of_ble_eq_true rfl⟩
  · cases h
    exact hThrV G hS hno hlocks ⟨hx, hb, hml, hown, hts⟩ (As := [.ref (ad 1), .int x1]) (rest := []) (c_H_numberOf_De l htl D ca ad st _ x1 _ _ e_v1) (xCW (C := "MuseumHouse") 2 hts wd_2_26 wd_1_1 wd_2_23 wd_2_25 wd_0_0 (by decide +kernel) ⟨Nat.le_of_ble_eq_true rfl, Nat.le_of_ble_eq_true rfl⟩) (G.preV hP hS 0 rfl rfl) rfl rfl hl.1 rfl (lv_room (Nat.le_of_ble_eq_true rfl)) d_H_claim_6 ⟨Nat.le_of_ble_eq_true rfl, Nat.le_of_ble_eq_true rfl⟩
set_option maxHeartbeats 4000000 in
set_option maxRecDepth 100000 in
theorem t_Rg_numberFor_Cl_b23 {l : Launch} {p : Program} {e : Env} {s : State} {m : MethodId} {args : Array Value} {below : List Frame} {meth : Method} {c : Code} {D : va_G} {ca : Nat → ClassId} {ad : Nat → Nat} {A : Nat → Prop} {st : pu_St} {r : Int32} (C : hC p s m meth c args b_Rg_numberFor 3 (some .int) "MuseumHouse$Register") (G : hX D ca ad A s) (hP : va_P D hcl (hW ca ad st) s.heap) (hS : va_S A s.heap s.heap []) :
    ∀ (_ : Unit) (x1 x2 : Int32), f_Rg_numberFor_Cl_b23 st x1 x2 = some r → ∀ ls : Array Slot, lv_has ls 3 [(0, .ref (ad 10)), (1, .int x1), (2, .int x2)] → W p l e { frames := 0, cells := 0, slots := 0, locals := 0 } s m args below meth c s.heap [] 0 0 (MQ below (QcRead r) args s 0 0 (fun _ => False)) (F0 m 23 ls []) := by
  obtain ⟨hx, hb, hml, hr, hlocks, hno, hown, hts⟩ := id C
  intro _ x1 x2 h ls hl
  unfold f_Rg_numberFor_Cl_b23 at h
  refine lv_iconst (v := (-1)) hx hb d_Rg_numberFor_23 (by decide) ?_
  have h := Option.some.inj h
  exact W.iret (v := (-1)) hx hb hr (fun t ht _ => ⟨by rw [h], ht⟩) (fun _ q => by cases q) d_Rg_numberFor_24
set_option maxHeartbeats 4000000 in
set_option maxRecDepth 100000 in
theorem c_Rg_numberFor_Cl (l : Launch) (D : va_G) (ca : Nat → ClassId) (ad : Nat → Nat) (st : pu_St) (sz : Nat) (x1 : Int32) (r : Int32) (h : f_Rg_numberFor_Cl st x1 = some r) : Met l y_Rg_numberFor (.code y_Rg_numberFor b_Rg_numberFor 3 (some .int) :: tG) { frames := 0, cells := 0, slots := 0, locals := 0 } (va_Pc [.ref (ad 10), .int x1] (hPc D ca ad st sz)) (QcRead r) 0 0 (fun _ => False) := by
  refine hRead (by decide +kernel) ?_
  intro p e s m below meth c C G hP
  obtain ⟨hx, hb, hml, hr, hlocks, hno, hown, hts⟩ := id C
  have hown : s.vm.findClass "MuseumHouse$Register" = some m.cls := hown
  have hS : va_S (hA ad s.heap.size) s.heap s.heap [] := va_S.rf
  have hl := lv_entry ([.ref (ad 10), .int x1]) (n := 3) (Nat.le_of_ble_eq_true rfl)
  rw [lg_entry_eq]
  generalize (lg_sl ([.ref (ad 10), .int x1]) ++ List.replicate (3 - (lg_sl ([.ref (ad 10), .int x1])).length) Slot.unset).toArray = ls at hl ⊢
  have hl : lv_has ls 3 [(0, .ref (ad 10)), (1, .int x1)] := hl
  unfold f_Rg_numberFor_Cl at h
  refine lv_iload_n hx hb d_Rg_numberFor_0 rfl (lv_at hl 1 rfl) ?_
  refine lv_aload_n hx hb d_Rg_numberFor_1 rfl (lv_at hl 0 rfl) ?_
  refine va_get (D := D) (ci := 10) (v := .int 900) (C := R_Cl) (T := T_Cl) (N := 6) hx hb hts iw_Cl hown G.1 hP 10 rfl rfl 0 (by decide) (hts _ wd_1_45) (fun _ h9 => h9) rfl d_Rg_numberFor_2 ?_
  refine lv_isub hx hb d_Rg_numberFor_5 ?_
  refine lv_istore_n (lv' := [(2, .int (x1 - 900)), (0, .ref (ad 10)), (1, .int x1)]) hx hb d_Rg_numberFor_6 rfl hl (by decide) rfl (fun ls hl => ?_)
  refine lv_iload_n hx hb d_Rg_numberFor_7 rfl (lv_at hl 0 rfl) ?_
  refine lv_if_lt (tgt := 23) hx hb d_Rg_numberFor_8 (by decide) (fun c1 => ?_) (fun c1 => ?_)
  · rw [if_pos c1] at h
    exact t_Rg_numberFor_Cl_b23 C G hP hS () x1 (x1 - 900) h ls (lv_sub hl [1, 2, 0] rfl)
  · rw [if_neg c1] at h
    refine lv_iload_n hx hb d_Rg_numberFor_11 rfl (lv_at hl 0 rfl) ?_
    refine lv_aload_n hx hb d_Rg_numberFor_12 rfl (lv_at hl 1 rfl) ?_
    refine va_get (D := D) (ci := 10) (v := .int (st.1 10)) (C := R_Cl) (T := T_Cl) (N := 6) hx hb hts iw_Cl hown G.1 hP 10 rfl rfl 2 (by decide) (hts _ wd_1_47) (fun _ h9 => h9) rfl d_Rg_numberFor_13 ?_
    refine lv_icmp_ge (tgt := 23) hx hb d_Rg_numberFor_16 (by decide) (fun c2 => ?_) (fun c2 => ?_)
    · rw [if_pos c2] at h
      exact t_Rg_numberFor_Cl_b23 C G hP hS () x1 (x1 - 900) h ls (lv_sub hl [1, 2, 0] rfl)
    · rw [if_neg c2] at h
      refine lv_iload_n hx hb d_Rg_numberFor_19 rfl (lv_at hl 0 rfl) ?_
      refine lv_goto (tgt := 24) hx hb d_Rg_numberFor_20 (by decide) ?_
      have h := Option.some.inj h
      exact W.iret (v := (x1 - 900)) hx hb hr (fun t ht _ => ⟨by rw [h], ht⟩) (fun _ q => by cases q) d_Rg_numberFor_24
set_option maxHeartbeats 4000000 in
set_option maxRecDepth 100000 in
theorem c_H_numberOf_Cl (l : Launch) (htl : l.stackTraces = false) (D : va_G) (ca : Nat → ClassId) (ad : Nat → Nat) (st : pu_St) (sz : Nat) (x2 : Int32) (r : Int32 ⊕ Nat) (st' : pu_St) (h : f_H_numberOf_Cl st x2 = some (r, st')) : MetX l y_H_numberOf (.code y_H_numberOf b_H_numberOf 4 (some .int) :: tG) { frames := 6, cells := xc r, slots := xs r, locals := 90 } (va_Pc [.ref (ad 0), .ref (ad 10), .int x2] (hPc D ca ad st sz)) (hQ D ca ad (fun v => some (.int v)) r st' sz) (xc r) (xs r) (hA ad sz) := by
  refine hMet (by decide +kernel) ?_
  intro p e s m below meth c hsz C G hP
  obtain ⟨hx, hb, hml, hr, hlocks, hno, hown, hts⟩ := id C
  have hown : s.vm.findClass "MuseumHouse" = some m.cls := hown
  have hS : va_S (hA ad s.heap.size) s.heap s.heap [] := va_S.rf
  have hl := lv_entry ([.ref (ad 0), .ref (ad 10), .int x2]) (n := 4) (Nat.le_of_ble_eq_true rfl)
  rw [lg_entry_eq]
  generalize (lg_sl ([.ref (ad 0), .ref (ad 10), .int x2]) ++ List.replicate (4 - (lg_sl ([.ref (ad 0), .ref (ad 10), .int x2])).length) Slot.unset).toArray = ls at hl ⊢
  have hl : lv_has ls 4 [(0, .ref (ad 0)), (1, .ref (ad 10)), (2, .int x2)] := hl
  unfold f_H_numberOf_Cl at h
  refine lv_aload_n hx hb d_H_numberOf_0 rfl (lv_at hl 1 rfl) ?_
  refine lv_iload_n hx hb d_H_numberOf_1 rfl (lv_at hl 2 rfl) ?_
  obtain ⟨v1, e_v1, h⟩ := pu_ob h
  refine pu_callR (va_runV (As := [.int x2]) (rest := []) ⟨hx, hb, hml, hown, hts⟩ (c_Rg_numberFor_Cl l D ca ad st _ x2 v1 e_v1) (xCW (C := "MuseumHouse$Claims") 1 hts wd_2_39 wd_1_2 wd_2_27 wd_2_28 wd_2_30 (by decide +kernel) ⟨Nat.le_of_ble_eq_true rfl, Nat.le_of_ble_eq_true rfl⟩) (G.preV hP hS 10 rfl rfl) rfl rfl hl.1 rfl (lv_room (Nat.le_of_ble_eq_true rfl)) d_H_numberOf_2 ⟨Nat.zero_le _, Nat.zero_le _⟩) ?_
  refine lv_istore_n (lv' := [(3, .int v1), (0, .ref (ad 0)), (1, .ref (ad 10)), (2, .int x2)]) hx hb d_H_numberOf_5 rfl hl (by decide) rfl (fun ls hl => ?_)
  refine lv_iload_n hx hb d_H_numberOf_6 rfl (lv_at hl 0 rfl) ?_
  refine lv_iconst (v := (-1)) hx hb d_H_numberOf_7 (by decide) ?_
  refine lv_icmp_ne (tgt := 24) hx hb d_H_numberOf_8 (by decide) (fun c2 => ?_) (fun c2 => ?_)
  · rw [if_neg c2] at h
    refine lv_iload_n hx hb d_H_numberOf_24 rfl (lv_at hl 0 rfl) ?_
    cases h
    exact W.toX (W.iret hx hb hr (fun t ht _ => ⟨rfl, by rw [ht]; exact hP, hS.F ht⟩) hS.2.2 d_H_numberOf_25)
  · rw [if_pos c2] at h
    refine lv_aload_n hx hb d_H_numberOf_11 rfl (lv_at hl 1 rfl) ?_
    refine lv_iconst (v := 1) hx hb d_H_numberOf_12 (by decide) ?_
    refine va_put (D := D) (ci := 0) (v := .int 1) (ty := .int) (C := R_H) (T := T_H) (N := 12) hx hb hts iw_H ty_H to_H nm_H hown G.1 hP (G.D) hS 0 rfl rfl 11 (by decide) (hts _ wd_1_223) (fun _ h9 => h9) rfl (by decide +kernel) rfl rfl (Nat.le_of_ble_eq_true rfl) d_H_numberOf_13 (fun H locs hP _ hS => ?_)
    have hP : va_P D hcl (hW ca ad (va_up st.1 1 1, st.2)) H := hP
    cases h
    exact hThrow G hx hb (hl.1.trans hml.symm) hown hno hlocks htl hts (by decide +kernel) xo_1 wd_2_40 wd_2_41 wd_1_17 hP hS d_H_numberOf_16 d_H_numberOf_19 d_H_numberOf_20 d_H_numberOf_23 (Nat.le_of_ble_eq_true rfl) (Nat.le_of_ble_eq_true rfl) (Nat.le_of_ble_eq_true rfl) (Nat.le_of_ble_eq_true rfl) rfl
set_option maxHeartbeats 4000000 in
set_option maxRecDepth 100000 in
theorem c_Cl_isOpen (l : Launch) (D : va_G) (ca : Nat → ClassId) (ad : Nat → Nat) (st : pu_St) (sz : Nat) (x1 : Int32) (r : Int32) (h : f_Cl_isOpen st x1 = some r) : Met l y_Cl_isOpen (.code y_Cl_isOpen b_Cl_isOpen 2 (some .boolean) :: tG) { frames := 0, cells := 0, slots := 0, locals := 0 } (va_Pc [.ref (ad 10), .int x1] (hPc D ca ad st sz)) (QcRead r) 0 0 (fun _ => False) := by
  refine hRead (by decide +kernel) ?_
  intro p e s m below meth c C G hP
  obtain ⟨hx, hb, hml, hr, hlocks, hno, hown, hts⟩ := id C
  have hown : s.vm.findClass "MuseumHouse$Claims" = some m.cls := hown
  have hS : va_S (hA ad s.heap.size) s.heap s.heap [] := va_S.rf
  have hl := lv_entry ([.ref (ad 10), .int x1]) (n := 2) (Nat.le_of_ble_eq_true rfl)
  rw [lg_entry_eq]
  generalize (lg_sl ([.ref (ad 10), .int x1]) ++ List.replicate (2 - (lg_sl ([.ref (ad 10), .int x1])).length) Slot.unset).toArray = ls at hl ⊢
  have hl : lv_has ls 2 [(0, .ref (ad 10)), (1, .int x1)] := hl
  unfold f_Cl_isOpen at h
  refine lv_aload_n hx hb d_Cl_isOpen_0 rfl (lv_at hl 0 rfl) ?_
  refine va_get (D := D) (ci := 10) (v := .ref (ad 33)) (C := R_Cl) (T := T_Cl) (N := 6) hx hb hts iw_Cl hown G.1 hP 10 rfl rfl 5 (by decide) (hts _ wd_1_200) (fun _ h9 => h9) rfl d_Cl_isOpen_1 ?_
  refine lv_iload_n hx hb d_Cl_isOpen_4 rfl (lv_at hl 1 rfl) ?_
  obtain ⟨v1, e_v1, h⟩ := pu_ob h
  refine pu_zald hx hb G.1 hP 33 22 rfl rfl e_v1 d_Cl_isOpen_5 ?_
  obtain ⟨h, hz⟩ := pu_bo_inv h
  exact W.zret (v := v1) (ty := .boolean) hx hb hr (by rw [h]; rcases hz with e | e <;> rw [e] <;> rfl) (fun t ht _ => ⟨by rw [h], ht⟩) (fun _ q => by cases q) d_Cl_isOpen_6
set_option maxHeartbeats 4000000 in
set_option maxRecDepth 100000 in
theorem c_Cl_settle (l : Launch) (htl : l.stackTraces = false) (D : va_G) (ca : Nat → ClassId) (ad : Nat → Nat) (st : pu_St) (sz : Nat) (x1 : Int32) (v : Int32) (st' : pu_St) (h : f_Cl_settle st x1 = some (v, st')) : MetX l y_Cl_settle (.code y_Cl_settle b_Cl_settle 2 none :: tG) { frames := 0, cells := 0, slots := 0, locals := 0 } (va_Pc [.ref (ad 10), .int x1] (hPc D ca ad st sz)) (hQ D ca ad (fun _ => none) (.inl v) st' sz) 0 0 (hA ad sz) := by
  refine hMet (by decide +kernel) ?_
  intro p e s m below meth c hsz C G hP
  obtain ⟨hx, hb, hml, hr, hlocks, hno, hown, hts⟩ := id C
  have hown : s.vm.findClass "MuseumHouse$Claims" = some m.cls := hown
  have hS : va_S (hA ad s.heap.size) s.heap s.heap [] := va_S.rf
  have hl := lv_entry ([.ref (ad 10), .int x1]) (n := 2) (Nat.le_of_ble_eq_true rfl)
  rw [lg_entry_eq]
  generalize (lg_sl ([.ref (ad 10), .int x1]) ++ List.replicate (2 - (lg_sl ([.ref (ad 10), .int x1])).length) Slot.unset).toArray = ls at hl ⊢
  have hl : lv_has ls 2 [(0, .ref (ad 10)), (1, .int x1)] := hl
  unfold f_Cl_settle at h
  refine lv_aload_n hx hb d_Cl_settle_0 rfl (lv_at hl 0 rfl) ?_
  refine va_get (D := D) (ci := 10) (v := .ref (ad 33)) (C := R_Cl) (T := T_Cl) (N := 6) hx hb hts iw_Cl hown G.1 hP 10 rfl rfl 5 (by decide) (hts _ wd_1_200) (fun _ h9 => h9) rfl d_Cl_settle_1 ?_
  refine lv_iload_n hx hb d_Cl_settle_4 rfl (lv_at hl 1 rfl) ?_
  refine lv_iconst (v := 0) hx hb d_Cl_settle_5 (by decide) ?_
  obtain ⟨g1, e_g1, h⟩ := pu_ob h
  refine pu_zast hx hb G.1 hP (G.D) hS 33 22 rfl rfl e_g1 rfl d_Cl_settle_6 (fun H locs hP hS => ?_)
  have hP : va_P D hcl (hW ca ad (st.1, va_up st.2 22 g1)) H := hP
  cases h
  exact W.toX (W.vret hx hb hr (fun t ht _ => ⟨rfl, by rw [ht]; exact hP, hS.F ht⟩) hS.2.2 d_Cl_settle_7)
set_option maxHeartbeats 4000000 in
set_option maxRecDepth 100000 in
theorem c_Cl_itemOf (l : Launch) (D : va_G) (ca : Nat → ClassId) (ad : Nat → Nat) (st : pu_St) (sz : Nat) (x1 : Int32) (r : Int32) (h : f_Cl_itemOf st x1 = some r) : Met l y_Cl_itemOf (.code y_Cl_itemOf b_Cl_itemOf 2 (some .int) :: tG) { frames := 0, cells := 0, slots := 0, locals := 0 } (va_Pc [.ref (ad 10), .int x1] (hPc D ca ad st sz)) (QcRead r) 0 0 (fun _ => False) := by
  refine hRead (by decide +kernel) ?_
  intro p e s m below meth c C G hP
  obtain ⟨hx, hb, hml, hr, hlocks, hno, hown, hts⟩ := id C
  have hown : s.vm.findClass "MuseumHouse$Claims" = some m.cls := hown
  have hS : va_S (hA ad s.heap.size) s.heap s.heap [] := va_S.rf
  have hl := lv_entry ([.ref (ad 10), .int x1]) (n := 2) (Nat.le_of_ble_eq_true rfl)
  rw [lg_entry_eq]
  generalize (lg_sl ([.ref (ad 10), .int x1]) ++ List.replicate (2 - (lg_sl ([.ref (ad 10), .int x1])).length) Slot.unset).toArray = ls at hl ⊢
  have hl : lv_has ls 2 [(0, .ref (ad 10)), (1, .int x1)] := hl
  unfold f_Cl_itemOf at h
  refine lv_aload_n hx hb d_Cl_itemOf_0 rfl (lv_at hl 0 rfl) ?_
  refine va_get (D := D) (ci := 10) (v := .ref (ad 31)) (C := R_Cl) (T := T_Cl) (N := 6) hx hb hts iw_Cl hown G.1 hP 10 rfl rfl 3 (by decide) (hts _ wd_1_198) (fun _ h9 => h9) rfl d_Cl_itemOf_1 ?_
  refine lv_iload_n hx hb d_Cl_itemOf_4 rfl (lv_at hl 1 rfl) ?_
  obtain ⟨v1, e_v1, h⟩ := pu_ob h
  refine pu_iald hx hb G.1 hP 31 20 rfl rfl e_v1 d_Cl_itemOf_5 ?_
  have h := Option.some.inj h
  exact W.iret (v := v1) hx hb hr (fun t ht _ => ⟨by rw [h], ht⟩) (fun _ q => by cases q) d_Cl_itemOf_6
set_option maxHeartbeats 4000000 in
set_option maxRecDepth 100000 in
theorem c_H_close (l : Launch) (htl : l.stackTraces = false) (D : va_G) (ca : Nat → ClassId) (ad : Nat → Nat) (st : pu_St) (sz : Nat) (x1 x2 : Int32) (r : Int32 ⊕ Nat) (st' : pu_St) (h : f_H_close st x1 x2 = some (r, st')) : MetX l y_H_close (.code y_H_close b_H_close 5 (some .int) :: tG) { frames := 7, cells := xc r, slots := xs r, locals := 113 } (va_Pc [.ref (ad 0), .int x1, .int x2] (hPc D ca ad st sz)) (hQ D ca ad (fun v => some (.int v)) r st' sz) (xc r) (xs r) (hA ad sz) := by
  refine hMet (by decide +kernel) ?_
  intro p e s m below meth c hsz C G hP
  obtain ⟨hx, hb, hml, hr, hlocks, hno, hown, hts⟩ := id C
  have hown : s.vm.findClass "MuseumHouse" = some m.cls := hown
  have hS : va_S (hA ad s.heap.size) s.heap s.heap [] := va_S.rf
  have hl := lv_entry ([.ref (ad 0), .int x1, .int x2]) (n := 5) (Nat.le_of_ble_eq_true rfl)
  rw [lg_entry_eq]
  generalize (lg_sl ([.ref (ad 0), .int x1, .int x2]) ++ List.replicate (5 - (lg_sl ([.ref (ad 0), .int x1, .int x2])).length) Slot.unset).toArray = ls at hl ⊢
  have hl : lv_has ls 5 [(0, .ref (ad 0)), (1, .int x1), (2, .int x2)] := hl
  unfold f_H_close at h
  refine lv_aload_n hx hb d_H_close_0 rfl (lv_at hl 0 rfl) ?_
  refine lv_aload_n hx hb d_H_close_1 rfl (lv_at hl 0 rfl) ?_
  refine va_get (D := D) (ci := 0) (v := .ref (ad 1)) (C := R_H) (T := T_H) (N := 12) hx hb hts iw_H hown G.1 hP 0 rfl rfl 0 (by decide) (hts _ wd_1_212) (fun _ h9 => h9) rfl d_H_close_2 ?_
  refine lv_iload_n hx hb d_H_close_5 rfl (lv_at hl 1 rfl) ?_
  rcases pu_xb_inv h with ⟨v1, st2, e_v1, h⟩ | ⟨v1, st2, e_v1, h⟩
  · refine hCallI G hS (va_runV (As := [.ref (ad 1), .int x1]) (rest := []) ⟨hx, hb, hml, hown, hts⟩ (MetX.met (c_H_numberOf_De l htl D ca ad st _ x1 _ _ e_v1) (fun _ _ _ _ q => ⟨_, q.1⟩)) (xCW (C := "MuseumHouse") 2 hts wd_2_26 wd_1_1 wd_2_23 wd_2_25 wd_0_0 (by decide +kernel) ⟨Nat.le_of_ble_eq_true rfl, Nat.le_of_ble_eq_true rfl⟩) (G.preV hP hS 0 rfl rfl) rfl rfl hl.1 rfl (lv_room (Nat.le_of_ble_eq_true rfl)) d_H_close_6 ⟨Nat.zero_le _, Nat.zero_le _⟩) (fun H locs hP hS => ?_)
    refine lv_istore_n (lv' := [(3, .int v1), (0, .ref (ad 0)), (1, .int x1), (2, .int x2)]) hx hb d_H_close_9 rfl hl (by decide) rfl (fun ls hl => ?_)
    refine lv_aload_n hx hb d_H_close_10 rfl (lv_at hl 1 rfl) ?_
    refine lv_aload_n hx hb d_H_close_11 rfl (lv_at hl 1 rfl) ?_
    refine va_get (D := D) (ci := 0) (v := .ref (ad 10)) (C := R_H) (T := T_H) (N := 12) hx hb hts iw_H hown G.1 hP 0 rfl rfl 9 (by decide) (hts _ wd_1_221) (fun _ h9 => h9) rfl d_H_close_12 ?_
    refine lv_iload_n hx hb d_H_close_15 rfl (lv_at hl 3 rfl) ?_
    rcases pu_xb_inv h with ⟨v3, st4, e_v3, h⟩ | ⟨v3, st4, e_v3, h⟩
    · refine hCallI G hS (va_runV (As := [.ref (ad 10), .int x2]) (rest := []) ⟨hx, hb, hml, hown, hts⟩ (MetX.met (c_H_numberOf_Cl l htl D ca ad st2 _ x2 _ _ e_v3) (fun _ _ _ _ q => ⟨_, q.1⟩)) (xCW (C := "MuseumHouse") 2 hts wd_2_26 wd_1_1 wd_2_23 wd_2_25 wd_0_0 (by decide +kernel) ⟨Nat.le_of_ble_eq_true rfl, Nat.le_of_ble_eq_true rfl⟩) (G.preV hP hS 0 rfl rfl) rfl rfl hl.1 rfl (lv_room (Nat.le_of_ble_eq_true rfl)) d_H_close_16 ⟨Nat.zero_le _, Nat.zero_le _⟩) (fun H locs hP hS => ?_)
      refine lv_istore (lv' := [(4, .int v3), (3, .int v1), (0, .ref (ad 0)), (1, .int x1), (2, .int x2)]) hx hb d_H_close_19 hl (by decide) rfl (fun ls hl => ?_)
      refine lv_aload_n hx hb d_H_close_21 rfl (lv_at hl 2 rfl) ?_
      refine lv_iload_n hx hb d_H_close_22 rfl (lv_at hl 1 rfl) ?_
      refine lv_bipush (v := 32) hx hb d_H_close_23 (by decide) ?_
      rcases pu_xb_inv h with ⟨v5, st6, e_v5, h⟩ | ⟨v5, st6, e_v5, h⟩
      · refine hCallU G hS (va_runV (As := [.int v1, .int 32]) (rest := []) ⟨hx, hb, hml, hown, hts⟩ (MetX.met (c_H_askRight l htl D ca ad st4 _ v1 32 _ _ e_v5) (fun _ _ _ _ q => ⟨_, q.1⟩)) (xCW (C := "MuseumHouse") 2 hts wd_2_106 wd_1_1 wd_2_103 wd_2_105 wd_0_2 (by decide +kernel) ⟨Nat.le_of_ble_eq_true rfl, Nat.le_of_ble_eq_true rfl⟩) (G.preV hP hS 0 rfl rfl) rfl rfl hl.1 rfl (lv_room (Nat.le_of_ble_eq_true rfl)) d_H_close_25 ⟨Nat.zero_le _, Nat.zero_le _⟩) (fun H locs hP hS => ?_)
        refine lv_aload_n hx hb d_H_close_28 rfl (lv_at hl 2 rfl) ?_
        refine lv_bipush (v := 17) hx hb d_H_close_29 (by decide) ?_
        refine lv_aload_n hx hb d_H_close_31 rfl (lv_at hl 2 rfl) ?_
        refine va_get (D := D) (ci := 0) (v := .ref (ad 10)) (C := R_H) (T := T_H) (N := 12) hx hb hts iw_H hown G.1 hP 0 rfl rfl 9 (by decide) (hts _ wd_1_221) (fun _ h9 => h9) rfl d_H_close_32 ?_
        refine lv_iload hx hb d_H_close_35 (lv_at hl 0 rfl) ?_
        obtain ⟨v7, e_v7, h⟩ := pu_ob h
        refine pu_callR (va_runV (As := [.int v3]) (rest := [.int 17, .ref (ad 0)]) ⟨hx, hb, hml, hown, hts⟩ (c_Cl_isOpen l D ca ad st6 _ v3 v7 e_v7) (xCW (C := "MuseumHouse$Claims") 1 hts wd_4_140 wd_1_12 wd_4_137 wd_4_138 wd_4_139 (by decide +kernel) ⟨Nat.le_of_ble_eq_true rfl, Nat.le_of_ble_eq_true rfl⟩) (G.preV hP hS 10 rfl rfl) rfl rfl hl.1 rfl (lv_room (Nat.le_of_ble_eq_true rfl)) d_H_close_37 ⟨Nat.zero_le _, Nat.zero_le _⟩) ?_
        rcases pu_xb_inv h with ⟨v8, st9, e_v8, h⟩ | ⟨v8, st9, e_v8, h⟩
        · refine hCallU G hS (va_runV (As := [.int 17, .int v7]) (rest := []) ⟨hx, hb, hml, hown, hts⟩ (MetX.met (c_H_ask l htl D ca ad st6 _ 17 v7 _ _ e_v8) (fun _ _ _ _ q => ⟨_, q.1⟩)) (xCW (C := "MuseumHouse") 2 hts wd_2_139 wd_1_1 wd_2_136 wd_2_138 wd_0_4 (by decide +kernel) ⟨Nat.le_of_ble_eq_true rfl, Nat.le_of_ble_eq_true rfl⟩) (G.preV hP hS 0 rfl rfl) rfl rfl hl.1 rfl (lv_room (Nat.le_of_ble_eq_true rfl)) d_H_close_40 ⟨Nat.zero_le _, Nat.zero_le _⟩) (fun H locs hP hS => ?_)
          refine lv_aload_n hx hb d_H_close_43 rfl (lv_at hl 2 rfl) ?_
          refine va_get (D := D) (ci := 0) (v := .ref (ad 10)) (C := R_H) (T := T_H) (N := 12) hx hb hts iw_H hown G.1 hP 0 rfl rfl 9 (by decide) (hts _ wd_1_221) (fun _ h9 => h9) rfl d_H_close_44 ?_
          refine lv_iload hx hb d_H_close_47 (lv_at hl 0 rfl) ?_
          obtain ⟨q10, e_q10, h⟩ := pu_ob h
          refine hCallU G hS (va_runV (As := [.int v3]) (rest := []) ⟨hx, hb, hml, hown, hts⟩ (MetX.met (c_Cl_settle l htl D ca ad st9 _ v3 q10.1 q10.2 e_q10) (fun _ _ _ _ q => ⟨_, q.1⟩)) (xCW (C := "MuseumHouse$Claims") 1 hts wd_4_144 wd_1_12 wd_4_141 wd_4_142 wd_4_143 (by decide +kernel) ⟨Nat.le_of_ble_eq_true rfl, Nat.le_of_ble_eq_true rfl⟩) (G.preV hP hS 10 rfl rfl) rfl rfl hl.1 rfl (lv_room (Nat.le_of_ble_eq_true rfl)) d_H_close_49 ⟨Nat.zero_le _, Nat.zero_le _⟩) (fun H locs hP hS => ?_)
          refine lv_aload_n hx hb d_H_close_52 rfl (lv_at hl 2 rfl) ?_
          refine va_get (D := D) (ci := 0) (v := .ref (ad 10)) (C := R_H) (T := T_H) (N := 12) hx hb hts iw_H hown G.1 hP 0 rfl rfl 9 (by decide) (hts _ wd_1_221) (fun _ h9 => h9) rfl d_H_close_53 ?_
          refine lv_aload_n hx hb d_H_close_56 rfl (lv_at hl 2 rfl) ?_
          refine va_get (D := D) (ci := 0) (v := .ref (ad 10)) (C := R_H) (T := T_H) (N := 12) hx hb hts iw_H hown G.1 hP 0 rfl rfl 9 (by decide) (hts _ wd_1_221) (fun _ h9 => h9) rfl d_H_close_57 ?_
          refine lv_iload hx hb d_H_close_60 (lv_at hl 0 rfl) ?_
          obtain ⟨v11, e_v11, h⟩ := pu_ob h
          refine pu_callR (va_runV (As := [.int v3]) (rest := [.ref (ad 10)]) ⟨hx, hb, hml, hown, hts⟩ (c_Cl_itemOf l D ca ad q10.2 _ v3 v11 e_v11) (xCW (C := "MuseumHouse$Claims") 1 hts wd_4_148 wd_1_12 wd_4_145 wd_4_146 wd_4_147 (by decide +kernel) ⟨Nat.le_of_ble_eq_true rfl, Nat.le_of_ble_eq_true rfl⟩) (G.preV hP hS 10 rfl rfl) rfl rfl hl.1 rfl (lv_room (Nat.le_of_ble_eq_true rfl)) d_H_close_62 ⟨Nat.zero_le _, Nat.zero_le _⟩) ?_
          obtain ⟨v12, e_v12, h⟩ := pu_ob h
          refine pu_callR (va_runV (As := [.int v11]) (rest := []) ⟨hx, hb, hml, hown, hts⟩ (c_Cl_openFor l D ca ad q10.2 _ v11 v12 e_v12) (xCW (C := "MuseumHouse$Claims") 1 hts wd_4_10 wd_1_12 wd_4_7 wd_4_8 wd_4_9 (by decide +kernel) ⟨Nat.le_of_ble_eq_true rfl, Nat.le_of_ble_eq_true rfl⟩) (G.preV hP hS 10 rfl rfl) rfl rfl hl.1 rfl (lv_room (Nat.le_of_ble_eq_true rfl)) d_H_close_65 ⟨Nat.zero_le _, Nat.zero_le _⟩) ?_
          cases h
          exact W.toX (W.iret hx hb hr (fun t ht _ => ⟨rfl, by rw [ht]; exact hP, hS.F ht⟩) hS.2.2 d_H_close_68)
        · cases h
          exact hThrV G hS hno hlocks ⟨hx, hb, hml, hown, hts⟩ (As := [.int 17, .int v7]) (rest := []) (c_H_ask l htl D ca ad st6 _ 17 v7 _ _ e_v8) (xCW (C := "MuseumHouse") 2 hts wd_2_139 wd_1_1 wd_2_136 wd_2_138 wd_0_4 (by decide +kernel) ⟨Nat.le_of_ble_eq_true rfl, Nat.le_of_ble_eq_true rfl⟩) (G.preV hP hS 0 rfl rfl) rfl rfl hl.1 rfl (lv_room (Nat.le_of_ble_eq_true rfl)) d_H_close_40 ⟨Nat.le_of_ble_eq_true rfl, Nat.le_of_ble_eq_true rfl⟩
      · cases h
        exact hThrV G hS hno hlocks ⟨hx, hb, hml, hown, hts⟩ (As := [.int v1, .int 32]) (rest := []) (c_H_askRight l htl D ca ad st4 _ v1 32 _ _ e_v5) (xCW (C := "MuseumHouse") 2 hts wd_2_106 wd_1_1 wd_2_103 wd_2_105 wd_0_2 (by decide +kernel) ⟨Nat.le_of_ble_eq_true rfl, Nat.le_of_ble_eq_true rfl⟩) (G.preV hP hS 0 rfl rfl) rfl rfl hl.1 rfl (lv_room (Nat.le_of_ble_eq_true rfl)) d_H_close_25 ⟨Nat.le_of_ble_eq_true rfl, Nat.le_of_ble_eq_true rfl⟩
    · cases h
      exact hThrV G hS hno hlocks ⟨hx, hb, hml, hown, hts⟩ (As := [.ref (ad 10), .int x2]) (rest := []) (c_H_numberOf_Cl l htl D ca ad st2 _ x2 _ _ e_v3) (xCW (C := "MuseumHouse") 2 hts wd_2_26 wd_1_1 wd_2_23 wd_2_25 wd_0_0 (by decide +kernel) ⟨Nat.le_of_ble_eq_true rfl, Nat.le_of_ble_eq_true rfl⟩) (G.preV hP hS 0 rfl rfl) rfl rfl hl.1 rfl (lv_room (Nat.le_of_ble_eq_true rfl)) d_H_close_16 ⟨Nat.le_of_ble_eq_true rfl, Nat.le_of_ble_eq_true rfl⟩
  · cases h
    exact hThrV G hS hno hlocks ⟨hx, hb, hml, hown, hts⟩ (As := [.ref (ad 1), .int x1]) (rest := []) (c_H_numberOf_De l htl D ca ad st _ x1 _ _ e_v1) (xCW (C := "MuseumHouse") 2 hts wd_2_26 wd_1_1 wd_2_23 wd_2_25 wd_0_0 (by decide +kernel) ⟨Nat.le_of_ble_eq_true rfl, Nat.le_of_ble_eq_true rfl⟩) (G.preV hP hS 0 rfl rfl) rfl rfl hl.1 rfl (lv_room (Nat.le_of_ble_eq_true rfl)) d_H_close_6 ⟨Nat.le_of_ble_eq_true rfl, Nat.le_of_ble_eq_true rfl⟩
set_option maxHeartbeats 4000000 in
set_option maxRecDepth 100000 in
theorem c_H_where (l : Launch) (htl : l.stackTraces = false) (D : va_G) (ca : Nat → ClassId) (ad : Nat → Nat) (st : pu_St) (sz : Nat) (x1 x2 : Int32) (r : Int32 ⊕ Nat) (st' : pu_St) (h : f_H_where st x1 x2 = some (r, st')) : MetX l y_H_where (.code y_H_where b_H_where 7 (some .int) :: tG) { frames := 7, cells := xc r, slots := xs r, locals := 113 } (va_Pc [.ref (ad 0), .int x1, .int x2] (hPc D ca ad st sz)) (hQ D ca ad (fun v => some (.int v)) r st' sz) (xc r) (xs r) (hA ad sz) := by
  refine hMet (by decide +kernel) ?_
  intro p e s m below meth c hsz C G hP
  obtain ⟨hx, hb, hml, hr, hlocks, hno, hown, hts⟩ := id C
  have hown : s.vm.findClass "MuseumHouse" = some m.cls := hown
  have hS : va_S (hA ad s.heap.size) s.heap s.heap [] := va_S.rf
  have hl := lv_entry ([.ref (ad 0), .int x1, .int x2]) (n := 7) (Nat.le_of_ble_eq_true rfl)
  rw [lg_entry_eq]
  generalize (lg_sl ([.ref (ad 0), .int x1, .int x2]) ++ List.replicate (7 - (lg_sl ([.ref (ad 0), .int x1, .int x2])).length) Slot.unset).toArray = ls at hl ⊢
  have hl : lv_has ls 7 [(0, .ref (ad 0)), (1, .int x1), (2, .int x2)] := hl
  unfold f_H_where at h
  refine lv_aload_n hx hb d_H_where_0 rfl (lv_at hl 0 rfl) ?_
  refine lv_aload_n hx hb d_H_where_1 rfl (lv_at hl 0 rfl) ?_
  refine va_get (D := D) (ci := 0) (v := .ref (ad 5)) (C := R_H) (T := T_H) (N := 12) hx hb hts iw_H hown G.1 hP 0 rfl rfl 4 (by decide) (hts _ wd_1_216) (fun _ h9 => h9) rfl d_H_where_2 ?_
  refine lv_iload_n hx hb d_H_where_5 rfl (lv_at hl 1 rfl) ?_
  rcases pu_xb_inv h with ⟨v1, st2, e_v1, h⟩ | ⟨v1, st2, e_v1, h⟩
  · refine hCallI G hS (va_runV (As := [.ref (ad 5), .int x1]) (rest := []) ⟨hx, hb, hml, hown, hts⟩ (MetX.met (c_H_numberOf_It l htl D ca ad st _ x1 _ _ e_v1) (fun _ _ _ _ q => ⟨_, q.1⟩)) (xCW (C := "MuseumHouse") 2 hts wd_2_26 wd_1_1 wd_2_23 wd_2_25 wd_0_0 (by decide +kernel) ⟨Nat.le_of_ble_eq_true rfl, Nat.le_of_ble_eq_true rfl⟩) (G.preV hP hS 0 rfl rfl) rfl rfl hl.1 rfl (lv_room (Nat.le_of_ble_eq_true rfl)) d_H_where_6 ⟨Nat.zero_le _, Nat.zero_le _⟩) (fun H locs hP hS => ?_)
    refine lv_istore_n (lv' := [(3, .int v1), (0, .ref (ad 0)), (1, .int x1), (2, .int x2)]) hx hb d_H_where_9 rfl hl (by decide) rfl (fun ls hl => ?_)
    refine lv_aload_n hx hb d_H_where_10 rfl (lv_at hl 1 rfl) ?_
    refine lv_iconst (v := 4) hx hb d_H_where_11 (by decide) ?_
    refine lv_iload_n hx hb d_H_where_12 rfl (lv_at hl 3 rfl) ?_
    obtain ⟨v3, e_v3, h⟩ := pu_ob h
    refine pu_callR (va_runS (As := [.int x2]) (rest := [.int 4, .ref (ad 0)]) ⟨hx, hb, hml, hown, hts⟩ (c_H_isDay l D ca ad st2 _ x2 v3 e_v3) (xCS 1 hts wd_3_67 wd_1_1 wd_3_65 wd_3_66 (by decide +kernel) ⟨Nat.le_of_ble_eq_true rfl, Nat.le_of_ble_eq_true rfl⟩) (G.preS hP hS) rfl rfl hl.1 rfl (lv_room (Nat.le_of_ble_eq_true rfl)) d_H_where_13 ⟨Nat.zero_le _, Nat.zero_le _⟩) ?_
    rcases pu_xb_inv h with ⟨v4, st5, e_v4, h⟩ | ⟨v4, st5, e_v4, h⟩
    · refine hCallU G hS (va_runV (As := [.int 4, .int v3]) (rest := []) ⟨hx, hb, hml, hown, hts⟩ (MetX.met (c_H_ask l htl D ca ad st2 _ 4 v3 _ _ e_v4) (fun _ _ _ _ q => ⟨_, q.1⟩)) (xCW (C := "MuseumHouse") 2 hts wd_2_139 wd_1_1 wd_2_136 wd_2_138 wd_0_4 (by decide +kernel) ⟨Nat.le_of_ble_eq_true rfl, Nat.le_of_ble_eq_true rfl⟩) (G.preV hP hS 0 rfl rfl) rfl rfl hl.1 rfl (lv_room (Nat.le_of_ble_eq_true rfl)) d_H_where_16 ⟨Nat.zero_le _, Nat.zero_le _⟩) (fun H locs hP hS => ?_)
      refine lv_iload_n hx hb d_H_where_19 rfl (lv_at hl 3 rfl) ?_
      refine lv_aload_n hx hb d_H_where_20 rfl (lv_at hl 1 rfl) ?_
      refine va_get (D := D) (ci := 0) (v := .ref (ad 5)) (C := R_H) (T := T_H) (N := 12) hx hb hts iw_H hown G.1 hP 0 rfl rfl 4 (by decide) (hts _ wd_1_216) (fun _ h9 => h9) rfl d_H_where_21 ?_
      refine lv_iload_n hx hb d_H_where_24 rfl (lv_at hl 0 rfl) ?_
      obtain ⟨v6, e_v6, h⟩ := pu_ob h
      refine pu_callR (va_runV (As := [.int v1]) (rest := [.int x2]) ⟨hx, hb, hml, hown, hts⟩ (c_It_dayOf l D ca ad st5 _ v1 v6 e_v6) (xCW (C := "MuseumHouse$Items") 1 hts wd_3_194 wd_1_7 wd_3_191 wd_3_192 wd_3_193 (by decide +kernel) ⟨Nat.le_of_ble_eq_true rfl, Nat.le_of_ble_eq_true rfl⟩) (G.preV hP hS 5 rfl rfl) rfl rfl hl.1 rfl (lv_room (Nat.le_of_ble_eq_true rfl)) d_H_where_25 ⟨Nat.zero_le _, Nat.zero_le _⟩) ?_
      refine lv_icmp_ge (tgt := 33) hx hb d_H_where_28 (by decide) (fun c7 => ?_) (fun c7 => ?_)
      · rw [if_pos c7] at h
        refine lv_aload_n hx hb d_H_where_33 rfl (lv_at hl 1 rfl) ?_
        refine va_get (D := D) (ci := 0) (v := .ref (ad 8)) (C := R_H) (T := T_H) (N := 12) hx hb hts iw_H hown G.1 hP 0 rfl rfl 7 (by decide) (hts _ wd_1_219) (fun _ h9 => h9) rfl d_H_where_34 ?_
        refine lv_iload_n hx hb d_H_where_37 rfl (lv_at hl 0 rfl) ?_
        refine lv_iload_n hx hb d_H_where_38 rfl (lv_at hl 3 rfl) ?_
        refine lv_iload_n hx hb d_H_where_39 rfl (lv_at hl 3 rfl) ?_
        obtain ⟨v8, e_v8, h⟩ := pu_ob h
        refine pu_callR (va_runV (As := [.int v1, .int x2, .int x2]) (rest := []) ⟨hx, hb, hml, hown, hts⟩ (c_Lo_having l D ca ad st5 _ v1 x2 x2 v8 e_v8) (xCW (C := "MuseumHouse$Loans") 3 hts wd_3_198 wd_1_10 wd_3_195 wd_3_196 wd_3_197 (by decide +kernel) ⟨Nat.le_of_ble_eq_true rfl, Nat.le_of_ble_eq_true rfl⟩) (G.preV hP hS 8 rfl rfl) rfl rfl hl.1 rfl (lv_room (Nat.le_of_ble_eq_true rfl)) d_H_where_40 ⟨Nat.zero_le _, Nat.zero_le _⟩) ?_
        refine lv_istore (lv' := [(4, .int v8), (3, .int v1), (0, .ref (ad 0)), (1, .int x1), (2, .int x2)]) hx hb d_H_where_43 hl (by decide) rfl (fun ls hl => ?_)
        refine lv_iload hx hb d_H_where_45 (lv_at hl 0 rfl) ?_
        refine lv_iconst (v := (-1)) hx hb d_H_where_47 (by decide) ?_
        refine lv_icmp_eq (tgt := 61) hx hb d_H_where_48 (by decide) (fun c9 => ?_) (fun c9 => ?_)
        · rw [if_pos c9] at h
          refine lv_aload_n hx hb d_H_where_61 rfl (lv_at hl 2 rfl) ?_
          refine va_get (D := D) (ci := 0) (v := .ref (ad 9)) (C := R_H) (T := T_H) (N := 12) hx hb hts iw_H hown G.1 hP 0 rfl rfl 8 (by decide) (hts _ wd_1_220) (fun _ h9 => h9) rfl d_H_where_62 ?_
          refine lv_iload_n hx hb d_H_where_65 rfl (lv_at hl 1 rfl) ?_
          refine lv_iload_n hx hb d_H_where_66 rfl (lv_at hl 4 rfl) ?_
          refine lv_iload_n hx hb d_H_where_67 rfl (lv_at hl 4 rfl) ?_
          obtain ⟨v10, e_v10, h⟩ := pu_ob h
          refine pu_callR (va_runV (As := [.int v1, .int x2, .int x2]) (rest := []) ⟨hx, hb, hml, hown, hts⟩ (c_Sh_having l D ca ad st5 _ v1 x2 x2 v10 e_v10) (xCW (C := "MuseumHouse$Shows") 3 hts wd_4_17 wd_1_11 wd_4_14 wd_4_15 wd_4_16 (by decide +kernel) ⟨Nat.le_of_ble_eq_true rfl, Nat.le_of_ble_eq_true rfl⟩) (G.preV hP hS 9 rfl rfl) rfl rfl hl.1 rfl (lv_room (Nat.le_of_ble_eq_true rfl)) d_H_where_68 ⟨Nat.zero_le _, Nat.zero_le _⟩) ?_
          refine lv_istore (lv' := [(5, .int v10), (4, .int v8), (3, .int v1), (0, .ref (ad 0)), (1, .int x1), (2, .int x2)]) hx hb d_H_where_71 hl (by decide) rfl (fun ls hl => ?_)
          refine lv_iload hx hb d_H_where_73 (lv_at hl 0 rfl) ?_
          refine lv_iconst (v := (-1)) hx hb d_H_where_75 (by decide) ?_
          refine lv_icmp_eq (tgt := 89) hx hb d_H_where_76 (by decide) (fun c11 => ?_) (fun c11 => ?_)
          · rw [if_pos c11] at h
            refine lv_aload_n hx hb d_H_where_89 rfl (lv_at hl 3 rfl) ?_
            refine lv_iload_n hx hb d_H_where_90 rfl (lv_at hl 2 rfl) ?_
            refine lv_iload_n hx hb d_H_where_91 rfl (lv_at hl 5 rfl) ?_
            obtain ⟨v12, e_v12, h⟩ := pu_ob h
            refine pu_callR (va_runV (As := [.int v1, .int x2]) (rest := []) ⟨hx, hb, hml, hown, hts⟩ (c_H_placeHandle l D ca ad st5 _ v1 x2 v12 e_v12) (xCW (C := "MuseumHouse") 2 hts wd_3_219 wd_1_1 wd_3_216 wd_3_218 wd_0_11 (by decide +kernel) ⟨Nat.le_of_ble_eq_true rfl, Nat.le_of_ble_eq_true rfl⟩) (G.preV hP hS 0 rfl rfl) rfl rfl hl.1 rfl (lv_room (Nat.le_of_ble_eq_true rfl)) d_H_where_92 ⟨Nat.zero_le _, Nat.zero_le _⟩) ?_
            refine lv_istore (lv' := [(6, .int v12), (5, .int v10), (4, .int v8), (3, .int v1), (0, .ref (ad 0)), (1, .int x1), (2, .int x2)]) hx hb d_H_where_95 hl (by decide) rfl (fun ls hl => ?_)
            refine lv_iload hx hb d_H_where_97 (lv_at hl 0 rfl) ?_
            refine lv_if_ne (tgt := 106) hx hb d_H_where_99 (by decide) (fun c13 => ?_) (fun c13 => ?_)
            · rw [if_neg c13] at h
              refine lv_iload hx hb d_H_where_106 (lv_at hl 0 rfl) ?_
              cases h
              exact W.toX (W.iret hx hb hr (fun t ht _ => ⟨rfl, by rw [ht]; exact hP, hS.F ht⟩) hS.2.2 d_H_where_108)
            · rw [if_pos c13] at h
              refine lv_iconst (v := 1) hx hb d_H_where_102 (by decide) ?_
              refine lv_goto (tgt := 108) hx hb d_H_where_103 (by decide) ?_
              cases h
              exact W.toX (W.iret hx hb hr (fun t ht _ => ⟨rfl, by rw [ht]; exact hP, hS.F ht⟩) hS.2.2 d_H_where_108)
          · rw [if_neg c11] at h
            refine lv_aload_n hx hb d_H_where_79 rfl (lv_at hl 3 rfl) ?_
            refine va_get (D := D) (ci := 0) (v := .ref (ad 9)) (C := R_H) (T := T_H) (N := 12) hx hb hts iw_H hown G.1 hP 0 rfl rfl 8 (by decide) (hts _ wd_1_220) (fun _ h9 => h9) rfl d_H_where_80 ?_
            refine lv_iload hx hb d_H_where_83 (lv_at hl 0 rfl) ?_
            obtain ⟨v14, e_v14, h⟩ := pu_ob h
            refine pu_callR (va_runU (As := [.int v10]) (rest := []) ⟨hx, hb, hml, hown, hts⟩ (c_Rg_handleOf_Sh l D ca ad st5 _ v10 v14 e_v14) (xCU (C := "MuseumHouse$Shows") (owner := "MuseumHouse$Register") (x := ⟨"MuseumHouse$Shows", "handleOf", "(I)I"⟩) 1 hts wd_2_164 wd_1_2 wd_4_157 wd_4_73 wd_2_163 wd_4_74 rfl (by decide +kernel) ⟨Nat.le_of_ble_eq_true rfl, Nat.le_of_ble_eq_true rfl⟩) (G.preV hP hS 9 rfl rfl) rfl rfl hl.1 rfl (lv_room (Nat.le_of_ble_eq_true rfl)) d_H_where_85 ⟨Nat.zero_le _, Nat.zero_le _⟩) ?_
            cases h
            exact W.toX (W.iret hx hb hr (fun t ht _ => ⟨rfl, by rw [ht]; exact hP, hS.F ht⟩) hS.2.2 d_H_where_88)
        · rw [if_neg c9] at h
          refine lv_aload_n hx hb d_H_where_51 rfl (lv_at hl 2 rfl) ?_
          refine va_get (D := D) (ci := 0) (v := .ref (ad 8)) (C := R_H) (T := T_H) (N := 12) hx hb hts iw_H hown G.1 hP 0 rfl rfl 7 (by decide) (hts _ wd_1_219) (fun _ h9 => h9) rfl d_H_where_52 ?_
          refine lv_iload hx hb d_H_where_55 (lv_at hl 0 rfl) ?_
          obtain ⟨v15, e_v15, h⟩ := pu_ob h
          refine pu_callR (va_runU (As := [.int v8]) (rest := []) ⟨hx, hb, hml, hown, hts⟩ (c_Rg_handleOf_Lo l D ca ad st5 _ v8 v15 e_v15) (xCU (C := "MuseumHouse$Loans") (owner := "MuseumHouse$Register") (x := ⟨"MuseumHouse$Loans", "handleOf", "(I)I"⟩) 1 hts wd_2_164 wd_1_2 wd_4_156 wd_4_34 wd_2_163 wd_4_35 rfl (by decide +kernel) ⟨Nat.le_of_ble_eq_true rfl, Nat.le_of_ble_eq_true rfl⟩) (G.preV hP hS 8 rfl rfl) rfl rfl hl.1 rfl (lv_room (Nat.le_of_ble_eq_true rfl)) d_H_where_57 ⟨Nat.zero_le _, Nat.zero_le _⟩) ?_
          cases h
          exact W.toX (W.iret hx hb hr (fun t ht _ => ⟨rfl, by rw [ht]; exact hP, hS.F ht⟩) hS.2.2 d_H_where_60)
      · rw [if_neg c7] at h
        refine lv_iconst (v := 0) hx hb d_H_where_31 (by decide) ?_
        cases h
        exact W.toX (W.iret hx hb hr (fun t ht _ => ⟨rfl, by rw [ht]; exact hP, hS.F ht⟩) hS.2.2 d_H_where_32)
    · cases h
      exact hThrV G hS hno hlocks ⟨hx, hb, hml, hown, hts⟩ (As := [.int 4, .int v3]) (rest := []) (c_H_ask l htl D ca ad st2 _ 4 v3 _ _ e_v4) (xCW (C := "MuseumHouse") 2 hts wd_2_139 wd_1_1 wd_2_136 wd_2_138 wd_0_4 (by decide +kernel) ⟨Nat.le_of_ble_eq_true rfl, Nat.le_of_ble_eq_true rfl⟩) (G.preV hP hS 0 rfl rfl) rfl rfl hl.1 rfl (lv_room (Nat.le_of_ble_eq_true rfl)) d_H_where_16 ⟨Nat.le_of_ble_eq_true rfl, Nat.le_of_ble_eq_true rfl⟩
  · cases h
    exact hThrV G hS hno hlocks ⟨hx, hb, hml, hown, hts⟩ (As := [.ref (ad 5), .int x1]) (rest := []) (c_H_numberOf_It l htl D ca ad st _ x1 _ _ e_v1) (xCW (C := "MuseumHouse") 2 hts wd_2_26 wd_1_1 wd_2_23 wd_2_25 wd_0_0 (by decide +kernel) ⟨Nat.le_of_ble_eq_true rfl, Nat.le_of_ble_eq_true rfl⟩) (G.preV hP hS 0 rfl rfl) rfl rfl hl.1 rfl (lv_room (Nat.le_of_ble_eq_true rfl)) d_H_where_6 ⟨Nat.le_of_ble_eq_true rfl, Nat.le_of_ble_eq_true rfl⟩
set_option maxHeartbeats 4000000 in
set_option maxRecDepth 100000 in
theorem c_It_findOf (l : Launch) (D : va_G) (ca : Nat → ClassId) (ad : Nat → Nat) (st : pu_St) (sz : Nat) (x1 : Int32) (r : Int32) (h : f_It_findOf st x1 = some r) : Met l y_It_findOf (.code y_It_findOf b_It_findOf 2 (some .int) :: tG) { frames := 0, cells := 0, slots := 0, locals := 0 } (va_Pc [.ref (ad 5), .int x1] (hPc D ca ad st sz)) (QcRead r) 0 0 (fun _ => False) := by
  refine hRead (by decide +kernel) ?_
  intro p e s m below meth c C G hP
  obtain ⟨hx, hb, hml, hr, hlocks, hno, hown, hts⟩ := id C
  have hown : s.vm.findClass "MuseumHouse$Items" = some m.cls := hown
  have hS : va_S (hA ad s.heap.size) s.heap s.heap [] := va_S.rf
  have hl := lv_entry ([.ref (ad 5), .int x1]) (n := 2) (Nat.le_of_ble_eq_true rfl)
  rw [lg_entry_eq]
  generalize (lg_sl ([.ref (ad 5), .int x1]) ++ List.replicate (2 - (lg_sl ([.ref (ad 5), .int x1])).length) Slot.unset).toArray = ls at hl ⊢
  have hl : lv_has ls 2 [(0, .ref (ad 5)), (1, .int x1)] := hl
  unfold f_It_findOf at h
  refine lv_aload_n hx hb d_It_findOf_0 rfl (lv_at hl 0 rfl) ?_
  refine va_get (D := D) (ci := 5) (v := .ref (ad 18)) (C := R_It) (T := T_It) (N := 5) hx hb hts iw_It hown G.1 hP 5 rfl rfl 3 (by decide) (hts _ wd_1_112) (fun _ h9 => h9) rfl d_It_findOf_1 ?_
  refine lv_iload_n hx hb d_It_findOf_4 rfl (lv_at hl 1 rfl) ?_
  obtain ⟨v1, e_v1, h⟩ := pu_ob h
  refine pu_iald hx hb G.1 hP 18 7 rfl rfl e_v1 d_It_findOf_5 ?_
  have h := Option.some.inj h
  exact W.iret (v := v1) hx hb hr (fun t ht _ => ⟨by rw [h], ht⟩) (fun _ q => by cases q) d_It_findOf_6
set_option maxHeartbeats 4000000 in
set_option maxRecDepth 100000 in
theorem c_Fi_contextOf (l : Launch) (D : va_G) (ca : Nat → ClassId) (ad : Nat → Nat) (st : pu_St) (sz : Nat) (x1 : Int32) (r : Int32) (h : f_Fi_contextOf st x1 = some r) : Met l y_Fi_contextOf (.code y_Fi_contextOf b_Fi_contextOf 2 (some .int) :: tG) { frames := 0, cells := 0, slots := 0, locals := 0 } (va_Pc [.ref (ad 4), .int x1] (hPc D ca ad st sz)) (QcRead r) 0 0 (fun _ => False) := by
  refine hRead (by decide +kernel) ?_
  intro p e s m below meth c C G hP
  obtain ⟨hx, hb, hml, hr, hlocks, hno, hown, hts⟩ := id C
  have hown : s.vm.findClass "MuseumHouse$Finds" = some m.cls := hown
  have hS : va_S (hA ad s.heap.size) s.heap s.heap [] := va_S.rf
  have hl := lv_entry ([.ref (ad 4), .int x1]) (n := 2) (Nat.le_of_ble_eq_true rfl)
  rw [lg_entry_eq]
  generalize (lg_sl ([.ref (ad 4), .int x1]) ++ List.replicate (2 - (lg_sl ([.ref (ad 4), .int x1])).length) Slot.unset).toArray = ls at hl ⊢
  have hl : lv_has ls 2 [(0, .ref (ad 4)), (1, .int x1)] := hl
  unfold f_Fi_contextOf at h
  refine lv_aload_n hx hb d_Fi_contextOf_0 rfl (lv_at hl 0 rfl) ?_
  refine va_get (D := D) (ci := 4) (v := .ref (ad 16)) (C := R_Fi) (T := T_Fi) (N := 5) hx hb hts iw_Fi hown G.1 hP 4 rfl rfl 3 (by decide) (hts _ wd_1_96) (fun _ h9 => h9) rfl d_Fi_contextOf_1 ?_
  refine lv_iload_n hx hb d_Fi_contextOf_4 rfl (lv_at hl 1 rfl) ?_
  obtain ⟨v1, e_v1, h⟩ := pu_ob h
  refine pu_iald hx hb G.1 hP 16 5 rfl rfl e_v1 d_Fi_contextOf_5 ?_
  have h := Option.some.inj h
  exact W.iret (v := v1) hx hb hr (fun t ht _ => ⟨by rw [h], ht⟩) (fun _ q => by cases q) d_Fi_contextOf_6
set_option maxHeartbeats 4000000 in
set_option maxRecDepth 100000 in
theorem c_H_origin (l : Launch) (htl : l.stackTraces = false) (D : va_G) (ca : Nat → ClassId) (ad : Nat → Nat) (st : pu_St) (sz : Nat) (x1 : Int32) (r : Int32 ⊕ Nat) (st' : pu_St) (h : f_H_origin st x1 = some (r, st')) : MetX l y_H_origin (.code y_H_origin b_H_origin 5 (some .int) :: tG) { frames := 7, cells := xc r, slots := xs r, locals := 113 } (va_Pc [.ref (ad 0), .int x1] (hPc D ca ad st sz)) (hQ D ca ad (fun v => some (.int v)) r st' sz) (xc r) (xs r) (hA ad sz) := by
  refine hMet (by decide +kernel) ?_
  intro p e s m below meth c hsz C G hP
  obtain ⟨hx, hb, hml, hr, hlocks, hno, hown, hts⟩ := id C
  have hown : s.vm.findClass "MuseumHouse" = some m.cls := hown
  have hS : va_S (hA ad s.heap.size) s.heap s.heap [] := va_S.rf
  have hl := lv_entry ([.ref (ad 0), .int x1]) (n := 5) (Nat.le_of_ble_eq_true rfl)
  rw [lg_entry_eq]
  generalize (lg_sl ([.ref (ad 0), .int x1]) ++ List.replicate (5 - (lg_sl ([.ref (ad 0), .int x1])).length) Slot.unset).toArray = ls at hl ⊢
  have hl : lv_has ls 5 [(0, .ref (ad 0)), (1, .int x1)] := hl
  unfold f_H_origin at h
  refine lv_aload_n hx hb d_H_origin_0 rfl (lv_at hl 0 rfl) ?_
  refine va_get (D := D) (ci := 0) (v := .ref (ad 3)) (C := R_H) (T := T_H) (N := 12) hx hb hts iw_H hown G.1 hP 0 rfl rfl 2 (by decide) (hts _ wd_1_214) (fun _ h9 => h9) rfl d_H_origin_1 ?_
  refine lv_iload_n hx hb d_H_origin_4 rfl (lv_at hl 1 rfl) ?_
  obtain ⟨v1, e_v1, h⟩ := pu_ob h
  refine pu_callR (va_runU (As := [.int x1]) (rest := []) ⟨hx, hb, hml, hown, hts⟩ (c_Rg_numberFor_Co l D ca ad st _ x1 v1 e_v1) (xCU (C := "MuseumHouse$Contexts") (owner := "MuseumHouse$Register") (x := ⟨"MuseumHouse$Contexts", "numberFor", "(I)I"⟩) 1 hts wd_2_39 wd_1_2 wd_4_165 wd_4_166 wd_2_28 wd_4_168 rfl (by decide +kernel) ⟨Nat.le_of_ble_eq_true rfl, Nat.le_of_ble_eq_true rfl⟩) (G.preV hP hS 3 rfl rfl) rfl rfl hl.1 rfl (lv_room (Nat.le_of_ble_eq_true rfl)) d_H_origin_5 ⟨Nat.zero_le _, Nat.zero_le _⟩) ?_
  refine lv_istore_n (lv' := [(2, .int v1), (0, .ref (ad 0)), (1, .int x1)]) hx hb d_H_origin_8 rfl hl (by decide) rfl (fun ls hl => ?_)
  refine lv_iload_n hx hb d_H_origin_9 rfl (lv_at hl 0 rfl) ?_
  refine lv_iconst (v := (-1)) hx hb d_H_origin_10 (by decide) ?_
  refine lv_icmp_eq (tgt := 30) hx hb d_H_origin_11 (by decide) (fun c2 => ?_) (fun c2 => ?_)
  · rw [if_pos c2] at h
    refine lv_aload_n hx hb d_H_origin_30 rfl (lv_at hl 1 rfl) ?_
    refine va_get (D := D) (ci := 0) (v := .ref (ad 4)) (C := R_H) (T := T_H) (N := 12) hx hb hts iw_H hown G.1 hP 0 rfl rfl 3 (by decide) (hts _ wd_1_215) (fun _ h9 => h9) rfl d_H_origin_31 ?_
    refine lv_iload_n hx hb d_H_origin_34 rfl (lv_at hl 2 rfl) ?_
    obtain ⟨v3, e_v3, h⟩ := pu_ob h
    refine pu_callR (va_runU (As := [.int x1]) (rest := []) ⟨hx, hb, hml, hown, hts⟩ (c_Rg_numberFor_Fi l D ca ad st _ x1 v3 e_v3) (xCU (C := "MuseumHouse$Finds") (owner := "MuseumHouse$Register") (x := ⟨"MuseumHouse$Finds", "numberFor", "(I)I"⟩) 1 hts wd_2_39 wd_1_2 wd_4_170 wd_4_171 wd_2_28 wd_4_172 rfl (by decide +kernel) ⟨Nat.le_of_ble_eq_true rfl, Nat.le_of_ble_eq_true rfl⟩) (G.preV hP hS 4 rfl rfl) rfl rfl hl.1 rfl (lv_room (Nat.le_of_ble_eq_true rfl)) d_H_origin_35 ⟨Nat.zero_le _, Nat.zero_le _⟩) ?_
    refine lv_istore_n (lv' := [(3, .int v3), (2, .int v1), (0, .ref (ad 0)), (1, .int x1)]) hx hb d_H_origin_38 rfl hl (by decide) rfl (fun ls hl => ?_)
    refine lv_iload_n hx hb d_H_origin_39 rfl (lv_at hl 0 rfl) ?_
    refine lv_iconst (v := (-1)) hx hb d_H_origin_40 (by decide) ?_
    refine lv_icmp_eq (tgt := 60) hx hb d_H_origin_41 (by decide) (fun c4 => ?_) (fun c4 => ?_)
    · rw [if_pos c4] at h
      refine lv_aload_n hx hb d_H_origin_60 rfl (lv_at hl 2 rfl) ?_
      refine lv_aload_n hx hb d_H_origin_61 rfl (lv_at hl 2 rfl) ?_
      refine va_get (D := D) (ci := 0) (v := .ref (ad 5)) (C := R_H) (T := T_H) (N := 12) hx hb hts iw_H hown G.1 hP 0 rfl rfl 4 (by decide) (hts _ wd_1_216) (fun _ h9 => h9) rfl d_H_origin_62 ?_
      refine lv_iload_n hx hb d_H_origin_65 rfl (lv_at hl 3 rfl) ?_
      rcases pu_xb_inv h with ⟨v5, st6, e_v5, h⟩ | ⟨v5, st6, e_v5, h⟩
      · refine hCallI G hS (va_runV (As := [.ref (ad 5), .int x1]) (rest := []) ⟨hx, hb, hml, hown, hts⟩ (MetX.met (c_H_numberOf_It l htl D ca ad st _ x1 _ _ e_v5) (fun _ _ _ _ q => ⟨_, q.1⟩)) (xCW (C := "MuseumHouse") 2 hts wd_2_26 wd_1_1 wd_2_23 wd_2_25 wd_0_0 (by decide +kernel) ⟨Nat.le_of_ble_eq_true rfl, Nat.le_of_ble_eq_true rfl⟩) (G.preV hP hS 0 rfl rfl) rfl rfl hl.1 rfl (lv_room (Nat.le_of_ble_eq_true rfl)) d_H_origin_66 ⟨Nat.zero_le _, Nat.zero_le _⟩) (fun H locs hP hS => ?_)
        refine lv_istore (lv' := [(4, .int v5), (3, .int v3), (2, .int v1), (0, .ref (ad 0)), (1, .int x1)]) hx hb d_H_origin_69 hl (by decide) rfl (fun ls hl => ?_)
        refine lv_aload_n hx hb d_H_origin_71 rfl (lv_at hl 3 rfl) ?_
        refine va_get (D := D) (ci := 0) (v := .ref (ad 4)) (C := R_H) (T := T_H) (N := 12) hx hb hts iw_H hown G.1 hP 0 rfl rfl 3 (by decide) (hts _ wd_1_215) (fun _ h9 => h9) rfl d_H_origin_72 ?_
        refine lv_aload_n hx hb d_H_origin_75 rfl (lv_at hl 3 rfl) ?_
        refine va_get (D := D) (ci := 0) (v := .ref (ad 5)) (C := R_H) (T := T_H) (N := 12) hx hb hts iw_H hown G.1 hP 0 rfl rfl 4 (by decide) (hts _ wd_1_216) (fun _ h9 => h9) rfl d_H_origin_76 ?_
        refine lv_iload hx hb d_H_origin_79 (lv_at hl 0 rfl) ?_
        obtain ⟨v7, e_v7, h⟩ := pu_ob h
        refine pu_callR (va_runV (As := [.int v5]) (rest := [.ref (ad 4)]) ⟨hx, hb, hml, hown, hts⟩ (c_It_findOf l D ca ad st6 _ v5 v7 e_v7) (xCW (C := "MuseumHouse$Items") 1 hts wd_4_181 wd_1_7 wd_4_178 wd_4_179 wd_4_180 (by decide +kernel) ⟨Nat.le_of_ble_eq_true rfl, Nat.le_of_ble_eq_true rfl⟩) (G.preV hP hS 5 rfl rfl) rfl rfl hl.1 rfl (lv_room (Nat.le_of_ble_eq_true rfl)) d_H_origin_81 ⟨Nat.zero_le _, Nat.zero_le _⟩) ?_
        obtain ⟨v8, e_v8, h⟩ := pu_ob h
        refine pu_callR (va_runU (As := [.int v7]) (rest := []) ⟨hx, hb, hml, hown, hts⟩ (c_Rg_handleOf_Fi l D ca ad st6 _ v7 v8 e_v8) (xCU (C := "MuseumHouse$Finds") (owner := "MuseumHouse$Register") (x := ⟨"MuseumHouse$Finds", "handleOf", "(I)I"⟩) 1 hts wd_2_164 wd_1_2 wd_4_182 wd_3_76 wd_2_163 wd_3_77 rfl (by decide +kernel) ⟨Nat.le_of_ble_eq_true rfl, Nat.le_of_ble_eq_true rfl⟩) (G.preV hP hS 4 rfl rfl) rfl rfl hl.1 rfl (lv_room (Nat.le_of_ble_eq_true rfl)) d_H_origin_84 ⟨Nat.zero_le _, Nat.zero_le _⟩) ?_
        cases h
        exact W.toX (W.iret hx hb hr (fun t ht _ => ⟨rfl, by rw [ht]; exact hP, hS.F ht⟩) hS.2.2 d_H_origin_87)
      · cases h
        exact hThrV G hS hno hlocks ⟨hx, hb, hml, hown, hts⟩ (As := [.ref (ad 5), .int x1]) (rest := []) (c_H_numberOf_It l htl D ca ad st _ x1 _ _ e_v5) (xCW (C := "MuseumHouse") 2 hts wd_2_26 wd_1_1 wd_2_23 wd_2_25 wd_0_0 (by decide +kernel) ⟨Nat.le_of_ble_eq_true rfl, Nat.le_of_ble_eq_true rfl⟩) (G.preV hP hS 0 rfl rfl) rfl rfl hl.1 rfl (lv_room (Nat.le_of_ble_eq_true rfl)) d_H_origin_66 ⟨Nat.le_of_ble_eq_true rfl, Nat.le_of_ble_eq_true rfl⟩
    · rw [if_neg c4] at h
      refine lv_aload_n hx hb d_H_origin_44 rfl (lv_at hl 2 rfl) ?_
      refine va_get (D := D) (ci := 0) (v := .ref (ad 3)) (C := R_H) (T := T_H) (N := 12) hx hb hts iw_H hown G.1 hP 0 rfl rfl 2 (by decide) (hts _ wd_1_214) (fun _ h9 => h9) rfl d_H_origin_45 ?_
      refine lv_aload_n hx hb d_H_origin_48 rfl (lv_at hl 2 rfl) ?_
      refine va_get (D := D) (ci := 0) (v := .ref (ad 4)) (C := R_H) (T := T_H) (N := 12) hx hb hts iw_H hown G.1 hP 0 rfl rfl 3 (by decide) (hts _ wd_1_215) (fun _ h9 => h9) rfl d_H_origin_49 ?_
      refine lv_iload_n hx hb d_H_origin_52 rfl (lv_at hl 0 rfl) ?_
      obtain ⟨v9, e_v9, h⟩ := pu_ob h
      refine pu_callR (va_runV (As := [.int v3]) (rest := [.ref (ad 3)]) ⟨hx, hb, hml, hown, hts⟩ (c_Fi_contextOf l D ca ad st _ v3 v9 e_v9) (xCW (C := "MuseumHouse$Finds") 1 hts wd_4_176 wd_1_6 wd_4_173 wd_4_174 wd_4_175 (by decide +kernel) ⟨Nat.le_of_ble_eq_true rfl, Nat.le_of_ble_eq_true rfl⟩) (G.preV hP hS 4 rfl rfl) rfl rfl hl.1 rfl (lv_room (Nat.le_of_ble_eq_true rfl)) d_H_origin_53 ⟨Nat.zero_le _, Nat.zero_le _⟩) ?_
      obtain ⟨v10, e_v10, h⟩ := pu_ob h
      refine pu_callR (va_runU (As := [.int v9]) (rest := []) ⟨hx, hb, hml, hown, hts⟩ (c_Rg_handleOf_Co l D ca ad st _ v9 v10 e_v10) (xCU (C := "MuseumHouse$Contexts") (owner := "MuseumHouse$Register") (x := ⟨"MuseumHouse$Contexts", "handleOf", "(I)I"⟩) 1 hts wd_2_164 wd_1_2 wd_4_177 wd_2_210 wd_2_163 wd_2_211 rfl (by decide +kernel) ⟨Nat.le_of_ble_eq_true rfl, Nat.le_of_ble_eq_true rfl⟩) (G.preV hP hS 3 rfl rfl) rfl rfl hl.1 rfl (lv_room (Nat.le_of_ble_eq_true rfl)) d_H_origin_56 ⟨Nat.zero_le _, Nat.zero_le _⟩) ?_
      cases h
      exact W.toX (W.iret hx hb hr (fun t ht _ => ⟨rfl, by rw [ht]; exact hP, hS.F ht⟩) hS.2.2 d_H_origin_59)
  · rw [if_neg c2] at h
    refine lv_aload_n hx hb d_H_origin_14 rfl (lv_at hl 1 rfl) ?_
    refine va_get (D := D) (ci := 0) (v := .ref (ad 2)) (C := R_H) (T := T_H) (N := 12) hx hb hts iw_H hown G.1 hP 0 rfl rfl 1 (by decide) (hts _ wd_1_213) (fun _ h9 => h9) rfl d_H_origin_15 ?_
    refine lv_aload_n hx hb d_H_origin_18 rfl (lv_at hl 1 rfl) ?_
    refine va_get (D := D) (ci := 0) (v := .ref (ad 3)) (C := R_H) (T := T_H) (N := 12) hx hb hts iw_H hown G.1 hP 0 rfl rfl 2 (by decide) (hts _ wd_1_214) (fun _ h9 => h9) rfl d_H_origin_19 ?_
    refine lv_iload_n hx hb d_H_origin_22 rfl (lv_at hl 0 rfl) ?_
    obtain ⟨v11, e_v11, h⟩ := pu_ob h
    refine pu_callR (va_runV (As := [.int v1]) (rest := [.ref (ad 2)]) ⟨hx, hb, hml, hown, hts⟩ (c_Co_siteOf l D ca ad st _ v1 v11 e_v11) (xCW (C := "MuseumHouse$Contexts") 1 hts wd_2_222 wd_1_5 wd_2_219 wd_2_220 wd_2_221 (by decide +kernel) ⟨Nat.le_of_ble_eq_true rfl, Nat.le_of_ble_eq_true rfl⟩) (G.preV hP hS 3 rfl rfl) rfl rfl hl.1 rfl (lv_room (Nat.le_of_ble_eq_true rfl)) d_H_origin_23 ⟨Nat.zero_le _, Nat.zero_le _⟩) ?_
    obtain ⟨v12, e_v12, h⟩ := pu_ob h
    refine pu_callR (va_runU (As := [.int v11]) (rest := []) ⟨hx, hb, hml, hown, hts⟩ (c_Rg_handleOf_Si l D ca ad st _ v11 v12 e_v12) (xCU (C := "MuseumHouse$Sites") (owner := "MuseumHouse$Register") (x := ⟨"MuseumHouse$Sites", "handleOf", "(I)I"⟩) 1 hts wd_2_164 wd_1_2 wd_4_169 wd_2_190 wd_2_163 wd_2_191 rfl (by decide +kernel) ⟨Nat.le_of_ble_eq_true rfl, Nat.le_of_ble_eq_true rfl⟩) (G.preV hP hS 2 rfl rfl) rfl rfl hl.1 rfl (lv_room (Nat.le_of_ble_eq_true rfl)) d_H_origin_26 ⟨Nat.zero_le _, Nat.zero_le _⟩) ?_
    cases h
    exact W.toX (W.iret hx hb hr (fun t ht _ => ⟨rfl, by rw [ht]; exact hP, hS.F ht⟩) hS.2.2 d_H_origin_29)
set_option maxHeartbeats 4000000 in
set_option maxRecDepth 100000 in
theorem c_Sh_storeOf (l : Launch) (D : va_G) (ca : Nat → ClassId) (ad : Nat → Nat) (st : pu_St) (sz : Nat) (x1 : Int32) (r : Int32) (h : f_Sh_storeOf st x1 = some r) : Met l y_Sh_storeOf (.code y_Sh_storeOf b_Sh_storeOf 2 (some .int) :: tG) { frames := 0, cells := 0, slots := 0, locals := 0 } (va_Pc [.ref (ad 9), .int x1] (hPc D ca ad st sz)) (QcRead r) 0 0 (fun _ => False) := by
  refine hRead (by decide +kernel) ?_
  intro p e s m below meth c C G hP
  obtain ⟨hx, hb, hml, hr, hlocks, hno, hown, hts⟩ := id C
  have hown : s.vm.findClass "MuseumHouse$Shows" = some m.cls := hown
  have hS : va_S (hA ad s.heap.size) s.heap s.heap [] := va_S.rf
  have hl := lv_entry ([.ref (ad 9), .int x1]) (n := 2) (Nat.le_of_ble_eq_true rfl)
  rw [lg_entry_eq]
  generalize (lg_sl ([.ref (ad 9), .int x1]) ++ List.replicate (2 - (lg_sl ([.ref (ad 9), .int x1])).length) Slot.unset).toArray = ls at hl ⊢
  have hl : lv_has ls 2 [(0, .ref (ad 9)), (1, .int x1)] := hl
  unfold f_Sh_storeOf at h
  refine lv_aload_n hx hb d_Sh_storeOf_0 rfl (lv_at hl 0 rfl) ?_
  refine va_get (D := D) (ci := 9) (v := .ref (ad 27)) (C := R_Sh) (T := T_Sh) (N := 7) hx hb hts iw_Sh hown G.1 hP 9 rfl rfl 3 (by decide) (hts _ wd_1_176) (fun _ h9 => h9) rfl d_Sh_storeOf_1 ?_
  refine lv_iload_n hx hb d_Sh_storeOf_4 rfl (lv_at hl 1 rfl) ?_
  obtain ⟨v1, e_v1, h⟩ := pu_ob h
  refine pu_iald hx hb G.1 hP 27 16 rfl rfl e_v1 d_Sh_storeOf_5 ?_
  have h := Option.some.inj h
  exact W.iret (v := v1) hx hb hr (fun t ht _ => ⟨by rw [h], ht⟩) (fun _ q => by cases q) d_Sh_storeOf_6
set_option maxHeartbeats 4000000 in
set_option maxRecDepth 100000 in
theorem c_H_hall (l : Launch) (htl : l.stackTraces = false) (D : va_G) (ca : Nat → ClassId) (ad : Nat → Nat) (st : pu_St) (sz : Nat) (x1 : Int32) (r : Int32 ⊕ Nat) (st' : pu_St) (h : f_H_hall st x1 = some (r, st')) : MetX l y_H_hall (.code y_H_hall b_H_hall 3 (some .int) :: tG) { frames := 7, cells := xc r, slots := xs r, locals := 113 } (va_Pc [.ref (ad 0), .int x1] (hPc D ca ad st sz)) (hQ D ca ad (fun v => some (.int v)) r st' sz) (xc r) (xs r) (hA ad sz) := by
  refine hMet (by decide +kernel) ?_
  intro p e s m below meth c hsz C G hP
  obtain ⟨hx, hb, hml, hr, hlocks, hno, hown, hts⟩ := id C
  have hown : s.vm.findClass "MuseumHouse" = some m.cls := hown
  have hS : va_S (hA ad s.heap.size) s.heap s.heap [] := va_S.rf
  have hl := lv_entry ([.ref (ad 0), .int x1]) (n := 3) (Nat.le_of_ble_eq_true rfl)
  rw [lg_entry_eq]
  generalize (lg_sl ([.ref (ad 0), .int x1]) ++ List.replicate (3 - (lg_sl ([.ref (ad 0), .int x1])).length) Slot.unset).toArray = ls at hl ⊢
  have hl : lv_has ls 3 [(0, .ref (ad 0)), (1, .int x1)] := hl
  unfold f_H_hall at h
  refine lv_aload_n hx hb d_H_hall_0 rfl (lv_at hl 0 rfl) ?_
  refine lv_aload_n hx hb d_H_hall_1 rfl (lv_at hl 0 rfl) ?_
  refine va_get (D := D) (ci := 0) (v := .ref (ad 9)) (C := R_H) (T := T_H) (N := 12) hx hb hts iw_H hown G.1 hP 0 rfl rfl 8 (by decide) (hts _ wd_1_220) (fun _ h9 => h9) rfl d_H_hall_2 ?_
  refine lv_iload_n hx hb d_H_hall_5 rfl (lv_at hl 1 rfl) ?_
  rcases pu_xb_inv h with ⟨v1, st2, e_v1, h⟩ | ⟨v1, st2, e_v1, h⟩
  · refine hCallI G hS (va_runV (As := [.ref (ad 9), .int x1]) (rest := []) ⟨hx, hb, hml, hown, hts⟩ (MetX.met (c_H_numberOf_Sh l htl D ca ad st _ x1 _ _ e_v1) (fun _ _ _ _ q => ⟨_, q.1⟩)) (xCW (C := "MuseumHouse") 2 hts wd_2_26 wd_1_1 wd_2_23 wd_2_25 wd_0_0 (by decide +kernel) ⟨Nat.le_of_ble_eq_true rfl, Nat.le_of_ble_eq_true rfl⟩) (G.preV hP hS 0 rfl rfl) rfl rfl hl.1 rfl (lv_room (Nat.le_of_ble_eq_true rfl)) d_H_hall_6 ⟨Nat.zero_le _, Nat.zero_le _⟩) (fun H locs hP hS => ?_)
    refine lv_istore_n (lv' := [(2, .int v1), (0, .ref (ad 0)), (1, .int x1)]) hx hb d_H_hall_9 rfl hl (by decide) rfl (fun ls hl => ?_)
    refine lv_aload_n hx hb d_H_hall_10 rfl (lv_at hl 1 rfl) ?_
    refine va_get (D := D) (ci := 0) (v := .ref (ad 7)) (C := R_H) (T := T_H) (N := 12) hx hb hts iw_H hown G.1 hP 0 rfl rfl 6 (by decide) (hts _ wd_1_218) (fun _ h9 => h9) rfl d_H_hall_11 ?_
    refine lv_aload_n hx hb d_H_hall_14 rfl (lv_at hl 1 rfl) ?_
    refine va_get (D := D) (ci := 0) (v := .ref (ad 9)) (C := R_H) (T := T_H) (N := 12) hx hb hts iw_H hown G.1 hP 0 rfl rfl 8 (by decide) (hts _ wd_1_220) (fun _ h9 => h9) rfl d_H_hall_15 ?_
    refine lv_iload_n hx hb d_H_hall_18 rfl (lv_at hl 0 rfl) ?_
    obtain ⟨v3, e_v3, h⟩ := pu_ob h
    refine pu_callR (va_runV (As := [.int v1]) (rest := [.ref (ad 7)]) ⟨hx, hb, hml, hown, hts⟩ (c_Sh_storeOf l D ca ad st2 _ v1 v3 e_v3) (xCW (C := "MuseumHouse$Shows") 1 hts wd_4_193 wd_1_11 wd_4_190 wd_4_191 wd_4_192 (by decide +kernel) ⟨Nat.le_of_ble_eq_true rfl, Nat.le_of_ble_eq_true rfl⟩) (G.preV hP hS 9 rfl rfl) rfl rfl hl.1 rfl (lv_room (Nat.le_of_ble_eq_true rfl)) d_H_hall_19 ⟨Nat.zero_le _, Nat.zero_le _⟩) ?_
    obtain ⟨v4, e_v4, h⟩ := pu_ob h
    refine pu_callR (va_runU (As := [.int v3]) (rest := []) ⟨hx, hb, hml, hown, hts⟩ (c_Rg_handleOf_So l D ca ad st2 _ v3 v4 e_v4) (xCU (C := "MuseumHouse$Stores") (owner := "MuseumHouse$Register") (x := ⟨"MuseumHouse$Stores", "handleOf", "(I)I"⟩) 1 hts wd_2_164 wd_1_2 wd_3_224 wd_3_131 wd_2_163 wd_3_132 rfl (by decide +kernel) ⟨Nat.le_of_ble_eq_true rfl, Nat.le_of_ble_eq_true rfl⟩) (G.preV hP hS 7 rfl rfl) rfl rfl hl.1 rfl (lv_room (Nat.le_of_ble_eq_true rfl)) d_H_hall_22 ⟨Nat.zero_le _, Nat.zero_le _⟩) ?_
    cases h
    exact W.toX (W.iret hx hb hr (fun t ht _ => ⟨rfl, by rw [ht]; exact hP, hS.F ht⟩) hS.2.2 d_H_hall_25)
  · cases h
    exact hThrV G hS hno hlocks ⟨hx, hb, hml, hown, hts⟩ (As := [.ref (ad 9), .int x1]) (rest := []) (c_H_numberOf_Sh l htl D ca ad st _ x1 _ _ e_v1) (xCW (C := "MuseumHouse") 2 hts wd_2_26 wd_1_1 wd_2_23 wd_2_25 wd_0_0 (by decide +kernel) ⟨Nat.le_of_ble_eq_true rfl, Nat.le_of_ble_eq_true rfl⟩) (G.preV hP hS 0 rfl rfl) rfl rfl hl.1 rfl (lv_room (Nat.le_of_ble_eq_true rfl)) d_H_hall_6 ⟨Nat.le_of_ble_eq_true rfl, Nat.le_of_ble_eq_true rfl⟩
set_option maxHeartbeats 4000000 in
set_option maxRecDepth 100000 in
theorem c_H_rule (l : Launch) (D : va_G) (ca : Nat → ClassId) (ad : Nat → Nat) (st : pu_St) (sz : Nat) (r : Int32) (h : f_H_rule st = some r) : Met l y_H_rule (.code y_H_rule b_H_rule 1 (some .int) :: tG) { frames := 0, cells := 0, slots := 0, locals := 0 } (va_Pc [.ref (ad 0)] (hPc D ca ad st sz)) (QcRead r) 0 0 (fun _ => False) := by
  refine hRead (by decide +kernel) ?_
  intro p e s m below meth c C G hP
  obtain ⟨hx, hb, hml, hr, hlocks, hno, hown, hts⟩ := id C
  have hown : s.vm.findClass "MuseumHouse" = some m.cls := hown
  have hS : va_S (hA ad s.heap.size) s.heap s.heap [] := va_S.rf
  have hl := lv_entry ([.ref (ad 0)]) (n := 1) (Nat.le_of_ble_eq_true rfl)
  rw [lg_entry_eq]
  generalize (lg_sl ([.ref (ad 0)]) ++ List.replicate (1 - (lg_sl ([.ref (ad 0)])).length) Slot.unset).toArray = ls at hl ⊢
  have hl : lv_has ls 1 [(0, .ref (ad 0))] := hl
  unfold f_H_rule at h
  refine lv_aload_n hx hb d_H_rule_0 rfl (lv_at hl 0 rfl) ?_
  refine va_get (D := D) (ci := 0) (v := .int (st.1 1)) (C := R_H) (T := T_H) (N := 12) hx hb hts iw_H hown G.1 hP 0 rfl rfl 11 (by decide) (hts _ wd_1_223) (fun _ h9 => h9) rfl d_H_rule_1 ?_
  have h := Option.some.inj h
  exact W.iret (v := (st.1 1)) hx hb hr (fun t ht _ => ⟨by rw [h], ht⟩) (fun _ q => by cases q) d_H_rule_4
set_option maxHeartbeats 4000000 in
set_option maxRecDepth 100000 in
theorem c_Rg_size_So (l : Launch) (D : va_G) (ca : Nat → ClassId) (ad : Nat → Nat) (st : pu_St) (sz : Nat) (r : Int32) (h : f_Rg_size_So st = some r) : Met l y_Rg_size (.code y_Rg_size b_Rg_size 1 (some .int) :: tG) { frames := 0, cells := 0, slots := 0, locals := 0 } (va_Pc [.ref (ad 7)] (hPc D ca ad st sz)) (QcRead r) 0 0 (fun _ => False) := by
  refine hRead (by decide +kernel) ?_
  intro p e s m below meth c C G hP
  obtain ⟨hx, hb, hml, hr, hlocks, hno, hown, hts⟩ := id C
  have hown : s.vm.findClass "MuseumHouse$Register" = some m.cls := hown
  have hS : va_S (hA ad s.heap.size) s.heap s.heap [] := va_S.rf
  have hl := lv_entry ([.ref (ad 7)]) (n := 1) (Nat.le_of_ble_eq_true rfl)
  rw [lg_entry_eq]
  generalize (lg_sl ([.ref (ad 7)]) ++ List.replicate (1 - (lg_sl ([.ref (ad 7)])).length) Slot.unset).toArray = ls at hl ⊢
  have hl : lv_has ls 1 [(0, .ref (ad 7))] := hl
  unfold f_Rg_size_So at h
  refine lv_aload_n hx hb d_Rg_size_0 rfl (lv_at hl 0 rfl) ?_
  refine va_get (D := D) (ci := 7) (v := .int (st.1 7)) (C := R_So) (T := T_So) (N := 4) hx hb hts iw_So hown G.1 hP 7 rfl rfl 2 (by decide) (hts _ wd_1_47) (fun _ h9 => h9) rfl d_Rg_size_1 ?_
  have h := Option.some.inj h
  exact W.iret (v := (st.1 7)) hx hb hr (fun t ht _ => ⟨by rw [h], ht⟩) (fun _ q => by cases q) d_Rg_size_4

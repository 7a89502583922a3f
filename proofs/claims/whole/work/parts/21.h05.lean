set_option maxHeartbeats 4000000 in
set_option maxRecDepth 100000 in
theorem t_H_loan_b77 {l : Launch} (htl : l.stackTraces = false) {p : Program} {e : Env} {s : State} {m : MethodId} {args : Array Value} {below : List Frame} {meth : Method} {c : Code} {D : va_G} {ca : Nat → ClassId} {ad : Nat → Nat} {st' : pu_St} {r : Int32 ⊕ Nat} (C : hC p s m meth c args b_H_loan 7 (some .int) "MuseumHouse") (G : hX D ca ad (hA ad s.heap.size) s) :
    ∀ (_ : Unit) (st : pu_St) (x1 x2 x3 x4 x5 x6 z0 z1 : Int32), f_H_loan_b77 st x1 x2 x3 x4 x5 x6 z0 z1 = some (r, st') → ∀ (H : Heap) (locs : List Loc), va_P D hcl (hW ca ad st) H → va_S (hA ad s.heap.size) s.heap H locs → ∀ ls : Array Slot, lv_has ls 7 [(0, .ref (ad 0)), (1, .int x1), (2, .int x2), (3, .int x3), (4, .int x4), (5, .int x5), (6, .int x6)] → W p l e { frames := 8, cells := xc r, slots := xs r, locals := 135 } s m args below meth c H locs 0 0 (MQX below (hQ D ca ad (fun v => some (.int v)) r st' s.heap.size) args s (xc r) (xs r) (hA ad s.heap.size)) (F0 m 77 ls [.int z0, .int z1, .ref (ad 0)]) := by
  obtain ⟨hx, hb, hml, hr, hlocks, hno, hown, hts⟩ := id C
  intro _ st x1 x2 x3 x4 x5 x6 z0 z1 h H locs hP hS ls hl
  unfold f_H_loan_b77 at h
  rcases pu_xb_inv h with ⟨v16, st17, e_v16, h⟩ | ⟨v16, st17, e_v16, h⟩
  · refine hCallU G hS (va_runV (As := [.int z1, .int z0]) (rest := []) ⟨hx, hb, hml, hown, hts⟩ (MetX.met (c_H_ask l htl D ca ad st _ z1 z0 _ _ e_v16) (fun _ _ _ _ q => ⟨_, q.1⟩)) (xCW (C := "MuseumHouse") 2 hts wd_2_139 wd_1_1 wd_2_136 wd_2_138 wd_0_4 (by decide +kernel) ⟨Nat.le_of_ble_eq_true rfl, Nat.le_of_ble_eq_true rfl⟩) (G.preV hP hS 0 rfl rfl) rfl rfl hl.1 rfl (lv_room (Nat.le_of_ble_eq_true rfl)) d_H_loan_77 ⟨Nat.zero_le _, Nat.zero_le _⟩) (fun H locs hP hS => ?_)
    refine lv_aload_n hx hb d_H_loan_80 rfl (lv_at hl 0 rfl) ?_
    refine lv_iload hx hb d_H_loan_81 (lv_at hl 6 rfl) ?_
    refine lv_iload_n hx hb d_H_loan_83 rfl (lv_at hl 3 rfl) ?_
    refine lv_iload hx hb d_H_loan_84 (lv_at hl 4 rfl) ?_
    rcases pu_xb_inv h with ⟨v18, st19, e_v18, h⟩ | ⟨v18, st19, e_v18, h⟩
    · refine hCallU G hS (va_runV (As := [.int x6, .int x3, .int x4]) (rest := []) ⟨hx, hb, hml, hown, hts⟩ (MetX.met (c_H_askFree l htl D ca ad st17 _ x6 x3 x4 _ _ e_v18) (fun _ _ _ _ q => ⟨_, q.1⟩)) (xCW (C := "MuseumHouse") 3 hts wd_4_6 wd_1_1 wd_4_3 wd_4_5 wd_0_12 (by decide +kernel) ⟨Nat.le_of_ble_eq_true rfl, Nat.le_of_ble_eq_true rfl⟩) (G.preV hP hS 0 rfl rfl) rfl rfl hl.1 rfl (lv_room (Nat.le_of_ble_eq_true rfl)) d_H_loan_86 ⟨Nat.zero_le _, Nat.zero_le _⟩) (fun H locs hP hS => ?_)
      refine lv_aload_n hx hb d_H_loan_89 rfl (lv_at hl 0 rfl) ?_
      refine va_get (D := D) (ci := 0) (v := .ref (ad 8)) (C := R_H) (T := T_H) (N := 12) hx hb hts iw_H hown G.1 hP 0 rfl rfl 7 (by decide) (hts _ wd_1_219) (fun _ h9 => h9) rfl d_H_loan_90 ?_
      refine lv_iload hx hb d_H_loan_93 (lv_at hl 6 rfl) ?_
      refine lv_iload_n hx hb d_H_loan_95 rfl (lv_at hl 3 rfl) ?_
      refine lv_iload hx hb d_H_loan_96 (lv_at hl 4 rfl) ?_
      obtain ⟨q20, e_q20, h⟩ := pu_ob h
      refine hCallI G hS (va_runV (As := [.int x6, .int x3, .int x4]) (rest := []) ⟨hx, hb, hml, hown, hts⟩ (MetX.met (c_Lo_lend l htl D ca ad st19 _ x6 x3 x4 q20.1 q20.2 e_q20) (fun _ _ _ _ q => ⟨_, q.1⟩)) (xCW (C := "MuseumHouse$Loans") 3 hts wd_4_29 wd_1_10 wd_4_26 wd_4_27 wd_4_28 (by decide +kernel) ⟨Nat.le_of_ble_eq_true rfl, Nat.le_of_ble_eq_true rfl⟩) (G.preV hP hS 8 rfl rfl) rfl rfl hl.1 rfl (lv_room (Nat.le_of_ble_eq_true rfl)) d_H_loan_98 ⟨Nat.zero_le _, Nat.zero_le _⟩) (fun H locs hP hS => ?_)
      cases h
      exact W.toX (W.iret hx hb hr (fun t ht _ => ⟨rfl, by rw [ht]; exact hP, hS.F ht⟩) hS.2.2 d_H_loan_101)
    · cases h
      exact hThrV G hS hno hlocks ⟨hx, hb, hml, hown, hts⟩ (As := [.int x6, .int x3, .int x4]) (rest := []) (c_H_askFree l htl D ca ad st17 _ x6 x3 x4 _ _ e_v18) (xCW (C := "MuseumHouse") 3 hts wd_4_6 wd_1_1 wd_4_3 wd_4_5 wd_0_12 (by decide +kernel) ⟨Nat.le_of_ble_eq_true rfl, Nat.le_of_ble_eq_true rfl⟩) (G.preV hP hS 0 rfl rfl) rfl rfl hl.1 rfl (lv_room (Nat.le_of_ble_eq_true rfl)) d_H_loan_86 ⟨Nat.le_of_ble_eq_true rfl, Nat.le_of_ble_eq_true rfl⟩
  · cases h
    exact hThrV G hS hno hlocks ⟨hx, hb, hml, hown, hts⟩ (As := [.int z1, .int z0]) (rest := []) (c_H_ask l htl D ca ad st _ z1 z0 _ _ e_v16) (xCW (C := "MuseumHouse") 2 hts wd_2_139 wd_1_1 wd_2_136 wd_2_138 wd_0_4 (by decide +kernel) ⟨Nat.le_of_ble_eq_true rfl, Nat.le_of_ble_eq_true rfl⟩) (G.preV hP hS 0 rfl rfl) rfl rfl hl.1 rfl (lv_room (Nat.le_of_ble_eq_true rfl)) d_H_loan_77 ⟨Nat.le_of_ble_eq_true rfl, Nat.le_of_ble_eq_true rfl⟩
set_option maxHeartbeats 4000000 in
set_option maxRecDepth 100000 in
theorem t_H_loan_b76 {l : Launch} (htl : l.stackTraces = false) {p : Program} {e : Env} {s : State} {m : MethodId} {args : Array Value} {below : List Frame} {meth : Method} {c : Code} {D : va_G} {ca : Nat → ClassId} {ad : Nat → Nat} {st' : pu_St} {r : Int32 ⊕ Nat} (C : hC p s m meth c args b_H_loan 7 (some .int) "MuseumHouse") (G : hX D ca ad (hA ad s.heap.size) s) :
    ∀ (_ : Unit) (st : pu_St) (x1 x2 x3 x4 x5 x6 z0 : Int32), f_H_loan_b76 st x1 x2 x3 x4 x5 x6 z0 = some (r, st') → ∀ (H : Heap) (locs : List Loc), va_P D hcl (hW ca ad st) H → va_S (hA ad s.heap.size) s.heap H locs → ∀ ls : Array Slot, lv_has ls 7 [(0, .ref (ad 0)), (1, .int x1), (2, .int x2), (3, .int x3), (4, .int x4), (5, .int x5), (6, .int x6)] → W p l e { frames := 8, cells := xc r, slots := xs r, locals := 135 } s m args below meth c H locs 0 0 (MQX below (hQ D ca ad (fun v => some (.int v)) r st' s.heap.size) args s (xc r) (xs r) (hA ad s.heap.size)) (F0 m 76 ls [.int z0, .ref (ad 0)]) := by
  obtain ⟨hx, hb, hml, hr, hlocks, hno, hown, hts⟩ := id C
  intro _ st x1 x2 x3 x4 x5 x6 z0 h H locs hP hS ls hl
  unfold f_H_loan_b76 at h
  refine lv_iconst (v := 0) hx hb d_H_loan_76 (by decide) ?_
  exact t_H_loan_b77 htl C G () st x1 x2 x3 x4 x5 x6 0 z0 h _ _ hP hS ls (lv_sub hl [0, 1, 2, 3, 4, 5, 6] rfl)
set_option maxHeartbeats 4000000 in
set_option maxRecDepth 100000 in
theorem t_H_loan_b46 {l : Launch} (htl : l.stackTraces = false) {p : Program} {e : Env} {s : State} {m : MethodId} {args : Array Value} {below : List Frame} {meth : Method} {c : Code} {D : va_G} {ca : Nat → ClassId} {ad : Nat → Nat} {st' : pu_St} {r : Int32 ⊕ Nat} (C : hC p s m meth c args b_H_loan 7 (some .int) "MuseumHouse") (G : hX D ca ad (hA ad s.heap.size) s) :
    ∀ (_ : Unit) (st : pu_St) (x1 x2 x3 x4 x5 x6 z0 : Int32), f_H_loan_b46 st x1 x2 x3 x4 x5 x6 z0 = some (r, st') → ∀ (H : Heap) (locs : List Loc), va_P D hcl (hW ca ad st) H → va_S (hA ad s.heap.size) s.heap H locs → ∀ ls : Array Slot, lv_has ls 7 [(0, .ref (ad 0)), (1, .int x1), (2, .int x2), (3, .int x3), (4, .int x4), (5, .int x5), (6, .int x6)] → W p l e { frames := 8, cells := xc r, slots := xs r, locals := 135 } s m args below meth c H locs 0 0 (MQX below (hQ D ca ad (fun v => some (.int v)) r st' s.heap.size) args s (xc r) (xs r) (hA ad s.heap.size)) (F0 m 46 ls [.int z0, .ref (ad 0)]) := by
  obtain ⟨hx, hb, hml, hr, hlocks, hno, hown, hts⟩ := id C
  intro _ st x1 x2 x3 x4 x5 x6 z0 h H locs hP hS ls hl
  unfold f_H_loan_b46 at h
  rcases pu_xb_inv h with ⟨v9, st10, e_v9, h⟩ | ⟨v9, st10, e_v9, h⟩
  · refine hCallU G hS (va_runV (As := [.int z0]) (rest := []) ⟨hx, hb, hml, hown, hts⟩ (MetX.met (c_H_askRoom l htl D ca ad st _ z0 _ _ e_v9) (fun _ _ _ _ q => ⟨_, q.1⟩)) (xCW (C := "MuseumHouse") 1 hts wd_2_135 wd_1_1 wd_2_132 wd_2_134 wd_0_3 (by decide +kernel) ⟨Nat.le_of_ble_eq_true rfl, Nat.le_of_ble_eq_true rfl⟩) (G.preV hP hS 0 rfl rfl) rfl rfl hl.1 rfl (lv_room (Nat.le_of_ble_eq_true rfl)) d_H_loan_46 ⟨Nat.zero_le _, Nat.zero_le _⟩) (fun H locs hP hS => ?_)
    refine lv_aload_n hx hb d_H_loan_49 rfl (lv_at hl 0 rfl) ?_
    refine lv_iconst (v := 4) hx hb d_H_loan_50 (by decide) ?_
    refine lv_iload_n hx hb d_H_loan_51 rfl (lv_at hl 3 rfl) ?_
    obtain ⟨v11, e_v11, h⟩ := pu_ob h
    refine pu_callR (va_runS (As := [.int x3]) (rest := [.int 4, .ref (ad 0)]) ⟨hx, hb, hml, hown, hts⟩ (c_H_isDay l D ca ad st10 _ x3 v11 e_v11) (xCS 1 hts wd_3_67 wd_1_1 wd_3_65 wd_3_66 (by decide +kernel) ⟨Nat.le_of_ble_eq_true rfl, Nat.le_of_ble_eq_true rfl⟩) (G.preS hP hS) rfl rfl hl.1 rfl (lv_room (Nat.le_of_ble_eq_true rfl)) d_H_loan_52 ⟨Nat.zero_le _, Nat.zero_le _⟩) ?_
    refine lv_if_eq (tgt := 76) hx hb d_H_loan_55 (by decide) (fun c12 => ?_) (fun c12 => ?_)
    · rw [if_pos c12] at h
      exact t_H_loan_b76 htl C G () st10 x1 x2 x3 x4 x5 x6 4 h _ _ hP hS ls (lv_sub hl [0, 1, 2, 3, 4, 5, 6] rfl)
    · rw [if_neg c12] at h
      refine lv_iload hx hb d_H_loan_58 (lv_at hl 4 rfl) ?_
      obtain ⟨v13, e_v13, h⟩ := pu_ob h
      refine pu_callR (va_runS (As := [.int x4]) (rest := [.int 4, .ref (ad 0)]) ⟨hx, hb, hml, hown, hts⟩ (c_H_isDay l D ca ad st10 _ x4 v13 e_v13) (xCS 1 hts wd_3_67 wd_1_1 wd_3_65 wd_3_66 (by decide +kernel) ⟨Nat.le_of_ble_eq_true rfl, Nat.le_of_ble_eq_true rfl⟩) (G.preS hP hS) rfl rfl hl.1 rfl (lv_room (Nat.le_of_ble_eq_true rfl)) d_H_loan_60 ⟨Nat.zero_le _, Nat.zero_le _⟩) ?_
      refine lv_if_eq (tgt := 76) hx hb d_H_loan_63 (by decide) (fun c14 => ?_) (fun c14 => ?_)
      · rw [if_pos c14] at h
        exact t_H_loan_b76 htl C G () st10 x1 x2 x3 x4 x5 x6 4 h _ _ hP hS ls (lv_sub hl [0, 1, 2, 3, 4, 5, 6] rfl)
      · rw [if_neg c14] at h
        refine lv_iload_n hx hb d_H_loan_66 rfl (lv_at hl 3 rfl) ?_
        refine lv_iload hx hb d_H_loan_67 (lv_at hl 4 rfl) ?_
        refine lv_icmp_gt (tgt := 76) hx hb d_H_loan_69 (by decide) (fun c15 => ?_) (fun c15 => ?_)
        · rw [if_pos c15] at h
          exact t_H_loan_b76 htl C G () st10 x1 x2 x3 x4 x5 x6 4 h _ _ hP hS ls (lv_sub hl [0, 1, 2, 3, 4, 5, 6] rfl)
        · rw [if_neg c15] at h
          refine lv_iconst (v := 1) hx hb d_H_loan_72 (by decide) ?_
          refine lv_goto (tgt := 77) hx hb d_H_loan_73 (by decide) ?_
          exact t_H_loan_b77 htl C G () st10 x1 x2 x3 x4 x5 x6 1 4 h _ _ hP hS ls (lv_sub hl [0, 1, 2, 3, 4, 5, 6] rfl)
  · cases h
    exact hThrV G hS hno hlocks ⟨hx, hb, hml, hown, hts⟩ (As := [.int z0]) (rest := []) (c_H_askRoom l htl D ca ad st _ z0 _ _ e_v9) (xCW (C := "MuseumHouse") 1 hts wd_2_135 wd_1_1 wd_2_132 wd_2_134 wd_0_3 (by decide +kernel) ⟨Nat.le_of_ble_eq_true rfl, Nat.le_of_ble_eq_true rfl⟩) (G.preV hP hS 0 rfl rfl) rfl rfl hl.1 rfl (lv_room (Nat.le_of_ble_eq_true rfl)) d_H_loan_46 ⟨Nat.le_of_ble_eq_true rfl, Nat.le_of_ble_eq_true rfl⟩
set_option maxHeartbeats 4000000 in
set_option maxRecDepth 100000 in
theorem c_H_loan (l : Launch) (htl : l.stackTraces = false) (D : va_G) (ca : Nat → ClassId) (ad : Nat → Nat) (st : pu_St) (sz : Nat) (x1 x2 x3 x4 : Int32) (r : Int32 ⊕ Nat) (st' : pu_St) (h : f_H_loan st x1 x2 x3 x4 = some (r, st')) : MetX l y_H_loan (.code y_H_loan b_H_loan 7 (some .int) :: tG) { frames := 8, cells := xc r, slots := xs r, locals := 135 } (va_Pc [.ref (ad 0), .int x1, .int x2, .int x3, .int x4] (hPc D ca ad st sz)) (hQ D ca ad (fun v => some (.int v)) r st' sz) (xc r) (xs r) (hA ad sz) := by
  refine hMet (by decide +kernel) ?_
  intro p e s m below meth c hsz C G hP
  obtain ⟨hx, hb, hml, hr, hlocks, hno, hown, hts⟩ := id C
  have hown : s.vm.findClass "MuseumHouse" = some m.cls := hown
  have hS : va_S (hA ad s.heap.size) s.heap s.heap [] := va_S.rf
  have hl := lv_entry ([.ref (ad 0), .int x1, .int x2, .int x3, .int x4]) (n := 7) (Nat.le_of_ble_eq_true rfl)
  rw [lg_entry_eq]
  generalize (lg_sl ([.ref (ad 0), .int x1, .int x2, .int x3, .int x4]) ++ List.replicate (7 - (lg_sl ([.ref (ad 0), .int x1, .int x2, .int x3, .int x4])).length) Slot.unset).toArray = ls at hl ⊢
  have hl : lv_has ls 7 [(0, .ref (ad 0)), (1, .int x1), (2, .int x2), (3, .int x3), (4, .int x4)] := hl
  unfold f_H_loan at h
  refine lv_aload_n hx hb d_H_loan_0 rfl (lv_at hl 0 rfl) ?_
  refine lv_aload_n hx hb d_H_loan_1 rfl (lv_at hl 0 rfl) ?_
  refine va_get (D := D) (ci := 0) (v := .ref (ad 1)) (C := R_H) (T := T_H) (N := 12) hx hb hts iw_H hown G.1 hP 0 rfl rfl 0 (by decide) (hts _ wd_1_212) (fun _ h9 => h9) rfl d_H_loan_2 ?_
  refine lv_iload_n hx hb d_H_loan_5 rfl (lv_at hl 1 rfl) ?_
  rcases pu_xb_inv h with ⟨v1, st2, e_v1, h⟩ | ⟨v1, st2, e_v1, h⟩
  · refine hCallI G hS (va_runV (As := [.ref (ad 1), .int x1]) (rest := []) ⟨hx, hb, hml, hown, hts⟩ (MetX.met (c_H_numberOf_De l htl D ca ad st _ x1 _ _ e_v1) (fun _ _ _ _ q => ⟨_, q.1⟩)) (xCW (C := "MuseumHouse") 2 hts wd_2_26 wd_1_1 wd_2_23 wd_2_25 wd_0_0 (by decide +kernel) ⟨Nat.le_of_ble_eq_true rfl, Nat.le_of_ble_eq_true rfl⟩) (G.preV hP hS 0 rfl rfl) rfl rfl hl.1 rfl (lv_room (Nat.le_of_ble_eq_true rfl)) d_H_loan_6 ⟨Nat.zero_le _, Nat.zero_le _⟩) (fun H locs hP hS => ?_)
    refine lv_istore (lv' := [(5, .int v1), (0, .ref (ad 0)), (1, .int x1), (2, .int x2), (3, .int x3), (4, .int x4)]) hx hb d_H_loan_9 hl (by decide) rfl (fun ls hl => ?_)
    refine lv_aload_n hx hb d_H_loan_11 rfl (lv_at hl 1 rfl) ?_
    refine lv_aload_n hx hb d_H_loan_12 rfl (lv_at hl 1 rfl) ?_
    refine va_get (D := D) (ci := 0) (v := .ref (ad 5)) (C := R_H) (T := T_H) (N := 12) hx hb hts iw_H hown G.1 hP 0 rfl rfl 4 (by decide) (hts _ wd_1_216) (fun _ h9 => h9) rfl d_H_loan_13 ?_
    refine lv_iload_n hx hb d_H_loan_16 rfl (lv_at hl 3 rfl) ?_
    rcases pu_xb_inv h with ⟨v3, st4, e_v3, h⟩ | ⟨v3, st4, e_v3, h⟩
    · refine hCallI G hS (va_runV (As := [.ref (ad 5), .int x2]) (rest := []) ⟨hx, hb, hml, hown, hts⟩ (MetX.met (c_H_numberOf_It l htl D ca ad st2 _ x2 _ _ e_v3) (fun _ _ _ _ q => ⟨_, q.1⟩)) (xCW (C := "MuseumHouse") 2 hts wd_2_26 wd_1_1 wd_2_23 wd_2_25 wd_0_0 (by decide +kernel) ⟨Nat.le_of_ble_eq_true rfl, Nat.le_of_ble_eq_true rfl⟩) (G.preV hP hS 0 rfl rfl) rfl rfl hl.1 rfl (lv_room (Nat.le_of_ble_eq_true rfl)) d_H_loan_17 ⟨Nat.zero_le _, Nat.zero_le _⟩) (fun H locs hP hS => ?_)
      refine lv_istore (lv' := [(6, .int v3), (5, .int v1), (0, .ref (ad 0)), (1, .int x1), (2, .int x2), (3, .int x3), (4, .int x4)]) hx hb d_H_loan_20 hl (by decide) rfl (fun ls hl => ?_)
      refine lv_aload_n hx hb d_H_loan_22 rfl (lv_at hl 2 rfl) ?_
      refine lv_iload hx hb d_H_loan_23 (lv_at hl 1 rfl) ?_
      refine lv_bipush (v := 8) hx hb d_H_loan_25 (by decide) ?_
      rcases pu_xb_inv h with ⟨v5, st6, e_v5, h⟩ | ⟨v5, st6, e_v5, h⟩
      · refine hCallU G hS (va_runV (As := [.int v1, .int 8]) (rest := []) ⟨hx, hb, hml, hown, hts⟩ (MetX.met (c_H_askRight l htl D ca ad st4 _ v1 8 _ _ e_v5) (fun _ _ _ _ q => ⟨_, q.1⟩)) (xCW (C := "MuseumHouse") 2 hts wd_2_106 wd_1_1 wd_2_103 wd_2_105 wd_0_2 (by decide +kernel) ⟨Nat.le_of_ble_eq_true rfl, Nat.le_of_ble_eq_true rfl⟩) (G.preV hP hS 0 rfl rfl) rfl rfl hl.1 rfl (lv_room (Nat.le_of_ble_eq_true rfl)) d_H_loan_27 ⟨Nat.zero_le _, Nat.zero_le _⟩) (fun H locs hP hS => ?_)
        refine lv_aload_n hx hb d_H_loan_30 rfl (lv_at hl 2 rfl) ?_
        refine lv_aload_n hx hb d_H_loan_31 rfl (lv_at hl 2 rfl) ?_
        refine va_get (D := D) (ci := 0) (v := .ref (ad 8)) (C := R_H) (T := T_H) (N := 12) hx hb hts iw_H hown G.1 hP 0 rfl rfl 7 (by decide) (hts _ wd_1_219) (fun _ h9 => h9) rfl d_H_loan_32 ?_
        obtain ⟨v7, e_v7, h⟩ := pu_ob h
        refine pu_callR (va_runU (As := []) (rest := [.ref (ad 0)]) ⟨hx, hb, hml, hown, hts⟩ (c_Rg_isFull_Lo l D ca ad st6 _ v7 e_v7) (xCU (C := "MuseumHouse$Loans") (owner := "MuseumHouse$Register") (x := ⟨"MuseumHouse$Loans", "isFull", "()Z"⟩) 0 hts wd_2_131 wd_1_2 wd_4_0 wd_4_1 wd_2_130 wd_4_2 rfl (by decide +kernel) ⟨Nat.le_of_ble_eq_true rfl, Nat.le_of_ble_eq_true rfl⟩) (G.preV hP hS 8 rfl rfl) rfl rfl hl.1 rfl (lv_room (Nat.le_of_ble_eq_true rfl)) d_H_loan_35 ⟨Nat.zero_le _, Nat.zero_le _⟩) ?_
        refine lv_if_ne (tgt := 45) hx hb d_H_loan_38 (by decide) (fun c8 => ?_) (fun c8 => ?_)
        · rw [if_neg c8] at h
          refine lv_iconst (v := 0) hx hb d_H_loan_45 (by decide) ?_
          exact t_H_loan_b46 htl C G () st6 x1 x2 x3 x4 v1 v3 0 h _ _ hP hS ls (lv_sub hl [2, 3, 4, 5, 6, 1, 0] rfl)
        · rw [if_pos c8] at h
          refine lv_iconst (v := 1) hx hb d_H_loan_41 (by decide) ?_
          refine lv_goto (tgt := 46) hx hb d_H_loan_42 (by decide) ?_
          exact t_H_loan_b46 htl C G () st6 x1 x2 x3 x4 v1 v3 1 h _ _ hP hS ls (lv_sub hl [2, 3, 4, 5, 6, 1, 0] rfl)
      · cases h
        exact hThrV G hS hno hlocks ⟨hx, hb, hml, hown, hts⟩ (As := [.int v1, .int 8]) (rest := []) (c_H_askRight l htl D ca ad st4 _ v1 8 _ _ e_v5) (xCW (C := "MuseumHouse") 2 hts wd_2_106 wd_1_1 wd_2_103 wd_2_105 wd_0_2 (by decide +kernel) ⟨Nat.le_of_ble_eq_true rfl, Nat.le_of_ble_eq_true rfl⟩) (G.preV hP hS 0 rfl rfl) rfl rfl hl.1 rfl (lv_room (Nat.le_of_ble_eq_true rfl)) d_H_loan_27 ⟨Nat.le_of_ble_eq_true rfl, Nat.le_of_ble_eq_true rfl⟩
    · cases h
      exact hThrV G hS hno hlocks ⟨hx, hb, hml, hown, hts⟩ (As := [.ref (ad 5), .int x2]) (rest := []) (c_H_numberOf_It l htl D ca ad st2 _ x2 _ _ e_v3) (xCW (C := "MuseumHouse") 2 hts wd_2_26 wd_1_1 wd_2_23 wd_2_25 wd_0_0 (by decide +kernel) ⟨Nat.le_of_ble_eq_true rfl, Nat.le_of_ble_eq_true rfl⟩) (G.preV hP hS 0 rfl rfl) rfl rfl hl.1 rfl (lv_room (Nat.le_of_ble_eq_true rfl)) d_H_loan_17 ⟨Nat.le_of_ble_eq_true rfl, Nat.le_of_ble_eq_true rfl⟩
  · cases h
    exact hThrV G hS hno hlocks ⟨hx, hb, hml, hown, hts⟩ (As := [.ref (ad 1), .int x1]) (rest := []) (c_H_numberOf_De l htl D ca ad st _ x1 _ _ e_v1) (xCW (C := "MuseumHouse") 2 hts wd_2_26 wd_1_1 wd_2_23 wd_2_25 wd_0_0 (by decide +kernel) ⟨Nat.le_of_ble_eq_true rfl, Nat.le_of_ble_eq_true rfl⟩) (G.preV hP hS 0 rfl rfl) rfl rfl hl.1 rfl (lv_room (Nat.le_of_ble_eq_true rfl)) d_H_loan_6 ⟨Nat.le_of_ble_eq_true rfl, Nat.le_of_ble_eq_true rfl⟩
set_option maxHeartbeats 4000000 in
set_option maxRecDepth 100000 in
theorem t_Rg_numberFor_Lo_b23 {l : Launch} {p : Program} {e : Env} {s : State} {m : MethodId} {args : Array Value} {below : List Frame} {meth : Method} {c : Code} {D : va_G} {ca : Nat → ClassId} {ad : Nat → Nat} {A : Nat → Prop} {st : pu_St} {r : Int32} (C : hC p s m meth c args b_Rg_numberFor 3 (some .int) "MuseumHouse$Register") (G : hX D ca ad A s) (hP : va_P D hcl (hW ca ad st) s.heap) (hS : va_S A s.heap s.heap []) :
    ∀ (_ : Unit) (x1 x2 : Int32), f_Rg_numberFor_Lo_b23 st x1 x2 = some r → ∀ ls : Array Slot, lv_has ls 3 [(0, .ref (ad 8)), (1, .int x1), (2, .int x2)] → W p l e { frames := 0, cells := 0, slots := 0, locals := 0 } s m args below meth c s.heap [] 0 0 (MQ below (QcRead r) args s 0 0 (fun _ => False)) (F0 m 23 ls []) := by
  obtain ⟨hx, hb, hml, hr, hlocks, hno, hown, hts⟩ := id C
  intro _ x1 x2 h ls hl
  unfold f_Rg_numberFor_Lo_b23 at h
  refine lv_iconst (v := (-1)) hx hb d_Rg_numberFor_23 (by decide) ?_
  have h := Option.some.inj h
  exact W.iret (v := (-1)) hx hb hr (fun t ht _ => ⟨by rw [h], ht⟩) (fun _ q => by cases q) d_Rg_numberFor_24
set_option maxHeartbeats 4000000 in
set_option maxRecDepth 100000 in
theorem c_Rg_numberFor_Lo (l : Launch) (D : va_G) (ca : Nat → ClassId) (ad : Nat → Nat) (st : pu_St) (sz : Nat) (x1 : Int32) (r : Int32) (h : f_Rg_numberFor_Lo st x1 = some r) : Met l y_Rg_numberFor (.code y_Rg_numberFor b_Rg_numberFor 3 (some .int) :: tG) { frames := 0, cells := 0, slots := 0, locals := 0 } (va_Pc [.ref (ad 8), .int x1] (hPc D ca ad st sz)) (QcRead r) 0 0 (fun _ => False) := by
  refine hRead (by decide +kernel) ?_
  intro p e s m below meth c C G hP
  obtain ⟨hx, hb, hml, hr, hlocks, hno, hown, hts⟩ := id C
  have hown : s.vm.findClass "MuseumHouse$Register" = some m.cls := hown
  have hS : va_S (hA ad s.heap.size) s.heap s.heap [] := va_S.rf
  have hl := lv_entry ([.ref (ad 8), .int x1]) (n := 3) (Nat.le_of_ble_eq_true rfl)
  rw [lg_entry_eq]
  generalize (lg_sl ([.ref (ad 8), .int x1]) ++ List.replicate (3 - (lg_sl ([.ref (ad 8), .int x1])).length) Slot.unset).toArray = ls at hl ⊢
  have hl : lv_has ls 3 [(0, .ref (ad 8)), (1, .int x1)] := hl
  unfold f_Rg_numberFor_Lo at h
  refine lv_iload_n hx hb d_Rg_numberFor_0 rfl (lv_at hl 1 rfl) ?_
  refine lv_aload_n hx hb d_Rg_numberFor_1 rfl (lv_at hl 0 rfl) ?_
  refine va_get (D := D) (ci := 8) (v := .int 700) (C := R_Lo) (T := T_Lo) (N := 6) hx hb hts iw_Lo hown G.1 hP 8 rfl rfl 0 (by decide) (hts _ wd_1_45) (fun _ h9 => h9) rfl d_Rg_numberFor_2 ?_
  refine lv_isub hx hb d_Rg_numberFor_5 ?_
  refine lv_istore_n (lv' := [(2, .int (x1 - 700)), (0, .ref (ad 8)), (1, .int x1)]) hx hb d_Rg_numberFor_6 rfl hl (by decide) rfl (fun ls hl => ?_)
  refine lv_iload_n hx hb d_Rg_numberFor_7 rfl (lv_at hl 0 rfl) ?_
  refine lv_if_lt (tgt := 23) hx hb d_Rg_numberFor_8 (by decide) (fun c1 => ?_) (fun c1 => ?_)
  · rw [if_pos c1] at h
    exact t_Rg_numberFor_Lo_b23 C G hP hS () x1 (x1 - 700) h ls (lv_sub hl [1, 2, 0] rfl)
  · rw [if_neg c1] at h
    refine lv_iload_n hx hb d_Rg_numberFor_11 rfl (lv_at hl 0 rfl) ?_
    refine lv_aload_n hx hb d_Rg_numberFor_12 rfl (lv_at hl 1 rfl) ?_
    refine va_get (D := D) (ci := 8) (v := .int (st.1 8)) (C := R_Lo) (T := T_Lo) (N := 6) hx hb hts iw_Lo hown G.1 hP 8 rfl rfl 2 (by decide) (hts _ wd_1_47) (fun _ h9 => h9) rfl d_Rg_numberFor_13 ?_
    refine lv_icmp_ge (tgt := 23) hx hb d_Rg_numberFor_16 (by decide) (fun c2 => ?_) (fun c2 => ?_)
    · rw [if_pos c2] at h
      exact t_Rg_numberFor_Lo_b23 C G hP hS () x1 (x1 - 700) h ls (lv_sub hl [1, 2, 0] rfl)
    · rw [if_neg c2] at h
      refine lv_iload_n hx hb d_Rg_numberFor_19 rfl (lv_at hl 0 rfl) ?_
      refine lv_goto (tgt := 24) hx hb d_Rg_numberFor_20 (by decide) ?_
      have h := Option.some.inj h
      exact W.iret (v := (x1 - 700)) hx hb hr (fun t ht _ => ⟨by rw [h], ht⟩) (fun _ q => by cases q) d_Rg_numberFor_24
set_option maxHeartbeats 4000000 in
set_option maxRecDepth 100000 in
theorem c_H_numberOf_Lo (l : Launch) (htl : l.stackTraces = false) (D : va_G) (ca : Nat → ClassId) (ad : Nat → Nat) (st : pu_St) (sz : Nat) (x2 : Int32) (r : Int32 ⊕ Nat) (st' : pu_St) (h : f_H_numberOf_Lo st x2 = some (r, st')) : MetX l y_H_numberOf (.code y_H_numberOf b_H_numberOf 4 (some .int) :: tG) { frames := 6, cells := xc r, slots := xs r, locals := 90 } (va_Pc [.ref (ad 0), .ref (ad 8), .int x2] (hPc D ca ad st sz)) (hQ D ca ad (fun v => some (.int v)) r st' sz) (xc r) (xs r) (hA ad sz) := by
  refine hMet (by decide +kernel) ?_
  intro p e s m below meth c hsz C G hP
  obtain ⟨hx, hb, hml, hr, hlocks, hno, hown, hts⟩ := id C
  have hown : s.vm.findClass "MuseumHouse" = some m.cls := hown
  have hS : va_S (hA ad s.heap.size) s.heap s.heap [] := va_S.rf
  have hl := lv_entry ([.ref (ad 0), .ref (ad 8), .int x2]) (n := 4) (Nat.le_of_ble_eq_true rfl)
  rw [lg_entry_eq]
  generalize (lg_sl ([.ref (ad 0), .ref (ad 8), .int x2]) ++ List.replicate (4 - (lg_sl ([.ref (ad 0), .ref (ad 8), .int x2])).length) Slot.unset).toArray = ls at hl ⊢
  have hl : lv_has ls 4 [(0, .ref (ad 0)), (1, .ref (ad 8)), (2, .int x2)] := hl
  unfold f_H_numberOf_Lo at h
  refine lv_aload_n hx hb d_H_numberOf_0 rfl (lv_at hl 1 rfl) ?_
  refine lv_iload_n hx hb d_H_numberOf_1 rfl (lv_at hl 2 rfl) ?_
  obtain ⟨v1, e_v1, h⟩ := pu_ob h
  refine pu_callR (va_runV (As := [.int x2]) (rest := []) ⟨hx, hb, hml, hown, hts⟩ (c_Rg_numberFor_Lo l D ca ad st _ x2 v1 e_v1) (xCW (C := "MuseumHouse$Loans") 1 hts wd_2_39 wd_1_2 wd_2_27 wd_2_28 wd_2_35 (by decide +kernel) ⟨Nat.le_of_ble_eq_true rfl, Nat.le_of_ble_eq_true rfl⟩) (G.preV hP hS 8 rfl rfl) rfl rfl hl.1 rfl (lv_room (Nat.le_of_ble_eq_true rfl)) d_H_numberOf_2 ⟨Nat.zero_le _, Nat.zero_le _⟩) ?_
  refine lv_istore_n (lv' := [(3, .int v1), (0, .ref (ad 0)), (1, .ref (ad 8)), (2, .int x2)]) hx hb d_H_numberOf_5 rfl hl (by decide) rfl (fun ls hl => ?_)
  refine lv_iload_n hx hb d_H_numberOf_6 rfl (lv_at hl 0 rfl) ?_
  refine lv_iconst (v := (-1)) hx hb d_H_numberOf_7 (by decide) ?_
  refine lv_icmp_ne (tgt := 24) hx hb d_H_numberOf_8 (by decide) (fun c2 => ?_) (fun c2 => ?_)
  · rw [if_neg c2] at h
    refine lv_iload_n hx hb d_H_numberOf_24 rfl (lv_at hl 0 rfl) ?_
    cases h
    exact W.toX (W.iret hx hb hr (fun t ht _ => ⟨rfl, by rw [ht]; exact hP, hS.F ht⟩) hS.2.2 d_H_numberOf_25)
  · rw [if_pos c2] at h
    refine lv_aload_n hx hb d_H_numberOf_11 rfl (lv_at hl 1 rfl) ?_
    refine lv_iconst (v := 1) hx hb d_H_numberOf_12 (by decide) ?_
    refine va_put (D := D) (ci := 0) (v := .int 1) (ty := .int) (C := R_H) (T := T_H) (N := 12) hx hb hts iw_H ty_H to_H nm_H hown G.1 hP (G.D) hS 0 rfl rfl 11 (by decide) (hts _ wd_1_223) (fun _ h9 => h9) rfl (by decide +kernel) rfl rfl (Nat.le_of_ble_eq_true rfl) d_H_numberOf_13 (fun H locs hP _ hS => ?_)
    have hP : va_P D hcl (hW ca ad (va_up st.1 1 1, st.2)) H := hP
    cases h
    exact hThrow G hx hb (hl.1.trans hml.symm) hown hno hlocks htl hts (by decide +kernel) xo_1 wd_2_40 wd_2_41 wd_1_17 hP hS d_H_numberOf_16 d_H_numberOf_19 d_H_numberOf_20 d_H_numberOf_23 (Nat.le_of_ble_eq_true rfl) (Nat.le_of_ble_eq_true rfl) (Nat.le_of_ble_eq_true rfl) (Nat.le_of_ble_eq_true rfl) rfl
set_option maxHeartbeats 4000000 in
set_option maxRecDepth 100000 in
theorem c_Lo_hasDay (l : Launch) (D : va_G) (ca : Nat → ClassId) (ad : Nat → Nat) (st : pu_St) (sz : Nat) (x1 x2 : Int32) (r : Int32) (h : f_Lo_hasDay st x1 x2 = some r) : Met l y_Lo_hasDay (.code y_Lo_hasDay b_Lo_hasDay 3 (some .boolean) :: tG) { frames := 0, cells := 0, slots := 0, locals := 0 } (va_Pc [.ref (ad 8), .int x1, .int x2] (hPc D ca ad st sz)) (QcRead r) 0 0 (fun _ => False) := by
  refine hRead (by decide +kernel) ?_
  intro p e s m below meth c C G hP
  obtain ⟨hx, hb, hml, hr, hlocks, hno, hown, hts⟩ := id C
  have hown : s.vm.findClass "MuseumHouse$Loans" = some m.cls := hown
  have hS : va_S (hA ad s.heap.size) s.heap s.heap [] := va_S.rf
  have hl := lv_entry ([.ref (ad 8), .int x1, .int x2]) (n := 3) (Nat.le_of_ble_eq_true rfl)
  rw [lg_entry_eq]
  generalize (lg_sl ([.ref (ad 8), .int x1, .int x2]) ++ List.replicate (3 - (lg_sl ([.ref (ad 8), .int x1, .int x2])).length) Slot.unset).toArray = ls at hl ⊢
  have hl : lv_has ls 3 [(0, .ref (ad 8)), (1, .int x1), (2, .int x2)] := hl
  unfold f_Lo_hasDay at h
  refine lv_aload_n hx hb d_Lo_hasDay_0 rfl (lv_at hl 0 rfl) ?_
  refine va_get (D := D) (ci := 8) (v := .ref (ad 25)) (C := R_Lo) (T := T_Lo) (N := 6) hx hb hts iw_Lo hown G.1 hP 8 rfl rfl 4 (by decide) (hts _ wd_1_158) (fun _ h9 => h9) rfl d_Lo_hasDay_1 ?_
  refine lv_iload_n hx hb d_Lo_hasDay_4 rfl (lv_at hl 1 rfl) ?_
  obtain ⟨v1, e_v1, h⟩ := pu_ob h
  refine pu_iald hx hb G.1 hP 25 14 rfl rfl e_v1 d_Lo_hasDay_5 ?_
  refine lv_iload_n hx hb d_Lo_hasDay_6 rfl (lv_at hl 2 rfl) ?_
  refine lv_icmp_gt (tgt := 24) hx hb d_Lo_hasDay_7 (by decide) (fun c2 => ?_) (fun c2 => ?_)
  · rw [if_pos c2] at h
    refine lv_iconst (v := 0) hx hb d_Lo_hasDay_24 (by decide) ?_
    have h := Option.some.inj h
    exact W.zret (v := 0) (ty := .boolean) hx hb hr rfl (fun t ht _ => ⟨by rw [h], ht⟩) (fun _ q => by cases q) d_Lo_hasDay_25
  · rw [if_neg c2] at h
    refine lv_iload_n hx hb d_Lo_hasDay_10 rfl (lv_at hl 2 rfl) ?_
    refine lv_aload_n hx hb d_Lo_hasDay_11 rfl (lv_at hl 0 rfl) ?_
    refine va_get (D := D) (ci := 8) (v := .ref (ad 26)) (C := R_Lo) (T := T_Lo) (N := 6) hx hb hts iw_Lo hown G.1 hP 8 rfl rfl 5 (by decide) (hts _ wd_1_159) (fun _ h9 => h9) rfl d_Lo_hasDay_12 ?_
    refine lv_iload_n hx hb d_Lo_hasDay_15 rfl (lv_at hl 1 rfl) ?_
    obtain ⟨v3, e_v3, h⟩ := pu_ob h
    refine pu_iald hx hb G.1 hP 26 15 rfl rfl e_v3 d_Lo_hasDay_16 ?_
    refine lv_icmp_gt (tgt := 24) hx hb d_Lo_hasDay_17 (by decide) (fun c4 => ?_) (fun c4 => ?_)
    · rw [if_pos c4] at h
      refine lv_iconst (v := 0) hx hb d_Lo_hasDay_24 (by decide) ?_
      have h := Option.some.inj h
      exact W.zret (v := 0) (ty := .boolean) hx hb hr rfl (fun t ht _ => ⟨by rw [h], ht⟩) (fun _ q => by cases q) d_Lo_hasDay_25
    · rw [if_neg c4] at h
      refine lv_iconst (v := 1) hx hb d_Lo_hasDay_20 (by decide) ?_
      refine lv_goto (tgt := 25) hx hb d_Lo_hasDay_21 (by decide) ?_
      have h := Option.some.inj h
      exact W.zret (v := 1) (ty := .boolean) hx hb hr rfl (fun t ht _ => ⟨by rw [h], ht⟩) (fun _ q => by cases q) d_Lo_hasDay_25
set_option maxHeartbeats 4000000 in
set_option maxRecDepth 100000 in
theorem c_Lo_lastDayOf (l : Launch) (D : va_G) (ca : Nat → ClassId) (ad : Nat → Nat) (st : pu_St) (sz : Nat) (x1 : Int32) (r : Int32) (h : f_Lo_lastDayOf st x1 = some r) : Met l y_Lo_lastDayOf (.code y_Lo_lastDayOf b_Lo_lastDayOf 2 (some .int) :: tG) { frames := 0, cells := 0, slots := 0, locals := 0 } (va_Pc [.ref (ad 8), .int x1] (hPc D ca ad st sz)) (QcRead r) 0 0 (fun _ => False) := by
  refine hRead (by decide +kernel) ?_
  intro p e s m below meth c C G hP
  obtain ⟨hx, hb, hml, hr, hlocks, hno, hown, hts⟩ := id C
  have hown : s.vm.findClass "MuseumHouse$Loans" = some m.cls := hown
  have hS : va_S (hA ad s.heap.size) s.heap s.heap [] := va_S.rf
  have hl := lv_entry ([.ref (ad 8), .int x1]) (n := 2) (Nat.le_of_ble_eq_true rfl)
  rw [lg_entry_eq]
  generalize (lg_sl ([.ref (ad 8), .int x1]) ++ List.replicate (2 - (lg_sl ([.ref (ad 8), .int x1])).length) Slot.unset).toArray = ls at hl ⊢
  have hl : lv_has ls 2 [(0, .ref (ad 8)), (1, .int x1)] := hl
  unfold f_Lo_lastDayOf at h
  refine lv_aload_n hx hb d_Lo_lastDayOf_0 rfl (lv_at hl 0 rfl) ?_
  refine va_get (D := D) (ci := 8) (v := .ref (ad 26)) (C := R_Lo) (T := T_Lo) (N := 6) hx hb hts iw_Lo hown G.1 hP 8 rfl rfl 5 (by decide) (hts _ wd_1_159) (fun _ h9 => h9) rfl d_Lo_lastDayOf_1 ?_
  refine lv_iload_n hx hb d_Lo_lastDayOf_4 rfl (lv_at hl 1 rfl) ?_
  obtain ⟨v1, e_v1, h⟩ := pu_ob h
  refine pu_iald hx hb G.1 hP 26 15 rfl rfl e_v1 d_Lo_lastDayOf_5 ?_
  have h := Option.some.inj h
  exact W.iret (v := v1) hx hb hr (fun t ht _ => ⟨by rw [h], ht⟩) (fun _ q => by cases q) d_Lo_lastDayOf_6
set_option maxHeartbeats 4000000 in
set_option maxRecDepth 100000 in
theorem c_Lo_endOn (l : Launch) (htl : l.stackTraces = false) (D : va_G) (ca : Nat → ClassId) (ad : Nat → Nat) (st : pu_St) (sz : Nat) (x1 x2 : Int32) (v : Int32) (st' : pu_St) (h : f_Lo_endOn st x1 x2 = some (v, st')) : MetX l y_Lo_endOn (.code y_Lo_endOn b_Lo_endOn 3 none :: tG) { frames := 0, cells := 0, slots := 0, locals := 0 } (va_Pc [.ref (ad 8), .int x1, .int x2] (hPc D ca ad st sz)) (hQ D ca ad (fun _ => none) (.inl v) st' sz) 0 0 (hA ad sz) := by
  refine hMet (by decide +kernel) ?_
  intro p e s m below meth c hsz C G hP
  obtain ⟨hx, hb, hml, hr, hlocks, hno, hown, hts⟩ := id C
  have hown : s.vm.findClass "MuseumHouse$Loans" = some m.cls := hown
  have hS : va_S (hA ad s.heap.size) s.heap s.heap [] := va_S.rf
  have hl := lv_entry ([.ref (ad 8), .int x1, .int x2]) (n := 3) (Nat.le_of_ble_eq_true rfl)
  rw [lg_entry_eq]
  generalize (lg_sl ([.ref (ad 8), .int x1, .int x2]) ++ List.replicate (3 - (lg_sl ([.ref (ad 8), .int x1, .int x2])).length) Slot.unset).toArray = ls at hl ⊢
  have hl : lv_has ls 3 [(0, .ref (ad 8)), (1, .int x1), (2, .int x2)] := hl
  unfold f_Lo_endOn at h
  refine lv_aload_n hx hb d_Lo_endOn_0 rfl (lv_at hl 0 rfl) ?_
  refine va_get (D := D) (ci := 8) (v := .ref (ad 26)) (C := R_Lo) (T := T_Lo) (N := 6) hx hb hts iw_Lo hown G.1 hP 8 rfl rfl 5 (by decide) (hts _ wd_1_159) (fun _ h9 => h9) rfl d_Lo_endOn_1 ?_
  refine lv_iload_n hx hb d_Lo_endOn_4 rfl (lv_at hl 1 rfl) ?_
  refine lv_iload_n hx hb d_Lo_endOn_5 rfl (lv_at hl 2 rfl) ?_
  obtain ⟨g1, e_g1, h⟩ := pu_ob h
  refine pu_iast hx hb G.1 hP (G.D) hS 26 15 rfl rfl e_g1 d_Lo_endOn_6 (fun H locs hP hS => ?_)
  have hP : va_P D hcl (hW ca ad (st.1, va_up st.2 15 g1)) H := hP
  cases h
  exact W.toX (W.vret hx hb hr (fun t ht _ => ⟨rfl, by rw [ht]; exact hP, hS.F ht⟩) hS.2.2 d_Lo_endOn_7)
set_option maxHeartbeats 4000000 in
set_option maxRecDepth 100000 in
theorem c_H_back (l : Launch) (htl : l.stackTraces = false) (D : va_G) (ca : Nat → ClassId) (ad : Nat → Nat) (st : pu_St) (sz : Nat) (x1 x2 x3 : Int32) (r : Int32 ⊕ Nat) (st' : pu_St) (h : f_H_back st x1 x2 x3 = some (r, st')) : MetX l y_H_back (.code y_H_back b_H_back 7 (some .int) :: tG) { frames := 7, cells := xc r, slots := xs r, locals := 113 } (va_Pc [.ref (ad 0), .int x1, .int x2, .int x3] (hPc D ca ad st sz)) (hQ D ca ad (fun v => some (.int v)) r st' sz) (xc r) (xs r) (hA ad sz) := by
  refine hMet (by decide +kernel) ?_
  intro p e s m below meth c hsz C G hP
  obtain ⟨hx, hb, hml, hr, hlocks, hno, hown, hts⟩ := id C
  have hown : s.vm.findClass "MuseumHouse" = some m.cls := hown
  have hS : va_S (hA ad s.heap.size) s.heap s.heap [] := va_S.rf
  have hl := lv_entry ([.ref (ad 0), .int x1, .int x2, .int x3]) (n := 7) (Nat.le_of_ble_eq_true rfl)
  rw [lg_entry_eq]
  generalize (lg_sl ([.ref (ad 0), .int x1, .int x2, .int x3]) ++ List.replicate (7 - (lg_sl ([.ref (ad 0), .int x1, .int x2, .int x3])).length) Slot.unset).toArray = ls at hl ⊢
  have hl : lv_has ls 7 [(0, .ref (ad 0)), (1, .int x1), (2, .int x2), (3, .int x3)] := hl
  unfold f_H_back at h
  refine lv_aload_n hx hb d_H_back_0 rfl (lv_at hl 0 rfl) ?_
  refine lv_aload_n hx hb d_H_back_1 rfl (lv_at hl 0 rfl) ?_
  refine va_get (D := D) (ci := 0) (v := .ref (ad 1)) (C := R_H) (T := T_H) (N := 12) hx hb hts iw_H hown G.1 hP 0 rfl rfl 0 (by decide) (hts _ wd_1_212) (fun _ h9 => h9) rfl d_H_back_2 ?_
  refine lv_iload_n hx hb d_H_back_5 rfl (lv_at hl 1 rfl) ?_
  rcases pu_xb_inv h with ⟨v1, st2, e_v1, h⟩ | ⟨v1, st2, e_v1, h⟩
  · refine hCallI G hS (va_runV (As := [.ref (ad 1), .int x1]) (rest := []) ⟨hx, hb, hml, hown, hts⟩ (MetX.met (c_H_numberOf_De l htl D ca ad st _ x1 _ _ e_v1) (fun _ _ _ _ q => ⟨_, q.1⟩)) (xCW (C := "MuseumHouse") 2 hts wd_2_26 wd_1_1 wd_2_23 wd_2_25 wd_0_0 (by decide +kernel) ⟨Nat.le_of_ble_eq_true rfl, Nat.le_of_ble_eq_true rfl⟩) (G.preV hP hS 0 rfl rfl) rfl rfl hl.1 rfl (lv_room (Nat.le_of_ble_eq_true rfl)) d_H_back_6 ⟨Nat.zero_le _, Nat.zero_le _⟩) (fun H locs hP hS => ?_)
    refine lv_istore (lv' := [(4, .int v1), (0, .ref (ad 0)), (1, .int x1), (2, .int x2), (3, .int x3)]) hx hb d_H_back_9 hl (by decide) rfl (fun ls hl => ?_)
    refine lv_aload_n hx hb d_H_back_11 rfl (lv_at hl 1 rfl) ?_
    refine lv_aload_n hx hb d_H_back_12 rfl (lv_at hl 1 rfl) ?_
    refine va_get (D := D) (ci := 0) (v := .ref (ad 8)) (C := R_H) (T := T_H) (N := 12) hx hb hts iw_H hown G.1 hP 0 rfl rfl 7 (by decide) (hts _ wd_1_219) (fun _ h9 => h9) rfl d_H_back_13 ?_
    refine lv_iload_n hx hb d_H_back_16 rfl (lv_at hl 3 rfl) ?_
    rcases pu_xb_inv h with ⟨v3, st4, e_v3, h⟩ | ⟨v3, st4, e_v3, h⟩
    · refine hCallI G hS (va_runV (As := [.ref (ad 8), .int x2]) (rest := []) ⟨hx, hb, hml, hown, hts⟩ (MetX.met (c_H_numberOf_Lo l htl D ca ad st2 _ x2 _ _ e_v3) (fun _ _ _ _ q => ⟨_, q.1⟩)) (xCW (C := "MuseumHouse") 2 hts wd_2_26 wd_1_1 wd_2_23 wd_2_25 wd_0_0 (by decide +kernel) ⟨Nat.le_of_ble_eq_true rfl, Nat.le_of_ble_eq_true rfl⟩) (G.preV hP hS 0 rfl rfl) rfl rfl hl.1 rfl (lv_room (Nat.le_of_ble_eq_true rfl)) d_H_back_17 ⟨Nat.zero_le _, Nat.zero_le _⟩) (fun H locs hP hS => ?_)
      refine lv_istore (lv' := [(5, .int v3), (4, .int v1), (0, .ref (ad 0)), (1, .int x1), (2, .int x2), (3, .int x3)]) hx hb d_H_back_20 hl (by decide) rfl (fun ls hl => ?_)
      refine lv_aload_n hx hb d_H_back_22 rfl (lv_at hl 2 rfl) ?_
      refine lv_iload hx hb d_H_back_23 (lv_at hl 1 rfl) ?_
      refine lv_bipush (v := 8) hx hb d_H_back_25 (by decide) ?_
      rcases pu_xb_inv h with ⟨v5, st6, e_v5, h⟩ | ⟨v5, st6, e_v5, h⟩
      · refine hCallU G hS (va_runV (As := [.int v1, .int 8]) (rest := []) ⟨hx, hb, hml, hown, hts⟩ (MetX.met (c_H_askRight l htl D ca ad st4 _ v1 8 _ _ e_v5) (fun _ _ _ _ q => ⟨_, q.1⟩)) (xCW (C := "MuseumHouse") 2 hts wd_2_106 wd_1_1 wd_2_103 wd_2_105 wd_0_2 (by decide +kernel) ⟨Nat.le_of_ble_eq_true rfl, Nat.le_of_ble_eq_true rfl⟩) (G.preV hP hS 0 rfl rfl) rfl rfl hl.1 rfl (lv_room (Nat.le_of_ble_eq_true rfl)) d_H_back_27 ⟨Nat.zero_le _, Nat.zero_le _⟩) (fun H locs hP hS => ?_)
        refine lv_aload_n hx hb d_H_back_30 rfl (lv_at hl 2 rfl) ?_
        refine lv_iconst (v := 4) hx hb d_H_back_31 (by decide) ?_
        refine lv_iload_n hx hb d_H_back_32 rfl (lv_at hl 5 rfl) ?_
        obtain ⟨v7, e_v7, h⟩ := pu_ob h
        refine pu_callR (va_runS (As := [.int x3]) (rest := [.int 4, .ref (ad 0)]) ⟨hx, hb, hml, hown, hts⟩ (c_H_isDay l D ca ad st6 _ x3 v7 e_v7) (xCS 1 hts wd_3_67 wd_1_1 wd_3_65 wd_3_66 (by decide +kernel) ⟨Nat.le_of_ble_eq_true rfl, Nat.le_of_ble_eq_true rfl⟩) (G.preS hP hS) rfl rfl hl.1 rfl (lv_room (Nat.le_of_ble_eq_true rfl)) d_H_back_33 ⟨Nat.zero_le _, Nat.zero_le _⟩) ?_
        rcases pu_xb_inv h with ⟨v8, st9, e_v8, h⟩ | ⟨v8, st9, e_v8, h⟩
        · refine hCallU G hS (va_runV (As := [.int 4, .int v7]) (rest := []) ⟨hx, hb, hml, hown, hts⟩ (MetX.met (c_H_ask l htl D ca ad st6 _ 4 v7 _ _ e_v8) (fun _ _ _ _ q => ⟨_, q.1⟩)) (xCW (C := "MuseumHouse") 2 hts wd_2_139 wd_1_1 wd_2_136 wd_2_138 wd_0_4 (by decide +kernel) ⟨Nat.le_of_ble_eq_true rfl, Nat.le_of_ble_eq_true rfl⟩) (G.preV hP hS 0 rfl rfl) rfl rfl hl.1 rfl (lv_room (Nat.le_of_ble_eq_true rfl)) d_H_back_36 ⟨Nat.zero_le _, Nat.zero_le _⟩) (fun H locs hP hS => ?_)
          refine lv_aload_n hx hb d_H_back_39 rfl (lv_at hl 2 rfl) ?_
          refine lv_bipush (v := 15) hx hb d_H_back_40 (by decide) ?_
          refine lv_aload_n hx hb d_H_back_42 rfl (lv_at hl 2 rfl) ?_
          refine va_get (D := D) (ci := 0) (v := .ref (ad 8)) (C := R_H) (T := T_H) (N := 12) hx hb hts iw_H hown G.1 hP 0 rfl rfl 7 (by decide) (hts _ wd_1_219) (fun _ h9 => h9) rfl d_H_back_43 ?_
          refine lv_iload hx hb d_H_back_46 (lv_at hl 0 rfl) ?_
          refine lv_iload_n hx hb d_H_back_48 rfl (lv_at hl 5 rfl) ?_
          obtain ⟨v10, e_v10, h⟩ := pu_ob h
          refine pu_callR (va_runV (As := [.int v3, .int x3]) (rest := [.int 15, .ref (ad 0)]) ⟨hx, hb, hml, hown, hts⟩ (c_Lo_hasDay l D ca ad st9 _ v3 x3 v10 e_v10) (xCW (C := "MuseumHouse$Loans") 2 hts wd_4_46 wd_1_10 wd_4_43 wd_4_44 wd_4_45 (by decide +kernel) ⟨Nat.le_of_ble_eq_true rfl, Nat.le_of_ble_eq_true rfl⟩) (G.preV hP hS 8 rfl rfl) rfl rfl hl.1 rfl (lv_room (Nat.le_of_ble_eq_true rfl)) d_H_back_49 ⟨Nat.zero_le _, Nat.zero_le _⟩) ?_
          rcases pu_xb_inv h with ⟨v11, st12, e_v11, h⟩ | ⟨v11, st12, e_v11, h⟩
          · refine hCallU G hS (va_runV (As := [.int 15, .int v10]) (rest := []) ⟨hx, hb, hml, hown, hts⟩ (MetX.met (c_H_ask l htl D ca ad st9 _ 15 v10 _ _ e_v11) (fun _ _ _ _ q => ⟨_, q.1⟩)) (xCW (C := "MuseumHouse") 2 hts wd_2_139 wd_1_1 wd_2_136 wd_2_138 wd_0_4 (by decide +kernel) ⟨Nat.le_of_ble_eq_true rfl, Nat.le_of_ble_eq_true rfl⟩) (G.preV hP hS 0 rfl rfl) rfl rfl hl.1 rfl (lv_room (Nat.le_of_ble_eq_true rfl)) d_H_back_52 ⟨Nat.zero_le _, Nat.zero_le _⟩) (fun H locs hP hS => ?_)
            refine lv_aload_n hx hb d_H_back_55 rfl (lv_at hl 2 rfl) ?_
            refine va_get (D := D) (ci := 0) (v := .ref (ad 8)) (C := R_H) (T := T_H) (N := 12) hx hb hts iw_H hown G.1 hP 0 rfl rfl 7 (by decide) (hts _ wd_1_219) (fun _ h9 => h9) rfl d_H_back_56 ?_
            refine lv_iload hx hb d_H_back_59 (lv_at hl 0 rfl) ?_
            obtain ⟨v13, e_v13, h⟩ := pu_ob h
            refine pu_callR (va_runV (As := [.int v3]) (rest := []) ⟨hx, hb, hml, hown, hts⟩ (c_Lo_lastDayOf l D ca ad st12 _ v3 v13 e_v13) (xCW (C := "MuseumHouse$Loans") 1 hts wd_4_50 wd_1_10 wd_4_47 wd_4_48 wd_4_49 (by decide +kernel) ⟨Nat.le_of_ble_eq_true rfl, Nat.le_of_ble_eq_true rfl⟩) (G.preV hP hS 8 rfl rfl) rfl rfl hl.1 rfl (lv_room (Nat.le_of_ble_eq_true rfl)) d_H_back_61 ⟨Nat.zero_le _, Nat.zero_le _⟩) ?_
            refine lv_istore (lv' := [(6, .int v13), (5, .int v3), (4, .int v1), (0, .ref (ad 0)), (1, .int x1), (2, .int x2), (3, .int x3)]) hx hb d_H_back_64 hl (by decide) rfl (fun ls hl => ?_)
            refine lv_aload_n hx hb d_H_back_66 rfl (lv_at hl 3 rfl) ?_
            refine va_get (D := D) (ci := 0) (v := .ref (ad 8)) (C := R_H) (T := T_H) (N := 12) hx hb hts iw_H hown G.1 hP 0 rfl rfl 7 (by decide) (hts _ wd_1_219) (fun _ h9 => h9) rfl d_H_back_67 ?_
            refine lv_iload hx hb d_H_back_70 (lv_at hl 1 rfl) ?_
            refine lv_iload_n hx hb d_H_back_72 rfl (lv_at hl 6 rfl) ?_
            obtain ⟨q14, e_q14, h⟩ := pu_ob h
            refine hCallU G hS (va_runV (As := [.int v3, .int x3]) (rest := []) ⟨hx, hb, hml, hown, hts⟩ (MetX.met (c_Lo_endOn l htl D ca ad st12 _ v3 x3 q14.1 q14.2 e_q14) (fun _ _ _ _ q => ⟨_, q.1⟩)) (xCW (C := "MuseumHouse$Loans") 2 hts wd_4_54 wd_1_10 wd_4_51 wd_4_52 wd_4_53 (by decide +kernel) ⟨Nat.le_of_ble_eq_true rfl, Nat.le_of_ble_eq_true rfl⟩) (G.preV hP hS 8 rfl rfl) rfl rfl hl.1 rfl (lv_room (Nat.le_of_ble_eq_true rfl)) d_H_back_73 ⟨Nat.zero_le _, Nat.zero_le _⟩) (fun H locs hP hS => ?_)
            refine lv_iload hx hb d_H_back_76 (lv_at hl 0 rfl) ?_
            cases h
            exact W.toX (W.iret hx hb hr (fun t ht _ => ⟨rfl, by rw [ht]; exact hP, hS.F ht⟩) hS.2.2 d_H_back_78)
          · cases h
            exact hThrV G hS hno hlocks ⟨hx, hb, hml, hown, hts⟩ (As := [.int 15, .int v10]) (rest := []) (c_H_ask l htl D ca ad st9 _ 15 v10 _ _ e_v11) (xCW (C := "MuseumHouse") 2 hts wd_2_139 wd_1_1 wd_2_136 wd_2_138 wd_0_4 (by decide +kernel) ⟨Nat.le_of_ble_eq_true rfl, Nat.le_of_ble_eq_true rfl⟩) (G.preV hP hS 0 rfl rfl) rfl rfl hl.1 rfl (lv_room (Nat.le_of_ble_eq_true rfl)) d_H_back_52 ⟨Nat.le_of_ble_eq_true rfl, Nat.le_of_ble_eq_true rfl⟩
        · cases h
          exact hThrV G hS hno hlocks ⟨hx, hb, hml, hown, hts⟩ (As := [.int 4, .int v7]) (rest := []) (c_H_ask l htl D ca ad st6 _ 4 v7 _ _ e_v8) (xCW (C := "MuseumHouse") 2 hts wd_2_139 wd_1_1 wd_2_136 wd_2_138 wd_0_4 (by decide +kernel) ⟨Nat.le_of_ble_eq_true rfl, Nat.le_of_ble_eq_true rfl⟩) (G.preV hP hS 0 rfl rfl) rfl rfl hl.1 rfl (lv_room (Nat.le_of_ble_eq_true rfl)) d_H_back_36 ⟨Nat.le_of_ble_eq_true rfl, Nat.le_of_ble_eq_true rfl⟩
      · cases h
        exact hThrV G hS hno hlocks ⟨hx, hb, hml, hown, hts⟩ (As := [.int v1, .int 8]) (rest := []) (c_H_askRight l htl D ca ad st4 _ v1 8 _ _ e_v5) (xCW (C := "MuseumHouse") 2 hts wd_2_106 wd_1_1 wd_2_103 wd_2_105 wd_0_2 (by decide +kernel) ⟨Nat.le_of_ble_eq_true rfl, Nat.le_of_ble_eq_true rfl⟩) (G.preV hP hS 0 rfl rfl) rfl rfl hl.1 rfl (lv_room (Nat.le_of_ble_eq_true rfl)) d_H_back_27 ⟨Nat.le_of_ble_eq_true rfl, Nat.le_of_ble_eq_true rfl⟩
    · cases h
      exact hThrV G hS hno hlocks ⟨hx, hb, hml, hown, hts⟩ (As := [.ref (ad 8), .int x2]) (rest := []) (c_H_numberOf_Lo l htl D ca ad st2 _ x2 _ _ e_v3) (xCW (C := "MuseumHouse") 2 hts wd_2_26 wd_1_1 wd_2_23 wd_2_25 wd_0_0 (by decide +kernel) ⟨Nat.le_of_ble_eq_true rfl, Nat.le_of_ble_eq_true rfl⟩) (G.preV hP hS 0 rfl rfl) rfl rfl hl.1 rfl (lv_room (Nat.le_of_ble_eq_true rfl)) d_H_back_17 ⟨Nat.le_of_ble_eq_true rfl, Nat.le_of_ble_eq_true rfl⟩
  · cases h
    exact hThrV G hS hno hlocks ⟨hx, hb, hml, hown, hts⟩ (As := [.ref (ad 1), .int x1]) (rest := []) (c_H_numberOf_De l htl D ca ad st _ x1 _ _ e_v1) (xCW (C := "MuseumHouse") 2 hts wd_2_26 wd_1_1 wd_2_23 wd_2_25 wd_0_0 (by decide +kernel) ⟨Nat.le_of_ble_eq_true rfl, Nat.le_of_ble_eq_true rfl⟩) (G.preV hP hS 0 rfl rfl) rfl rfl hl.1 rfl (lv_room (Nat.le_of_ble_eq_true rfl)) d_H_back_6 ⟨Nat.le_of_ble_eq_true rfl, Nat.le_of_ble_eq_true rfl⟩
set_option maxHeartbeats 4000000 in
set_option maxRecDepth 100000 in
theorem c_Rg_isFull_Sh (l : Launch) (D : va_G) (ca : Nat → ClassId) (ad : Nat → Nat) (st : pu_St) (sz : Nat) (r : Int32) (h : f_Rg_isFull_Sh st = some r) : Met l y_Rg_isFull (.code y_Rg_isFull b_Rg_isFull 1 (some .boolean) :: tG) { frames := 0, cells := 0, slots := 0, locals := 0 } (va_Pc [.ref (ad 9)] (hPc D ca ad st sz)) (QcRead r) 0 0 (fun _ => False) := by
  refine hRead (by decide +kernel) ?_
  intro p e s m below meth c C G hP
  obtain ⟨hx, hb, hml, hr, hlocks, hno, hown, hts⟩ := id C
  have hown : s.vm.findClass "MuseumHouse$Register" = some m.cls := hown
  have hS : va_S (hA ad s.heap.size) s.heap s.heap [] := va_S.rf
  have hl := lv_entry ([.ref (ad 9)]) (n := 1) (Nat.le_of_ble_eq_true rfl)
  rw [lg_entry_eq]
  generalize (lg_sl ([.ref (ad 9)]) ++ List.replicate (1 - (lg_sl ([.ref (ad 9)])).length) Slot.unset).toArray = ls at hl ⊢
  have hl : lv_has ls 1 [(0, .ref (ad 9))] := hl
  unfold f_Rg_isFull_Sh at h
  refine lv_aload_n hx hb d_Rg_isFull_0 rfl (lv_at hl 0 rfl) ?_
  refine va_get (D := D) (ci := 9) (v := .int (st.1 9)) (C := R_Sh) (T := T_Sh) (N := 7) hx hb hts iw_Sh hown G.1 hP 9 rfl rfl 2 (by decide) (hts _ wd_1_47) (fun _ h9 => h9) rfl d_Rg_isFull_1 ?_
  refine lv_aload_n hx hb d_Rg_isFull_4 rfl (lv_at hl 0 rfl) ?_
  refine va_get (D := D) (ci := 9) (v := .int 10) (C := R_Sh) (T := T_Sh) (N := 7) hx hb hts iw_Sh hown G.1 hP 9 rfl rfl 1 (by decide) (hts _ wd_1_46) (fun _ h9 => h9) rfl d_Rg_isFull_5 ?_
  refine lv_icmp_lt (tgt := 15) hx hb d_Rg_isFull_8 (by decide) (fun c1 => ?_) (fun c1 => ?_)
  · rw [if_pos c1] at h
    refine lv_iconst (v := 0) hx hb d_Rg_isFull_15 (by decide) ?_
    have h := Option.some.inj h
    exact W.zret (v := 0) (ty := .boolean) hx hb hr rfl (fun t ht _ => ⟨by rw [h], ht⟩) (fun _ q => by cases q) d_Rg_isFull_16
  · rw [if_neg c1] at h
    refine lv_iconst (v := 1) hx hb d_Rg_isFull_11 (by decide) ?_
    refine lv_goto (tgt := 16) hx hb d_Rg_isFull_12 (by decide) ?_
    have h := Option.some.inj h
    exact W.zret (v := 1) (ty := .boolean) hx hb hr rfl (fun t ht _ => ⟨by rw [h], ht⟩) (fun _ q => by cases q) d_Rg_isFull_16
set_option maxHeartbeats 4000000 in
set_option maxRecDepth 100000 in
theorem c_Rg_enter_Sh (l : Launch) (htl : l.stackTraces = false) (D : va_G) (ca : Nat → ClassId) (ad : Nat → Nat) (st : pu_St) (sz : Nat) (v : Int32) (st' : pu_St) (h : f_Rg_enter_Sh st = some (v, st')) : MetX l y_Rg_enter (.code y_Rg_enter b_Rg_enter 2 (some .int) :: tG) { frames := 0, cells := 0, slots := 0, locals := 0 } (va_Pc [.ref (ad 9)] (hPc D ca ad st sz)) (hQ D ca ad (fun v => some (.int v)) (.inl v) st' sz) 0 0 (hA ad sz) := by
  refine hMet (by decide +kernel) ?_
  intro p e s m below meth c hsz C G hP
  obtain ⟨hx, hb, hml, hr, hlocks, hno, hown, hts⟩ := id C
  have hown : s.vm.findClass "MuseumHouse$Register" = some m.cls := hown
  have hS : va_S (hA ad s.heap.size) s.heap s.heap [] := va_S.rf
  have hl := lv_entry ([.ref (ad 9)]) (n := 2) (Nat.le_of_ble_eq_true rfl)
  rw [lg_entry_eq]
  generalize (lg_sl ([.ref (ad 9)]) ++ List.replicate (2 - (lg_sl ([.ref (ad 9)])).length) Slot.unset).toArray = ls at hl ⊢
  have hl : lv_has ls 2 [(0, .ref (ad 9))] := hl
  unfold f_Rg_enter_Sh at h
  refine lv_aload_n hx hb d_Rg_enter_0 rfl (lv_at hl 0 rfl) ?_
  refine va_get (D := D) (ci := 9) (v := .int (st.1 9)) (C := R_Sh) (T := T_Sh) (N := 7) hx hb hts iw_Sh hown G.1 hP 9 rfl rfl 2 (by decide) (hts _ wd_1_47) (fun _ h9 => h9) rfl d_Rg_enter_1 ?_
  refine lv_istore_n (lv' := [(1, .int (st.1 9)), (0, .ref (ad 9))]) hx hb d_Rg_enter_4 rfl hl (by decide) rfl (fun ls hl => ?_)
  refine lv_aload_n hx hb d_Rg_enter_5 rfl (lv_at hl 1 rfl) ?_
  refine lv_dup hx hb d_Rg_enter_6 rfl ?_
  refine va_get (D := D) (ci := 9) (v := .int (st.1 9)) (C := R_Sh) (T := T_Sh) (N := 7) hx hb hts iw_Sh hown G.1 hP 9 rfl rfl 2 (by decide) (hts _ wd_1_47) (fun _ h9 => h9) rfl d_Rg_enter_7 ?_
  refine lv_iconst (v := 1) hx hb d_Rg_enter_10 (by decide) ?_
  refine lv_iadd hx hb d_Rg_enter_11 ?_
  refine va_put (D := D) (ci := 9) (v := .int ((st.1 9) + 1)) (ty := .int) (C := R_Sh) (T := T_Sh) (N := 7) hx hb hts iw_Sh ty_Sh to_Sh nm_Sh hown G.1 hP (G.D) hS 9 rfl rfl 2 (by decide) (hts _ wd_1_47) (fun _ h9 => h9) rfl (by decide +kernel) rfl rfl (Nat.le_of_ble_eq_true rfl) d_Rg_enter_12 (fun H locs hP _ hS => ?_)
  have hP : va_P D hcl (hW ca ad (va_up st.1 9 ((st.1 9) + 1), st.2)) H := hP
  refine lv_iload_n hx hb d_Rg_enter_15 rfl (lv_at hl 0 rfl) ?_
  cases h
  exact W.toX (W.iret hx hb hr (fun t ht _ => ⟨rfl, by rw [ht]; exact hP, hS.F ht⟩) hS.2.2 d_Rg_enter_16)
set_option maxHeartbeats 4000000 in
set_option maxRecDepth 100000 in
theorem c_Rg_handleOf_Sh (l : Launch) (D : va_G) (ca : Nat → ClassId) (ad : Nat → Nat) (st : pu_St) (sz : Nat) (x1 : Int32) (r : Int32) (h : f_Rg_handleOf_Sh st x1 = some r) : Met l y_Rg_handleOf (.code y_Rg_handleOf b_Rg_handleOf 2 (some .int) :: tG) { frames := 0, cells := 0, slots := 0, locals := 0 } (va_Pc [.ref (ad 9), .int x1] (hPc D ca ad st sz)) (QcRead r) 0 0 (fun _ => False) := by
  refine hRead (by decide +kernel) ?_
  intro p e s m below meth c C G hP
  obtain ⟨hx, hb, hml, hr, hlocks, hno, hown, hts⟩ := id C
  have hown : s.vm.findClass "MuseumHouse$Register" = some m.cls := hown
  have hS : va_S (hA ad s.heap.size) s.heap s.heap [] := va_S.rf
  have hl := lv_entry ([.ref (ad 9), .int x1]) (n := 2) (Nat.le_of_ble_eq_true rfl)
  rw [lg_entry_eq]
  generalize (lg_sl ([.ref (ad 9), .int x1]) ++ List.replicate (2 - (lg_sl ([.ref (ad 9), .int x1])).length) Slot.unset).toArray = ls at hl ⊢
  have hl : lv_has ls 2 [(0, .ref (ad 9)), (1, .int x1)] := hl
  unfold f_Rg_handleOf_Sh at h
  refine lv_aload_n hx hb d_Rg_handleOf_0 rfl (lv_at hl 0 rfl) ?_
  refine va_get (D := D) (ci := 9) (v := .int 800) (C := R_Sh) (T := T_Sh) (N := 7) hx hb hts iw_Sh hown G.1 hP 9 rfl rfl 0 (by decide) (hts _ wd_1_45) (fun _ h9 => h9) rfl d_Rg_handleOf_1 ?_
  refine lv_iload_n hx hb d_Rg_handleOf_4 rfl (lv_at hl 1 rfl) ?_
  refine lv_iadd hx hb d_Rg_handleOf_5 ?_
  have h := Option.some.inj h
  exact W.iret (v := (800 + x1)) hx hb hr (fun t ht _ => ⟨by rw [h], ht⟩) (fun _ q => by cases q) d_Rg_handleOf_6
set_option maxHeartbeats 4000000 in
set_option maxRecDepth 100000 in
theorem c_Sh_plan (l : Launch) (htl : l.stackTraces = false) (D : va_G) (ca : Nat → ClassId) (ad : Nat → Nat) (st : pu_St) (sz : Nat) (x1 x2 x3 : Int32) (v : Int32) (st' : pu_St) (h : f_Sh_plan st x1 x2 x3 = some (v, st')) : MetX l y_Sh_plan (.code y_Sh_plan b_Sh_plan 5 (some .int) :: tG) { frames := 1, cells := 0, slots := 0, locals := 21 } (va_Pc [.ref (ad 9), .int x1, .int x2, .int x3] (hPc D ca ad st sz)) (hQ D ca ad (fun v => some (.int v)) (.inl v) st' sz) 0 0 (hA ad sz) := by
  refine hMet (by decide +kernel) ?_
  intro p e s m below meth c hsz C G hP
  obtain ⟨hx, hb, hml, hr, hlocks, hno, hown, hts⟩ := id C
  have hown : s.vm.findClass "MuseumHouse$Shows" = some m.cls := hown
  have hS : va_S (hA ad s.heap.size) s.heap s.heap [] := va_S.rf
  have hl := lv_entry ([.ref (ad 9), .int x1, .int x2, .int x3]) (n := 5) (Nat.le_of_ble_eq_true rfl)
  rw [lg_entry_eq]
  generalize (lg_sl ([.ref (ad 9), .int x1, .int x2, .int x3]) ++ List.replicate (5 - (lg_sl ([.ref (ad 9), .int x1, .int x2, .int x3])).length) Slot.unset).toArray = ls at hl ⊢
  have hl : lv_has ls 5 [(0, .ref (ad 9)), (1, .int x1), (2, .int x2), (3, .int x3)] := hl
  unfold f_Sh_plan at h
  refine lv_aload_n hx hb d_Sh_plan_0 rfl (lv_at hl 0 rfl) ?_
  obtain ⟨q1, e_q1, h⟩ := pu_ob h
  refine hCallI G hS (va_runU (As := []) (rest := []) ⟨hx, hb, hml, hown, hts⟩ (MetX.met (c_Rg_enter_Sh l htl D ca ad st _ q1.1 q1.2 e_q1) (fun _ _ _ _ q => ⟨_, q.1⟩)) (xCU (C := "MuseumHouse$Shows") (owner := "MuseumHouse$Register") (x := ⟨"MuseumHouse$Shows", "enter", "()I"⟩) 0 hts wd_1_43 wd_1_2 wd_4_69 wd_4_70 wd_1_42 wd_4_71 rfl (by decide +kernel) ⟨Nat.le_of_ble_eq_true rfl, Nat.le_of_ble_eq_true rfl⟩) (G.preV hP hS 9 rfl rfl) rfl rfl hl.1 rfl (lv_room (Nat.le_of_ble_eq_true rfl)) d_Sh_plan_1 ⟨Nat.zero_le _, Nat.zero_le _⟩) (fun H locs hP hS => ?_)
  refine lv_istore (lv' := [(4, .int q1.1), (0, .ref (ad 9)), (1, .int x1), (2, .int x2), (3, .int x3)]) hx hb d_Sh_plan_4 hl (by decide) rfl (fun ls hl => ?_)
  refine lv_aload_n hx hb d_Sh_plan_6 rfl (lv_at hl 1 rfl) ?_
  refine va_get (D := D) (ci := 9) (v := .ref (ad 27)) (C := R_Sh) (T := T_Sh) (N := 7) hx hb hts iw_Sh hown G.1 hP 9 rfl rfl 3 (by decide) (hts _ wd_1_176) (fun _ h9 => h9) rfl d_Sh_plan_7 ?_
  refine lv_iload hx hb d_Sh_plan_10 (lv_at hl 0 rfl) ?_
  refine lv_iload_n hx hb d_Sh_plan_12 rfl (lv_at hl 2 rfl) ?_
  obtain ⟨g2, e_g2, h⟩ := pu_ob h
  refine pu_iast hx hb G.1 hP (G.D) hS 27 16 rfl rfl e_g2 d_Sh_plan_13 (fun H locs hP hS => ?_)
  have hP : va_P D hcl (hW ca ad (q1.2.1, va_up q1.2.2 16 g2)) H := hP
  refine lv_aload_n hx hb d_Sh_plan_14 rfl (lv_at hl 1 rfl) ?_
  refine va_get (D := D) (ci := 9) (v := .ref (ad 28)) (C := R_Sh) (T := T_Sh) (N := 7) hx hb hts iw_Sh hown G.1 hP 9 rfl rfl 4 (by decide) (hts _ wd_1_177) (fun _ h9 => h9) rfl d_Sh_plan_15 ?_
  refine lv_iload hx hb d_Sh_plan_18 (lv_at hl 0 rfl) ?_
  refine lv_iload_n hx hb d_Sh_plan_20 rfl (lv_at hl 3 rfl) ?_
  obtain ⟨g3, e_g3, h⟩ := pu_ob h
  refine pu_iast hx hb G.1 hP (G.D) hS 28 17 rfl rfl e_g3 d_Sh_plan_21 (fun H locs hP hS => ?_)
  have hP : va_P D hcl (hW ca ad ((q1.2.1, va_up q1.2.2 16 g2).1, va_up (q1.2.1, va_up q1.2.2 16 g2).2 17 g3)) H := hP
  refine lv_aload_n hx hb d_Sh_plan_22 rfl (lv_at hl 1 rfl) ?_
  refine va_get (D := D) (ci := 9) (v := .ref (ad 29)) (C := R_Sh) (T := T_Sh) (N := 7) hx hb hts iw_Sh hown G.1 hP 9 rfl rfl 5 (by decide) (hts _ wd_1_178) (fun _ h9 => h9) rfl d_Sh_plan_23 ?_
  refine lv_iload hx hb d_Sh_plan_26 (lv_at hl 0 rfl) ?_
  refine lv_iload_n hx hb d_Sh_plan_28 rfl (lv_at hl 4 rfl) ?_
  obtain ⟨g4, e_g4, h⟩ := pu_ob h
  refine pu_iast hx hb G.1 hP (G.D) hS 29 18 rfl rfl e_g4 d_Sh_plan_29 (fun H locs hP hS => ?_)
  have hP : va_P D hcl (hW ca ad (((q1.2.1, va_up q1.2.2 16 g2).1, va_up (q1.2.1, va_up q1.2.2 16 g2).2 17 g3).1, va_up ((q1.2.1, va_up q1.2.2 16 g2).1, va_up (q1.2.1, va_up q1.2.2 16 g2).2 17 g3).2 18 g4)) H := hP
  refine lv_aload_n hx hb d_Sh_plan_30 rfl (lv_at hl 1 rfl) ?_
  refine va_get (D := D) (ci := 9) (v := .ref (ad 30)) (C := R_Sh) (T := T_Sh) (N := 7) hx hb hts iw_Sh hown G.1 hP 9 rfl rfl 6 (by decide) (hts _ wd_1_179) (fun _ h9 => h9) rfl d_Sh_plan_31 ?_
  refine lv_iload hx hb d_Sh_plan_34 (lv_at hl 0 rfl) ?_
  refine lv_iconst (v := 0) hx hb d_Sh_plan_36 (by decide) ?_
  obtain ⟨g5, e_g5, h⟩ := pu_ob h
  refine pu_iast hx hb G.1 hP (G.D) hS 30 19 rfl rfl e_g5 d_Sh_plan_37 (fun H locs hP hS => ?_)
  have hP : va_P D hcl (hW ca ad ((((q1.2.1, va_up q1.2.2 16 g2).1, va_up (q1.2.1, va_up q1.2.2 16 g2).2 17 g3).1, va_up ((q1.2.1, va_up q1.2.2 16 g2).1, va_up (q1.2.1, va_up q1.2.2 16 g2).2 17 g3).2 18 g4).1, va_up (((q1.2.1, va_up q1.2.2 16 g2).1, va_up (q1.2.1, va_up q1.2.2 16 g2).2 17 g3).1, va_up ((q1.2.1, va_up q1.2.2 16 g2).1, va_up (q1.2.1, va_up q1.2.2 16 g2).2 17 g3).2 18 g4).2 19 g5)) H := hP
  refine lv_aload_n hx hb d_Sh_plan_38 rfl (lv_at hl 1 rfl) ?_
  refine lv_iload hx hb d_Sh_plan_39 (lv_at hl 0 rfl) ?_
  obtain ⟨v6, e_v6, h⟩ := pu_ob h
  refine pu_callR (va_runU (As := [.int q1.1]) (rest := []) ⟨hx, hb, hml, hown, hts⟩ (c_Rg_handleOf_Sh l D ca ad ((((q1.2.1, va_up q1.2.2 16 g2).1, va_up (q1.2.1, va_up q1.2.2 16 g2).2 17 g3).1, va_up ((q1.2.1, va_up q1.2.2 16 g2).1, va_up (q1.2.1, va_up q1.2.2 16 g2).2 17 g3).2 18 g4).1, va_up (((q1.2.1, va_up q1.2.2 16 g2).1, va_up (q1.2.1, va_up q1.2.2 16 g2).2 17 g3).1, va_up ((q1.2.1, va_up q1.2.2 16 g2).1, va_up (q1.2.1, va_up q1.2.2 16 g2).2 17 g3).2 18 g4).2 19 g5) _ q1.1 v6 e_v6) (xCU (C := "MuseumHouse$Shows") (owner := "MuseumHouse$Register") (x := ⟨"MuseumHouse$Shows", "handleOf", "(I)I"⟩) 1 hts wd_2_164 wd_1_2 wd_4_72 wd_4_73 wd_2_163 wd_4_74 rfl (by decide +kernel) ⟨Nat.le_of_ble_eq_true rfl, Nat.le_of_ble_eq_true rfl⟩) (G.preV hP hS 9 rfl rfl) rfl rfl hl.1 rfl (lv_room (Nat.le_of_ble_eq_true rfl)) d_Sh_plan_41 ⟨Nat.zero_le _, Nat.zero_le _⟩) ?_
  cases h
  exact W.toX (W.iret hx hb hr (fun t ht _ => ⟨rfl, by rw [ht]; exact hP, hS.F ht⟩) hS.2.2 d_Sh_plan_44)
set_option maxHeartbeats 4000000 in
set_option maxRecDepth 100000 in
theorem t_H_show_b77 {l : Launch} (htl : l.stackTraces = false) {p : Program} {e : Env} {s : State} {m : MethodId} {args : Array Value} {below : List Frame} {meth : Method} {c : Code} {D : va_G} {ca : Nat → ClassId} {ad : Nat → Nat} {st' : pu_St} {r : Int32 ⊕ Nat} (C : hC p s m meth c args b_H_show 7 (some .int) "MuseumHouse") (G : hX D ca ad (hA ad s.heap.size) s) :
    ∀ (_ : Unit) (st : pu_St) (x1 x2 x3 x4 x5 x6 z0 z1 : Int32), f_H_show_b77 st x1 x2 x3 x4 x5 x6 z0 z1 = some (r, st') → ∀ (H : Heap) (locs : List Loc), va_P D hcl (hW ca ad st) H → va_S (hA ad s.heap.size) s.heap H locs → ∀ ls : Array Slot, lv_has ls 7 [(0, .ref (ad 0)), (1, .int x1), (2, .int x2), (3, .int x3), (4, .int x4), (5, .int x5), (6, .int x6)] → W p l e { frames := 7, cells := xc r, slots := xs r, locals := 113 } s m args below meth c H locs 0 0 (MQX below (hQ D ca ad (fun v => some (.int v)) r st' s.heap.size) args s (xc r) (xs r) (hA ad s.heap.size)) (F0 m 77 ls [.int z0, .int z1, .ref (ad 0)]) := by
  obtain ⟨hx, hb, hml, hr, hlocks, hno, hown, hts⟩ := id C
  intro _ st x1 x2 x3 x4 x5 x6 z0 z1 h H locs hP hS ls hl
  unfold f_H_show_b77 at h
  rcases pu_xb_inv h with ⟨v16, st17, e_v16, h⟩ | ⟨v16, st17, e_v16, h⟩
  · refine hCallU G hS (va_runV (As := [.int z1, .int z0]) (rest := []) ⟨hx, hb, hml, hown, hts⟩ (MetX.met (c_H_ask l htl D ca ad st _ z1 z0 _ _ e_v16) (fun _ _ _ _ q => ⟨_, q.1⟩)) (xCW (C := "MuseumHouse") 2 hts wd_2_139 wd_1_1 wd_2_136 wd_2_138 wd_0_4 (by decide +kernel) ⟨Nat.le_of_ble_eq_true rfl, Nat.le_of_ble_eq_true rfl⟩) (G.preV hP hS 0 rfl rfl) rfl rfl hl.1 rfl (lv_room (Nat.le_of_ble_eq_true rfl)) d_H_show_77 ⟨Nat.zero_le _, Nat.zero_le _⟩) (fun H locs hP hS => ?_)
    refine lv_aload_n hx hb d_H_show_80 rfl (lv_at hl 0 rfl) ?_
    refine va_get (D := D) (ci := 0) (v := .ref (ad 9)) (C := R_H) (T := T_H) (N := 12) hx hb hts iw_H hown G.1 hP 0 rfl rfl 8 (by decide) (hts _ wd_1_220) (fun _ h9 => h9) rfl d_H_show_81 ?_
    refine lv_iload hx hb d_H_show_84 (lv_at hl 6 rfl) ?_
    refine lv_iload_n hx hb d_H_show_86 rfl (lv_at hl 3 rfl) ?_
    refine lv_iload hx hb d_H_show_87 (lv_at hl 4 rfl) ?_
    obtain ⟨q18, e_q18, h⟩ := pu_ob h
    refine hCallI G hS (va_runV (As := [.int x6, .int x3, .int x4]) (rest := []) ⟨hx, hb, hml, hown, hts⟩ (MetX.met (c_Sh_plan l htl D ca ad st17 _ x6 x3 x4 q18.1 q18.2 e_q18) (fun _ _ _ _ q => ⟨_, q.1⟩)) (xCW (C := "MuseumHouse$Shows") 3 hts wd_4_68 wd_1_11 wd_4_65 wd_4_66 wd_4_67 (by decide +kernel) ⟨Nat.le_of_ble_eq_true rfl, Nat.le_of_ble_eq_true rfl⟩) (G.preV hP hS 9 rfl rfl) rfl rfl hl.1 rfl (lv_room (Nat.le_of_ble_eq_true rfl)) d_H_show_89 ⟨Nat.zero_le _, Nat.zero_le _⟩) (fun H locs hP hS => ?_)
    cases h
    exact W.toX (W.iret hx hb hr (fun t ht _ => ⟨rfl, by rw [ht]; exact hP, hS.F ht⟩) hS.2.2 d_H_show_92)
  · cases h
    exact hThrV G hS hno hlocks ⟨hx, hb, hml, hown, hts⟩ (As := [.int z1, .int z0]) (rest := []) (c_H_ask l htl D ca ad st _ z1 z0 _ _ e_v16) (xCW (C := "MuseumHouse") 2 hts wd_2_139 wd_1_1 wd_2_136 wd_2_138 wd_0_4 (by decide +kernel) ⟨Nat.le_of_ble_eq_true rfl, Nat.le_of_ble_eq_true rfl⟩) (G.preV hP hS 0 rfl rfl) rfl rfl hl.1 rfl (lv_room (Nat.le_of_ble_eq_true rfl)) d_H_show_77 ⟨Nat.le_of_ble_eq_true rfl, Nat.le_of_ble_eq_true rfl⟩
set_option maxHeartbeats 4000000 in
set_option maxRecDepth 100000 in
theorem t_H_show_b76 {l : Launch} (htl : l.stackTraces = false) {p : Program} {e : Env} {s : State} {m : MethodId} {args : Array Value} {below : List Frame} {meth : Method} {c : Code} {D : va_G} {ca : Nat → ClassId} {ad : Nat → Nat} {st' : pu_St} {r : Int32 ⊕ Nat} (C : hC p s m meth c args b_H_show 7 (some .int) "MuseumHouse") (G : hX D ca ad (hA ad s.heap.size) s) :
    ∀ (_ : Unit) (st : pu_St) (x1 x2 x3 x4 x5 x6 z0 : Int32), f_H_show_b76 st x1 x2 x3 x4 x5 x6 z0 = some (r, st') → ∀ (H : Heap) (locs : List Loc), va_P D hcl (hW ca ad st) H → va_S (hA ad s.heap.size) s.heap H locs → ∀ ls : Array Slot, lv_has ls 7 [(0, .ref (ad 0)), (1, .int x1), (2, .int x2), (3, .int x3), (4, .int x4), (5, .int x5), (6, .int x6)] → W p l e { frames := 7, cells := xc r, slots := xs r, locals := 113 } s m args below meth c H locs 0 0 (MQX below (hQ D ca ad (fun v => some (.int v)) r st' s.heap.size) args s (xc r) (xs r) (hA ad s.heap.size)) (F0 m 76 ls [.int z0, .ref (ad 0)]) := by
  obtain ⟨hx, hb, hml, hr, hlocks, hno, hown, hts⟩ := id C
  intro _ st x1 x2 x3 x4 x5 x6 z0 h H locs hP hS ls hl
  unfold f_H_show_b76 at h
  refine lv_iconst (v := 0) hx hb d_H_show_76 (by decide) ?_
  exact t_H_show_b77 htl C G () st x1 x2 x3 x4 x5 x6 0 z0 h _ _ hP hS ls (lv_sub hl [0, 1, 2, 3, 4, 5, 6] rfl)
set_option maxHeartbeats 4000000 in
set_option maxRecDepth 100000 in
theorem t_H_show_b46 {l : Launch} (htl : l.stackTraces = false) {p : Program} {e : Env} {s : State} {m : MethodId} {args : Array Value} {below : List Frame} {meth : Method} {c : Code} {D : va_G} {ca : Nat → ClassId} {ad : Nat → Nat} {st' : pu_St} {r : Int32 ⊕ Nat} (C : hC p s m meth c args b_H_show 7 (some .int) "MuseumHouse") (G : hX D ca ad (hA ad s.heap.size) s) :
    ∀ (_ : Unit) (st : pu_St) (x1 x2 x3 x4 x5 x6 z0 : Int32), f_H_show_b46 st x1 x2 x3 x4 x5 x6 z0 = some (r, st') → ∀ (H : Heap) (locs : List Loc), va_P D hcl (hW ca ad st) H → va_S (hA ad s.heap.size) s.heap H locs → ∀ ls : Array Slot, lv_has ls 7 [(0, .ref (ad 0)), (1, .int x1), (2, .int x2), (3, .int x3), (4, .int x4), (5, .int x5), (6, .int x6)] → W p l e { frames := 7, cells := xc r, slots := xs r, locals := 113 } s m args below meth c H locs 0 0 (MQX below (hQ D ca ad (fun v => some (.int v)) r st' s.heap.size) args s (xc r) (xs r) (hA ad s.heap.size)) (F0 m 46 ls [.int z0, .ref (ad 0)]) := by
  obtain ⟨hx, hb, hml, hr, hlocks, hno, hown, hts⟩ := id C
  intro _ st x1 x2 x3 x4 x5 x6 z0 h H locs hP hS ls hl
  unfold f_H_show_b46 at h
  rcases pu_xb_inv h with ⟨v9, st10, e_v9, h⟩ | ⟨v9, st10, e_v9, h⟩
  · refine hCallU G hS (va_runV (As := [.int z0]) (rest := []) ⟨hx, hb, hml, hown, hts⟩ (MetX.met (c_H_askRoom l htl D ca ad st _ z0 _ _ e_v9) (fun _ _ _ _ q => ⟨_, q.1⟩)) (xCW (C := "MuseumHouse") 1 hts wd_2_135 wd_1_1 wd_2_132 wd_2_134 wd_0_3 (by decide +kernel) ⟨Nat.le_of_ble_eq_true rfl, Nat.le_of_ble_eq_true rfl⟩) (G.preV hP hS 0 rfl rfl) rfl rfl hl.1 rfl (lv_room (Nat.le_of_ble_eq_true rfl)) d_H_show_46 ⟨Nat.zero_le _, Nat.zero_le _⟩) (fun H locs hP hS => ?_)
    refine lv_aload_n hx hb d_H_show_49 rfl (lv_at hl 0 rfl) ?_
    refine lv_iconst (v := 4) hx hb d_H_show_50 (by decide) ?_
    refine lv_iload_n hx hb d_H_show_51 rfl (lv_at hl 3 rfl) ?_
    obtain ⟨v11, e_v11, h⟩ := pu_ob h
    refine pu_callR (va_runS (As := [.int x3]) (rest := [.int 4, .ref (ad 0)]) ⟨hx, hb, hml, hown, hts⟩ (c_H_isDay l D ca ad st10 _ x3 v11 e_v11) (xCS 1 hts wd_3_67 wd_1_1 wd_3_65 wd_3_66 (by decide +kernel) ⟨Nat.le_of_ble_eq_true rfl, Nat.le_of_ble_eq_true rfl⟩) (G.preS hP hS) rfl rfl hl.1 rfl (lv_room (Nat.le_of_ble_eq_true rfl)) d_H_show_52 ⟨Nat.zero_le _, Nat.zero_le _⟩) ?_
    refine lv_if_eq (tgt := 76) hx hb d_H_show_55 (by decide) (fun c12 => ?_) (fun c12 => ?_)
    · rw [if_pos c12] at h
      exact t_H_show_b76 htl C G () st10 x1 x2 x3 x4 x5 x6 4 h _ _ hP hS ls (lv_sub hl [0, 1, 2, 3, 4, 5, 6] rfl)
    · rw [if_neg c12] at h
      refine lv_iload hx hb d_H_show_58 (lv_at hl 4 rfl) ?_
      obtain ⟨v13, e_v13, h⟩ := pu_ob h
      refine pu_callR (va_runS (As := [.int x4]) (rest := [.int 4, .ref (ad 0)]) ⟨hx, hb, hml, hown, hts⟩ (c_H_isDay l D ca ad st10 _ x4 v13 e_v13) (xCS 1 hts wd_3_67 wd_1_1 wd_3_65 wd_3_66 (by decide +kernel) ⟨Nat.le_of_ble_eq_true rfl, Nat.le_of_ble_eq_true rfl⟩) (G.preS hP hS) rfl rfl hl.1 rfl (lv_room (Nat.le_of_ble_eq_true rfl)) d_H_show_60 ⟨Nat.zero_le _, Nat.zero_le _⟩) ?_
      refine lv_if_eq (tgt := 76) hx hb d_H_show_63 (by decide) (fun c14 => ?_) (fun c14 => ?_)
      · rw [if_pos c14] at h
        exact t_H_show_b76 htl C G () st10 x1 x2 x3 x4 x5 x6 4 h _ _ hP hS ls (lv_sub hl [0, 1, 2, 3, 4, 5, 6] rfl)
      · rw [if_neg c14] at h
        refine lv_iload_n hx hb d_H_show_66 rfl (lv_at hl 3 rfl) ?_
        refine lv_iload hx hb d_H_show_67 (lv_at hl 4 rfl) ?_
        refine lv_icmp_gt (tgt := 76) hx hb d_H_show_69 (by decide) (fun c15 => ?_) (fun c15 => ?_)
        · rw [if_pos c15] at h
          exact t_H_show_b76 htl C G () st10 x1 x2 x3 x4 x5 x6 4 h _ _ hP hS ls (lv_sub hl [0, 1, 2, 3, 4, 5, 6] rfl)
        · rw [if_neg c15] at h
          refine lv_iconst (v := 1) hx hb d_H_show_72 (by decide) ?_
          refine lv_goto (tgt := 77) hx hb d_H_show_73 (by decide) ?_
          exact t_H_show_b77 htl C G () st10 x1 x2 x3 x4 x5 x6 1 4 h _ _ hP hS ls (lv_sub hl [0, 1, 2, 3, 4, 5, 6] rfl)
  · cases h
    exact hThrV G hS hno hlocks ⟨hx, hb, hml, hown, hts⟩ (As := [.int z0]) (rest := []) (c_H_askRoom l htl D ca ad st _ z0 _ _ e_v9) (xCW (C := "MuseumHouse") 1 hts wd_2_135 wd_1_1 wd_2_132 wd_2_134 wd_0_3 (by decide +kernel) ⟨Nat.le_of_ble_eq_true rfl, Nat.le_of_ble_eq_true rfl⟩) (G.preV hP hS 0 rfl rfl) rfl rfl hl.1 rfl (lv_room (Nat.le_of_ble_eq_true rfl)) d_H_show_46 ⟨Nat.le_of_ble_eq_true rfl, Nat.le_of_ble_eq_true rfl⟩
set_option maxHeartbeats 4000000 in
set_option maxRecDepth 100000 in
theorem c_H_show (l : Launch) (htl : l.stackTraces = false) (D : va_G) (ca : Nat → ClassId) (ad : Nat → Nat) (st : pu_St) (sz : Nat) (x1 x2 x3 x4 : Int32) (r : Int32 ⊕ Nat) (st' : pu_St) (h : f_H_show st x1 x2 x3 x4 = some (r, st')) : MetX l y_H_show (.code y_H_show b_H_show 7 (some .int) :: tG) { frames := 7, cells := xc r, slots := xs r, locals := 113 } (va_Pc [.ref (ad 0), .int x1, .int x2, .int x3, .int x4] (hPc D ca ad st sz)) (hQ D ca ad (fun v => some (.int v)) r st' sz) (xc r) (xs r) (hA ad sz) := by
  refine hMet (by decide +kernel) ?_
  intro p e s m below meth c hsz C G hP
  obtain ⟨hx, hb, hml, hr, hlocks, hno, hown, hts⟩ := id C
  have hown : s.vm.findClass "MuseumHouse" = some m.cls := hown
  have hS : va_S (hA ad s.heap.size) s.heap s.heap [] := va_S.rf
  have hl := lv_entry ([.ref (ad 0), .int x1, .int x2, .int x3, .int x4]) (n := 7) (Nat.le_of_ble_eq_true rfl)
  rw [lg_entry_eq]
  generalize (lg_sl ([.ref (ad 0), .int x1, .int x2, .int x3, .int x4]) ++ List.replicate (7 - (lg_sl ([.ref (ad 0), .int x1, .int x2, .int x3, .int x4])).length) Slot.unset).toArray = ls at hl ⊢
  have hl : lv_has ls 7 [(0, .ref (ad 0)), (1, .int x1), (2, .int x2), (3, .int x3), (4, .int x4)] := hl
  unfold f_H_show at h
  refine lv_aload_n hx hb d_H_show_0 rfl (lv_at hl 0 rfl) ?_
  refine lv_aload_n hx hb d_H_show_1 rfl (lv_at hl 0 rfl) ?_
  refine va_get (D := D) (ci := 0) (v := .ref (ad 1)) (C := R_H) (T := T_H) (N := 12) hx hb hts iw_H hown G.1 hP 0 rfl rfl 0 (by decide) (hts _ wd_1_212) (fun _ h9 => h9) rfl d_H_show_2 ?_
  refine lv_iload_n hx hb d_H_show_5 rfl (lv_at hl 1 rfl) ?_
  rcases pu_xb_inv h with ⟨v1, st2, e_v1, h⟩ | ⟨v1, st2, e_v1, h⟩
  · refine hCallI G hS (va_runV (As := [.ref (ad 1), .int x1]) (rest := []) ⟨hx, hb, hml, hown, hts⟩ (MetX.met (c_H_numberOf_De l htl D ca ad st _ x1 _ _ e_v1) (fun _ _ _ _ q => ⟨_, q.1⟩)) (xCW (C := "MuseumHouse") 2 hts wd_2_26 wd_1_1 wd_2_23 wd_2_25 wd_0_0 (by decide +kernel) ⟨Nat.le_of_ble_eq_true rfl, Nat.le_of_ble_eq_true rfl⟩) (G.preV hP hS 0 rfl rfl) rfl rfl hl.1 rfl (lv_room (Nat.le_of_ble_eq_true rfl)) d_H_show_6 ⟨Nat.zero_le _, Nat.zero_le _⟩) (fun H locs hP hS => ?_)
    refine lv_istore (lv' := [(5, .int v1), (0, .ref (ad 0)), (1, .int x1), (2, .int x2), (3, .int x3), (4, .int x4)]) hx hb d_H_show_9 hl (by decide) rfl (fun ls hl => ?_)
    refine lv_aload_n hx hb d_H_show_11 rfl (lv_at hl 1 rfl) ?_
    refine lv_aload_n hx hb d_H_show_12 rfl (lv_at hl 1 rfl) ?_
    refine va_get (D := D) (ci := 0) (v := .ref (ad 7)) (C := R_H) (T := T_H) (N := 12) hx hb hts iw_H hown G.1 hP 0 rfl rfl 6 (by decide) (hts _ wd_1_218) (fun _ h9 => h9) rfl d_H_show_13 ?_
    refine lv_iload_n hx hb d_H_show_16 rfl (lv_at hl 3 rfl) ?_
    rcases pu_xb_inv h with ⟨v3, st4, e_v3, h⟩ | ⟨v3, st4, e_v3, h⟩
    · refine hCallI G hS (va_runV (As := [.ref (ad 7), .int x2]) (rest := []) ⟨hx, hb, hml, hown, hts⟩ (MetX.met (c_H_numberOf_So l htl D ca ad st2 _ x2 _ _ e_v3) (fun _ _ _ _ q => ⟨_, q.1⟩)) (xCW (C := "MuseumHouse") 2 hts wd_2_26 wd_1_1 wd_2_23 wd_2_25 wd_0_0 (by decide +kernel) ⟨Nat.le_of_ble_eq_true rfl, Nat.le_of_ble_eq_true rfl⟩) (G.preV hP hS 0 rfl rfl) rfl rfl hl.1 rfl (lv_room (Nat.le_of_ble_eq_true rfl)) d_H_show_17 ⟨Nat.zero_le _, Nat.zero_le _⟩) (fun H locs hP hS => ?_)
      refine lv_istore (lv' := [(6, .int v3), (5, .int v1), (0, .ref (ad 0)), (1, .int x1), (2, .int x2), (3, .int x3), (4, .int x4)]) hx hb d_H_show_20 hl (by decide) rfl (fun ls hl => ?_)
      refine lv_aload_n hx hb d_H_show_22 rfl (lv_at hl 2 rfl) ?_
      refine lv_iload hx hb d_H_show_23 (lv_at hl 1 rfl) ?_
      refine lv_bipush (v := 16) hx hb d_H_show_25 (by decide) ?_
      rcases pu_xb_inv h with ⟨v5, st6, e_v5, h⟩ | ⟨v5, st6, e_v5, h⟩
      · refine hCallU G hS (va_runV (As := [.int v1, .int 16]) (rest := []) ⟨hx, hb, hml, hown, hts⟩ (MetX.met (c_H_askRight l htl D ca ad st4 _ v1 16 _ _ e_v5) (fun _ _ _ _ q => ⟨_, q.1⟩)) (xCW (C := "MuseumHouse") 2 hts wd_2_106 wd_1_1 wd_2_103 wd_2_105 wd_0_2 (by decide +kernel) ⟨Nat.le_of_ble_eq_true rfl, Nat.le_of_ble_eq_true rfl⟩) (G.preV hP hS 0 rfl rfl) rfl rfl hl.1 rfl (lv_room (Nat.le_of_ble_eq_true rfl)) d_H_show_27 ⟨Nat.zero_le _, Nat.zero_le _⟩) (fun H locs hP hS => ?_)
        refine lv_aload_n hx hb d_H_show_30 rfl (lv_at hl 2 rfl) ?_
        refine lv_aload_n hx hb d_H_show_31 rfl (lv_at hl 2 rfl) ?_
        refine va_get (D := D) (ci := 0) (v := .ref (ad 9)) (C := R_H) (T := T_H) (N := 12) hx hb hts iw_H hown G.1 hP 0 rfl rfl 8 (by decide) (hts _ wd_1_220) (fun _ h9 => h9) rfl d_H_show_32 ?_
        obtain ⟨v7, e_v7, h⟩ := pu_ob h
        refine pu_callR (va_runU (As := []) (rest := [.ref (ad 0)]) ⟨hx, hb, hml, hown, hts⟩ (c_Rg_isFull_Sh l D ca ad st6 _ v7 e_v7) (xCU (C := "MuseumHouse$Shows") (owner := "MuseumHouse$Register") (x := ⟨"MuseumHouse$Shows", "isFull", "()Z"⟩) 0 hts wd_2_131 wd_1_2 wd_4_62 wd_4_63 wd_2_130 wd_4_64 rfl (by decide +kernel) ⟨Nat.le_of_ble_eq_true rfl, Nat.le_of_ble_eq_true rfl⟩) (G.preV hP hS 9 rfl rfl) rfl rfl hl.1 rfl (lv_room (Nat.le_of_ble_eq_true rfl)) d_H_show_35 ⟨Nat.zero_le _, Nat.zero_le _⟩) ?_
        refine lv_if_ne (tgt := 45) hx hb d_H_show_38 (by decide) (fun c8 => ?_) (fun c8 => ?_)
        · rw [if_neg c8] at h
          refine lv_iconst (v := 0) hx hb d_H_show_45 (by decide) ?_
          exact t_H_show_b46 htl C G () st6 x1 x2 x3 x4 v1 v3 0 h _ _ hP hS ls (lv_sub hl [2, 3, 4, 5, 6, 1, 0] rfl)
        · rw [if_pos c8] at h
          refine lv_iconst (v := 1) hx hb d_H_show_41 (by decide) ?_
          refine lv_goto (tgt := 46) hx hb d_H_show_42 (by decide) ?_
          exact t_H_show_b46 htl C G () st6 x1 x2 x3 x4 v1 v3 1 h _ _ hP hS ls (lv_sub hl [2, 3, 4, 5, 6, 1, 0] rfl)
      · cases h
        exact hThrV G hS hno hlocks ⟨hx, hb, hml, hown, hts⟩ (As := [.int v1, .int 16]) (rest := []) (c_H_askRight l htl D ca ad st4 _ v1 16 _ _ e_v5) (xCW (C := "MuseumHouse") 2 hts wd_2_106 wd_1_1 wd_2_103 wd_2_105 wd_0_2 (by decide +kernel) ⟨Nat.le_of_ble_eq_true rfl, Nat.le_of_ble_eq_true rfl⟩) (G.preV hP hS 0 rfl rfl) rfl rfl hl.1 rfl (lv_room (Nat.le_of_ble_eq_true rfl)) d_H_show_27 ⟨Nat.le_of_ble_eq_true rfl, Nat.le_of_ble_eq_true rfl⟩
    · cases h
      exact hThrV G hS hno hlocks ⟨hx, hb, hml, hown, hts⟩ (As := [.ref (ad 7), .int x2]) (rest := []) (c_H_numberOf_So l htl D ca ad st2 _ x2 _ _ e_v3) (xCW (C := "MuseumHouse") 2 hts wd_2_26 wd_1_1 wd_2_23 wd_2_25 wd_0_0 (by decide +kernel) ⟨Nat.le_of_ble_eq_true rfl, Nat.le_of_ble_eq_true rfl⟩) (G.preV hP hS 0 rfl rfl) rfl rfl hl.1 rfl (lv_room (Nat.le_of_ble_eq_true rfl)) d_H_show_17 ⟨Nat.le_of_ble_eq_true rfl, Nat.le_of_ble_eq_true rfl⟩
  · cases h
    exact hThrV G hS hno hlocks ⟨hx, hb, hml, hown, hts⟩ (As := [.ref (ad 1), .int x1]) (rest := []) (c_H_numberOf_De l htl D ca ad st _ x1 _ _ e_v1) (xCW (C := "MuseumHouse") 2 hts wd_2_26 wd_1_1 wd_2_23 wd_2_25 wd_0_0 (by decide +kernel) ⟨Nat.le_of_ble_eq_true rfl, Nat.le_of_ble_eq_true rfl⟩) (G.preV hP hS 0 rfl rfl) rfl rfl hl.1 rfl (lv_room (Nat.le_of_ble_eq_true rfl)) d_H_show_6 ⟨Nat.le_of_ble_eq_true rfl, Nat.le_of_ble_eq_true rfl⟩
set_option maxHeartbeats 4000000 in
set_option maxRecDepth 100000 in
theorem t_Rg_numberFor_Sh_b23 {l : Launch} {p : Program} {e : Env} {s : State} {m : MethodId} {args : Array Value} {below : List Frame} {meth : Method} {c : Code} {D : va_G} {ca : Nat → ClassId} {ad : Nat → Nat} {A : Nat → Prop} {st : pu_St} {r : Int32} (C : hC p s m meth c args b_Rg_numberFor 3 (some .int) "MuseumHouse$Register") (G : hX D ca ad A s) (hP : va_P D hcl (hW ca ad st) s.heap) (hS : va_S A s.heap s.heap []) :
    ∀ (_ : Unit) (x1 x2 : Int32), f_Rg_numberFor_Sh_b23 st x1 x2 = some r → ∀ ls : Array Slot, lv_has ls 3 [(0, .ref (ad 9)), (1, .int x1), (2, .int x2)] → W p l e { frames := 0, cells := 0, slots := 0, locals := 0 } s m args below meth c s.heap [] 0 0 (MQ below (QcRead r) args s 0 0 (fun _ => False)) (F0 m 23 ls []) := by
  obtain ⟨hx, hb, hml, hr, hlocks, hno, hown, hts⟩ := id C
  intro _ x1 x2 h ls hl
  unfold f_Rg_numberFor_Sh_b23 at h
  refine lv_iconst (v := (-1)) hx hb d_Rg_numberFor_23 (by decide) ?_
  have h := Option.some.inj h
  exact W.iret (v := (-1)) hx hb hr (fun t ht _ => ⟨by rw [h], ht⟩) (fun _ q => by cases q) d_Rg_numberFor_24
set_option maxHeartbeats 4000000 in
set_option maxRecDepth 100000 in
theorem c_Rg_numberFor_Sh (l : Launch) (D : va_G) (ca : Nat → ClassId) (ad : Nat → Nat) (st : pu_St) (sz : Nat) (x1 : Int32) (r : Int32) (h : f_Rg_numberFor_Sh st x1 = some r) : Met l y_Rg_numberFor (.code y_Rg_numberFor b_Rg_numberFor 3 (some .int) :: tG) { frames := 0, cells := 0, slots := 0, locals := 0 } (va_Pc [.ref (ad 9), .int x1] (hPc D ca ad st sz)) (QcRead r) 0 0 (fun _ => False) := by
  refine hRead (by decide +kernel) ?_
  intro p e s m below meth c C G hP
  obtain ⟨hx, hb, hml, hr, hlocks, hno, hown, hts⟩ := id C
  have hown : s.vm.findClass "MuseumHouse$Register" = some m.cls := hown
  have hS : va_S (hA ad s.heap.size) s.heap s.heap [] := va_S.rf
  have hl := lv_entry ([.ref (ad 9), .int x1]) (n := 3) (Nat.le_of_ble_eq_true rfl)
  rw [lg_entry_eq]
  generalize (lg_sl ([.ref (ad 9), .int x1]) ++ List.replicate (3 - (lg_sl ([.ref (ad 9), .int x1])).length) Slot.unset).toArray = ls at hl ⊢
  have hl : lv_has ls 3 [(0, .ref (ad 9)), (1, .int x1)] := hl
  unfold f_Rg_numberFor_Sh at h
  refine lv_iload_n hx hb d_Rg_numberFor_0 rfl (lv_at hl 1 rfl) ?_
  refine lv_aload_n hx hb d_Rg_numberFor_1 rfl (lv_at hl 0 rfl) ?_
  refine va_get (D := D) (ci := 9) (v := .int 800) (C := R_Sh) (T := T_Sh) (N := 7) hx hb hts iw_Sh hown G.1 hP 9 rfl rfl 0 (by decide) (hts _ wd_1_45) (fun _ h9 => h9) rfl d_Rg_numberFor_2 ?_
  refine lv_isub hx hb d_Rg_numberFor_5 ?_
  refine lv_istore_n (lv' := [(2, .int (x1 - 800)), (0, .ref (ad 9)), (1, .int x1)]) hx hb d_Rg_numberFor_6 rfl hl (by decide) rfl (fun ls hl => ?_)
  refine lv_iload_n hx hb d_Rg_numberFor_7 rfl (lv_at hl 0 rfl) ?_
  refine lv_if_lt (tgt := 23) hx hb d_Rg_numberFor_8 (by decide) (fun c1 => ?_) (fun c1 => ?_)
  · rw [if_pos c1] at h
    exact t_Rg_numberFor_Sh_b23 C G hP hS () x1 (x1 - 800) h ls (lv_sub hl [1, 2, 0] rfl)
  · rw [if_neg c1] at h
    refine lv_iload_n hx hb d_Rg_numberFor_11 rfl (lv_at hl 0 rfl) ?_
    refine lv_aload_n hx hb d_Rg_numberFor_12 rfl (lv_at hl 1 rfl) ?_
    refine va_get (D := D) (ci := 9) (v := .int (st.1 9)) (C := R_Sh) (T := T_Sh) (N := 7) hx hb hts iw_Sh hown G.1 hP 9 rfl rfl 2 (by decide) (hts _ wd_1_47) (fun _ h9 => h9) rfl d_Rg_numberFor_13 ?_
    refine lv_icmp_ge (tgt := 23) hx hb d_Rg_numberFor_16 (by decide) (fun c2 => ?_) (fun c2 => ?_)
    · rw [if_pos c2] at h
      exact t_Rg_numberFor_Sh_b23 C G hP hS () x1 (x1 - 800) h ls (lv_sub hl [1, 2, 0] rfl)
    · rw [if_neg c2] at h
      refine lv_iload_n hx hb d_Rg_numberFor_19 rfl (lv_at hl 0 rfl) ?_
      refine lv_goto (tgt := 24) hx hb d_Rg_numberFor_20 (by decide) ?_
      have h := Option.some.inj h
      exact W.iret (v := (x1 - 800)) hx hb hr (fun t ht _ => ⟨by rw [h], ht⟩) (fun _ q => by cases q) d_Rg_numberFor_24
set_option maxHeartbeats 4000000 in
set_option maxRecDepth 100000 in
theorem c_H_numberOf_Sh (l : Launch) (htl : l.stackTraces = false) (D : va_G) (ca : Nat → ClassId) (ad : Nat → Nat) (st : pu_St) (sz : Nat) (x2 : Int32) (r : Int32 ⊕ Nat) (st' : pu_St) (h : f_H_numberOf_Sh st x2 = some (r, st')) : MetX l y_H_numberOf (.code y_H_numberOf b_H_numberOf 4 (some .int) :: tG) { frames := 6, cells := xc r, slots := xs r, locals := 90 } (va_Pc [.ref (ad 0), .ref (ad 9), .int x2] (hPc D ca ad st sz)) (hQ D ca ad (fun v => some (.int v)) r st' sz) (xc r) (xs r) (hA ad sz) := by
  refine hMet (by decide +kernel) ?_
  intro p e s m below meth c hsz C G hP
  obtain ⟨hx, hb, hml, hr, hlocks, hno, hown, hts⟩ := id C
  have hown : s.vm.findClass "MuseumHouse" = some m.cls := hown
  have hS : va_S (hA ad s.heap.size) s.heap s.heap [] := va_S.rf
  have hl := lv_entry ([.ref (ad 0), .ref (ad 9), .int x2]) (n := 4) (Nat.le_of_ble_eq_true rfl)
  rw [lg_entry_eq]
  generalize (lg_sl ([.ref (ad 0), .ref (ad 9), .int x2]) ++ List.replicate (4 - (lg_sl ([.ref (ad 0), .ref (ad 9), .int x2])).length) Slot.unset).toArray = ls at hl ⊢
  have hl : lv_has ls 4 [(0, .ref (ad 0)), (1, .ref (ad 9)), (2, .int x2)] := hl
  unfold f_H_numberOf_Sh at h
  refine lv_aload_n hx hb d_H_numberOf_0 rfl (lv_at hl 1 rfl) ?_
  refine lv_iload_n hx hb d_H_numberOf_1 rfl (lv_at hl 2 rfl) ?_
  obtain ⟨v1, e_v1, h⟩ := pu_ob h
  refine pu_callR (va_runV (As := [.int x2]) (rest := []) ⟨hx, hb, hml, hown, hts⟩ (c_Rg_numberFor_Sh l D ca ad st _ x2 v1 e_v1) (xCW (C := "MuseumHouse$Shows") 1 hts wd_2_39 wd_1_2 wd_2_27 wd_2_28 wd_2_36 (by decide +kernel) ⟨Nat.le_of_ble_eq_true rfl, Nat.le_of_ble_eq_true rfl⟩) (G.preV hP hS 9 rfl rfl) rfl rfl hl.1 rfl (lv_room (Nat.le_of_ble_eq_true rfl)) d_H_numberOf_2 ⟨Nat.zero_le _, Nat.zero_le _⟩) ?_
  refine lv_istore_n (lv' := [(3, .int v1), (0, .ref (ad 0)), (1, .ref (ad 9)), (2, .int x2)]) hx hb d_H_numberOf_5 rfl hl (by decide) rfl (fun ls hl => ?_)
  refine lv_iload_n hx hb d_H_numberOf_6 rfl (lv_at hl 0 rfl) ?_
  refine lv_iconst (v := (-1)) hx hb d_H_numberOf_7 (by decide) ?_
  refine lv_icmp_ne (tgt := 24) hx hb d_H_numberOf_8 (by decide) (fun c2 => ?_) (fun c2 => ?_)
  · rw [if_neg c2] at h
    refine lv_iload_n hx hb d_H_numberOf_24 rfl (lv_at hl 0 rfl) ?_
    cases h
    exact W.toX (W.iret hx hb hr (fun t ht _ => ⟨rfl, by rw [ht]; exact hP, hS.F ht⟩) hS.2.2 d_H_numberOf_25)
  · rw [if_pos c2] at h
    refine lv_aload_n hx hb d_H_numberOf_11 rfl (lv_at hl 1 rfl) ?_
    refine lv_iconst (v := 1) hx hb d_H_numberOf_12 (by decide) ?_
    refine va_put (D := D) (ci := 0) (v := .int 1) (ty := .int) (C := R_H) (T := T_H) (N := 12) hx hb hts iw_H ty_H to_H nm_H hown G.1 hP (G.D) hS 0 rfl rfl 11 (by decide) (hts _ wd_1_223) (fun _ h9 => h9) rfl (by decide +kernel) rfl rfl (Nat.le_of_ble_eq_true rfl) d_H_numberOf_13 (fun H locs hP _ hS => ?_)
    have hP : va_P D hcl (hW ca ad (va_up st.1 1 1, st.2)) H := hP
    cases h
    exact hThrow G hx hb (hl.1.trans hml.symm) hown hno hlocks htl hts (by decide +kernel) xo_1 wd_2_40 wd_2_41 wd_1_17 hP hS d_H_numberOf_16 d_H_numberOf_19 d_H_numberOf_20 d_H_numberOf_23 (Nat.le_of_ble_eq_true rfl) (Nat.le_of_ble_eq_true rfl) (Nat.le_of_ble_eq_true rfl) (Nat.le_of_ble_eq_true rfl) rfl
set_option maxHeartbeats 4000000 in
set_option maxRecDepth 100000 in
theorem c_Sh_firstDayOf (l : Launch) (D : va_G) (ca : Nat → ClassId) (ad : Nat → Nat) (st : pu_St) (sz : Nat) (x1 : Int32) (r : Int32) (h : f_Sh_firstDayOf st x1 = some r) : Met l y_Sh_firstDayOf (.code y_Sh_firstDayOf b_Sh_firstDayOf 2 (some .int) :: tG) { frames := 0, cells := 0, slots := 0, locals := 0 } (va_Pc [.ref (ad 9), .int x1] (hPc D ca ad st sz)) (QcRead r) 0 0 (fun _ => False) := by
  refine hRead (by decide +kernel) ?_
  intro p e s m below meth c C G hP
  obtain ⟨hx, hb, hml, hr, hlocks, hno, hown, hts⟩ := id C
  have hown : s.vm.findClass "MuseumHouse$Shows" = some m.cls := hown
  have hS : va_S (hA ad s.heap.size) s.heap s.heap [] := va_S.rf
  have hl := lv_entry ([.ref (ad 9), .int x1]) (n := 2) (Nat.le_of_ble_eq_true rfl)
  rw [lg_entry_eq]
  generalize (lg_sl ([.ref (ad 9), .int x1]) ++ List.replicate (2 - (lg_sl ([.ref (ad 9), .int x1])).length) Slot.unset).toArray = ls at hl ⊢
  have hl : lv_has ls 2 [(0, .ref (ad 9)), (1, .int x1)] := hl
  unfold f_Sh_firstDayOf at h
  refine lv_aload_n hx hb d_Sh_firstDayOf_0 rfl (lv_at hl 0 rfl) ?_
  refine va_get (D := D) (ci := 9) (v := .ref (ad 28)) (C := R_Sh) (T := T_Sh) (N := 7) hx hb hts iw_Sh hown G.1 hP 9 rfl rfl 4 (by decide) (hts _ wd_1_177) (fun _ h9 => h9) rfl d_Sh_firstDayOf_1 ?_
  refine lv_iload_n hx hb d_Sh_firstDayOf_4 rfl (lv_at hl 1 rfl) ?_
  obtain ⟨v1, e_v1, h⟩ := pu_ob h
  refine pu_iald hx hb G.1 hP 28 17 rfl rfl e_v1 d_Sh_firstDayOf_5 ?_
  have h := Option.some.inj h
  exact W.iret (v := v1) hx hb hr (fun t ht _ => ⟨by rw [h], ht⟩) (fun _ q => by cases q) d_Sh_firstDayOf_6
set_option maxHeartbeats 4000000 in
set_option maxRecDepth 100000 in
theorem c_Sh_lastDayOf (l : Launch) (D : va_G) (ca : Nat → ClassId) (ad : Nat → Nat) (st : pu_St) (sz : Nat) (x1 : Int32) (r : Int32) (h : f_Sh_lastDayOf st x1 = some r) : Met l y_Sh_lastDayOf (.code y_Sh_lastDayOf b_Sh_lastDayOf 2 (some .int) :: tG) { frames := 0, cells := 0, slots := 0, locals := 0 } (va_Pc [.ref (ad 9), .int x1] (hPc D ca ad st sz)) (QcRead r) 0 0 (fun _ => False) := by
  refine hRead (by decide +kernel) ?_
  intro p e s m below meth c C G hP
  obtain ⟨hx, hb, hml, hr, hlocks, hno, hown, hts⟩ := id C
  have hown : s.vm.findClass "MuseumHouse$Shows" = some m.cls := hown
  have hS : va_S (hA ad s.heap.size) s.heap s.heap [] := va_S.rf
  have hl := lv_entry ([.ref (ad 9), .int x1]) (n := 2) (Nat.le_of_ble_eq_true rfl)
  rw [lg_entry_eq]
  generalize (lg_sl ([.ref (ad 9), .int x1]) ++ List.replicate (2 - (lg_sl ([.ref (ad 9), .int x1])).length) Slot.unset).toArray = ls at hl ⊢
  have hl : lv_has ls 2 [(0, .ref (ad 9)), (1, .int x1)] := hl
  unfold f_Sh_lastDayOf at h
  refine lv_aload_n hx hb d_Sh_lastDayOf_0 rfl (lv_at hl 0 rfl) ?_
  refine va_get (D := D) (ci := 9) (v := .ref (ad 29)) (C := R_Sh) (T := T_Sh) (N := 7) hx hb hts iw_Sh hown G.1 hP 9 rfl rfl 5 (by decide) (hts _ wd_1_178) (fun _ h9 => h9) rfl d_Sh_lastDayOf_1 ?_
  refine lv_iload_n hx hb d_Sh_lastDayOf_4 rfl (lv_at hl 1 rfl) ?_
  obtain ⟨v1, e_v1, h⟩ := pu_ob h
  refine pu_iald hx hb G.1 hP 29 18 rfl rfl e_v1 d_Sh_lastDayOf_5 ?_
  have h := Option.some.inj h
  exact W.iret (v := v1) hx hb hr (fun t ht _ => ⟨by rw [h], ht⟩) (fun _ q => by cases q) d_Sh_lastDayOf_6
set_option maxHeartbeats 4000000 in
set_option maxRecDepth 100000 in
theorem c_Sh_putIn (l : Launch) (htl : l.stackTraces = false) (D : va_G) (ca : Nat → ClassId) (ad : Nat → Nat) (st : pu_St) (sz : Nat) (x1 x2 : Int32) (v : Int32) (st' : pu_St) (h : f_Sh_putIn st x1 x2 = some (v, st')) : MetX l y_Sh_putIn (.code y_Sh_putIn b_Sh_putIn 3 none :: tG) { frames := 0, cells := 0, slots := 0, locals := 0 } (va_Pc [.ref (ad 9), .int x1, .int x2] (hPc D ca ad st sz)) (hQ D ca ad (fun _ => none) (.inl v) st' sz) 0 0 (hA ad sz) := by
  refine hMet (by decide +kernel) ?_
  intro p e s m below meth c hsz C G hP
  obtain ⟨hx, hb, hml, hr, hlocks, hno, hown, hts⟩ := id C
  have hown : s.vm.findClass "MuseumHouse$Shows" = some m.cls := hown
  have hS : va_S (hA ad s.heap.size) s.heap s.heap [] := va_S.rf
  have hl := lv_entry ([.ref (ad 9), .int x1, .int x2]) (n := 3) (Nat.le_of_ble_eq_true rfl)
  rw [lg_entry_eq]
  generalize (lg_sl ([.ref (ad 9), .int x1, .int x2]) ++ List.replicate (3 - (lg_sl ([.ref (ad 9), .int x1, .int x2])).length) Slot.unset).toArray = ls at hl ⊢
  have hl : lv_has ls 3 [(0, .ref (ad 9)), (1, .int x1), (2, .int x2)] := hl
  unfold f_Sh_putIn at h
  refine lv_aload_n hx hb d_Sh_putIn_0 rfl (lv_at hl 0 rfl) ?_
  refine va_get (D := D) (ci := 9) (v := .ref (ad 30)) (C := R_Sh) (T := T_Sh) (N := 7) hx hb hts iw_Sh hown G.1 hP 9 rfl rfl 6 (by decide) (hts _ wd_1_179) (fun _ h9 => h9) rfl d_Sh_putIn_1 ?_
  refine lv_iload_n hx hb d_Sh_putIn_4 rfl (lv_at hl 1 rfl) ?_
  refine lv_dup2_11 hx hb d_Sh_putIn_5 rfl rfl ?_
  obtain ⟨v1, e_v1, h⟩ := pu_ob h
  refine pu_iald hx hb G.1 hP 30 19 rfl rfl e_v1 d_Sh_putIn_6 ?_
  refine lv_iconst (v := 1) hx hb d_Sh_putIn_7 (by decide) ?_
  refine lv_iload_n hx hb d_Sh_putIn_8 rfl (lv_at hl 2 rfl) ?_
  refine lv_ishl hx hb d_Sh_putIn_9 ?_
  refine lv_ior hx hb d_Sh_putIn_10 ?_
  obtain ⟨g2, e_g2, h⟩ := pu_ob h
  refine pu_iast hx hb G.1 hP (G.D) hS 30 19 rfl rfl e_g2 d_Sh_putIn_11 (fun H locs hP hS => ?_)
  have hP : va_P D hcl (hW ca ad (st.1, va_up st.2 19 g2)) H := hP
  cases h
  exact W.toX (W.vret hx hb hr (fun t ht _ => ⟨rfl, by rw [ht]; exact hP, hS.F ht⟩) hS.2.2 d_Sh_putIn_12)
set_option maxHeartbeats 4000000 in
set_option maxRecDepth 100000 in
theorem c_H_hang (l : Launch) (htl : l.stackTraces = false) (D : va_G) (ca : Nat → ClassId) (ad : Nat → Nat) (st : pu_St) (sz : Nat) (x1 x2 x3 : Int32) (r : Int32 ⊕ Nat) (st' : pu_St) (h : f_H_hang st x1 x2 x3 = some (r, st')) : MetX l y_H_hang (.code y_H_hang b_H_hang 7 (some .boolean) :: tG) { frames := 8, cells := xc r, slots := xs r, locals := 135 } (va_Pc [.ref (ad 0), .int x1, .int x2, .int x3] (hPc D ca ad st sz)) (hQ D ca ad (fun v => some (.int v)) r st' sz) (xc r) (xs r) (hA ad sz) := by
  refine hMet (by decide +kernel) ?_
  intro p e s m below meth c hsz C G hP
  obtain ⟨hx, hb, hml, hr, hlocks, hno, hown, hts⟩ := id C
  have hown : s.vm.findClass "MuseumHouse" = some m.cls := hown
  have hS : va_S (hA ad s.heap.size) s.heap s.heap [] := va_S.rf
  have hl := lv_entry ([.ref (ad 0), .int x1, .int x2, .int x3]) (n := 7) (Nat.le_of_ble_eq_true rfl)
  rw [lg_entry_eq]
  generalize (lg_sl ([.ref (ad 0), .int x1, .int x2, .int x3]) ++ List.replicate (7 - (lg_sl ([.ref (ad 0), .int x1, .int x2, .int x3])).length) Slot.unset).toArray = ls at hl ⊢
  have hl : lv_has ls 7 [(0, .ref (ad 0)), (1, .int x1), (2, .int x2), (3, .int x3)] := hl
  unfold f_H_hang at h
  refine lv_aload_n hx hb d_H_hang_0 rfl (lv_at hl 0 rfl) ?_
  refine lv_aload_n hx hb d_H_hang_1 rfl (lv_at hl 0 rfl) ?_
  refine va_get (D := D) (ci := 0) (v := .ref (ad 1)) (C := R_H) (T := T_H) (N := 12) hx hb hts iw_H hown G.1 hP 0 rfl rfl 0 (by decide) (hts _ wd_1_212) (fun _ h9 => h9) rfl d_H_hang_2 ?_
  refine lv_iload_n hx hb d_H_hang_5 rfl (lv_at hl 1 rfl) ?_
  rcases pu_xb_inv h with ⟨v1, st2, e_v1, h⟩ | ⟨v1, st2, e_v1, h⟩
  · refine hCallI G hS (va_runV (As := [.ref (ad 1), .int x1]) (rest := []) ⟨hx, hb, hml, hown, hts⟩ (MetX.met (c_H_numberOf_De l htl D ca ad st _ x1 _ _ e_v1) (fun _ _ _ _ q => ⟨_, q.1⟩)) (xCW (C := "MuseumHouse") 2 hts wd_2_26 wd_1_1 wd_2_23 wd_2_25 wd_0_0 (by decide +kernel) ⟨Nat.le_of_ble_eq_true rfl, Nat.le_of_ble_eq_true rfl⟩) (G.preV hP hS 0 rfl rfl) rfl rfl hl.1 rfl (lv_room (Nat.le_of_ble_eq_true rfl)) d_H_hang_6 ⟨Nat.zero_le _, Nat.zero_le _⟩) (fun H locs hP hS => ?_)
    refine lv_istore (lv' := [(4, .int v1), (0, .ref (ad 0)), (1, .int x1), (2, .int x2), (3, .int x3)]) hx hb d_H_hang_9 hl (by decide) rfl (fun ls hl => ?_)
    refine lv_aload_n hx hb d_H_hang_11 rfl (lv_at hl 1 rfl) ?_
    refine lv_aload_n hx hb d_H_hang_12 rfl (lv_at hl 1 rfl) ?_
    refine va_get (D := D) (ci := 0) (v := .ref (ad 9)) (C := R_H) (T := T_H) (N := 12) hx hb hts iw_H hown G.1 hP 0 rfl rfl 8 (by decide) (hts _ wd_1_220) (fun _ h9 => h9) rfl d_H_hang_13 ?_
    refine lv_iload_n hx hb d_H_hang_16 rfl (lv_at hl 3 rfl) ?_
    rcases pu_xb_inv h with ⟨v3, st4, e_v3, h⟩ | ⟨v3, st4, e_v3, h⟩
    · refine hCallI G hS (va_runV (As := [.ref (ad 9), .int x2]) (rest := []) ⟨hx, hb, hml, hown, hts⟩ (MetX.met (c_H_numberOf_Sh l htl D ca ad st2 _ x2 _ _ e_v3) (fun _ _ _ _ q => ⟨_, q.1⟩)) (xCW (C := "MuseumHouse") 2 hts wd_2_26 wd_1_1 wd_2_23 wd_2_25 wd_0_0 (by decide +kernel) ⟨Nat.le_of_ble_eq_true rfl, Nat.le_of_ble_eq_true rfl⟩) (G.preV hP hS 0 rfl rfl) rfl rfl hl.1 rfl (lv_room (Nat.le_of_ble_eq_true rfl)) d_H_hang_17 ⟨Nat.zero_le _, Nat.zero_le _⟩) (fun H locs hP hS => ?_)
      refine lv_istore (lv' := [(5, .int v3), (4, .int v1), (0, .ref (ad 0)), (1, .int x1), (2, .int x2), (3, .int x3)]) hx hb d_H_hang_20 hl (by decide) rfl (fun ls hl => ?_)
      refine lv_aload_n hx hb d_H_hang_22 rfl (lv_at hl 2 rfl) ?_
      refine lv_aload_n hx hb d_H_hang_23 rfl (lv_at hl 2 rfl) ?_
      refine va_get (D := D) (ci := 0) (v := .ref (ad 5)) (C := R_H) (T := T_H) (N := 12) hx hb hts iw_H hown G.1 hP 0 rfl rfl 4 (by decide) (hts _ wd_1_216) (fun _ h9 => h9) rfl d_H_hang_24 ?_
      refine lv_iload_n hx hb d_H_hang_27 rfl (lv_at hl 5 rfl) ?_
      rcases pu_xb_inv h with ⟨v5, st6, e_v5, h⟩ | ⟨v5, st6, e_v5, h⟩
      · refine hCallI G hS (va_runV (As := [.ref (ad 5), .int x3]) (rest := []) ⟨hx, hb, hml, hown, hts⟩ (MetX.met (c_H_numberOf_It l htl D ca ad st4 _ x3 _ _ e_v5) (fun _ _ _ _ q => ⟨_, q.1⟩)) (xCW (C := "MuseumHouse") 2 hts wd_2_26 wd_1_1 wd_2_23 wd_2_25 wd_0_0 (by decide +kernel) ⟨Nat.le_of_ble_eq_true rfl, Nat.le_of_ble_eq_true rfl⟩) (G.preV hP hS 0 rfl rfl) rfl rfl hl.1 rfl (lv_room (Nat.le_of_ble_eq_true rfl)) d_H_hang_28 ⟨Nat.zero_le _, Nat.zero_le _⟩) (fun H locs hP hS => ?_)
        refine lv_istore (lv' := [(6, .int v5), (5, .int v3), (4, .int v1), (0, .ref (ad 0)), (1, .int x1), (2, .int x2), (3, .int x3)]) hx hb d_H_hang_31 hl (by decide) rfl (fun ls hl => ?_)
        refine lv_aload_n hx hb d_H_hang_33 rfl (lv_at hl 3 rfl) ?_
        refine lv_iload hx hb d_H_hang_34 (lv_at hl 2 rfl) ?_
        refine lv_bipush (v := 16) hx hb d_H_hang_36 (by decide) ?_
        rcases pu_xb_inv h with ⟨v7, st8, e_v7, h⟩ | ⟨v7, st8, e_v7, h⟩
        · refine hCallU G hS (va_runV (As := [.int v1, .int 16]) (rest := []) ⟨hx, hb, hml, hown, hts⟩ (MetX.met (c_H_askRight l htl D ca ad st6 _ v1 16 _ _ e_v7) (fun _ _ _ _ q => ⟨_, q.1⟩)) (xCW (C := "MuseumHouse") 2 hts wd_2_106 wd_1_1 wd_2_103 wd_2_105 wd_0_2 (by decide +kernel) ⟨Nat.le_of_ble_eq_true rfl, Nat.le_of_ble_eq_true rfl⟩) (G.preV hP hS 0 rfl rfl) rfl rfl hl.1 rfl (lv_room (Nat.le_of_ble_eq_true rfl)) d_H_hang_38 ⟨Nat.zero_le _, Nat.zero_le _⟩) (fun H locs hP hS => ?_)
          refine lv_aload_n hx hb d_H_hang_41 rfl (lv_at hl 3 rfl) ?_
          refine va_get (D := D) (ci := 0) (v := .ref (ad 9)) (C := R_H) (T := T_H) (N := 12) hx hb hts iw_H hown G.1 hP 0 rfl rfl 8 (by decide) (hts _ wd_1_220) (fun _ h9 => h9) rfl d_H_hang_42 ?_
          refine lv_iload hx hb d_H_hang_45 (lv_at hl 1 rfl) ?_
          refine lv_iload hx hb d_H_hang_47 (lv_at hl 0 rfl) ?_
          obtain ⟨v9, e_v9, h⟩ := pu_ob h
          refine pu_callR (va_runV (As := [.int v3, .int v5]) (rest := []) ⟨hx, hb, hml, hown, hts⟩ (c_Sh_holds l D ca ad st8 _ v3 v5 v9 e_v9) (xCW (C := "MuseumHouse$Shows") 2 hts wd_4_24 wd_1_11 wd_4_82 wd_4_22 wd_4_23 (by decide +kernel) ⟨Nat.le_of_ble_eq_true rfl, Nat.le_of_ble_eq_true rfl⟩) (G.preV hP hS 9 rfl rfl) rfl rfl hl.1 rfl (lv_room (Nat.le_of_ble_eq_true rfl)) d_H_hang_49 ⟨Nat.zero_le _, Nat.zero_le _⟩) ?_
          refine lv_if_eq (tgt := 57) hx hb d_H_hang_52 (by decide) (fun c10 => ?_) (fun c10 => ?_)
          · rw [if_pos c10] at h
            refine lv_aload_n hx hb d_H_hang_57 rfl (lv_at hl 3 rfl) ?_
            refine lv_iload hx hb d_H_hang_58 (lv_at hl 0 rfl) ?_
            refine lv_aload_n hx hb d_H_hang_60 rfl (lv_at hl 3 rfl) ?_
            refine va_get (D := D) (ci := 0) (v := .ref (ad 9)) (C := R_H) (T := T_H) (N := 12) hx hb hts iw_H hown G.1 hP 0 rfl rfl 8 (by decide) (hts _ wd_1_220) (fun _ h9 => h9) rfl d_H_hang_61 ?_
            refine lv_iload hx hb d_H_hang_64 (lv_at hl 1 rfl) ?_
            obtain ⟨v11, e_v11, h⟩ := pu_ob h
            refine pu_callR (va_runV (As := [.int v3]) (rest := [.int v5, .ref (ad 0)]) ⟨hx, hb, hml, hown, hts⟩ (c_Sh_firstDayOf l D ca ad st8 _ v3 v11 e_v11) (xCW (C := "MuseumHouse$Shows") 1 hts wd_4_86 wd_1_11 wd_4_83 wd_4_84 wd_4_85 (by decide +kernel) ⟨Nat.le_of_ble_eq_true rfl, Nat.le_of_ble_eq_true rfl⟩) (G.preV hP hS 9 rfl rfl) rfl rfl hl.1 rfl (lv_room (Nat.le_of_ble_eq_true rfl)) d_H_hang_66 ⟨Nat.zero_le _, Nat.zero_le _⟩) ?_
            refine lv_aload_n hx hb d_H_hang_69 rfl (lv_at hl 3 rfl) ?_
            refine va_get (D := D) (ci := 0) (v := .ref (ad 9)) (C := R_H) (T := T_H) (N := 12) hx hb hts iw_H hown G.1 hP 0 rfl rfl 8 (by decide) (hts _ wd_1_220) (fun _ h9 => h9) rfl d_H_hang_70 ?_
            refine lv_iload hx hb d_H_hang_73 (lv_at hl 1 rfl) ?_
            obtain ⟨v12, e_v12, h⟩ := pu_ob h
            refine pu_callR (va_runV (As := [.int v3]) (rest := [.int v11, .int v5, .ref (ad 0)]) ⟨hx, hb, hml, hown, hts⟩ (c_Sh_lastDayOf l D ca ad st8 _ v3 v12 e_v12) (xCW (C := "MuseumHouse$Shows") 1 hts wd_4_90 wd_1_11 wd_4_87 wd_4_88 wd_4_89 (by decide +kernel) ⟨Nat.le_of_ble_eq_true rfl, Nat.le_of_ble_eq_true rfl⟩) (G.preV hP hS 9 rfl rfl) rfl rfl hl.1 rfl (lv_room (Nat.le_of_ble_eq_true rfl)) d_H_hang_75 ⟨Nat.zero_le _, Nat.zero_le _⟩) ?_
            rcases pu_xb_inv h with ⟨v13, st14, e_v13, h⟩ | ⟨v13, st14, e_v13, h⟩
            · refine hCallU G hS (va_runV (As := [.int v5, .int v11, .int v12]) (rest := []) ⟨hx, hb, hml, hown, hts⟩ (MetX.met (c_H_askFree l htl D ca ad st8 _ v5 v11 v12 _ _ e_v13) (fun _ _ _ _ q => ⟨_, q.1⟩)) (xCW (C := "MuseumHouse") 3 hts wd_4_6 wd_1_1 wd_4_3 wd_4_5 wd_0_12 (by decide +kernel) ⟨Nat.le_of_ble_eq_true rfl, Nat.le_of_ble_eq_true rfl⟩) (G.preV hP hS 0 rfl rfl) rfl rfl hl.1 rfl (lv_room (Nat.le_of_ble_eq_true rfl)) d_H_hang_78 ⟨Nat.zero_le _, Nat.zero_le _⟩) (fun H locs hP hS => ?_)
              refine lv_aload_n hx hb d_H_hang_81 rfl (lv_at hl 3 rfl) ?_
              refine va_get (D := D) (ci := 0) (v := .ref (ad 9)) (C := R_H) (T := T_H) (N := 12) hx hb hts iw_H hown G.1 hP 0 rfl rfl 8 (by decide) (hts _ wd_1_220) (fun _ h9 => h9) rfl d_H_hang_82 ?_
              refine lv_iload hx hb d_H_hang_85 (lv_at hl 1 rfl) ?_
              refine lv_iload hx hb d_H_hang_87 (lv_at hl 0 rfl) ?_
              obtain ⟨q15, e_q15, h⟩ := pu_ob h
              refine hCallU G hS (va_runV (As := [.int v3, .int v5]) (rest := []) ⟨hx, hb, hml, hown, hts⟩ (MetX.met (c_Sh_putIn l htl D ca ad st14 _ v3 v5 q15.1 q15.2 e_q15) (fun _ _ _ _ q => ⟨_, q.1⟩)) (xCW (C := "MuseumHouse$Shows") 2 hts wd_4_94 wd_1_11 wd_4_91 wd_4_92 wd_4_93 (by decide +kernel) ⟨Nat.le_of_ble_eq_true rfl, Nat.le_of_ble_eq_true rfl⟩) (G.preV hP hS 9 rfl rfl) rfl rfl hl.1 rfl (lv_room (Nat.le_of_ble_eq_true rfl)) d_H_hang_89 ⟨Nat.zero_le _, Nat.zero_le _⟩) (fun H locs hP hS => ?_)
              refine lv_iconst (v := 1) hx hb d_H_hang_92 (by decide) ?_
              cases h
              exact W.toX (W.zret (ty := .boolean) hx hb hr rfl (fun t ht _ => ⟨rfl, by rw [ht]; exact hP, hS.F ht⟩) hS.2.2 d_H_hang_93)
            · cases h
              exact hThrV G hS hno hlocks ⟨hx, hb, hml, hown, hts⟩ (As := [.int v5, .int v11, .int v12]) (rest := []) (c_H_askFree l htl D ca ad st8 _ v5 v11 v12 _ _ e_v13) (xCW (C := "MuseumHouse") 3 hts wd_4_6 wd_1_1 wd_4_3 wd_4_5 wd_0_12 (by decide +kernel) ⟨Nat.le_of_ble_eq_true rfl, Nat.le_of_ble_eq_true rfl⟩) (G.preV hP hS 0 rfl rfl) rfl rfl hl.1 rfl (lv_room (Nat.le_of_ble_eq_true rfl)) d_H_hang_78 ⟨Nat.le_of_ble_eq_true rfl, Nat.le_of_ble_eq_true rfl⟩
          · rw [if_neg c10] at h
            refine lv_iconst (v := 0) hx hb d_H_hang_55 (by decide) ?_
            cases h
            exact W.toX (W.zret (ty := .boolean) hx hb hr rfl (fun t ht _ => ⟨rfl, by rw [ht]; exact hP, hS.F ht⟩) hS.2.2 d_H_hang_56)
        · cases h
          exact hThrV G hS hno hlocks ⟨hx, hb, hml, hown, hts⟩ (As := [.int v1, .int 16]) (rest := []) (c_H_askRight l htl D ca ad st6 _ v1 16 _ _ e_v7) (xCW (C := "MuseumHouse") 2 hts wd_2_106 wd_1_1 wd_2_103 wd_2_105 wd_0_2 (by decide +kernel) ⟨Nat.le_of_ble_eq_true rfl, Nat.le_of_ble_eq_true rfl⟩) (G.preV hP hS 0 rfl rfl) rfl rfl hl.1 rfl (lv_room (Nat.le_of_ble_eq_true rfl)) d_H_hang_38 ⟨Nat.le_of_ble_eq_true rfl, Nat.le_of_ble_eq_true rfl⟩
      · cases h
        exact hThrV G hS hno hlocks ⟨hx, hb, hml, hown, hts⟩ (As := [.ref (ad 5), .int x3]) (rest := []) (c_H_numberOf_It l htl D ca ad st4 _ x3 _ _ e_v5) (xCW (C := "MuseumHouse") 2 hts wd_2_26 wd_1_1 wd_2_23 wd_2_25 wd_0_0 (by decide +kernel) ⟨Nat.le_of_ble_eq_true rfl, Nat.le_of_ble_eq_true rfl⟩) (G.preV hP hS 0 rfl rfl) rfl rfl hl.1 rfl (lv_room (Nat.le_of_ble_eq_true rfl)) d_H_hang_28 ⟨Nat.le_of_ble_eq_true rfl, Nat.le_of_ble_eq_true rfl⟩
    · cases h
      exact hThrV G hS hno hlocks ⟨hx, hb, hml, hown, hts⟩ (As := [.ref (ad 9), .int x2]) (rest := []) (c_H_numberOf_Sh l htl D ca ad st2 _ x2 _ _ e_v3) (xCW (C := "MuseumHouse") 2 hts wd_2_26 wd_1_1 wd_2_23 wd_2_25 wd_0_0 (by decide +kernel) ⟨Nat.le_of_ble_eq_true rfl, Nat.le_of_ble_eq_true rfl⟩) (G.preV hP hS 0 rfl rfl) rfl rfl hl.1 rfl (lv_room (Nat.le_of_ble_eq_true rfl)) d_H_hang_17 ⟨Nat.le_of_ble_eq_true rfl, Nat.le_of_ble_eq_true rfl⟩
  · cases h
    exact hThrV G hS hno hlocks ⟨hx, hb, hml, hown, hts⟩ (As := [.ref (ad 1), .int x1]) (rest := []) (c_H_numberOf_De l htl D ca ad st _ x1 _ _ e_v1) (xCW (C := "MuseumHouse") 2 hts wd_2_26 wd_1_1 wd_2_23 wd_2_25 wd_0_0 (by decide +kernel) ⟨Nat.le_of_ble_eq_true rfl, Nat.le_of_ble_eq_true rfl⟩) (G.preV hP hS 0 rfl rfl) rfl rfl hl.1 rfl (lv_room (Nat.le_of_ble_eq_true rfl)) d_H_hang_6 ⟨Nat.le_of_ble_eq_true rfl, Nat.le_of_ble_eq_true rfl⟩
set_option maxHeartbeats 4000000 in
set_option maxRecDepth 100000 in
theorem c_Sh_putOut (l : Launch) (htl : l.stackTraces = false) (D : va_G) (ca : Nat → ClassId) (ad : Nat → Nat) (st : pu_St) (sz : Nat) (x1 x2 : Int32) (v : Int32) (st' : pu_St) (h : f_Sh_putOut st x1 x2 = some (v, st')) : MetX l y_Sh_putOut (.code y_Sh_putOut b_Sh_putOut 3 none :: tG) { frames := 0, cells := 0, slots := 0, locals := 0 } (va_Pc [.ref (ad 9), .int x1, .int x2] (hPc D ca ad st sz)) (hQ D ca ad (fun _ => none) (.inl v) st' sz) 0 0 (hA ad sz) := by
  refine hMet (by decide +kernel) ?_
  intro p e s m below meth c hsz C G hP
  obtain ⟨hx, hb, hml, hr, hlocks, hno, hown, hts⟩ := id C
  have hown : s.vm.findClass "MuseumHouse$Shows" = some m.cls := hown
  have hS : va_S (hA ad s.heap.size) s.heap s.heap [] := va_S.rf
  have hl := lv_entry ([.ref (ad 9), .int x1, .int x2]) (n := 3) (Nat.le_of_ble_eq_true rfl)
  rw [lg_entry_eq]
  generalize (lg_sl ([.ref (ad 9), .int x1, .int x2]) ++ List.replicate (3 - (lg_sl ([.ref (ad 9), .int x1, .int x2])).length) Slot.unset).toArray = ls at hl ⊢
  have hl : lv_has ls 3 [(0, .ref (ad 9)), (1, .int x1), (2, .int x2)] := hl
  unfold f_Sh_putOut at h
  refine lv_aload_n hx hb d_Sh_putOut_0 rfl (lv_at hl 0 rfl) ?_
  refine va_get (D := D) (ci := 9) (v := .ref (ad 30)) (C := R_Sh) (T := T_Sh) (N := 7) hx hb hts iw_Sh hown G.1 hP 9 rfl rfl 6 (by decide) (hts _ wd_1_179) (fun _ h9 => h9) rfl d_Sh_putOut_1 ?_
  refine lv_iload_n hx hb d_Sh_putOut_4 rfl (lv_at hl 1 rfl) ?_
  refine lv_dup2_11 hx hb d_Sh_putOut_5 rfl rfl ?_
  obtain ⟨v1, e_v1, h⟩ := pu_ob h
  refine pu_iald hx hb G.1 hP 30 19 rfl rfl e_v1 d_Sh_putOut_6 ?_
  refine lv_iconst (v := 1) hx hb d_Sh_putOut_7 (by decide) ?_
  refine lv_iload_n hx hb d_Sh_putOut_8 rfl (lv_at hl 2 rfl) ?_
  refine lv_ishl hx hb d_Sh_putOut_9 ?_
  refine lv_iconst (v := (-1)) hx hb d_Sh_putOut_10 (by decide) ?_
  refine lv_ixor hx hb d_Sh_putOut_11 ?_
  refine lv_iand hx hb d_Sh_putOut_12 ?_
  obtain ⟨g2, e_g2, h⟩ := pu_ob h
  refine pu_iast hx hb G.1 hP (G.D) hS 30 19 rfl rfl e_g2 d_Sh_putOut_13 (fun H locs hP hS => ?_)
  have hP : va_P D hcl (hW ca ad (st.1, va_up st.2 19 g2)) H := hP
  cases h
  exact W.toX (W.vret hx hb hr (fun t ht _ => ⟨rfl, by rw [ht]; exact hP, hS.F ht⟩) hS.2.2 d_Sh_putOut_14)

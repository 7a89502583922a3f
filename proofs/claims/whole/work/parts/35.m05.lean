set_option maxHeartbeats 4000000 in
set_option maxRecDepth 100000 in
theorem t_Md_take_b26 {l : Launch} (htl : l.stackTraces = false) {p : Program} {e : Env} {s : State} {m : MethodId} {args : Array Value} {below : List Frame} {meth : Method} {c : Code} {D : va_G} {ca : Nat → ClassId} {ad : Nat → Nat} {st' : pu_St} {v : Int32} (C : hC p s m meth c args b_Md_take 6 (some .boolean) "MuseumHouseModel") (G : mX D ca ad (mA ad s.heap.size) s) :
    ∀ (_ : Unit) (st : pu_St) (x1 x2 x3 z0 : Int32), f_Md_take_b26 st x1 x2 x3 z0 = some (v, st') → ∀ (H : Heap) (locs : List Loc), va_P D hcl (mW ca ad st) H → va_S (mA ad s.heap.size) s.heap H locs → ∀ ls : Array Slot, lv_has ls 6 [(0, .ref (ad 0)), (1, .int x1), (2, .int x2), (3, .int x3)] → W p l e { frames := 2, cells := 0, slots := 0, locals := 46 } s m args below meth c H locs 0 0 (MQX below (mQ D ca ad (fun v => some (.int v)) (.inl v) st' s.heap.size) args s 0 0 (mA ad s.heap.size)) (F0 m 26 ls [.int z0, .ref (ad 0), .ref (ad 0)]) := by
  obtain ⟨hx, hb, hml, hr, hlocks, hno, hown, hts⟩ := id C
  intro _ st x1 x2 x3 z0 h H locs hP hS ls hl
  unfold f_Md_take_b26 at h
  refine lv_iload_n hx hb d_Md_take_26 rfl (lv_at hl 1 rfl) ?_
  refine lv_bipush (v := 16) hx hb d_Md_take_27 (by decide) ?_
  refine lv_iconst (v := 1) hx hb d_Md_take_29 (by decide) ?_
  obtain ⟨v5, e_v5, h⟩ := pu_ob h
  refine pu_callR (va_runV (As := [.int z0, .int x1, .int 16, .int 1]) (rest := [.ref (ad 0)]) ⟨hx, hb, hml, hown, hts⟩ (c_Md_first l D ca ad st _ z0 x1 16 1 v5 e_v5) (xCW (C := "MuseumHouseModel") 4 hts wd_5_76 wd_1_13 wd_5_73 wd_5_75 wd_0_13 (by decide +kernel) ⟨Nat.le_of_ble_eq_true rfl, Nat.le_of_ble_eq_true rfl⟩) (G.preV hP hS 0 rfl rfl) rfl rfl hl.1 rfl (lv_room (Nat.le_of_ble_eq_true rfl)) d_Md_take_30 ⟨Nat.zero_le _, Nat.zero_le _⟩) ?_
  obtain ⟨q6, e_q6, h⟩ := pu_ob h
  refine mCallI G hS (va_runV (As := [.int v5]) (rest := []) ⟨hx, hb, hml, hown, hts⟩ (MetX.met (c_Md_holds l htl D ca ad st _ v5 q6.1 q6.2 e_q6) (fun _ _ _ _ q => ⟨_, q.1⟩)) (xCW (C := "MuseumHouseModel") 1 hts wd_5_94 wd_1_13 wd_5_91 wd_5_93 wd_0_16 (by decide +kernel) ⟨Nat.le_of_ble_eq_true rfl, Nat.le_of_ble_eq_true rfl⟩) (G.preV hP hS 0 rfl rfl) rfl rfl hl.1 rfl (lv_room (Nat.le_of_ble_eq_true rfl)) d_Md_take_33 ⟨Nat.zero_le _, Nat.zero_le _⟩) (fun H locs hP hS => ?_)
  refine lv_if_ne (tgt := 41) hx hb d_Md_take_36 (by decide) (fun c7 => ?_) (fun c7 => ?_)
  · rw [if_neg c7] at h
    refine lv_bipush (v := 30) hx hb d_Md_take_41 (by decide) ?_
    refine lv_iload_n hx hb d_Md_take_43 rfl (lv_at hl 2 rfl) ?_
    refine lv_sipush (v := 800) hx hb d_Md_take_44 (by decide) ?_
    refine lv_isub hx hb d_Md_take_47 ?_
    refine lv_imul hx hb d_Md_take_48 ?_
    refine lv_iload_n hx hb d_Md_take_49 rfl (lv_at hl 3 rfl) ?_
    refine lv_iadd hx hb d_Md_take_50 ?_
    refine lv_sipush (v := 500) hx hb d_Md_take_51 (by decide) ?_
    refine lv_isub hx hb d_Md_take_54 ?_
    refine lv_istore (lv' := [(4, .int (((30 * (x2 - 800)) + x3) - 500)), (0, .ref (ad 0)), (1, .int x1), (2, .int x2), (3, .int x3)]) hx hb d_Md_take_55 hl (by decide) rfl (fun ls hl => ?_)
    refine lv_aload_n hx hb d_Md_take_57 rfl (lv_at hl 1 rfl) ?_
    refine va_get (D := D) (ci := 11) (v := .ref (ad 21)) (C := R_Md) (T := T_Md) (N := 27) hx hb hts iw_Md hown G.1 hP 0 rfl rfl 23 (by decide) (hts _ wd_5_6) (fun _ h9 => h9) rfl d_Md_take_58 ?_
    refine lv_iload hx hb d_Md_take_61 (lv_at hl 0 rfl) ?_
    obtain ⟨v8, e_v8, h⟩ := pu_ob h
    refine pu_zald hx hb G.1 hP 21 20 rfl rfl e_v8 d_Md_take_63 ?_
    refine lv_istore (lv' := [(5, .int v8), (4, .int (((30 * (x2 - 800)) + x3) - 500)), (0, .ref (ad 0)), (1, .int x1), (2, .int x2), (3, .int x3)]) hx hb d_Md_take_64 hl (by decide) rfl (fun ls hl => ?_)
    refine lv_aload_n hx hb d_Md_take_66 rfl (lv_at hl 2 rfl) ?_
    refine va_get (D := D) (ci := 11) (v := .ref (ad 21)) (C := R_Md) (T := T_Md) (N := 27) hx hb hts iw_Md hown G.1 hP 0 rfl rfl 23 (by decide) (hts _ wd_5_6) (fun _ h9 => h9) rfl d_Md_take_67 ?_
    refine lv_iload hx hb d_Md_take_70 (lv_at hl 1 rfl) ?_
    refine lv_iconst (v := 0) hx hb d_Md_take_72 (by decide) ?_
    obtain ⟨g9, e_g9, h⟩ := pu_ob h
    refine pu_zast hx hb G.1 hP (G.D) hS 21 20 rfl rfl e_g9 rfl d_Md_take_73 (fun H locs hP hS => ?_)
    have hP : va_P D hcl (mW ca ad (q6.2.1, va_up q6.2.2 20 g9)) H := hP
    refine lv_iload hx hb d_Md_take_74 (lv_at hl 0 rfl) ?_
    obtain ⟨b10, e_b10, h⟩ := pu_ob h
    obtain ⟨e_b10, k_b10⟩ := pu_bo_inv e_b10
    cases h
    rw [e_b10]
    exact W.toX (W.zret (ty := .boolean) hx hb hr (by rcases k_b10 with e | e <;> rw [e] <;> rfl) (fun t ht _ => ⟨rfl, by rw [ht]; exact hP, hS.F ht⟩) hS.2.2 d_Md_take_76)
  · rw [if_pos c7] at h
    refine lv_iconst (v := 0) hx hb d_Md_take_39 (by decide) ?_
    cases h
    exact W.toX (W.zret (ty := .boolean) hx hb hr rfl (fun t ht _ => ⟨rfl, by rw [ht]; exact hP, hS.F ht⟩) hS.2.2 d_Md_take_40)
set_option maxHeartbeats 4000000 in
set_option maxRecDepth 100000 in
theorem t_Md_take_b25 {l : Launch} (htl : l.stackTraces = false) {p : Program} {e : Env} {s : State} {m : MethodId} {args : Array Value} {below : List Frame} {meth : Method} {c : Code} {D : va_G} {ca : Nat → ClassId} {ad : Nat → Nat} {st' : pu_St} {v : Int32} (C : hC p s m meth c args b_Md_take 6 (some .boolean) "MuseumHouseModel") (G : mX D ca ad (mA ad s.heap.size) s) :
    ∀ (_ : Unit) (st : pu_St) (x1 x2 x3 : Int32), f_Md_take_b25 st x1 x2 x3 = some (v, st') → ∀ (H : Heap) (locs : List Loc), va_P D hcl (mW ca ad st) H → va_S (mA ad s.heap.size) s.heap H locs → ∀ ls : Array Slot, lv_has ls 6 [(0, .ref (ad 0)), (1, .int x1), (2, .int x2), (3, .int x3)] → W p l e { frames := 2, cells := 0, slots := 0, locals := 46 } s m args below meth c H locs 0 0 (MQX below (mQ D ca ad (fun v => some (.int v)) (.inl v) st' s.heap.size) args s 0 0 (mA ad s.heap.size)) (F0 m 25 ls [.ref (ad 0), .ref (ad 0)]) := by
  obtain ⟨hx, hb, hml, hr, hlocks, hno, hown, hts⟩ := id C
  intro _ st x1 x2 x3 h H locs hP hS ls hl
  unfold f_Md_take_b25 at h
  refine lv_iconst (v := 0) hx hb d_Md_take_25 (by decide) ?_
  exact t_Md_take_b26 htl C G () st x1 x2 x3 0 h _ _ hP hS ls (lv_sub hl [0, 1, 2, 3] rfl)
set_option maxHeartbeats 4000000 in
set_option maxRecDepth 100000 in
theorem c_Md_take (l : Launch) (htl : l.stackTraces = false) (D : va_G) (ca : Nat → ClassId) (ad : Nat → Nat) (st : pu_St) (sz : Nat) (x1 x2 x3 : Int32) (v : Int32) (st' : pu_St) (h : f_Md_take st x1 x2 x3 = some (v, st')) : MetX l y_Md_take (.code y_Md_take b_Md_take 6 (some .boolean) :: tG) { frames := 2, cells := 0, slots := 0, locals := 46 } (va_Pc [.ref (ad 0), .int x1, .int x2, .int x3] (mPc D ca ad st sz)) (mQ D ca ad (fun v => some (.int v)) (.inl v) st' sz) 0 0 (mA ad sz) := by
  refine mMet (by decide +kernel) ?_
  intro p e s m below meth c hsz C G hP
  obtain ⟨hx, hb, hml, hr, hlocks, hno, hown, hts⟩ := id C
  have hown : s.vm.findClass "MuseumHouseModel" = some m.cls := hown
  have hS : va_S (mA ad s.heap.size) s.heap s.heap [] := va_S.rf
  have hl := lv_entry ([.ref (ad 0), .int x1, .int x2, .int x3]) (n := 6) (Nat.le_of_ble_eq_true rfl)
  rw [lg_entry_eq]
  generalize (lg_sl ([.ref (ad 0), .int x1, .int x2, .int x3]) ++ List.replicate (6 - (lg_sl ([.ref (ad 0), .int x1, .int x2, .int x3])).length) Slot.unset).toArray = ls at hl ⊢
  have hl : lv_has ls 6 [(0, .ref (ad 0)), (1, .int x1), (2, .int x2), (3, .int x3)] := hl
  unfold f_Md_take at h
  refine lv_aload_n hx hb d_Md_take_0 rfl (lv_at hl 0 rfl) ?_
  refine lv_aload_n hx hb d_Md_take_1 rfl (lv_at hl 0 rfl) ?_
  refine lv_aload_n hx hb d_Md_take_2 rfl (lv_at hl 0 rfl) ?_
  refine lv_iload_n hx hb d_Md_take_3 rfl (lv_at hl 2 rfl) ?_
  refine lv_bipush (v := 8) hx hb d_Md_take_4 (by decide) ?_
  obtain ⟨v1, e_v1, h⟩ := pu_ob h
  refine pu_callR (va_runV (As := [.int x2, .int 8]) (rest := [.ref (ad 0), .ref (ad 0)]) ⟨hx, hb, hml, hown, hts⟩ (c_Md_is l D ca ad st _ x2 8 v1 e_v1) (xCW (C := "MuseumHouseModel") 2 hts wd_5_80 wd_1_13 wd_5_77 wd_5_79 wd_0_14 (by decide +kernel) ⟨Nat.le_of_ble_eq_true rfl, Nat.le_of_ble_eq_true rfl⟩) (G.preV hP hS 0 rfl rfl) rfl rfl hl.1 rfl (lv_room (Nat.le_of_ble_eq_true rfl)) d_Md_take_6 ⟨Nat.zero_le _, Nat.zero_le _⟩) ?_
  refine lv_if_eq (tgt := 25) hx hb d_Md_take_9 (by decide) (fun c2 => ?_) (fun c2 => ?_)
  · rw [if_pos c2] at h
    exact t_Md_take_b25 htl C G () st x1 x2 x3 h _ _ hP hS ls (lv_sub hl [0, 1, 2, 3] rfl)
  · rw [if_neg c2] at h
    refine lv_aload_n hx hb d_Md_take_12 rfl (lv_at hl 0 rfl) ?_
    refine lv_iload_n hx hb d_Md_take_13 rfl (lv_at hl 3 rfl) ?_
    refine lv_iconst (v := 5) hx hb d_Md_take_14 (by decide) ?_
    obtain ⟨v3, e_v3, h⟩ := pu_ob h
    refine pu_callR (va_runV (As := [.int x3, .int 5]) (rest := [.ref (ad 0), .ref (ad 0)]) ⟨hx, hb, hml, hown, hts⟩ (c_Md_is l D ca ad st _ x3 5 v3 e_v3) (xCW (C := "MuseumHouseModel") 2 hts wd_5_80 wd_1_13 wd_5_77 wd_5_79 wd_0_14 (by decide +kernel) ⟨Nat.le_of_ble_eq_true rfl, Nat.le_of_ble_eq_true rfl⟩) (G.preV hP hS 0 rfl rfl) rfl rfl hl.1 rfl (lv_room (Nat.le_of_ble_eq_true rfl)) d_Md_take_15 ⟨Nat.zero_le _, Nat.zero_le _⟩) ?_
    refine lv_if_eq (tgt := 25) hx hb d_Md_take_18 (by decide) (fun c4 => ?_) (fun c4 => ?_)
    · rw [if_pos c4] at h
      exact t_Md_take_b25 htl C G () st x1 x2 x3 h _ _ hP hS ls (lv_sub hl [0, 1, 2, 3] rfl)
    · rw [if_neg c4] at h
      refine lv_iconst (v := 1) hx hb d_Md_take_21 (by decide) ?_
      refine lv_goto (tgt := 26) hx hb d_Md_take_22 (by decide) ?_
      exact t_Md_take_b26 htl C G () st x1 x2 x3 1 h _ _ hP hS ls (lv_sub hl [0, 1, 2, 3] rfl)
set_option maxHeartbeats 4000000 in
set_option maxRecDepth 100000 in
theorem t_Md_claim_b128 {l : Launch} (htl : l.stackTraces = false) {p : Program} {e : Env} {s : State} {m : MethodId} {args : Array Value} {below : List Frame} {meth : Method} {c : Code} {D : va_G} {ca : Nat → ClassId} {ad : Nat → Nat} {st' : pu_St} {v : Int32} (C : hC p s m meth c args b_Md_claim 7 (some .int) "MuseumHouseModel") (G : mX D ca ad (mA ad s.heap.size) s) :
    ∀ (_ : Unit) (st : pu_St) (x1 x2 x3 x4 x5 x6 z0 z1 : Int32), f_Md_claim_b128 st x1 x2 x3 x4 x5 x6 z0 z1 = some (v, st') → ∀ (H : Heap) (locs : List Loc), va_P D hcl (mW ca ad st) H → va_S (mA ad s.heap.size) s.heap H locs → ∀ ls : Array Slot, lv_has ls 7 [(0, .ref (ad 0)), (1, .int x1), (2, .int x2), (3, .int x3), (4, .int x4), (5, .int x5), (6, .int x6)] → W p l e { frames := 2, cells := 0, slots := 0, locals := 46 } s m args below meth c H locs 0 0 (MQX below (mQ D ca ad (fun v => some (.int v)) (.inl v) st' s.heap.size) args s 0 0 (mA ad s.heap.size)) (F0 m 128 ls [.int z0, .int z1, .ref (ad 0)]) := by
  obtain ⟨hx, hb, hml, hr, hlocks, hno, hown, hts⟩ := id C
  intro _ st x1 x2 x3 x4 x5 x6 z0 z1 h H locs hP hS ls hl
  unfold f_Md_claim_b128 at h
  refine lv_bipush (v := 16) hx hb d_Md_claim_128 (by decide) ?_
  obtain ⟨v17, e_v17, h⟩ := pu_ob h
  refine pu_callR (va_runS (As := [.int z1, .int z0, .int 16]) (rest := [.ref (ad 0)]) ⟨hx, hb, hml, hown, hts⟩ (c_Md_then l D ca ad st _ z1 z0 16 v17 e_v17) (xCS 3 hts wd_5_90 wd_1_13 wd_5_88 wd_5_89 (by decide +kernel) ⟨Nat.le_of_ble_eq_true rfl, Nat.le_of_ble_eq_true rfl⟩) (G.preS hP hS) rfl rfl hl.1 rfl (lv_room (Nat.le_of_ble_eq_true rfl)) d_Md_claim_130 ⟨Nat.zero_le _, Nat.zero_le _⟩) ?_
  obtain ⟨q18, e_q18, h⟩ := pu_ob h
  refine mCallI G hS (va_runV (As := [.int v17]) (rest := []) ⟨hx, hb, hml, hown, hts⟩ (MetX.met (c_Md_holds l htl D ca ad st _ v17 q18.1 q18.2 e_q18) (fun _ _ _ _ q => ⟨_, q.1⟩)) (xCW (C := "MuseumHouseModel") 1 hts wd_5_94 wd_1_13 wd_5_91 wd_5_93 wd_0_16 (by decide +kernel) ⟨Nat.le_of_ble_eq_true rfl, Nat.le_of_ble_eq_true rfl⟩) (G.preV hP hS 0 rfl rfl) rfl rfl hl.1 rfl (lv_room (Nat.le_of_ble_eq_true rfl)) d_Md_claim_133 ⟨Nat.zero_le _, Nat.zero_le _⟩) (fun H locs hP hS => ?_)
  refine lv_if_ne (tgt := 141) hx hb d_Md_claim_136 (by decide) (fun c19 => ?_) (fun c19 => ?_)
  · rw [if_neg c19] at h
    refine lv_aload_n hx hb d_Md_claim_141 rfl (lv_at hl 0 rfl) ?_
    refine va_get (D := D) (ci := 11) (v := .ref (ad 22)) (C := R_Md) (T := T_Md) (N := 27) hx hb hts iw_Md hown G.1 hP 0 rfl rfl 24 (by decide) (hts _ wd_5_7) (fun _ h9 => h9) rfl d_Md_claim_142 ?_
    refine lv_aload_n hx hb d_Md_claim_145 rfl (lv_at hl 0 rfl) ?_
    refine va_get (D := D) (ci := 11) (v := .ref (ad 1)) (C := R_Md) (T := T_Md) (N := 27) hx hb hts iw_Md hown G.1 hP 0 rfl rfl 3 (by decide) (hts _ wd_4_226) (fun _ h9 => h9) rfl d_Md_claim_146 ?_
    refine lv_bipush (v := 9) hx hb d_Md_claim_149 (by decide) ?_
    obtain ⟨v20, e_v20, h⟩ := pu_ob h
    refine pu_iald hx hb G.1 hP 1 0 rfl rfl e_v20 d_Md_claim_151 ?_
    refine lv_iload_n hx hb d_Md_claim_152 rfl (lv_at hl 2 rfl) ?_
    obtain ⟨g21, e_g21, h⟩ := pu_ob h
    refine pu_iast hx hb G.1 hP (G.D) hS 22 21 rfl rfl e_g21 d_Md_claim_153 (fun H locs hP hS => ?_)
    have hP : va_P D hcl (mW ca ad (q18.2.1, va_up q18.2.2 21 g21)) H := hP
    refine lv_aload_n hx hb d_Md_claim_154 rfl (lv_at hl 0 rfl) ?_
    refine va_get (D := D) (ci := 11) (v := .ref (ad 23)) (C := R_Md) (T := T_Md) (N := 27) hx hb hts iw_Md hown G.1 hP 0 rfl rfl 25 (by decide) (hts _ wd_5_8) (fun _ h9 => h9) rfl d_Md_claim_155 ?_
    refine lv_aload_n hx hb d_Md_claim_158 rfl (lv_at hl 0 rfl) ?_
    refine va_get (D := D) (ci := 11) (v := .ref (ad 1)) (C := R_Md) (T := T_Md) (N := 27) hx hb hts iw_Md hown G.1 hP 0 rfl rfl 3 (by decide) (hts _ wd_4_226) (fun _ h9 => h9) rfl d_Md_claim_159 ?_
    refine lv_bipush (v := 9) hx hb d_Md_claim_162 (by decide) ?_
    obtain ⟨v22, e_v22, h⟩ := pu_ob h
    refine pu_iald hx hb G.1 hP 1 0 rfl rfl e_v22 d_Md_claim_164 ?_
    refine lv_iload_n hx hb d_Md_claim_165 rfl (lv_at hl 3 rfl) ?_
    obtain ⟨g23, e_g23, h⟩ := pu_ob h
    refine pu_iast hx hb G.1 hP (G.D) hS 23 22 rfl rfl e_g23 d_Md_claim_166 (fun H locs hP hS => ?_)
    have hP : va_P D hcl (mW ca ad ((q18.2.1, va_up q18.2.2 21 g21).1, va_up (q18.2.1, va_up q18.2.2 21 g21).2 22 g23)) H := hP
    refine lv_aload_n hx hb d_Md_claim_167 rfl (lv_at hl 0 rfl) ?_
    refine va_get (D := D) (ci := 11) (v := .ref (ad 24)) (C := R_Md) (T := T_Md) (N := 27) hx hb hts iw_Md hown G.1 hP 0 rfl rfl 26 (by decide) (hts _ wd_5_9) (fun _ h9 => h9) rfl d_Md_claim_168 ?_
    refine lv_aload_n hx hb d_Md_claim_171 rfl (lv_at hl 0 rfl) ?_
    refine va_get (D := D) (ci := 11) (v := .ref (ad 1)) (C := R_Md) (T := T_Md) (N := 27) hx hb hts iw_Md hown G.1 hP 0 rfl rfl 3 (by decide) (hts _ wd_4_226) (fun _ h9 => h9) rfl d_Md_claim_172 ?_
    refine lv_bipush (v := 9) hx hb d_Md_claim_175 (by decide) ?_
    obtain ⟨v24, e_v24, h⟩ := pu_ob h
    refine pu_iald hx hb G.1 hP 1 0 rfl rfl e_v24 d_Md_claim_177 ?_
    refine lv_iconst (v := 1) hx hb d_Md_claim_178 (by decide) ?_
    obtain ⟨g25, e_g25, h⟩ := pu_ob h
    refine pu_zast hx hb G.1 hP (G.D) hS 24 23 rfl rfl e_g25 rfl d_Md_claim_179 (fun H locs hP hS => ?_)
    have hP : va_P D hcl (mW ca ad (((q18.2.1, va_up q18.2.2 21 g21).1, va_up (q18.2.1, va_up q18.2.2 21 g21).2 22 g23).1, va_up ((q18.2.1, va_up q18.2.2 21 g21).1, va_up (q18.2.1, va_up q18.2.2 21 g21).2 22 g23).2 23 g25)) H := hP
    refine lv_aload_n hx hb d_Md_claim_180 rfl (lv_at hl 0 rfl) ?_
    refine lv_bipush (v := 9) hx hb d_Md_claim_181 (by decide) ?_
    obtain ⟨q26, e_q26, h⟩ := pu_ob h
    refine mCallI G hS (va_runV (As := [.int 9]) (rest := []) ⟨hx, hb, hml, hown, hts⟩ (MetX.met (c_Md_made l htl D ca ad (((q18.2.1, va_up q18.2.2 21 g21).1, va_up (q18.2.1, va_up q18.2.2 21 g21).2 22 g23).1, va_up ((q18.2.1, va_up q18.2.2 21 g21).1, va_up (q18.2.1, va_up q18.2.2 21 g21).2 22 g23).2 23 g25) _ 9 q26.1 q26.2 e_q26) (fun _ _ _ _ q => ⟨_, q.1⟩)) (xCW (C := "MuseumHouseModel") 1 hts wd_5_98 wd_1_13 wd_5_95 wd_5_97 wd_0_17 (by decide +kernel) ⟨Nat.le_of_ble_eq_true rfl, Nat.le_of_ble_eq_true rfl⟩) (G.preV hP hS 0 rfl rfl) rfl rfl hl.1 rfl (lv_room (Nat.le_of_ble_eq_true rfl)) d_Md_claim_183 ⟨Nat.zero_le _, Nat.zero_le _⟩) (fun H locs hP hS => ?_)
    cases h
    exact W.toX (W.iret hx hb hr (fun t ht _ => ⟨rfl, by rw [ht]; exact hP, hS.F ht⟩) hS.2.2 d_Md_claim_186)
  · rw [if_pos c19] at h
    refine lv_iconst (v := 0) hx hb d_Md_claim_139 (by decide) ?_
    cases h
    exact W.toX (W.iret hx hb hr (fun t ht _ => ⟨rfl, by rw [ht]; exact hP, hS.F ht⟩) hS.2.2 d_Md_claim_140)
set_option maxHeartbeats 4000000 in
set_option maxRecDepth 100000 in
theorem t_Md_claim_b38 {l : Launch} (htl : l.stackTraces = false) {p : Program} {e : Env} {s : State} {m : MethodId} {args : Array Value} {below : List Frame} {meth : Method} {c : Code} {D : va_G} {ca : Nat → ClassId} {ad : Nat → Nat} {st' : pu_St} {v : Int32} (C : hC p s m meth c args b_Md_claim 7 (some .int) "MuseumHouseModel") (G : mX D ca ad (mA ad s.heap.size) s) :
    ∀ (n : Nat) (st : pu_St) (x1 x2 x3 x4 x5 x6 : Int32), f_Md_claim_b38 n st x1 x2 x3 x4 x5 x6 = some (v, st') → ∀ (H : Heap) (locs : List Loc), va_P D hcl (mW ca ad st) H → va_S (mA ad s.heap.size) s.heap H locs → ∀ ls : Array Slot, lv_has ls 7 [(0, .ref (ad 0)), (1, .int x1), (2, .int x2), (3, .int x3), (4, .int x4), (5, .int x5), (6, .int x6)] → W p l e { frames := 2, cells := 0, slots := 0, locals := 46 } s m args below meth c H locs 0 0 (MQX below (mQ D ca ad (fun v => some (.int v)) (.inl v) st' s.heap.size) args s 0 0 (mA ad s.heap.size)) (F0 m 38 ls []) := by
  obtain ⟨hx, hb, hml, hr, hlocks, hno, hown, hts⟩ := id C
  intro n
  induction n with
  | zero => intro st x1 x2 x3 x4 x5 x6 h; cases h
  | succ n ih =>
    intro st x1 x2 x3 x4 x5 x6 h H locs hP hS ls hl
    unfold f_Md_claim_b38 at h
    refine lv_iload hx hb d_Md_claim_38 (lv_at hl 6 rfl) ?_
    refine lv_aload_n hx hb d_Md_claim_40 rfl (lv_at hl 0 rfl) ?_
    refine va_get (D := D) (ci := 11) (v := .ref (ad 1)) (C := R_Md) (T := T_Md) (N := 27) hx hb hts iw_Md hown G.1 hP 0 rfl rfl 3 (by decide) (hts _ wd_4_226) (fun _ h9 => h9) rfl d_Md_claim_41 ?_
    refine lv_bipush (v := 9) hx hb d_Md_claim_44 (by decide) ?_
    obtain ⟨v5, e_v5, h⟩ := pu_ob h
    refine pu_iald hx hb G.1 hP 1 0 rfl rfl e_v5 d_Md_claim_46 ?_
    refine lv_icmp_ge (tgt := 100) hx hb d_Md_claim_47 (by decide) (fun c6 => ?_) (fun c6 => ?_)
    · rw [if_pos c6] at h
      refine lv_iload hx hb d_Md_claim_100 (lv_at hl 4 rfl) ?_
      refine lv_iload_n hx hb d_Md_claim_102 rfl (lv_at hl 3 rfl) ?_
      refine lv_iconst (v := 0) hx hb d_Md_claim_103 (by decide) ?_
      refine lv_bipush (v := 9) hx hb d_Md_claim_104 (by decide) ?_
      obtain ⟨v7, e_v7, h⟩ := pu_ob h
      refine pu_callR (va_runS (As := [.int x3, .int 0, .int 9]) (rest := [.int x4]) ⟨hx, hb, hml, hown, hts⟩ (c_Md_lies l D ca ad st _ x3 0 9 v7 e_v7) (xCS 3 hts wd_5_87 wd_1_13 wd_5_85 wd_5_86 (by decide +kernel) ⟨Nat.le_of_ble_eq_true rfl, Nat.le_of_ble_eq_true rfl⟩) (G.preS hP hS) rfl rfl hl.1 rfl (lv_room (Nat.le_of_ble_eq_true rfl)) d_Md_claim_106 ⟨Nat.zero_le _, Nat.zero_le _⟩) ?_
      refine lv_iconst (v := 4) hx hb d_Md_claim_109 (by decide) ?_
      obtain ⟨v8, e_v8, h⟩ := pu_ob h
      refine pu_callR (va_runS (As := [.int x4, .int v7, .int 4]) (rest := []) ⟨hx, hb, hml, hown, hts⟩ (c_Md_then l D ca ad st _ x4 v7 4 v8 e_v8) (xCS 3 hts wd_5_90 wd_1_13 wd_5_88 wd_5_89 (by decide +kernel) ⟨Nat.le_of_ble_eq_true rfl, Nat.le_of_ble_eq_true rfl⟩) (G.preS hP hS) rfl rfl hl.1 rfl (lv_room (Nat.le_of_ble_eq_true rfl)) d_Md_claim_110 ⟨Nat.zero_le _, Nat.zero_le _⟩) ?_
      refine lv_istore (lv' := [(4, .int v8), (0, .ref (ad 0)), (1, .int x1), (2, .int x2), (3, .int x3), (5, .int x5), (6, .int x6)]) hx hb d_Md_claim_113 hl (by decide) rfl (fun ls hl => ?_)
      refine lv_aload_n hx hb d_Md_claim_115 rfl (lv_at hl 1 rfl) ?_
      refine lv_iload hx hb d_Md_claim_116 (lv_at hl 0 rfl) ?_
      refine lv_iload hx hb d_Md_claim_118 (lv_at hl 5 rfl) ?_
      refine lv_if_ne (tgt := 127) hx hb d_Md_claim_120 (by decide) (fun c9 => ?_) (fun c9 => ?_)
      · rw [if_neg c9] at h
        refine lv_iconst (v := 0) hx hb d_Md_claim_127 (by decide) ?_
        exact t_Md_claim_b128 htl C G () st x1 x2 x3 v8 x5 x6 0 v8 h _ _ hP hS ls (lv_sub hl [1, 2, 3, 4, 0, 5, 6] rfl)
      · rw [if_pos c9] at h
        refine lv_iconst (v := 1) hx hb d_Md_claim_123 (by decide) ?_
        refine lv_goto (tgt := 128) hx hb d_Md_claim_124 (by decide) ?_
        exact t_Md_claim_b128 htl C G () st x1 x2 x3 v8 x5 x6 1 v8 h _ _ hP hS ls (lv_sub hl [1, 2, 3, 4, 0, 5, 6] rfl)
    · rw [if_neg c6] at h
      refine lv_iload hx hb d_Md_claim_50 (lv_at hl 5 rfl) ?_
      refine lv_if_ne (tgt := 87) hx hb d_Md_claim_52 (by decide) (fun c10 => ?_) (fun c10 => ?_)
      · rw [if_neg c10] at h
        refine lv_iconst (v := 1) hx hb d_Md_claim_87 (by decide) ?_
        refine lv_goto (tgt := 92) hx hb d_Md_claim_88 (by decide) ?_
        refine lv_istore (lv' := [(5, .int 1), (0, .ref (ad 0)), (1, .int x1), (2, .int x2), (3, .int x3), (4, .int x4), (6, .int x6)]) hx hb d_Md_claim_92 hl (by decide) rfl (fun ls hl => ?_)
        refine lv_iinc (v := (x6 + 1)) (lv' := [(6, .int (x6 + 1)), (5, .int 1), (0, .ref (ad 0)), (1, .int x1), (2, .int x2), (3, .int x3), (4, .int x4)]) hx hb d_Md_claim_94 hl (k := 6) rfl rfl (by decide) rfl (fun ls hl => ?_)
        refine lv_goto (tgt := 38) hx hb d_Md_claim_97 (by decide) ?_
        exact ih st x1 x2 x3 x4 1 (x6 + 1) h _ _ hP hS ls (lv_sub hl [2, 3, 4, 5, 6, 1, 0] rfl)
      · rw [if_pos c10] at h
        refine lv_aload_n hx hb d_Md_claim_55 rfl (lv_at hl 0 rfl) ?_
        refine va_get (D := D) (ci := 11) (v := .ref (ad 24)) (C := R_Md) (T := T_Md) (N := 27) hx hb hts iw_Md hown G.1 hP 0 rfl rfl 26 (by decide) (hts _ wd_5_9) (fun _ h9 => h9) rfl d_Md_claim_56 ?_
        refine lv_iload hx hb d_Md_claim_59 (lv_at hl 6 rfl) ?_
        obtain ⟨v11, e_v11, h⟩ := pu_ob h
        refine pu_zald hx hb G.1 hP 24 23 rfl rfl e_v11 d_Md_claim_61 ?_
        refine lv_if_eq (tgt := 91) hx hb d_Md_claim_62 (by decide) (fun c12 => ?_) (fun c12 => ?_)
        · rw [if_pos c12] at h
          refine lv_iconst (v := 0) hx hb d_Md_claim_91 (by decide) ?_
          refine lv_istore (lv' := [(5, .int 0), (0, .ref (ad 0)), (1, .int x1), (2, .int x2), (3, .int x3), (4, .int x4), (6, .int x6)]) hx hb d_Md_claim_92 hl (by decide) rfl (fun ls hl => ?_)
          refine lv_iinc (v := (x6 + 1)) (lv' := [(6, .int (x6 + 1)), (5, .int 0), (0, .ref (ad 0)), (1, .int x1), (2, .int x2), (3, .int x3), (4, .int x4)]) hx hb d_Md_claim_94 hl (k := 6) rfl rfl (by decide) rfl (fun ls hl => ?_)
          refine lv_goto (tgt := 38) hx hb d_Md_claim_97 (by decide) ?_
          exact ih st x1 x2 x3 x4 0 (x6 + 1) h _ _ hP hS ls (lv_sub hl [2, 3, 4, 5, 6, 1, 0] rfl)
        · rw [if_neg c12] at h
          refine lv_aload_n hx hb d_Md_claim_65 rfl (lv_at hl 0 rfl) ?_
          refine va_get (D := D) (ci := 11) (v := .ref (ad 22)) (C := R_Md) (T := T_Md) (N := 27) hx hb hts iw_Md hown G.1 hP 0 rfl rfl 24 (by decide) (hts _ wd_5_7) (fun _ h9 => h9) rfl d_Md_claim_66 ?_
          refine lv_iload hx hb d_Md_claim_69 (lv_at hl 6 rfl) ?_
          obtain ⟨v13, e_v13, h⟩ := pu_ob h
          refine pu_iald hx hb G.1 hP 22 21 rfl rfl e_v13 d_Md_claim_71 ?_
          refine lv_iload_n hx hb d_Md_claim_72 rfl (lv_at hl 2 rfl) ?_
          refine lv_icmp_ne (tgt := 91) hx hb d_Md_claim_73 (by decide) (fun c14 => ?_) (fun c14 => ?_)
          · rw [if_neg c14] at h
            refine lv_iconst (v := 0) hx hb d_Md_claim_91 (by decide) ?_
            refine lv_istore (lv' := [(5, .int 0), (0, .ref (ad 0)), (1, .int x1), (2, .int x2), (3, .int x3), (4, .int x4), (6, .int x6)]) hx hb d_Md_claim_92 hl (by decide) rfl (fun ls hl => ?_)
            refine lv_iinc (v := (x6 + 1)) (lv' := [(6, .int (x6 + 1)), (5, .int 0), (0, .ref (ad 0)), (1, .int x1), (2, .int x2), (3, .int x3), (4, .int x4)]) hx hb d_Md_claim_94 hl (k := 6) rfl rfl (by decide) rfl (fun ls hl => ?_)
            refine lv_goto (tgt := 38) hx hb d_Md_claim_97 (by decide) ?_
            exact ih st x1 x2 x3 x4 0 (x6 + 1) h _ _ hP hS ls (lv_sub hl [2, 3, 4, 5, 6, 1, 0] rfl)
          · rw [if_pos c14] at h
            refine lv_aload_n hx hb d_Md_claim_76 rfl (lv_at hl 0 rfl) ?_
            refine va_get (D := D) (ci := 11) (v := .ref (ad 23)) (C := R_Md) (T := T_Md) (N := 27) hx hb hts iw_Md hown G.1 hP 0 rfl rfl 25 (by decide) (hts _ wd_5_8) (fun _ h9 => h9) rfl d_Md_claim_77 ?_
            refine lv_iload hx hb d_Md_claim_80 (lv_at hl 6 rfl) ?_
            obtain ⟨v15, e_v15, h⟩ := pu_ob h
            refine pu_iald hx hb G.1 hP 23 22 rfl rfl e_v15 d_Md_claim_82 ?_
            refine lv_iload_n hx hb d_Md_claim_83 rfl (lv_at hl 3 rfl) ?_
            refine lv_icmp_ne (tgt := 91) hx hb d_Md_claim_84 (by decide) (fun c16 => ?_) (fun c16 => ?_)
            · rw [if_neg c16] at h
              refine lv_iconst (v := 0) hx hb d_Md_claim_91 (by decide) ?_
              refine lv_istore (lv' := [(5, .int 0), (0, .ref (ad 0)), (1, .int x1), (2, .int x2), (3, .int x3), (4, .int x4), (6, .int x6)]) hx hb d_Md_claim_92 hl (by decide) rfl (fun ls hl => ?_)
              refine lv_iinc (v := (x6 + 1)) (lv' := [(6, .int (x6 + 1)), (5, .int 0), (0, .ref (ad 0)), (1, .int x1), (2, .int x2), (3, .int x3), (4, .int x4)]) hx hb d_Md_claim_94 hl (k := 6) rfl rfl (by decide) rfl (fun ls hl => ?_)
              refine lv_goto (tgt := 38) hx hb d_Md_claim_97 (by decide) ?_
              exact ih st x1 x2 x3 x4 0 (x6 + 1) h _ _ hP hS ls (lv_sub hl [2, 3, 4, 5, 6, 1, 0] rfl)
            · rw [if_pos c16] at h
              refine lv_iconst (v := 1) hx hb d_Md_claim_87 (by decide) ?_
              refine lv_goto (tgt := 92) hx hb d_Md_claim_88 (by decide) ?_
              refine lv_istore (lv' := [(5, .int 1), (0, .ref (ad 0)), (1, .int x1), (2, .int x2), (3, .int x3), (4, .int x4), (6, .int x6)]) hx hb d_Md_claim_92 hl (by decide) rfl (fun ls hl => ?_)
              refine lv_iinc (v := (x6 + 1)) (lv' := [(6, .int (x6 + 1)), (5, .int 1), (0, .ref (ad 0)), (1, .int x1), (2, .int x2), (3, .int x3), (4, .int x4)]) hx hb d_Md_claim_94 hl (k := 6) rfl rfl (by decide) rfl (fun ls hl => ?_)
              refine lv_goto (tgt := 38) hx hb d_Md_claim_97 (by decide) ?_
              exact ih st x1 x2 x3 x4 1 (x6 + 1) h _ _ hP hS ls (lv_sub hl [2, 3, 4, 5, 6, 1, 0] rfl)
set_option maxHeartbeats 4000000 in
set_option maxRecDepth 100000 in
theorem t_Md_claim_b27 {l : Launch} (htl : l.stackTraces = false) {p : Program} {e : Env} {s : State} {m : MethodId} {args : Array Value} {below : List Frame} {meth : Method} {c : Code} {D : va_G} {ca : Nat → ClassId} {ad : Nat → Nat} {st' : pu_St} {v : Int32} (C : hC p s m meth c args b_Md_claim 7 (some .int) "MuseumHouseModel") (G : mX D ca ad (mA ad s.heap.size) s) :
    ∀ (_ : Unit) (st : pu_St) (x1 x2 x3 z0 z1 z2 z3 : Int32), f_Md_claim_b27 st x1 x2 x3 z0 z1 z2 z3 = some (v, st') → ∀ (H : Heap) (locs : List Loc), va_P D hcl (mW ca ad st) H → va_S (mA ad s.heap.size) s.heap H locs → ∀ ls : Array Slot, lv_has ls 7 [(0, .ref (ad 0)), (1, .int x1), (2, .int x2), (3, .int x3)] → W p l e { frames := 2, cells := 0, slots := 0, locals := 46 } s m args below meth c H locs 0 0 (MQX below (mQ D ca ad (fun v => some (.int v)) (.inl v) st' s.heap.size) args s 0 0 (mA ad s.heap.size)) (F0 m 27 ls [.int z0, .int z1, .int z2, .int z3, .ref (ad 0)]) := by
  obtain ⟨hx, hb, hml, hr, hlocks, hno, hown, hts⟩ := id C
  intro _ st x1 x2 x3 z0 z1 z2 z3 h H locs hP hS ls hl
  unfold f_Md_claim_b27 at h
  obtain ⟨v4, e_v4, h⟩ := pu_ob h
  refine pu_callR (va_runV (As := [.int z3, .int z2, .int z1, .int z0]) (rest := []) ⟨hx, hb, hml, hown, hts⟩ (c_Md_first l D ca ad st _ z3 z2 z1 z0 v4 e_v4) (xCW (C := "MuseumHouseModel") 4 hts wd_5_76 wd_1_13 wd_5_73 wd_5_75 wd_0_13 (by decide +kernel) ⟨Nat.le_of_ble_eq_true rfl, Nat.le_of_ble_eq_true rfl⟩) (G.preV hP hS 0 rfl rfl) rfl rfl hl.1 rfl (lv_room (Nat.le_of_ble_eq_true rfl)) d_Md_claim_27 ⟨Nat.zero_le _, Nat.zero_le _⟩) ?_
  refine lv_istore (lv' := [(4, .int v4), (0, .ref (ad 0)), (1, .int x1), (2, .int x2), (3, .int x3)]) hx hb d_Md_claim_30 hl (by decide) rfl (fun ls hl => ?_)
  refine lv_iconst (v := 0) hx hb d_Md_claim_32 (by decide) ?_
  refine lv_istore (lv' := [(5, .int 0), (4, .int v4), (0, .ref (ad 0)), (1, .int x1), (2, .int x2), (3, .int x3)]) hx hb d_Md_claim_33 hl (by decide) rfl (fun ls hl => ?_)
  refine lv_iconst (v := 0) hx hb d_Md_claim_35 (by decide) ?_
  refine lv_istore (lv' := [(6, .int 0), (5, .int 0), (4, .int v4), (0, .ref (ad 0)), (1, .int x1), (2, .int x2), (3, .int x3)]) hx hb d_Md_claim_36 hl (by decide) rfl (fun ls hl => ?_)
  exact t_Md_claim_b38 htl C G pu_fu st x1 x2 x3 v4 0 0 h _ _ hP hS ls (lv_sub hl [3, 4, 5, 6, 2, 1, 0] rfl)
set_option maxHeartbeats 4000000 in
set_option maxRecDepth 100000 in
theorem c_Md_claim (l : Launch) (htl : l.stackTraces = false) (D : va_G) (ca : Nat → ClassId) (ad : Nat → Nat) (st : pu_St) (sz : Nat) (x1 x2 x3 : Int32) (v : Int32) (st' : pu_St) (h : f_Md_claim st x1 x2 x3 = some (v, st')) : MetX l y_Md_claim (.code y_Md_claim b_Md_claim 7 (some .int) :: tG) { frames := 2, cells := 0, slots := 0, locals := 46 } (va_Pc [.ref (ad 0), .int x1, .int x2, .int x3] (mPc D ca ad st sz)) (mQ D ca ad (fun v => some (.int v)) (.inl v) st' sz) 0 0 (mA ad sz) := by
  refine mMet (by decide +kernel) ?_
  intro p e s m below meth c hsz C G hP
  obtain ⟨hx, hb, hml, hr, hlocks, hno, hown, hts⟩ := id C
  have hown : s.vm.findClass "MuseumHouseModel" = some m.cls := hown
  have hS : va_S (mA ad s.heap.size) s.heap s.heap [] := va_S.rf
  have hl := lv_entry ([.ref (ad 0), .int x1, .int x2, .int x3]) (n := 7) (Nat.le_of_ble_eq_true rfl)
  rw [lg_entry_eq]
  generalize (lg_sl ([.ref (ad 0), .int x1, .int x2, .int x3]) ++ List.replicate (7 - (lg_sl ([.ref (ad 0), .int x1, .int x2, .int x3])).length) Slot.unset).toArray = ls at hl ⊢
  have hl : lv_has ls 7 [(0, .ref (ad 0)), (1, .int x1), (2, .int x2), (3, .int x3)] := hl
  unfold f_Md_claim at h
  refine lv_aload_n hx hb d_Md_claim_0 rfl (lv_at hl 0 rfl) ?_
  refine lv_aload_n hx hb d_Md_claim_1 rfl (lv_at hl 0 rfl) ?_
  refine lv_iload_n hx hb d_Md_claim_2 rfl (lv_at hl 2 rfl) ?_
  refine lv_iconst (v := 5) hx hb d_Md_claim_3 (by decide) ?_
  obtain ⟨v1, e_v1, h⟩ := pu_ob h
  refine pu_callR (va_runV (As := [.int x2, .int 5]) (rest := [.ref (ad 0)]) ⟨hx, hb, hml, hown, hts⟩ (c_Md_is l D ca ad st _ x2 5 v1 e_v1) (xCW (C := "MuseumHouseModel") 2 hts wd_5_80 wd_1_13 wd_5_77 wd_5_79 wd_0_14 (by decide +kernel) ⟨Nat.le_of_ble_eq_true rfl, Nat.le_of_ble_eq_true rfl⟩) (G.preV hP hS 0 rfl rfl) rfl rfl hl.1 rfl (lv_room (Nat.le_of_ble_eq_true rfl)) d_Md_claim_4 ⟨Nat.zero_le _, Nat.zero_le _⟩) ?_
  refine lv_iload_n hx hb d_Md_claim_7 rfl (lv_at hl 1 rfl) ?_
  refine lv_bipush (v := 32) hx hb d_Md_claim_8 (by decide) ?_
  refine lv_aload_n hx hb d_Md_claim_10 rfl (lv_at hl 0 rfl) ?_
  refine va_get (D := D) (ci := 11) (v := .ref (ad 1)) (C := R_Md) (T := T_Md) (N := 27) hx hb hts iw_Md hown G.1 hP 0 rfl rfl 3 (by decide) (hts _ wd_4_226) (fun _ h9 => h9) rfl d_Md_claim_11 ?_
  refine lv_bipush (v := 9) hx hb d_Md_claim_14 (by decide) ?_
  obtain ⟨v2, e_v2, h⟩ := pu_ob h
  refine pu_iald hx hb G.1 hP 1 0 rfl rfl e_v2 d_Md_claim_16 ?_
  refine lv_bipush (v := 20) hx hb d_Md_claim_17 (by decide) ?_
  refine lv_icmp_ge (tgt := 26) hx hb d_Md_claim_19 (by decide) (fun c3 => ?_) (fun c3 => ?_)
  · rw [if_pos c3] at h
    refine lv_iconst (v := 0) hx hb d_Md_claim_26 (by decide) ?_
    exact t_Md_claim_b27 htl C G () st x1 x2 x3 0 32 x1 v1 h _ _ hP hS ls (lv_sub hl [0, 1, 2, 3] rfl)
  · rw [if_neg c3] at h
    refine lv_iconst (v := 1) hx hb d_Md_claim_22 (by decide) ?_
    refine lv_goto (tgt := 27) hx hb d_Md_claim_23 (by decide) ?_
    exact t_Md_claim_b27 htl C G () st x1 x2 x3 1 32 x1 v1 h _ _ hP hS ls (lv_sub hl [0, 1, 2, 3] rfl)
set_option maxHeartbeats 4000000 in
set_option maxRecDepth 100000 in
theorem t_Md_close_b70 {l : Launch} (htl : l.stackTraces = false) {p : Program} {e : Env} {s : State} {m : MethodId} {args : Array Value} {below : List Frame} {meth : Method} {c : Code} {D : va_G} {ca : Nat → ClassId} {ad : Nat → Nat} {st' : pu_St} {v : Int32} (C : hC p s m meth c args b_Md_close 7 (some .int) "MuseumHouseModel") (G : mX D ca ad (mA ad s.heap.size) s) :
    ∀ (n : Nat) (st : pu_St) (x1 x2 x3 x4 x5 x6 : Int32), f_Md_close_b70 n st x1 x2 x3 x4 x5 x6 = some (v, st') → ∀ (H : Heap) (locs : List Loc), va_P D hcl (mW ca ad st) H → va_S (mA ad s.heap.size) s.heap H locs → ∀ ls : Array Slot, lv_has ls 7 [(0, .ref (ad 0)), (1, .int x1), (2, .int x2), (3, .int x3), (4, .int x4), (5, .int x5), (6, .int x6)] → W p l e { frames := 2, cells := 0, slots := 0, locals := 46 } s m args below meth c H locs 0 0 (MQX below (mQ D ca ad (fun v => some (.int v)) (.inl v) st' s.heap.size) args s 0 0 (mA ad s.heap.size)) (F0 m 70 ls []) := by
  obtain ⟨hx, hb, hml, hr, hlocks, hno, hown, hts⟩ := id C
  intro n
  induction n with
  | zero => intro st x1 x2 x3 x4 x5 x6 h; cases h
  | succ n ih =>
    intro st x1 x2 x3 x4 x5 x6 h H locs hP hS ls hl
    unfold f_Md_close_b70 at h
    refine lv_iload hx hb d_Md_close_70 (lv_at hl 6 rfl) ?_
    refine lv_aload_n hx hb d_Md_close_72 rfl (lv_at hl 0 rfl) ?_
    refine va_get (D := D) (ci := 11) (v := .ref (ad 1)) (C := R_Md) (T := T_Md) (N := 27) hx hb hts iw_Md hown G.1 hP 0 rfl rfl 3 (by decide) (hts _ wd_4_226) (fun _ h9 => h9) rfl d_Md_close_73 ?_
    refine lv_bipush (v := 9) hx hb d_Md_close_76 (by decide) ?_
    obtain ⟨v9, e_v9, h⟩ := pu_ob h
    refine pu_iald hx hb G.1 hP 1 0 rfl rfl e_v9 d_Md_close_78 ?_
    refine lv_icmp_ge (tgt := 129) hx hb d_Md_close_79 (by decide) (fun c10 => ?_) (fun c10 => ?_)
    · rw [if_pos c10] at h
      refine lv_iload hx hb d_Md_close_129 (lv_at hl 5 rfl) ?_
      cases h
      exact W.toX (W.iret hx hb hr (fun t ht _ => ⟨rfl, by rw [ht]; exact hP, hS.F ht⟩) hS.2.2 d_Md_close_131)
    · rw [if_neg c10] at h
      refine lv_aload_n hx hb d_Md_close_82 rfl (lv_at hl 0 rfl) ?_
      refine va_get (D := D) (ci := 11) (v := .ref (ad 24)) (C := R_Md) (T := T_Md) (N := 27) hx hb hts iw_Md hown G.1 hP 0 rfl rfl 26 (by decide) (hts _ wd_5_9) (fun _ h9 => h9) rfl d_Md_close_83 ?_
      refine lv_iload hx hb d_Md_close_86 (lv_at hl 6 rfl) ?_
      obtain ⟨v11, e_v11, h⟩ := pu_ob h
      refine pu_zald hx hb G.1 hP 24 23 rfl rfl e_v11 d_Md_close_88 ?_
      refine lv_if_eq (tgt := 119) hx hb d_Md_close_89 (by decide) (fun c12 => ?_) (fun c12 => ?_)
      · rw [if_pos c12] at h
        refine lv_iload hx hb d_Md_close_119 (lv_at hl 5 rfl) ?_
        refine lv_istore (lv' := [(5, .int x5), (0, .ref (ad 0)), (1, .int x1), (2, .int x2), (3, .int x3), (4, .int x4), (6, .int x6)]) hx hb d_Md_close_121 hl (by decide) rfl (fun ls hl => ?_)
        refine lv_iinc (v := (x6 + 1)) (lv' := [(6, .int (x6 + 1)), (5, .int x5), (0, .ref (ad 0)), (1, .int x1), (2, .int x2), (3, .int x3), (4, .int x4)]) hx hb d_Md_close_123 hl (k := 6) rfl rfl (by decide) rfl (fun ls hl => ?_)
        refine lv_goto (tgt := 70) hx hb d_Md_close_126 (by decide) ?_
        exact ih st x1 x2 x3 x4 x5 (x6 + 1) h _ _ hP hS ls (lv_sub hl [2, 3, 4, 5, 6, 1, 0] rfl)
      · rw [if_neg c12] at h
        refine lv_aload_n hx hb d_Md_close_92 rfl (lv_at hl 0 rfl) ?_
        refine va_get (D := D) (ci := 11) (v := .ref (ad 22)) (C := R_Md) (T := T_Md) (N := 27) hx hb hts iw_Md hown G.1 hP 0 rfl rfl 24 (by decide) (hts _ wd_5_7) (fun _ h9 => h9) rfl d_Md_close_93 ?_
        refine lv_iload hx hb d_Md_close_96 (lv_at hl 6 rfl) ?_
        obtain ⟨v13, e_v13, h⟩ := pu_ob h
        refine pu_iald hx hb G.1 hP 22 21 rfl rfl e_v13 d_Md_close_98 ?_
        refine lv_aload_n hx hb d_Md_close_99 rfl (lv_at hl 0 rfl) ?_
        refine va_get (D := D) (ci := 11) (v := .ref (ad 22)) (C := R_Md) (T := T_Md) (N := 27) hx hb hts iw_Md hown G.1 hP 0 rfl rfl 24 (by decide) (hts _ wd_5_7) (fun _ h9 => h9) rfl d_Md_close_100 ?_
        refine lv_iload_n hx hb d_Md_close_103 rfl (lv_at hl 2 rfl) ?_
        refine lv_sipush (v := 900) hx hb d_Md_close_104 (by decide) ?_
        refine lv_isub hx hb d_Md_close_107 ?_
        obtain ⟨v14, e_v14, h⟩ := pu_ob h
        refine pu_iald hx hb G.1 hP 22 21 rfl rfl e_v14 d_Md_close_108 ?_
        refine lv_icmp_ne (tgt := 119) hx hb d_Md_close_109 (by decide) (fun c15 => ?_) (fun c15 => ?_)
        · rw [if_neg c15] at h
          refine lv_iload hx hb d_Md_close_119 (lv_at hl 5 rfl) ?_
          refine lv_istore (lv' := [(5, .int x5), (0, .ref (ad 0)), (1, .int x1), (2, .int x2), (3, .int x3), (4, .int x4), (6, .int x6)]) hx hb d_Md_close_121 hl (by decide) rfl (fun ls hl => ?_)
          refine lv_iinc (v := (x6 + 1)) (lv' := [(6, .int (x6 + 1)), (5, .int x5), (0, .ref (ad 0)), (1, .int x1), (2, .int x2), (3, .int x3), (4, .int x4)]) hx hb d_Md_close_123 hl (k := 6) rfl rfl (by decide) rfl (fun ls hl => ?_)
          refine lv_goto (tgt := 70) hx hb d_Md_close_126 (by decide) ?_
          exact ih st x1 x2 x3 x4 x5 (x6 + 1) h _ _ hP hS ls (lv_sub hl [2, 3, 4, 5, 6, 1, 0] rfl)
        · rw [if_pos c15] at h
          refine lv_iload hx hb d_Md_close_112 (lv_at hl 5 rfl) ?_
          refine lv_iconst (v := 1) hx hb d_Md_close_114 (by decide) ?_
          refine lv_iadd hx hb d_Md_close_115 ?_
          refine lv_goto (tgt := 121) hx hb d_Md_close_116 (by decide) ?_
          refine lv_istore (lv' := [(5, .int (x5 + 1)), (0, .ref (ad 0)), (1, .int x1), (2, .int x2), (3, .int x3), (4, .int x4), (6, .int x6)]) hx hb d_Md_close_121 hl (by decide) rfl (fun ls hl => ?_)
          refine lv_iinc (v := (x6 + 1)) (lv' := [(6, .int (x6 + 1)), (5, .int (x5 + 1)), (0, .ref (ad 0)), (1, .int x1), (2, .int x2), (3, .int x3), (4, .int x4)]) hx hb d_Md_close_123 hl (k := 6) rfl rfl (by decide) rfl (fun ls hl => ?_)
          refine lv_goto (tgt := 70) hx hb d_Md_close_126 (by decide) ?_
          exact ih st x1 x2 x3 x4 (x5 + 1) (x6 + 1) h _ _ hP hS ls (lv_sub hl [2, 3, 4, 5, 6, 1, 0] rfl)
set_option maxHeartbeats 4000000 in
set_option maxRecDepth 100000 in
theorem t_Md_close_b39 {l : Launch} (htl : l.stackTraces = false) {p : Program} {e : Env} {s : State} {m : MethodId} {args : Array Value} {below : List Frame} {meth : Method} {c : Code} {D : va_G} {ca : Nat → ClassId} {ad : Nat → Nat} {st' : pu_St} {v : Int32} (C : hC p s m meth c args b_Md_close 7 (some .int) "MuseumHouseModel") (G : mX D ca ad (mA ad s.heap.size) s) :
    ∀ (_ : Unit) (st : pu_St) (x1 x2 x3 x4 z0 z2 : Int32), f_Md_close_b39 st x1 x2 x3 x4 z0 z2 = some (v, st') → ∀ (H : Heap) (locs : List Loc), va_P D hcl (mW ca ad st) H → va_S (mA ad s.heap.size) s.heap H locs → ∀ ls : Array Slot, lv_has ls 7 [(0, .ref (ad 0)), (1, .int x1), (2, .int x2), (3, .int x3), (4, .int x4)] → W p l e { frames := 2, cells := 0, slots := 0, locals := 46 } s m args below meth c H locs 0 0 (MQX below (mQ D ca ad (fun v => some (.int v)) (.inl v) st' s.heap.size) args s 0 0 (mA ad s.heap.size)) (F0 m 39 ls [.int z0, .ref (ad 24), .int z2, .ref (ad 0)]) := by
  obtain ⟨hx, hb, hml, hr, hlocks, hno, hown, hts⟩ := id C
  intro _ st x1 x2 x3 x4 z0 z2 h H locs hP hS ls hl
  unfold f_Md_close_b39 at h
  obtain ⟨v4, e_v4, h⟩ := pu_ob h
  refine pu_zald hx hb G.1 hP 24 23 rfl rfl e_v4 d_Md_close_39 ?_
  refine lv_bipush (v := 17) hx hb d_Md_close_40 (by decide) ?_
  obtain ⟨v5, e_v5, h⟩ := pu_ob h
  refine pu_callR (va_runS (As := [.int z2, .int v4, .int 17]) (rest := [.ref (ad 0)]) ⟨hx, hb, hml, hown, hts⟩ (c_Md_then l D ca ad st _ z2 v4 17 v5 e_v5) (xCS 3 hts wd_5_90 wd_1_13 wd_5_88 wd_5_89 (by decide +kernel) ⟨Nat.le_of_ble_eq_true rfl, Nat.le_of_ble_eq_true rfl⟩) (G.preS hP hS) rfl rfl hl.1 rfl (lv_room (Nat.le_of_ble_eq_true rfl)) d_Md_close_42 ⟨Nat.zero_le _, Nat.zero_le _⟩) ?_
  obtain ⟨q6, e_q6, h⟩ := pu_ob h
  refine mCallI G hS (va_runV (As := [.int v5]) (rest := []) ⟨hx, hb, hml, hown, hts⟩ (MetX.met (c_Md_holds l htl D ca ad st _ v5 q6.1 q6.2 e_q6) (fun _ _ _ _ q => ⟨_, q.1⟩)) (xCW (C := "MuseumHouseModel") 1 hts wd_5_94 wd_1_13 wd_5_91 wd_5_93 wd_0_16 (by decide +kernel) ⟨Nat.le_of_ble_eq_true rfl, Nat.le_of_ble_eq_true rfl⟩) (G.preV hP hS 0 rfl rfl) rfl rfl hl.1 rfl (lv_room (Nat.le_of_ble_eq_true rfl)) d_Md_close_45 ⟨Nat.zero_le _, Nat.zero_le _⟩) (fun H locs hP hS => ?_)
  refine lv_if_ne (tgt := 53) hx hb d_Md_close_48 (by decide) (fun c7 => ?_) (fun c7 => ?_)
  · rw [if_neg c7] at h
    refine lv_aload_n hx hb d_Md_close_53 rfl (lv_at hl 0 rfl) ?_
    refine va_get (D := D) (ci := 11) (v := .ref (ad 24)) (C := R_Md) (T := T_Md) (N := 27) hx hb hts iw_Md hown G.1 hP 0 rfl rfl 26 (by decide) (hts _ wd_5_9) (fun _ h9 => h9) rfl d_Md_close_54 ?_
    refine lv_iload_n hx hb d_Md_close_57 rfl (lv_at hl 2 rfl) ?_
    refine lv_sipush (v := 900) hx hb d_Md_close_58 (by decide) ?_
    refine lv_isub hx hb d_Md_close_61 ?_
    refine lv_iconst (v := 0) hx hb d_Md_close_62 (by decide) ?_
    obtain ⟨g8, e_g8, h⟩ := pu_ob h
    refine pu_zast hx hb G.1 hP (G.D) hS 24 23 rfl rfl e_g8 rfl d_Md_close_63 (fun H locs hP hS => ?_)
    have hP : va_P D hcl (mW ca ad (q6.2.1, va_up q6.2.2 23 g8)) H := hP
    refine lv_iconst (v := 0) hx hb d_Md_close_64 (by decide) ?_
    refine lv_istore (lv' := [(5, .int 0), (0, .ref (ad 0)), (1, .int x1), (2, .int x2), (3, .int x3), (4, .int x4)]) hx hb d_Md_close_65 hl (by decide) rfl (fun ls hl => ?_)
    refine lv_iconst (v := 0) hx hb d_Md_close_67 (by decide) ?_
    refine lv_istore (lv' := [(6, .int 0), (5, .int 0), (0, .ref (ad 0)), (1, .int x1), (2, .int x2), (3, .int x3), (4, .int x4)]) hx hb d_Md_close_68 hl (by decide) rfl (fun ls hl => ?_)
    exact t_Md_close_b70 htl C G pu_fu (q6.2.1, va_up q6.2.2 23 g8) x1 x2 x3 x4 0 0 h _ _ hP hS ls (lv_sub hl [2, 3, 4, 5, 6, 1, 0] rfl)
  · rw [if_pos c7] at h
    refine lv_iconst (v := 0) hx hb d_Md_close_51 (by decide) ?_
    cases h
    exact W.toX (W.iret hx hb hr (fun t ht _ => ⟨rfl, by rw [ht]; exact hP, hS.F ht⟩) hS.2.2 d_Md_close_52)
set_option maxHeartbeats 4000000 in
set_option maxRecDepth 100000 in
theorem c_Md_close (l : Launch) (htl : l.stackTraces = false) (D : va_G) (ca : Nat → ClassId) (ad : Nat → Nat) (st : pu_St) (sz : Nat) (x1 x2 : Int32) (v : Int32) (st' : pu_St) (h : f_Md_close st x1 x2 = some (v, st')) : MetX l y_Md_close (.code y_Md_close b_Md_close 7 (some .int) :: tG) { frames := 2, cells := 0, slots := 0, locals := 46 } (va_Pc [.ref (ad 0), .int x1, .int x2] (mPc D ca ad st sz)) (mQ D ca ad (fun v => some (.int v)) (.inl v) st' sz) 0 0 (mA ad sz) := by
  refine mMet (by decide +kernel) ?_
  intro p e s m below meth c hsz C G hP
  obtain ⟨hx, hb, hml, hr, hlocks, hno, hown, hts⟩ := id C
  have hown : s.vm.findClass "MuseumHouseModel" = some m.cls := hown
  have hS : va_S (mA ad s.heap.size) s.heap s.heap [] := va_S.rf
  have hl := lv_entry ([.ref (ad 0), .int x1, .int x2]) (n := 7) (Nat.le_of_ble_eq_true rfl)
  rw [lg_entry_eq]
  generalize (lg_sl ([.ref (ad 0), .int x1, .int x2]) ++ List.replicate (7 - (lg_sl ([.ref (ad 0), .int x1, .int x2])).length) Slot.unset).toArray = ls at hl ⊢
  have hl : lv_has ls 7 [(0, .ref (ad 0)), (1, .int x1), (2, .int x2)] := hl
  unfold f_Md_close at h
  refine lv_aload_n hx hb d_Md_close_0 rfl (lv_at hl 0 rfl) ?_
  refine lv_iload_n hx hb d_Md_close_1 rfl (lv_at hl 2 rfl) ?_
  refine lv_bipush (v := 9) hx hb d_Md_close_2 (by decide) ?_
  obtain ⟨v1, e_v1, h⟩ := pu_ob h
  refine pu_callR (va_runV (As := [.int x2, .int 9]) (rest := []) ⟨hx, hb, hml, hown, hts⟩ (c_Md_is l D ca ad st _ x2 9 v1 e_v1) (xCW (C := "MuseumHouseModel") 2 hts wd_5_80 wd_1_13 wd_5_77 wd_5_79 wd_0_14 (by decide +kernel) ⟨Nat.le_of_ble_eq_true rfl, Nat.le_of_ble_eq_true rfl⟩) (G.preV hP hS 0 rfl rfl) rfl rfl hl.1 rfl (lv_room (Nat.le_of_ble_eq_true rfl)) d_Md_close_4 ⟨Nat.zero_le _, Nat.zero_le _⟩) ?_
  refine lv_istore_n (lv' := [(3, .int v1), (0, .ref (ad 0)), (1, .int x1), (2, .int x2)]) hx hb d_Md_close_7 rfl hl (by decide) rfl (fun ls hl => ?_)
  refine lv_aload_n hx hb d_Md_close_8 rfl (lv_at hl 1 rfl) ?_
  refine lv_iload_n hx hb d_Md_close_9 rfl (lv_at hl 0 rfl) ?_
  refine lv_iload_n hx hb d_Md_close_10 rfl (lv_at hl 2 rfl) ?_
  refine lv_bipush (v := 32) hx hb d_Md_close_11 (by decide) ?_
  refine lv_iconst (v := 1) hx hb d_Md_close_13 (by decide) ?_
  obtain ⟨v2, e_v2, h⟩ := pu_ob h
  refine pu_callR (va_runV (As := [.int v1, .int x1, .int 32, .int 1]) (rest := []) ⟨hx, hb, hml, hown, hts⟩ (c_Md_first l D ca ad st _ v1 x1 32 1 v2 e_v2) (xCW (C := "MuseumHouseModel") 4 hts wd_5_76 wd_1_13 wd_5_73 wd_5_75 wd_0_13 (by decide +kernel) ⟨Nat.le_of_ble_eq_true rfl, Nat.le_of_ble_eq_true rfl⟩) (G.preV hP hS 0 rfl rfl) rfl rfl hl.1 rfl (lv_room (Nat.le_of_ble_eq_true rfl)) d_Md_close_14 ⟨Nat.zero_le _, Nat.zero_le _⟩) ?_
  refine lv_istore (lv' := [(4, .int v2), (3, .int v1), (0, .ref (ad 0)), (1, .int x1), (2, .int x2)]) hx hb d_Md_close_17 hl (by decide) rfl (fun ls hl => ?_)
  refine lv_aload_n hx hb d_Md_close_19 rfl (lv_at hl 2 rfl) ?_
  refine lv_iload hx hb d_Md_close_20 (lv_at hl 0 rfl) ?_
  refine lv_aload_n hx hb d_Md_close_22 rfl (lv_at hl 2 rfl) ?_
  refine va_get (D := D) (ci := 11) (v := .ref (ad 24)) (C := R_Md) (T := T_Md) (N := 27) hx hb hts iw_Md hown G.1 hP 0 rfl rfl 26 (by decide) (hts _ wd_5_9) (fun _ h9 => h9) rfl d_Md_close_23 ?_
  refine lv_iload_n hx hb d_Md_close_26 rfl (lv_at hl 1 rfl) ?_
  refine lv_if_eq (tgt := 38) hx hb d_Md_close_27 (by decide) (fun c3 => ?_) (fun c3 => ?_)
  · rw [if_pos c3] at h
    refine lv_iconst (v := 0) hx hb d_Md_close_38 (by decide) ?_
    exact t_Md_close_b39 htl C G () st x1 x2 v1 v2 0 v2 h _ _ hP hS ls (lv_sub hl [2, 3, 4, 1, 0] rfl)
  · rw [if_neg c3] at h
    refine lv_iload_n hx hb d_Md_close_30 rfl (lv_at hl 4 rfl) ?_
    refine lv_sipush (v := 900) hx hb d_Md_close_31 (by decide) ?_
    refine lv_isub hx hb d_Md_close_34 ?_
    refine lv_goto (tgt := 39) hx hb d_Md_close_35 (by decide) ?_
    exact t_Md_close_b39 htl C G () st x1 x2 v1 v2 (x2 - 900) v2 h _ _ hP hS ls (lv_sub hl [2, 3, 4, 1, 0] rfl)
set_option maxHeartbeats 4000000 in
set_option maxRecDepth 100000 in
theorem t_Md_where_b15 {l : Launch} (htl : l.stackTraces = false) {p : Program} {e : Env} {s : State} {m : MethodId} {args : Array Value} {below : List Frame} {meth : Method} {c : Code} {D : va_G} {ca : Nat → ClassId} {ad : Nat → Nat} {st' : pu_St} {v : Int32} (C : hC p s m meth c args b_Md_where 6 (some .int) "MuseumHouseModel") (G : mX D ca ad (mA ad s.heap.size) s) :
    ∀ (_ : Unit) (st : pu_St) (x1 x2 z0 : Int32), f_Md_where_b15 st x1 x2 z0 = some (v, st') → ∀ (H : Heap) (locs : List Loc), va_P D hcl (mW ca ad st) H → va_S (mA ad s.heap.size) s.heap H locs → ∀ ls : Array Slot, lv_has ls 6 [(0, .ref (ad 0)), (1, .int x1), (2, .int x2)] → W p l e { frames := 2, cells := 0, slots := 0, locals := 42 } s m args below meth c H locs 0 0 (MQX below (mQ D ca ad (fun v => some (.int v)) (.inl v) st' s.heap.size) args s 0 0 (mA ad s.heap.size)) (F0 m 15 ls [.int z0, .ref (ad 0)]) := by
  obtain ⟨hx, hb, hml, hr, hlocks, hno, hown, hts⟩ := id C
  intro _ st x1 x2 z0 h H locs hP hS ls hl
  unfold f_Md_where_b15 at h
  refine lv_iload_n hx hb d_Md_where_15 rfl (lv_at hl 2 rfl) ?_
  obtain ⟨v3, e_v3, h⟩ := pu_ob h
  refine pu_callR (va_runS (As := [.int x2]) (rest := [.int z0, .ref (ad 0)]) ⟨hx, hb, hml, hown, hts⟩ (c_Md_isDay l D ca ad st _ x2 v3 e_v3) (xCS 1 hts wd_5_193 wd_1_13 wd_5_191 wd_5_192 (by decide +kernel) ⟨Nat.le_of_ble_eq_true rfl, Nat.le_of_ble_eq_true rfl⟩) (G.preS hP hS) rfl rfl hl.1 rfl (lv_room (Nat.le_of_ble_eq_true rfl)) d_Md_where_16 ⟨Nat.zero_le _, Nat.zero_le _⟩) ?_
  refine lv_iconst (v := 4) hx hb d_Md_where_19 (by decide) ?_
  obtain ⟨v4, e_v4, h⟩ := pu_ob h
  refine pu_callR (va_runS (As := [.int z0, .int v3, .int 4]) (rest := [.ref (ad 0)]) ⟨hx, hb, hml, hown, hts⟩ (c_Md_then l D ca ad st _ z0 v3 4 v4 e_v4) (xCS 3 hts wd_5_90 wd_1_13 wd_5_88 wd_5_89 (by decide +kernel) ⟨Nat.le_of_ble_eq_true rfl, Nat.le_of_ble_eq_true rfl⟩) (G.preS hP hS) rfl rfl hl.1 rfl (lv_room (Nat.le_of_ble_eq_true rfl)) d_Md_where_20 ⟨Nat.zero_le _, Nat.zero_le _⟩) ?_
  obtain ⟨q5, e_q5, h⟩ := pu_ob h
  refine mCallI G hS (va_runV (As := [.int v4]) (rest := []) ⟨hx, hb, hml, hown, hts⟩ (MetX.met (c_Md_holdsShort l htl D ca ad st _ v4 q5.1 q5.2 e_q5) (fun _ _ _ _ q => ⟨_, q.1⟩)) (xCW (C := "MuseumHouseModel") 1 hts wd_5_146 wd_1_13 wd_5_143 wd_5_145 wd_0_22 (by decide +kernel) ⟨Nat.le_of_ble_eq_true rfl, Nat.le_of_ble_eq_true rfl⟩) (G.preV hP hS 0 rfl rfl) rfl rfl hl.1 rfl (lv_room (Nat.le_of_ble_eq_true rfl)) d_Md_where_23 ⟨Nat.zero_le _, Nat.zero_le _⟩) (fun H locs hP hS => ?_)
  refine lv_if_ne (tgt := 31) hx hb d_Md_where_26 (by decide) (fun c6 => ?_) (fun c6 => ?_)
  · rw [if_neg c6] at h
    refine lv_iload_n hx hb d_Md_where_31 rfl (lv_at hl 2 rfl) ?_
    refine lv_aload_n hx hb d_Md_where_32 rfl (lv_at hl 0 rfl) ?_
    refine lv_iload_n hx hb d_Md_where_33 rfl (lv_at hl 1 rfl) ?_
    obtain ⟨v7, e_v7, h⟩ := pu_ob h
    refine pu_callR (va_runV (As := [.int x1]) (rest := [.int x2]) ⟨hx, hb, hml, hown, hts⟩ (c_Md_dayOf l D ca ad q5.2 _ x1 v7 e_v7) (xCW (C := "MuseumHouseModel") 1 hts wd_5_182 wd_1_13 wd_5_179 wd_5_181 wd_0_25 (by decide +kernel) ⟨Nat.le_of_ble_eq_true rfl, Nat.le_of_ble_eq_true rfl⟩) (G.preV hP hS 0 rfl rfl) rfl rfl hl.1 rfl (lv_room (Nat.le_of_ble_eq_true rfl)) d_Md_where_34 ⟨Nat.zero_le _, Nat.zero_le _⟩) ?_
    refine lv_icmp_ge (tgt := 42) hx hb d_Md_where_37 (by decide) (fun c8 => ?_) (fun c8 => ?_)
    · rw [if_pos c8] at h
      refine lv_aload_n hx hb d_Md_where_42 rfl (lv_at hl 0 rfl) ?_
      refine lv_iload_n hx hb d_Md_where_43 rfl (lv_at hl 1 rfl) ?_
      refine lv_iload_n hx hb d_Md_where_44 rfl (lv_at hl 2 rfl) ?_
      refine lv_iload_n hx hb d_Md_where_45 rfl (lv_at hl 2 rfl) ?_
      obtain ⟨v9, e_v9, h⟩ := pu_ob h
      refine pu_callR (va_runV (As := [.int x1, .int x2, .int x2]) (rest := []) ⟨hx, hb, hml, hown, hts⟩ (c_Md_loanAt l D ca ad q5.2 _ x1 x2 x2 v9 e_v9) (xCW (C := "MuseumHouseModel") 3 hts wd_5_186 wd_1_13 wd_5_183 wd_5_185 wd_0_26 (by decide +kernel) ⟨Nat.le_of_ble_eq_true rfl, Nat.le_of_ble_eq_true rfl⟩) (G.preV hP hS 0 rfl rfl) rfl rfl hl.1 rfl (lv_room (Nat.le_of_ble_eq_true rfl)) d_Md_where_46 ⟨Nat.zero_le _, Nat.zero_le _⟩) ?_
      refine lv_istore_n (lv' := [(3, .int v9), (0, .ref (ad 0)), (1, .int x1), (2, .int x2)]) hx hb d_Md_where_49 rfl hl (by decide) rfl (fun ls hl => ?_)
      refine lv_aload_n hx hb d_Md_where_50 rfl (lv_at hl 1 rfl) ?_
      refine lv_iload_n hx hb d_Md_where_51 rfl (lv_at hl 2 rfl) ?_
      refine lv_iload_n hx hb d_Md_where_52 rfl (lv_at hl 3 rfl) ?_
      refine lv_iload_n hx hb d_Md_where_53 rfl (lv_at hl 3 rfl) ?_
      refine lv_iconst (v := (-1)) hx hb d_Md_where_54 (by decide) ?_
      obtain ⟨v10, e_v10, h⟩ := pu_ob h
      refine pu_callR (va_runV (As := [.int x1, .int x2, .int x2, .int (-1)]) (rest := []) ⟨hx, hb, hml, hown, hts⟩ (c_Md_showAt l D ca ad q5.2 _ x1 x2 x2 (-1) v10 e_v10) (xCW (C := "MuseumHouseModel") 4 hts wd_5_216 wd_1_13 wd_5_213 wd_5_215 wd_0_29 (by decide +kernel) ⟨Nat.le_of_ble_eq_true rfl, Nat.le_of_ble_eq_true rfl⟩) (G.preV hP hS 0 rfl rfl) rfl rfl hl.1 rfl (lv_room (Nat.le_of_ble_eq_true rfl)) d_Md_where_55 ⟨Nat.zero_le _, Nat.zero_le _⟩) ?_
      refine lv_istore (lv' := [(4, .int v10), (3, .int v9), (0, .ref (ad 0)), (1, .int x1), (2, .int x2)]) hx hb d_Md_where_58 hl (by decide) rfl (fun ls hl => ?_)
      refine lv_aload_n hx hb d_Md_where_60 rfl (lv_at hl 2 rfl) ?_
      refine lv_iload_n hx hb d_Md_where_61 rfl (lv_at hl 3 rfl) ?_
      refine lv_sipush (v := 500) hx hb d_Md_where_62 (by decide) ?_
      refine lv_isub hx hb d_Md_where_65 ?_
      refine lv_iload_n hx hb d_Md_where_66 rfl (lv_at hl 4 rfl) ?_
      obtain ⟨v11, e_v11, h⟩ := pu_ob h
      refine pu_callR (va_runV (As := [.int (x1 - 500), .int x2]) (rest := []) ⟨hx, hb, hml, hown, hts⟩ (c_Md_placeOf l D ca ad q5.2 _ (x1 - 500) x2 v11 e_v11) (xCW (C := "MuseumHouseModel") 2 hts wd_5_197 wd_1_13 wd_5_194 wd_5_196 wd_0_27 (by decide +kernel) ⟨Nat.le_of_ble_eq_true rfl, Nat.le_of_ble_eq_true rfl⟩) (G.preV hP hS 0 rfl rfl) rfl rfl hl.1 rfl (lv_room (Nat.le_of_ble_eq_true rfl)) d_Md_where_67 ⟨Nat.zero_le _, Nat.zero_le _⟩) ?_
      refine lv_istore (lv' := [(5, .int v11), (4, .int v10), (3, .int v9), (0, .ref (ad 0)), (1, .int x1), (2, .int x2)]) hx hb d_Md_where_70 hl (by decide) rfl (fun ls hl => ?_)
      refine lv_iload_n hx hb d_Md_where_72 rfl (lv_at hl 2 rfl) ?_
      refine lv_if_le (tgt := 80) hx hb d_Md_where_73 (by decide) (fun c12 => ?_) (fun c12 => ?_)
      · rw [if_pos c12] at h
        refine lv_iload hx hb d_Md_where_80 (lv_at hl 1 rfl) ?_
        refine lv_if_le (tgt := 90) hx hb d_Md_where_82 (by decide) (fun c13 => ?_) (fun c13 => ?_)
        · rw [if_pos c13] at h
          refine lv_iload hx hb d_Md_where_90 (lv_at hl 0 rfl) ?_
          refine lv_if_le (tgt := 100) hx hb d_Md_where_92 (by decide) (fun c14 => ?_) (fun c14 => ?_)
          · rw [if_pos c14] at h
            refine lv_iconst (v := 1) hx hb d_Md_where_100 (by decide) ?_
            cases h
            exact W.toX (W.iret hx hb hr (fun t ht _ => ⟨rfl, by rw [ht]; exact hP, hS.F ht⟩) hS.2.2 d_Md_where_101)
          · rw [if_neg c14] at h
            refine lv_iload hx hb d_Md_where_95 (lv_at hl 0 rfl) ?_
            refine lv_goto (tgt := 101) hx hb d_Md_where_97 (by decide) ?_
            cases h
            exact W.toX (W.iret hx hb hr (fun t ht _ => ⟨rfl, by rw [ht]; exact hP, hS.F ht⟩) hS.2.2 d_Md_where_101)
        · rw [if_neg c13] at h
          refine lv_iload hx hb d_Md_where_85 (lv_at hl 1 rfl) ?_
          refine lv_goto (tgt := 101) hx hb d_Md_where_87 (by decide) ?_
          cases h
          exact W.toX (W.iret hx hb hr (fun t ht _ => ⟨rfl, by rw [ht]; exact hP, hS.F ht⟩) hS.2.2 d_Md_where_101)
      · rw [if_neg c12] at h
        refine lv_iload_n hx hb d_Md_where_76 rfl (lv_at hl 2 rfl) ?_
        refine lv_goto (tgt := 101) hx hb d_Md_where_77 (by decide) ?_
        cases h
        exact W.toX (W.iret hx hb hr (fun t ht _ => ⟨rfl, by rw [ht]; exact hP, hS.F ht⟩) hS.2.2 d_Md_where_101)
    · rw [if_neg c8] at h
      refine lv_iconst (v := 0) hx hb d_Md_where_40 (by decide) ?_
      cases h
      exact W.toX (W.iret hx hb hr (fun t ht _ => ⟨rfl, by rw [ht]; exact hP, hS.F ht⟩) hS.2.2 d_Md_where_41)
  · rw [if_pos c6] at h
    refine lv_iconst (v := 0) hx hb d_Md_where_29 (by decide) ?_
    cases h
    exact W.toX (W.iret hx hb hr (fun t ht _ => ⟨rfl, by rw [ht]; exact hP, hS.F ht⟩) hS.2.2 d_Md_where_30)
set_option maxHeartbeats 4000000 in
set_option maxRecDepth 100000 in
theorem c_Md_where (l : Launch) (htl : l.stackTraces = false) (D : va_G) (ca : Nat → ClassId) (ad : Nat → Nat) (st : pu_St) (sz : Nat) (x1 x2 : Int32) (v : Int32) (st' : pu_St) (h : f_Md_where st x1 x2 = some (v, st')) : MetX l y_Md_where (.code y_Md_where b_Md_where 6 (some .int) :: tG) { frames := 2, cells := 0, slots := 0, locals := 42 } (va_Pc [.ref (ad 0), .int x1, .int x2] (mPc D ca ad st sz)) (mQ D ca ad (fun v => some (.int v)) (.inl v) st' sz) 0 0 (mA ad sz) := by
  refine mMet (by decide +kernel) ?_
  intro p e s m below meth c hsz C G hP
  obtain ⟨hx, hb, hml, hr, hlocks, hno, hown, hts⟩ := id C
  have hown : s.vm.findClass "MuseumHouseModel" = some m.cls := hown
  have hS : va_S (mA ad s.heap.size) s.heap s.heap [] := va_S.rf
  have hl := lv_entry ([.ref (ad 0), .int x1, .int x2]) (n := 6) (Nat.le_of_ble_eq_true rfl)
  rw [lg_entry_eq]
  generalize (lg_sl ([.ref (ad 0), .int x1, .int x2]) ++ List.replicate (6 - (lg_sl ([.ref (ad 0), .int x1, .int x2])).length) Slot.unset).toArray = ls at hl ⊢
  have hl : lv_has ls 6 [(0, .ref (ad 0)), (1, .int x1), (2, .int x2)] := hl
  unfold f_Md_where at h
  refine lv_aload_n hx hb d_Md_where_0 rfl (lv_at hl 0 rfl) ?_
  refine lv_aload_n hx hb d_Md_where_1 rfl (lv_at hl 0 rfl) ?_
  refine lv_iload_n hx hb d_Md_where_2 rfl (lv_at hl 1 rfl) ?_
  refine lv_iconst (v := 5) hx hb d_Md_where_3 (by decide) ?_
  obtain ⟨v1, e_v1, h⟩ := pu_ob h
  refine pu_callR (va_runV (As := [.int x1, .int 5]) (rest := [.ref (ad 0)]) ⟨hx, hb, hml, hown, hts⟩ (c_Md_is l D ca ad st _ x1 5 v1 e_v1) (xCW (C := "MuseumHouseModel") 2 hts wd_5_80 wd_1_13 wd_5_77 wd_5_79 wd_0_14 (by decide +kernel) ⟨Nat.le_of_ble_eq_true rfl, Nat.le_of_ble_eq_true rfl⟩) (G.preV hP hS 0 rfl rfl) rfl rfl hl.1 rfl (lv_room (Nat.le_of_ble_eq_true rfl)) d_Md_where_4 ⟨Nat.zero_le _, Nat.zero_le _⟩) ?_
  refine lv_if_eq (tgt := 14) hx hb d_Md_where_7 (by decide) (fun c2 => ?_) (fun c2 => ?_)
  · rw [if_pos c2] at h
    refine lv_iconst (v := 1) hx hb d_Md_where_14 (by decide) ?_
    exact t_Md_where_b15 htl C G () st x1 x2 1 h _ _ hP hS ls (lv_sub hl [0, 1, 2] rfl)
  · rw [if_neg c2] at h
    refine lv_iconst (v := 0) hx hb d_Md_where_10 (by decide) ?_
    refine lv_goto (tgt := 15) hx hb d_Md_where_11 (by decide) ?_
    exact t_Md_where_b15 htl C G () st x1 x2 0 h _ _ hP hS ls (lv_sub hl [0, 1, 2] rfl)
set_option maxHeartbeats 4000000 in
set_option maxRecDepth 100000 in
theorem t_Md_origin_b33 {l : Launch} (htl : l.stackTraces = false) {p : Program} {e : Env} {s : State} {m : MethodId} {args : Array Value} {below : List Frame} {meth : Method} {c : Code} {D : va_G} {ca : Nat → ClassId} {ad : Nat → Nat} {st' : pu_St} {v : Int32} (C : hC p s m meth c args b_Md_origin 2 (some .int) "MuseumHouseModel") (G : mX D ca ad (mA ad s.heap.size) s) :
    ∀ (_ : Unit) (st : pu_St) (x1 z0 : Int32), f_Md_origin_b33 st x1 z0 = some (v, st') → ∀ (H : Heap) (locs : List Loc), va_P D hcl (mW ca ad st) H → va_S (mA ad s.heap.size) s.heap H locs → ∀ ls : Array Slot, lv_has ls 2 [(0, .ref (ad 0)), (1, .int x1)] → W p l e { frames := 1, cells := 0, slots := 0, locals := 22 } s m args below meth c H locs 0 0 (MQX below (mQ D ca ad (fun v => some (.int v)) (.inl v) st' s.heap.size) args s 0 0 (mA ad s.heap.size)) (F0 m 33 ls [.int z0, .ref (ad 0)]) := by
  obtain ⟨hx, hb, hml, hr, hlocks, hno, hown, hts⟩ := id C
  intro _ st x1 z0 h H locs hP hS ls hl
  unfold f_Md_origin_b33 at h
  obtain ⟨q7, e_q7, h⟩ := pu_ob h
  refine mCallI G hS (va_runV (As := [.int z0]) (rest := []) ⟨hx, hb, hml, hown, hts⟩ (MetX.met (c_Md_holds l htl D ca ad st _ z0 q7.1 q7.2 e_q7) (fun _ _ _ _ q => ⟨_, q.1⟩)) (xCW (C := "MuseumHouseModel") 1 hts wd_5_94 wd_1_13 wd_5_91 wd_5_93 wd_0_16 (by decide +kernel) ⟨Nat.le_of_ble_eq_true rfl, Nat.le_of_ble_eq_true rfl⟩) (G.preV hP hS 0 rfl rfl) rfl rfl hl.1 rfl (lv_room (Nat.le_of_ble_eq_true rfl)) d_Md_origin_33 ⟨Nat.zero_le _, Nat.zero_le _⟩) (fun H locs hP hS => ?_)
  refine lv_if_ne (tgt := 41) hx hb d_Md_origin_36 (by decide) (fun c8 => ?_) (fun c8 => ?_)
  · rw [if_neg c8] at h
    refine lv_iload_n hx hb d_Md_origin_41 rfl (lv_at hl 1 rfl) ?_
    refine lv_sipush (v := 400) hx hb d_Md_origin_42 (by decide) ?_
    refine lv_icmp_ge (tgt := 61) hx hb d_Md_origin_45 (by decide) (fun c9 => ?_) (fun c9 => ?_)
    · rw [if_pos c9] at h
      refine lv_iload_n hx hb d_Md_origin_61 rfl (lv_at hl 1 rfl) ?_
      refine lv_sipush (v := 500) hx hb d_Md_origin_62 (by decide) ?_
      refine lv_icmp_ge (tgt := 81) hx hb d_Md_origin_65 (by decide) (fun c10 => ?_) (fun c10 => ?_)
      · rw [if_pos c10] at h
        refine lv_aload_n hx hb d_Md_origin_81 rfl (lv_at hl 0 rfl) ?_
        refine va_get (D := D) (ci := 11) (v := .ref (ad 10)) (C := R_Md) (T := T_Md) (N := 27) hx hb hts iw_Md hown G.1 hP 0 rfl rfl 12 (by decide) (hts _ wd_4_235) (fun _ h9 => h9) rfl d_Md_origin_82 ?_
        refine lv_iload_n hx hb d_Md_origin_85 rfl (lv_at hl 1 rfl) ?_
        refine lv_sipush (v := 500) hx hb d_Md_origin_86 (by decide) ?_
        refine lv_isub hx hb d_Md_origin_89 ?_
        obtain ⟨v11, e_v11, h⟩ := pu_ob h
        refine pu_iald hx hb G.1 hP 10 9 rfl rfl e_v11 d_Md_origin_90 ?_
        cases h
        exact W.toX (W.iret hx hb hr (fun t ht _ => ⟨rfl, by rw [ht]; exact hP, hS.F ht⟩) hS.2.2 d_Md_origin_91)
      · rw [if_neg c10] at h
        refine lv_aload_n hx hb d_Md_origin_68 rfl (lv_at hl 0 rfl) ?_
        refine va_get (D := D) (ci := 11) (v := .ref (ad 8)) (C := R_Md) (T := T_Md) (N := 27) hx hb hts iw_Md hown G.1 hP 0 rfl rfl 10 (by decide) (hts _ wd_4_233) (fun _ h9 => h9) rfl d_Md_origin_69 ?_
        refine lv_iload_n hx hb d_Md_origin_72 rfl (lv_at hl 1 rfl) ?_
        refine lv_sipush (v := 400) hx hb d_Md_origin_73 (by decide) ?_
        refine lv_isub hx hb d_Md_origin_76 ?_
        obtain ⟨v12, e_v12, h⟩ := pu_ob h
        refine pu_iald hx hb G.1 hP 8 7 rfl rfl e_v12 d_Md_origin_77 ?_
        refine lv_goto (tgt := 91) hx hb d_Md_origin_78 (by decide) ?_
        cases h
        exact W.toX (W.iret hx hb hr (fun t ht _ => ⟨rfl, by rw [ht]; exact hP, hS.F ht⟩) hS.2.2 d_Md_origin_91)
    · rw [if_neg c9] at h
      refine lv_aload_n hx hb d_Md_origin_48 rfl (lv_at hl 0 rfl) ?_
      refine va_get (D := D) (ci := 11) (v := .ref (ad 3)) (C := R_Md) (T := T_Md) (N := 27) hx hb hts iw_Md hown G.1 hP 0 rfl rfl 5 (by decide) (hts _ wd_4_228) (fun _ h9 => h9) rfl d_Md_origin_49 ?_
      refine lv_iload_n hx hb d_Md_origin_52 rfl (lv_at hl 1 rfl) ?_
      refine lv_sipush (v := 300) hx hb d_Md_origin_53 (by decide) ?_
      refine lv_isub hx hb d_Md_origin_56 ?_
      obtain ⟨v13, e_v13, h⟩ := pu_ob h
      refine pu_iald hx hb G.1 hP 3 2 rfl rfl e_v13 d_Md_origin_57 ?_
      refine lv_goto (tgt := 91) hx hb d_Md_origin_58 (by decide) ?_
      cases h
      exact W.toX (W.iret hx hb hr (fun t ht _ => ⟨rfl, by rw [ht]; exact hP, hS.F ht⟩) hS.2.2 d_Md_origin_91)
  · rw [if_pos c8] at h
    refine lv_iconst (v := 0) hx hb d_Md_origin_39 (by decide) ?_
    cases h
    exact W.toX (W.iret hx hb hr (fun t ht _ => ⟨rfl, by rw [ht]; exact hP, hS.F ht⟩) hS.2.2 d_Md_origin_40)
set_option maxHeartbeats 4000000 in
set_option maxRecDepth 100000 in
theorem t_Md_origin_b28 {l : Launch} (htl : l.stackTraces = false) {p : Program} {e : Env} {s : State} {m : MethodId} {args : Array Value} {below : List Frame} {meth : Method} {c : Code} {D : va_G} {ca : Nat → ClassId} {ad : Nat → Nat} {st' : pu_St} {v : Int32} (C : hC p s m meth c args b_Md_origin 2 (some .int) "MuseumHouseModel") (G : mX D ca ad (mA ad s.heap.size) s) :
    ∀ (_ : Unit) (st : pu_St) (x1 : Int32), f_Md_origin_b28 st x1 = some (v, st') → ∀ (H : Heap) (locs : List Loc), va_P D hcl (mW ca ad st) H → va_S (mA ad s.heap.size) s.heap H locs → ∀ ls : Array Slot, lv_has ls 2 [(0, .ref (ad 0)), (1, .int x1)] → W p l e { frames := 1, cells := 0, slots := 0, locals := 22 } s m args below meth c H locs 0 0 (MQX below (mQ D ca ad (fun v => some (.int v)) (.inl v) st' s.heap.size) args s 0 0 (mA ad s.heap.size)) (F0 m 28 ls [.ref (ad 0)]) := by
  obtain ⟨hx, hb, hml, hr, hlocks, hno, hown, hts⟩ := id C
  intro _ st x1 h H locs hP hS ls hl
  unfold f_Md_origin_b28 at h
  refine lv_iconst (v := 0) hx hb d_Md_origin_28 (by decide) ?_
  refine lv_goto (tgt := 33) hx hb d_Md_origin_29 (by decide) ?_
  exact t_Md_origin_b33 htl C G () st x1 0 h _ _ hP hS ls (lv_sub hl [0, 1] rfl)
set_option maxHeartbeats 4000000 in
set_option maxRecDepth 100000 in
theorem c_Md_origin (l : Launch) (htl : l.stackTraces = false) (D : va_G) (ca : Nat → ClassId) (ad : Nat → Nat) (st : pu_St) (sz : Nat) (x1 : Int32) (v : Int32) (st' : pu_St) (h : f_Md_origin st x1 = some (v, st')) : MetX l y_Md_origin (.code y_Md_origin b_Md_origin 2 (some .int) :: tG) { frames := 1, cells := 0, slots := 0, locals := 22 } (va_Pc [.ref (ad 0), .int x1] (mPc D ca ad st sz)) (mQ D ca ad (fun v => some (.int v)) (.inl v) st' sz) 0 0 (mA ad sz) := by
  refine mMet (by decide +kernel) ?_
  intro p e s m below meth c hsz C G hP
  obtain ⟨hx, hb, hml, hr, hlocks, hno, hown, hts⟩ := id C
  have hown : s.vm.findClass "MuseumHouseModel" = some m.cls := hown
  have hS : va_S (mA ad s.heap.size) s.heap s.heap [] := va_S.rf
  have hl := lv_entry ([.ref (ad 0), .int x1]) (n := 2) (Nat.le_of_ble_eq_true rfl)
  rw [lg_entry_eq]
  generalize (lg_sl ([.ref (ad 0), .int x1]) ++ List.replicate (2 - (lg_sl ([.ref (ad 0), .int x1])).length) Slot.unset).toArray = ls at hl ⊢
  have hl : lv_has ls 2 [(0, .ref (ad 0)), (1, .int x1)] := hl
  unfold f_Md_origin at h
  refine lv_aload_n hx hb d_Md_origin_0 rfl (lv_at hl 0 rfl) ?_
  refine lv_aload_n hx hb d_Md_origin_1 rfl (lv_at hl 0 rfl) ?_
  refine lv_iload_n hx hb d_Md_origin_2 rfl (lv_at hl 1 rfl) ?_
  refine lv_iconst (v := 3) hx hb d_Md_origin_3 (by decide) ?_
  obtain ⟨v1, e_v1, h⟩ := pu_ob h
  refine pu_callR (va_runV (As := [.int x1, .int 3]) (rest := [.ref (ad 0)]) ⟨hx, hb, hml, hown, hts⟩ (c_Md_is l D ca ad st _ x1 3 v1 e_v1) (xCW (C := "MuseumHouseModel") 2 hts wd_5_80 wd_1_13 wd_5_77 wd_5_79 wd_0_14 (by decide +kernel) ⟨Nat.le_of_ble_eq_true rfl, Nat.le_of_ble_eq_true rfl⟩) (G.preV hP hS 0 rfl rfl) rfl rfl hl.1 rfl (lv_room (Nat.le_of_ble_eq_true rfl)) d_Md_origin_4 ⟨Nat.zero_le _, Nat.zero_le _⟩) ?_
  refine lv_if_ne (tgt := 28) hx hb d_Md_origin_7 (by decide) (fun c2 => ?_) (fun c2 => ?_)
  · rw [if_neg c2] at h
    exact t_Md_origin_b28 htl C G () st x1 h _ _ hP hS ls (lv_sub hl [0, 1] rfl)
  · rw [if_pos c2] at h
    refine lv_aload_n hx hb d_Md_origin_10 rfl (lv_at hl 0 rfl) ?_
    refine lv_iload_n hx hb d_Md_origin_11 rfl (lv_at hl 1 rfl) ?_
    refine lv_iconst (v := 4) hx hb d_Md_origin_12 (by decide) ?_
    obtain ⟨v3, e_v3, h⟩ := pu_ob h
    refine pu_callR (va_runV (As := [.int x1, .int 4]) (rest := [.ref (ad 0)]) ⟨hx, hb, hml, hown, hts⟩ (c_Md_is l D ca ad st _ x1 4 v3 e_v3) (xCW (C := "MuseumHouseModel") 2 hts wd_5_80 wd_1_13 wd_5_77 wd_5_79 wd_0_14 (by decide +kernel) ⟨Nat.le_of_ble_eq_true rfl, Nat.le_of_ble_eq_true rfl⟩) (G.preV hP hS 0 rfl rfl) rfl rfl hl.1 rfl (lv_room (Nat.le_of_ble_eq_true rfl)) d_Md_origin_13 ⟨Nat.zero_le _, Nat.zero_le _⟩) ?_
    refine lv_if_ne (tgt := 28) hx hb d_Md_origin_16 (by decide) (fun c4 => ?_) (fun c4 => ?_)
    · rw [if_neg c4] at h
      exact t_Md_origin_b28 htl C G () st x1 h _ _ hP hS ls (lv_sub hl [0, 1] rfl)
    · rw [if_pos c4] at h
      refine lv_aload_n hx hb d_Md_origin_19 rfl (lv_at hl 0 rfl) ?_
      refine lv_iload_n hx hb d_Md_origin_20 rfl (lv_at hl 1 rfl) ?_
      refine lv_iconst (v := 5) hx hb d_Md_origin_21 (by decide) ?_
      obtain ⟨v5, e_v5, h⟩ := pu_ob h
      refine pu_callR (va_runV (As := [.int x1, .int 5]) (rest := [.ref (ad 0)]) ⟨hx, hb, hml, hown, hts⟩ (c_Md_is l D ca ad st _ x1 5 v5 e_v5) (xCW (C := "MuseumHouseModel") 2 hts wd_5_80 wd_1_13 wd_5_77 wd_5_79 wd_0_14 (by decide +kernel) ⟨Nat.le_of_ble_eq_true rfl, Nat.le_of_ble_eq_true rfl⟩) (G.preV hP hS 0 rfl rfl) rfl rfl hl.1 rfl (lv_room (Nat.le_of_ble_eq_true rfl)) d_Md_origin_22 ⟨Nat.zero_le _, Nat.zero_le _⟩) ?_
      refine lv_if_eq (tgt := 32) hx hb d_Md_origin_25 (by decide) (fun c6 => ?_) (fun c6 => ?_)
      · rw [if_pos c6] at h
        refine lv_iconst (v := 1) hx hb d_Md_origin_32 (by decide) ?_
        exact t_Md_origin_b33 htl C G () st x1 1 h _ _ hP hS ls (lv_sub hl [0, 1] rfl)
      · rw [if_neg c6] at h
        exact t_Md_origin_b28 htl C G () st x1 h _ _ hP hS ls (lv_sub hl [0, 1] rfl)
set_option maxHeartbeats 4000000 in
set_option maxRecDepth 100000 in
theorem t_Md_hall_b16 {l : Launch} (htl : l.stackTraces = false) {p : Program} {e : Env} {s : State} {m : MethodId} {args : Array Value} {below : List Frame} {meth : Method} {c : Code} {D : va_G} {ca : Nat → ClassId} {ad : Nat → Nat} {st' : pu_St} {v : Int32} (C : hC p s m meth c args b_Md_hall 2 (some .int) "MuseumHouseModel") (G : mX D ca ad (mA ad s.heap.size) s) :
    ∀ (_ : Unit) (st : pu_St) (x1 z0 : Int32), f_Md_hall_b16 st x1 z0 = some (v, st') → ∀ (H : Heap) (locs : List Loc), va_P D hcl (mW ca ad st) H → va_S (mA ad s.heap.size) s.heap H locs → ∀ ls : Array Slot, lv_has ls 2 [(0, .ref (ad 0)), (1, .int x1)] → W p l e { frames := 1, cells := 0, slots := 0, locals := 22 } s m args below meth c H locs 0 0 (MQX below (mQ D ca ad (fun v => some (.int v)) (.inl v) st' s.heap.size) args s 0 0 (mA ad s.heap.size)) (F0 m 16 ls [.int z0, .ref (ad 0)]) := by
  obtain ⟨hx, hb, hml, hr, hlocks, hno, hown, hts⟩ := id C
  intro _ st x1 z0 h H locs hP hS ls hl
  unfold f_Md_hall_b16 at h
  obtain ⟨q3, e_q3, h⟩ := pu_ob h
  refine mCallI G hS (va_runV (As := [.int z0]) (rest := []) ⟨hx, hb, hml, hown, hts⟩ (MetX.met (c_Md_holds l htl D ca ad st _ z0 q3.1 q3.2 e_q3) (fun _ _ _ _ q => ⟨_, q.1⟩)) (xCW (C := "MuseumHouseModel") 1 hts wd_5_94 wd_1_13 wd_5_91 wd_5_93 wd_0_16 (by decide +kernel) ⟨Nat.le_of_ble_eq_true rfl, Nat.le_of_ble_eq_true rfl⟩) (G.preV hP hS 0 rfl rfl) rfl rfl hl.1 rfl (lv_room (Nat.le_of_ble_eq_true rfl)) d_Md_hall_16 ⟨Nat.zero_le _, Nat.zero_le _⟩) (fun H locs hP hS => ?_)
  refine lv_if_eq (tgt := 35) hx hb d_Md_hall_19 (by decide) (fun c4 => ?_) (fun c4 => ?_)
  · rw [if_pos c4] at h
    refine lv_iconst (v := 0) hx hb d_Md_hall_35 (by decide) ?_
    cases h
    exact W.toX (W.iret hx hb hr (fun t ht _ => ⟨rfl, by rw [ht]; exact hP, hS.F ht⟩) hS.2.2 d_Md_hall_36)
  · rw [if_neg c4] at h
    refine lv_aload_n hx hb d_Md_hall_22 rfl (lv_at hl 0 rfl) ?_
    refine va_get (D := D) (ci := 11) (v := .ref (ad 18)) (C := R_Md) (T := T_Md) (N := 27) hx hb hts iw_Md hown G.1 hP 0 rfl rfl 20 (by decide) (hts _ wd_5_3) (fun _ h9 => h9) rfl d_Md_hall_23 ?_
    refine lv_iload_n hx hb d_Md_hall_26 rfl (lv_at hl 1 rfl) ?_
    refine lv_sipush (v := 800) hx hb d_Md_hall_27 (by decide) ?_
    refine lv_isub hx hb d_Md_hall_30 ?_
    obtain ⟨v5, e_v5, h⟩ := pu_ob h
    refine pu_iald hx hb G.1 hP 18 17 rfl rfl e_v5 d_Md_hall_31 ?_
    refine lv_goto (tgt := 36) hx hb d_Md_hall_32 (by decide) ?_
    cases h
    exact W.toX (W.iret hx hb hr (fun t ht _ => ⟨rfl, by rw [ht]; exact hP, hS.F ht⟩) hS.2.2 d_Md_hall_36)
set_option maxHeartbeats 4000000 in
set_option maxRecDepth 100000 in
theorem c_Md_hall (l : Launch) (htl : l.stackTraces = false) (D : va_G) (ca : Nat → ClassId) (ad : Nat → Nat) (st : pu_St) (sz : Nat) (x1 : Int32) (v : Int32) (st' : pu_St) (h : f_Md_hall st x1 = some (v, st')) : MetX l y_Md_hall (.code y_Md_hall b_Md_hall 2 (some .int) :: tG) { frames := 1, cells := 0, slots := 0, locals := 22 } (va_Pc [.ref (ad 0), .int x1] (mPc D ca ad st sz)) (mQ D ca ad (fun v => some (.int v)) (.inl v) st' sz) 0 0 (mA ad sz) := by
  refine mMet (by decide +kernel) ?_
  intro p e s m below meth c hsz C G hP
  obtain ⟨hx, hb, hml, hr, hlocks, hno, hown, hts⟩ := id C
  have hown : s.vm.findClass "MuseumHouseModel" = some m.cls := hown
  have hS : va_S (mA ad s.heap.size) s.heap s.heap [] := va_S.rf
  have hl := lv_entry ([.ref (ad 0), .int x1]) (n := 2) (Nat.le_of_ble_eq_true rfl)
  rw [lg_entry_eq]
  generalize (lg_sl ([.ref (ad 0), .int x1]) ++ List.replicate (2 - (lg_sl ([.ref (ad 0), .int x1])).length) Slot.unset).toArray = ls at hl ⊢
  have hl : lv_has ls 2 [(0, .ref (ad 0)), (1, .int x1)] := hl
  unfold f_Md_hall at h
  refine lv_aload_n hx hb d_Md_hall_0 rfl (lv_at hl 0 rfl) ?_
  refine lv_aload_n hx hb d_Md_hall_1 rfl (lv_at hl 0 rfl) ?_
  refine lv_iload_n hx hb d_Md_hall_2 rfl (lv_at hl 1 rfl) ?_
  refine lv_bipush (v := 8) hx hb d_Md_hall_3 (by decide) ?_
  obtain ⟨v1, e_v1, h⟩ := pu_ob h
  refine pu_callR (va_runV (As := [.int x1, .int 8]) (rest := [.ref (ad 0)]) ⟨hx, hb, hml, hown, hts⟩ (c_Md_is l D ca ad st _ x1 8 v1 e_v1) (xCW (C := "MuseumHouseModel") 2 hts wd_5_80 wd_1_13 wd_5_77 wd_5_79 wd_0_14 (by decide +kernel) ⟨Nat.le_of_ble_eq_true rfl, Nat.le_of_ble_eq_true rfl⟩) (G.preV hP hS 0 rfl rfl) rfl rfl hl.1 rfl (lv_room (Nat.le_of_ble_eq_true rfl)) d_Md_hall_5 ⟨Nat.zero_le _, Nat.zero_le _⟩) ?_
  refine lv_if_eq (tgt := 15) hx hb d_Md_hall_8 (by decide) (fun c2 => ?_) (fun c2 => ?_)
  · rw [if_pos c2] at h
    refine lv_iconst (v := 1) hx hb d_Md_hall_15 (by decide) ?_
    exact t_Md_hall_b16 htl C G () st x1 1 h _ _ hP hS ls (lv_sub hl [0, 1] rfl)
  · rw [if_neg c2] at h
    refine lv_iconst (v := 0) hx hb d_Md_hall_11 (by decide) ?_
    refine lv_goto (tgt := 16) hx hb d_Md_hall_12 (by decide) ?_
    exact t_Md_hall_b16 htl C G () st x1 0 h _ _ hP hS ls (lv_sub hl [0, 1] rfl)
set_option maxHeartbeats 4000000 in
set_option maxRecDepth 100000 in
theorem c_Md_rule (l : Launch) (htl : l.stackTraces = false) (D : va_G) (ca : Nat → ClassId) (ad : Nat → Nat) (st : pu_St) (sz : Nat) (v : Int32) (st' : pu_St) (h : f_Md_rule st = some (v, st')) : MetX l y_Md_rule (.code y_Md_rule b_Md_rule 1 (some .int) :: tG) { frames := 0, cells := 0, slots := 0, locals := 0 } (va_Pc [.ref (ad 0)] (mPc D ca ad st sz)) (mQ D ca ad (fun v => some (.int v)) (.inl v) st' sz) 0 0 (mA ad sz) := by
  refine mMet (by decide +kernel) ?_
  intro p e s m below meth c hsz C G hP
  obtain ⟨hx, hb, hml, hr, hlocks, hno, hown, hts⟩ := id C
  have hown : s.vm.findClass "MuseumHouseModel" = some m.cls := hown
  have hS : va_S (mA ad s.heap.size) s.heap s.heap [] := va_S.rf
  have hl := lv_entry ([.ref (ad 0)]) (n := 1) (Nat.le_of_ble_eq_true rfl)
  rw [lg_entry_eq]
  generalize (lg_sl ([.ref (ad 0)]) ++ List.replicate (1 - (lg_sl ([.ref (ad 0)])).length) Slot.unset).toArray = ls at hl ⊢
  have hl : lv_has ls 1 [(0, .ref (ad 0))] := hl
  unfold f_Md_rule at h
  refine lv_aload_n hx hb d_Md_rule_0 rfl (lv_at hl 0 rfl) ?_
  refine lv_iconst (v := 0) hx hb d_Md_rule_1 (by decide) ?_
  refine va_put (D := D) (ci := 11) (v := .int 0) (ty := .int) (C := R_Md) (T := T_Md) (N := 27) hx hb hts iw_Md ty_Md to_Md nm_Md hown G.1 hP (G.D) hS 0 rfl rfl 0 (by decide) (hts _ wd_4_223) (fun _ h9 => h9) rfl (by decide +kernel) rfl rfl (Nat.le_of_ble_eq_true rfl) d_Md_rule_2 (fun H locs hP _ hS => ?_)
  have hP : va_P D hcl (mW ca ad (va_up st.1 0 0, st.2)) H := hP
  refine lv_aload_n hx hb d_Md_rule_5 rfl (lv_at hl 0 rfl) ?_
  refine va_get (D := D) (ci := 11) (v := .int (st.1 1)) (C := R_Md) (T := T_Md) (N := 27) hx hb hts iw_Md hown G.1 hP 0 rfl rfl 1 (by decide) (hts _ wd_4_224) (fun _ h9 => h9) rfl d_Md_rule_6 ?_
  cases h
  exact W.toX (W.iret hx hb hr (fun t ht _ => ⟨rfl, by rw [ht]; exact hP, hS.F ht⟩) hS.2.2 d_Md_rule_9)
set_option maxHeartbeats 4000000 in
set_option maxRecDepth 100000 in
theorem t_Md_count_b16 {l : Launch} (htl : l.stackTraces = false) {p : Program} {e : Env} {s : State} {m : MethodId} {args : Array Value} {below : List Frame} {meth : Method} {c : Code} {D : va_G} {ca : Nat → ClassId} {ad : Nat → Nat} {st' : pu_St} {v : Int32} (C : hC p s m meth c args b_Md_count 2 (some .int) "MuseumHouseModel") (G : mX D ca ad (mA ad s.heap.size) s) :
    ∀ (_ : Unit) (st : pu_St) (x1 z0 : Int32), f_Md_count_b16 st x1 z0 = some (v, st') → ∀ (H : Heap) (locs : List Loc), va_P D hcl (mW ca ad st) H → va_S (mA ad s.heap.size) s.heap H locs → ∀ ls : Array Slot, lv_has ls 2 [(0, .ref (ad 0)), (1, .int x1)] → W p l e { frames := 1, cells := 0, slots := 0, locals := 22 } s m args below meth c H locs 0 0 (MQX below (mQ D ca ad (fun v => some (.int v)) (.inl v) st' s.heap.size) args s 0 0 (mA ad s.heap.size)) (F0 m 16 ls [.int z0, .ref (ad 0)]) := by
  obtain ⟨hx, hb, hml, hr, hlocks, hno, hown, hts⟩ := id C
  intro _ st x1 z0 h H locs hP hS ls hl
  unfold f_Md_count_b16 at h
  refine va_put (D := D) (ci := 11) (v := .int z0) (ty := .int) (C := R_Md) (T := T_Md) (N := 27) hx hb hts iw_Md ty_Md to_Md nm_Md hown G.1 hP (G.D) hS 0 rfl rfl 0 (by decide) (hts _ wd_4_223) (fun _ h9 => h9) rfl (by decide +kernel) rfl rfl (Nat.le_of_ble_eq_true rfl) d_Md_count_16 (fun H locs hP _ hS => ?_)
  have hP : va_P D hcl (mW ca ad (va_up st.1 0 z0, st.2)) H := hP
  refine lv_aload_n hx hb d_Md_count_19 rfl (lv_at hl 0 rfl) ?_
  refine va_get (D := D) (ci := 11) (v := .int z0) (C := R_Md) (T := T_Md) (N := 27) hx hb hts iw_Md hown G.1 hP 0 rfl rfl 0 (by decide) (hts _ wd_4_223) (fun _ h9 => h9) rfl d_Md_count_20 ?_
  refine lv_if_ne (tgt := 35) hx hb d_Md_count_23 (by decide) (fun c3 => ?_) (fun c3 => ?_)
  · rw [if_neg c3] at h
    refine lv_iconst (v := 0) hx hb d_Md_count_35 (by decide) ?_
    cases h
    exact W.toX (W.iret hx hb hr (fun t ht _ => ⟨rfl, by rw [ht]; exact hP, hS.F ht⟩) hS.2.2 d_Md_count_36)
  · rw [if_pos c3] at h
    refine lv_aload_n hx hb d_Md_count_26 rfl (lv_at hl 0 rfl) ?_
    refine va_get (D := D) (ci := 11) (v := .ref (ad 1)) (C := R_Md) (T := T_Md) (N := 27) hx hb hts iw_Md hown G.1 hP 0 rfl rfl 3 (by decide) (hts _ wd_4_226) (fun _ h9 => h9) rfl d_Md_count_27 ?_
    refine lv_iload_n hx hb d_Md_count_30 rfl (lv_at hl 1 rfl) ?_
    obtain ⟨v4, e_v4, h⟩ := pu_ob h
    refine pu_iald hx hb G.1 hP 1 0 rfl rfl e_v4 d_Md_count_31 ?_
    refine lv_goto (tgt := 36) hx hb d_Md_count_32 (by decide) ?_
    cases h
    exact W.toX (W.iret hx hb hr (fun t ht _ => ⟨rfl, by rw [ht]; exact hP, hS.F ht⟩) hS.2.2 d_Md_count_36)
set_option maxHeartbeats 4000000 in
set_option maxRecDepth 100000 in
theorem c_Md_count (l : Launch) (htl : l.stackTraces = false) (D : va_G) (ca : Nat → ClassId) (ad : Nat → Nat) (st : pu_St) (sz : Nat) (x1 : Int32) (v : Int32) (st' : pu_St) (h : f_Md_count st x1 = some (v, st')) : MetX l y_Md_count (.code y_Md_count b_Md_count 2 (some .int) :: tG) { frames := 1, cells := 0, slots := 0, locals := 22 } (va_Pc [.ref (ad 0), .int x1] (mPc D ca ad st sz)) (mQ D ca ad (fun v => some (.int v)) (.inl v) st' sz) 0 0 (mA ad sz) := by
  refine mMet (by decide +kernel) ?_
  intro p e s m below meth c hsz C G hP
  obtain ⟨hx, hb, hml, hr, hlocks, hno, hown, hts⟩ := id C
  have hown : s.vm.findClass "MuseumHouseModel" = some m.cls := hown
  have hS : va_S (mA ad s.heap.size) s.heap s.heap [] := va_S.rf
  have hl := lv_entry ([.ref (ad 0), .int x1]) (n := 2) (Nat.le_of_ble_eq_true rfl)
  rw [lg_entry_eq]
  generalize (lg_sl ([.ref (ad 0), .int x1]) ++ List.replicate (2 - (lg_sl ([.ref (ad 0), .int x1])).length) Slot.unset).toArray = ls at hl ⊢
  have hl : lv_has ls 2 [(0, .ref (ad 0)), (1, .int x1)] := hl
  unfold f_Md_count at h
  refine lv_aload_n hx hb d_Md_count_0 rfl (lv_at hl 0 rfl) ?_
  refine lv_iload_n hx hb d_Md_count_1 rfl (lv_at hl 1 rfl) ?_
  refine lv_iconst (v := 1) hx hb d_Md_count_2 (by decide) ?_
  refine lv_bipush (v := 9) hx hb d_Md_count_3 (by decide) ?_
  obtain ⟨v1, e_v1, h⟩ := pu_ob h
  refine pu_callR (va_runS (As := [.int x1, .int 1, .int 9]) (rest := [.ref (ad 0)]) ⟨hx, hb, hml, hown, hts⟩ (c_Md_lies l D ca ad st _ x1 1 9 v1 e_v1) (xCS 3 hts wd_5_87 wd_1_13 wd_5_85 wd_5_86 (by decide +kernel) ⟨Nat.le_of_ble_eq_true rfl, Nat.le_of_ble_eq_true rfl⟩) (G.preS hP hS) rfl rfl hl.1 rfl (lv_room (Nat.le_of_ble_eq_true rfl)) d_Md_count_5 ⟨Nat.zero_le _, Nat.zero_le _⟩) ?_
  refine lv_if_eq (tgt := 15) hx hb d_Md_count_8 (by decide) (fun c2 => ?_) (fun c2 => ?_)
  · rw [if_pos c2] at h
    refine lv_iconst (v := 1) hx hb d_Md_count_15 (by decide) ?_
    exact t_Md_count_b16 htl C G () st x1 1 h _ _ hP hS ls (lv_sub hl [0, 1] rfl)
  · rw [if_neg c2] at h
    refine lv_iconst (v := 0) hx hb d_Md_count_11 (by decide) ?_
    refine lv_goto (tgt := 16) hx hb d_Md_count_12 (by decide) ?_
    exact t_Md_count_b16 htl C G () st x1 0 h _ _ hP hS ls (lv_sub hl [0, 1] rfl)

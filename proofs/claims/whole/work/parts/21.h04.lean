set_option maxHeartbeats 4000000 in
set_option maxRecDepth 100000 in
theorem t_H_move_b164 {l : Launch} (htl : l.stackTraces = false) {p : Program} {e : Env} {s : State} {m : MethodId} {args : Array Value} {below : List Frame} {meth : Method} {c : Code} {D : va_G} {ca : Nat → ClassId} {ad : Nat → Nat} {st' : pu_St} {r : Int32 ⊕ Nat} (C : hC p s m meth c args b_H_move 9 (some .boolean) "MuseumHouse") (G : hX D ca ad (hA ad s.heap.size) s) :
    ∀ (_ : Unit) (st : pu_St) (x1 x2 x3 x4 x5 x6 x7 x8 z0 z1 : Int32), f_H_move_b164 st x1 x2 x3 x4 x5 x6 x7 x8 z0 z1 = some (r, st') → ∀ (H : Heap) (locs : List Loc), va_P D hcl (hW ca ad st) H → va_S (hA ad s.heap.size) s.heap H locs → ∀ ls : Array Slot, lv_has ls 9 [(0, .ref (ad 0)), (1, .int x1), (2, .int x2), (3, .int x3), (4, .int x4), (5, .int x5), (6, .int x6), (7, .int x7), (8, .int x8)] → W p l e { frames := 7, cells := xc r, slots := xs r, locals := 113 } s m args below meth c H locs 0 0 (MQX below (hQ D ca ad (fun v => some (.int v)) r st' s.heap.size) args s (xc r) (xs r) (hA ad s.heap.size)) (F0 m 164 ls [.int z0, .int z1, .ref (ad 0)]) := by
  obtain ⟨hx, hb, hml, hr, hlocks, hno, hown, hts⟩ := id C
  intro _ st x1 x2 x3 x4 x5 x6 x7 x8 z0 z1 h H locs hP hS ls hl
  unfold f_H_move_b164 at h
  rcases pu_xb_inv h with ⟨v27, st28, e_v27, h⟩ | ⟨v27, st28, e_v27, h⟩
  · refine hCallU G hS (va_runV (As := [.int z1, .int z0]) (rest := []) ⟨hx, hb, hml, hown, hts⟩ (MetX.met (c_H_ask l htl D ca ad st _ z1 z0 _ _ e_v27) (fun _ _ _ _ q => ⟨_, q.1⟩)) (xCW (C := "MuseumHouse") 2 hts wd_2_139 wd_1_1 wd_2_136 wd_2_138 wd_0_4 (by decide +kernel) ⟨Nat.le_of_ble_eq_true rfl, Nat.le_of_ble_eq_true rfl⟩) (G.preV hP hS 0 rfl rfl) rfl rfl hl.1 rfl (lv_room (Nat.le_of_ble_eq_true rfl)) d_H_move_164 ⟨Nat.zero_le _, Nat.zero_le _⟩) (fun H locs hP hS => ?_)
    refine lv_aload_n hx hb d_H_move_167 rfl (lv_at hl 0 rfl) ?_
    refine va_get (D := D) (ci := 0) (v := .ref (ad 6)) (C := R_H) (T := T_H) (N := 12) hx hb hts iw_H hown G.1 hP 0 rfl rfl 5 (by decide) (hts _ wd_1_217) (fun _ h9 => h9) rfl d_H_move_168 ?_
    refine lv_iload hx hb d_H_move_171 (lv_at hl 6 rfl) ?_
    refine lv_iload hx hb d_H_move_173 (lv_at hl 7 rfl) ?_
    refine lv_iload hx hb d_H_move_175 (lv_at hl 4 rfl) ?_
    obtain ⟨q29, e_q29, h⟩ := pu_ob h
    refine hCallU G hS (va_runV (As := [.int x6, .int x7, .int x4]) (rest := []) ⟨hx, hb, hml, hown, hts⟩ (MetX.met (c_Mo_tell l htl D ca ad st28 _ x6 x7 x4 q29.1 q29.2 e_q29) (fun _ _ _ _ q => ⟨_, q.1⟩)) (xCW (C := "MuseumHouse$Moves") 3 hts wd_3_208 wd_1_8 wd_3_205 wd_3_206 wd_3_207 (by decide +kernel) ⟨Nat.le_of_ble_eq_true rfl, Nat.le_of_ble_eq_true rfl⟩) (G.preV hP hS 6 rfl rfl) rfl rfl hl.1 rfl (lv_room (Nat.le_of_ble_eq_true rfl)) d_H_move_177 ⟨Nat.zero_le _, Nat.zero_le _⟩) (fun H locs hP hS => ?_)
    refine lv_iload hx hb d_H_move_180 (lv_at hl 8 rfl) ?_
    obtain ⟨b30, e_b30, h⟩ := pu_ob h
    obtain ⟨e_b30, k_b30⟩ := pu_bo_inv e_b30
    cases h
    rw [e_b30]
    exact W.toX (W.zret (ty := .boolean) hx hb hr (by rcases k_b30 with e | e <;> rw [e] <;> rfl) (fun t ht _ => ⟨rfl, by rw [ht]; exact hP, hS.F ht⟩) hS.2.2 d_H_move_182)
  · cases h
    exact hThrV G hS hno hlocks ⟨hx, hb, hml, hown, hts⟩ (As := [.int z1, .int z0]) (rest := []) (c_H_ask l htl D ca ad st _ z1 z0 _ _ e_v27) (xCW (C := "MuseumHouse") 2 hts wd_2_139 wd_1_1 wd_2_136 wd_2_138 wd_0_4 (by decide +kernel) ⟨Nat.le_of_ble_eq_true rfl, Nat.le_of_ble_eq_true rfl⟩) (G.preV hP hS 0 rfl rfl) rfl rfl hl.1 rfl (lv_room (Nat.le_of_ble_eq_true rfl)) d_H_move_164 ⟨Nat.le_of_ble_eq_true rfl, Nat.le_of_ble_eq_true rfl⟩
set_option maxHeartbeats 4000000 in
set_option maxRecDepth 100000 in
theorem t_H_move_b136 {l : Launch} (htl : l.stackTraces = false) {p : Program} {e : Env} {s : State} {m : MethodId} {args : Array Value} {below : List Frame} {meth : Method} {c : Code} {D : va_G} {ca : Nat → ClassId} {ad : Nat → Nat} {st' : pu_St} {r : Int32 ⊕ Nat} (C : hC p s m meth c args b_H_move 9 (some .boolean) "MuseumHouse") (G : hX D ca ad (hA ad s.heap.size) s) :
    ∀ (_ : Unit) (st : pu_St) (x1 x2 x3 x4 x5 x6 x7 x8 z0 z1 : Int32), f_H_move_b136 st x1 x2 x3 x4 x5 x6 x7 x8 z0 z1 = some (r, st') → ∀ (H : Heap) (locs : List Loc), va_P D hcl (hW ca ad st) H → va_S (hA ad s.heap.size) s.heap H locs → ∀ ls : Array Slot, lv_has ls 9 [(0, .ref (ad 0)), (1, .int x1), (2, .int x2), (3, .int x3), (4, .int x4), (5, .int x5), (6, .int x6), (7, .int x7), (8, .int x8)] → W p l e { frames := 7, cells := xc r, slots := xs r, locals := 113 } s m args below meth c H locs 0 0 (MQX below (hQ D ca ad (fun v => some (.int v)) r st' s.heap.size) args s (xc r) (xs r) (hA ad s.heap.size)) (F0 m 136 ls [.int z0, .int z1, .ref (ad 0)]) := by
  obtain ⟨hx, hb, hml, hr, hlocks, hno, hown, hts⟩ := id C
  intro _ st x1 x2 x3 x4 x5 x6 x7 x8 z0 z1 h H locs hP hS ls hl
  unfold f_H_move_b136 at h
  rcases pu_xb_inv h with ⟨v23, st24, e_v23, h⟩ | ⟨v23, st24, e_v23, h⟩
  · refine hCallU G hS (va_runV (As := [.int z1, .int z0]) (rest := []) ⟨hx, hb, hml, hown, hts⟩ (MetX.met (c_H_ask l htl D ca ad st _ z1 z0 _ _ e_v23) (fun _ _ _ _ q => ⟨_, q.1⟩)) (xCW (C := "MuseumHouse") 2 hts wd_2_139 wd_1_1 wd_2_136 wd_2_138 wd_0_4 (by decide +kernel) ⟨Nat.le_of_ble_eq_true rfl, Nat.le_of_ble_eq_true rfl⟩) (G.preV hP hS 0 rfl rfl) rfl rfl hl.1 rfl (lv_room (Nat.le_of_ble_eq_true rfl)) d_H_move_136 ⟨Nat.zero_le _, Nat.zero_le _⟩) (fun H locs hP hS => ?_)
    refine lv_aload_n hx hb d_H_move_139 rfl (lv_at hl 0 rfl) ?_
    refine lv_bipush (v := 12) hx hb d_H_move_140 (by decide) ?_
    refine lv_aload_n hx hb d_H_move_142 rfl (lv_at hl 0 rfl) ?_
    refine va_get (D := D) (ci := 0) (v := .ref (ad 8)) (C := R_H) (T := T_H) (N := 12) hx hb hts iw_H hown G.1 hP 0 rfl rfl 7 (by decide) (hts _ wd_1_219) (fun _ h9 => h9) rfl d_H_move_143 ?_
    refine lv_iload hx hb d_H_move_146 (lv_at hl 6 rfl) ?_
    refine lv_iload hx hb d_H_move_148 (lv_at hl 4 rfl) ?_
    refine lv_iload hx hb d_H_move_150 (lv_at hl 4 rfl) ?_
    obtain ⟨v25, e_v25, h⟩ := pu_ob h
    refine pu_callR (va_runV (As := [.int x6, .int x4, .int x4]) (rest := [.int 12, .ref (ad 0)]) ⟨hx, hb, hml, hown, hts⟩ (c_Lo_having l D ca ad st24 _ x6 x4 x4 v25 e_v25) (xCW (C := "MuseumHouse$Loans") 3 hts wd_3_198 wd_1_10 wd_3_195 wd_3_196 wd_3_197 (by decide +kernel) ⟨Nat.le_of_ble_eq_true rfl, Nat.le_of_ble_eq_true rfl⟩) (G.preV hP hS 8 rfl rfl) rfl rfl hl.1 rfl (lv_room (Nat.le_of_ble_eq_true rfl)) d_H_move_152 ⟨Nat.zero_le _, Nat.zero_le _⟩) ?_
    refine lv_iconst (v := (-1)) hx hb d_H_move_155 (by decide) ?_
    refine lv_icmp_ne (tgt := 163) hx hb d_H_move_156 (by decide) (fun c26 => ?_) (fun c26 => ?_)
    · rw [if_neg c26] at h
      refine lv_iconst (v := 0) hx hb d_H_move_163 (by decide) ?_
      exact t_H_move_b164 htl C G () st24 x1 x2 x3 x4 x5 x6 x7 x8 0 12 h _ _ hP hS ls (lv_sub hl [0, 1, 2, 3, 4, 5, 6, 7, 8] rfl)
    · rw [if_pos c26] at h
      refine lv_iconst (v := 1) hx hb d_H_move_159 (by decide) ?_
      refine lv_goto (tgt := 164) hx hb d_H_move_160 (by decide) ?_
      exact t_H_move_b164 htl C G () st24 x1 x2 x3 x4 x5 x6 x7 x8 1 12 h _ _ hP hS ls (lv_sub hl [0, 1, 2, 3, 4, 5, 6, 7, 8] rfl)
  · cases h
    exact hThrV G hS hno hlocks ⟨hx, hb, hml, hown, hts⟩ (As := [.int z1, .int z0]) (rest := []) (c_H_ask l htl D ca ad st _ z1 z0 _ _ e_v23) (xCW (C := "MuseumHouse") 2 hts wd_2_139 wd_1_1 wd_2_136 wd_2_138 wd_0_4 (by decide +kernel) ⟨Nat.le_of_ble_eq_true rfl, Nat.le_of_ble_eq_true rfl⟩) (G.preV hP hS 0 rfl rfl) rfl rfl hl.1 rfl (lv_room (Nat.le_of_ble_eq_true rfl)) d_H_move_136 ⟨Nat.le_of_ble_eq_true rfl, Nat.le_of_ble_eq_true rfl⟩
set_option maxHeartbeats 4000000 in
set_option maxRecDepth 100000 in
theorem t_H_move_b111 {l : Launch} (htl : l.stackTraces = false) {p : Program} {e : Env} {s : State} {m : MethodId} {args : Array Value} {below : List Frame} {meth : Method} {c : Code} {D : va_G} {ca : Nat → ClassId} {ad : Nat → Nat} {st' : pu_St} {r : Int32 ⊕ Nat} (C : hC p s m meth c args b_H_move 9 (some .boolean) "MuseumHouse") (G : hX D ca ad (hA ad s.heap.size) s) :
    ∀ (_ : Unit) (st : pu_St) (x1 x2 x3 x4 x5 x6 x7 x8 z0 z1 : Int32), f_H_move_b111 st x1 x2 x3 x4 x5 x6 x7 x8 z0 z1 = some (r, st') → ∀ (H : Heap) (locs : List Loc), va_P D hcl (hW ca ad st) H → va_S (hA ad s.heap.size) s.heap H locs → ∀ ls : Array Slot, lv_has ls 9 [(0, .ref (ad 0)), (1, .int x1), (2, .int x2), (3, .int x3), (4, .int x4), (5, .int x5), (6, .int x6), (7, .int x7), (8, .int x8)] → W p l e { frames := 7, cells := xc r, slots := xs r, locals := 113 } s m args below meth c H locs 0 0 (MQX below (hQ D ca ad (fun v => some (.int v)) r st' s.heap.size) args s (xc r) (xs r) (hA ad s.heap.size)) (F0 m 111 ls [.int z0, .int z1, .ref (ad 0)]) := by
  obtain ⟨hx, hb, hml, hr, hlocks, hno, hown, hts⟩ := id C
  intro _ st x1 x2 x3 x4 x5 x6 x7 x8 z0 z1 h H locs hP hS ls hl
  unfold f_H_move_b111 at h
  rcases pu_xb_inv h with ⟨v19, st20, e_v19, h⟩ | ⟨v19, st20, e_v19, h⟩
  · refine hCallU G hS (va_runV (As := [.int z1, .int z0]) (rest := []) ⟨hx, hb, hml, hown, hts⟩ (MetX.met (c_H_ask l htl D ca ad st _ z1 z0 _ _ e_v19) (fun _ _ _ _ q => ⟨_, q.1⟩)) (xCW (C := "MuseumHouse") 2 hts wd_2_139 wd_1_1 wd_2_136 wd_2_138 wd_0_4 (by decide +kernel) ⟨Nat.le_of_ble_eq_true rfl, Nat.le_of_ble_eq_true rfl⟩) (G.preV hP hS 0 rfl rfl) rfl rfl hl.1 rfl (lv_room (Nat.le_of_ble_eq_true rfl)) d_H_move_111 ⟨Nat.zero_le _, Nat.zero_le _⟩) (fun H locs hP hS => ?_)
    refine lv_aload_n hx hb d_H_move_114 rfl (lv_at hl 0 rfl) ?_
    refine lv_bipush (v := 11) hx hb d_H_move_115 (by decide) ?_
    refine lv_iload hx hb d_H_move_117 (lv_at hl 4 rfl) ?_
    refine lv_aload_n hx hb d_H_move_119 rfl (lv_at hl 0 rfl) ?_
    refine va_get (D := D) (ci := 0) (v := .ref (ad 5)) (C := R_H) (T := T_H) (N := 12) hx hb hts iw_H hown G.1 hP 0 rfl rfl 4 (by decide) (hts _ wd_1_216) (fun _ h9 => h9) rfl d_H_move_120 ?_
    refine lv_iload hx hb d_H_move_123 (lv_at hl 6 rfl) ?_
    obtain ⟨v21, e_v21, h⟩ := pu_ob h
    refine pu_callR (va_runV (As := [.int x6]) (rest := [.int x4, .int 11, .ref (ad 0)]) ⟨hx, hb, hml, hown, hts⟩ (c_It_dayOf l D ca ad st20 _ x6 v21 e_v21) (xCW (C := "MuseumHouse$Items") 1 hts wd_3_194 wd_1_7 wd_3_191 wd_3_192 wd_3_193 (by decide +kernel) ⟨Nat.le_of_ble_eq_true rfl, Nat.le_of_ble_eq_true rfl⟩) (G.preV hP hS 5 rfl rfl) rfl rfl hl.1 rfl (lv_room (Nat.le_of_ble_eq_true rfl)) d_H_move_125 ⟨Nat.zero_le _, Nat.zero_le _⟩) ?_
    refine lv_icmp_lt (tgt := 135) hx hb d_H_move_128 (by decide) (fun c22 => ?_) (fun c22 => ?_)
    · rw [if_pos c22] at h
      refine lv_iconst (v := 0) hx hb d_H_move_135 (by decide) ?_
      exact t_H_move_b136 htl C G () st20 x1 x2 x3 x4 x5 x6 x7 x8 0 11 h _ _ hP hS ls (lv_sub hl [0, 1, 2, 3, 4, 5, 6, 7, 8] rfl)
    · rw [if_neg c22] at h
      refine lv_iconst (v := 1) hx hb d_H_move_131 (by decide) ?_
      refine lv_goto (tgt := 136) hx hb d_H_move_132 (by decide) ?_
      exact t_H_move_b136 htl C G () st20 x1 x2 x3 x4 x5 x6 x7 x8 1 11 h _ _ hP hS ls (lv_sub hl [0, 1, 2, 3, 4, 5, 6, 7, 8] rfl)
  · cases h
    exact hThrV G hS hno hlocks ⟨hx, hb, hml, hown, hts⟩ (As := [.int z1, .int z0]) (rest := []) (c_H_ask l htl D ca ad st _ z1 z0 _ _ e_v19) (xCW (C := "MuseumHouse") 2 hts wd_2_139 wd_1_1 wd_2_136 wd_2_138 wd_0_4 (by decide +kernel) ⟨Nat.le_of_ble_eq_true rfl, Nat.le_of_ble_eq_true rfl⟩) (G.preV hP hS 0 rfl rfl) rfl rfl hl.1 rfl (lv_room (Nat.le_of_ble_eq_true rfl)) d_H_move_111 ⟨Nat.le_of_ble_eq_true rfl, Nat.le_of_ble_eq_true rfl⟩
set_option maxHeartbeats 4000000 in
set_option maxRecDepth 100000 in
theorem t_H_move_b110 {l : Launch} (htl : l.stackTraces = false) {p : Program} {e : Env} {s : State} {m : MethodId} {args : Array Value} {below : List Frame} {meth : Method} {c : Code} {D : va_G} {ca : Nat → ClassId} {ad : Nat → Nat} {st' : pu_St} {r : Int32 ⊕ Nat} (C : hC p s m meth c args b_H_move 9 (some .boolean) "MuseumHouse") (G : hX D ca ad (hA ad s.heap.size) s) :
    ∀ (_ : Unit) (st : pu_St) (x1 x2 x3 x4 x5 x6 x7 x8 z0 : Int32), f_H_move_b110 st x1 x2 x3 x4 x5 x6 x7 x8 z0 = some (r, st') → ∀ (H : Heap) (locs : List Loc), va_P D hcl (hW ca ad st) H → va_S (hA ad s.heap.size) s.heap H locs → ∀ ls : Array Slot, lv_has ls 9 [(0, .ref (ad 0)), (1, .int x1), (2, .int x2), (3, .int x3), (4, .int x4), (5, .int x5), (6, .int x6), (7, .int x7), (8, .int x8)] → W p l e { frames := 7, cells := xc r, slots := xs r, locals := 113 } s m args below meth c H locs 0 0 (MQX below (hQ D ca ad (fun v => some (.int v)) r st' s.heap.size) args s (xc r) (xs r) (hA ad s.heap.size)) (F0 m 110 ls [.int z0, .ref (ad 0)]) := by
  obtain ⟨hx, hb, hml, hr, hlocks, hno, hown, hts⟩ := id C
  intro _ st x1 x2 x3 x4 x5 x6 x7 x8 z0 h H locs hP hS ls hl
  unfold f_H_move_b110 at h
  refine lv_iconst (v := 0) hx hb d_H_move_110 (by decide) ?_
  exact t_H_move_b111 htl C G () st x1 x2 x3 x4 x5 x6 x7 x8 0 z0 h _ _ hP hS ls (lv_sub hl [0, 1, 2, 3, 4, 5, 6, 7, 8] rfl)
set_option maxHeartbeats 4000000 in
set_option maxRecDepth 100000 in
theorem t_H_move_b84 {l : Launch} (htl : l.stackTraces = false) {p : Program} {e : Env} {s : State} {m : MethodId} {args : Array Value} {below : List Frame} {meth : Method} {c : Code} {D : va_G} {ca : Nat → ClassId} {ad : Nat → Nat} {st' : pu_St} {r : Int32 ⊕ Nat} (C : hC p s m meth c args b_H_move 9 (some .boolean) "MuseumHouse") (G : hX D ca ad (hA ad s.heap.size) s) :
    ∀ (_ : Unit) (st : pu_St) (x1 x2 x3 x4 x5 x6 x7 x8 z0 : Int32), f_H_move_b84 st x1 x2 x3 x4 x5 x6 x7 x8 z0 = some (r, st') → ∀ (H : Heap) (locs : List Loc), va_P D hcl (hW ca ad st) H → va_S (hA ad s.heap.size) s.heap H locs → ∀ ls : Array Slot, lv_has ls 9 [(0, .ref (ad 0)), (1, .int x1), (2, .int x2), (3, .int x3), (4, .int x4), (5, .int x5), (6, .int x6), (7, .int x7), (8, .int x8)] → W p l e { frames := 7, cells := xc r, slots := xs r, locals := 113 } s m args below meth c H locs 0 0 (MQX below (hQ D ca ad (fun v => some (.int v)) r st' s.heap.size) args s (xc r) (xs r) (hA ad s.heap.size)) (F0 m 84 ls [.int z0, .ref (ad 0)]) := by
  obtain ⟨hx, hb, hml, hr, hlocks, hno, hown, hts⟩ := id C
  intro _ st x1 x2 x3 x4 x5 x6 x7 x8 z0 h H locs hP hS ls hl
  unfold f_H_move_b84 at h
  rcases pu_xb_inv h with ⟨v14, st15, e_v14, h⟩ | ⟨v14, st15, e_v14, h⟩
  · refine hCallU G hS (va_runV (As := [.int z0]) (rest := []) ⟨hx, hb, hml, hown, hts⟩ (MetX.met (c_H_askRoom l htl D ca ad st _ z0 _ _ e_v14) (fun _ _ _ _ q => ⟨_, q.1⟩)) (xCW (C := "MuseumHouse") 1 hts wd_2_135 wd_1_1 wd_2_132 wd_2_134 wd_0_3 (by decide +kernel) ⟨Nat.le_of_ble_eq_true rfl, Nat.le_of_ble_eq_true rfl⟩) (G.preV hP hS 0 rfl rfl) rfl rfl hl.1 rfl (lv_room (Nat.le_of_ble_eq_true rfl)) d_H_move_84 ⟨Nat.zero_le _, Nat.zero_le _⟩) (fun H locs hP hS => ?_)
    refine lv_aload_n hx hb d_H_move_87 rfl (lv_at hl 0 rfl) ?_
    refine lv_iconst (v := 4) hx hb d_H_move_88 (by decide) ?_
    refine lv_iload hx hb d_H_move_89 (lv_at hl 4 rfl) ?_
    obtain ⟨v16, e_v16, h⟩ := pu_ob h
    refine pu_callR (va_runS (As := [.int x4]) (rest := [.int 4, .ref (ad 0)]) ⟨hx, hb, hml, hown, hts⟩ (c_H_isDay l D ca ad st15 _ x4 v16 e_v16) (xCS 1 hts wd_3_67 wd_1_1 wd_3_65 wd_3_66 (by decide +kernel) ⟨Nat.le_of_ble_eq_true rfl, Nat.le_of_ble_eq_true rfl⟩) (G.preS hP hS) rfl rfl hl.1 rfl (lv_room (Nat.le_of_ble_eq_true rfl)) d_H_move_91 ⟨Nat.zero_le _, Nat.zero_le _⟩) ?_
    refine lv_if_eq (tgt := 110) hx hb d_H_move_94 (by decide) (fun c17 => ?_) (fun c17 => ?_)
    · rw [if_pos c17] at h
      exact t_H_move_b110 htl C G () st15 x1 x2 x3 x4 x5 x6 x7 x8 4 h _ _ hP hS ls (lv_sub hl [0, 1, 2, 3, 4, 5, 6, 7, 8] rfl)
    · rw [if_neg c17] at h
      refine lv_iload hx hb d_H_move_97 (lv_at hl 4 rfl) ?_
      refine lv_aload_n hx hb d_H_move_99 rfl (lv_at hl 0 rfl) ?_
      refine va_get (D := D) (ci := 0) (v := .int (st15.1 0)) (C := R_H) (T := T_H) (N := 12) hx hb hts iw_H hown G.1 hP 0 rfl rfl 10 (by decide) (hts _ wd_1_222) (fun _ h9 => h9) rfl d_H_move_100 ?_
      refine lv_icmp_gt (tgt := 110) hx hb d_H_move_103 (by decide) (fun c18 => ?_) (fun c18 => ?_)
      · rw [if_pos c18] at h
        exact t_H_move_b110 htl C G () st15 x1 x2 x3 x4 x5 x6 x7 x8 4 h _ _ hP hS ls (lv_sub hl [0, 1, 2, 3, 4, 5, 6, 7, 8] rfl)
      · rw [if_neg c18] at h
        refine lv_iconst (v := 1) hx hb d_H_move_106 (by decide) ?_
        refine lv_goto (tgt := 111) hx hb d_H_move_107 (by decide) ?_
        exact t_H_move_b111 htl C G () st15 x1 x2 x3 x4 x5 x6 x7 x8 1 4 h _ _ hP hS ls (lv_sub hl [0, 1, 2, 3, 4, 5, 6, 7, 8] rfl)
  · cases h
    exact hThrV G hS hno hlocks ⟨hx, hb, hml, hown, hts⟩ (As := [.int z0]) (rest := []) (c_H_askRoom l htl D ca ad st _ z0 _ _ e_v14) (xCW (C := "MuseumHouse") 1 hts wd_2_135 wd_1_1 wd_2_132 wd_2_134 wd_0_3 (by decide +kernel) ⟨Nat.le_of_ble_eq_true rfl, Nat.le_of_ble_eq_true rfl⟩) (G.preV hP hS 0 rfl rfl) rfl rfl hl.1 rfl (lv_room (Nat.le_of_ble_eq_true rfl)) d_H_move_84 ⟨Nat.le_of_ble_eq_true rfl, Nat.le_of_ble_eq_true rfl⟩
set_option maxHeartbeats 4000000 in
set_option maxRecDepth 100000 in
theorem t_H_move_b79 {l : Launch} (htl : l.stackTraces = false) {p : Program} {e : Env} {s : State} {m : MethodId} {args : Array Value} {below : List Frame} {meth : Method} {c : Code} {D : va_G} {ca : Nat → ClassId} {ad : Nat → Nat} {st' : pu_St} {r : Int32 ⊕ Nat} (C : hC p s m meth c args b_H_move 9 (some .boolean) "MuseumHouse") (G : hX D ca ad (hA ad s.heap.size) s) :
    ∀ (_ : Unit) (st : pu_St) (x1 x2 x3 x4 x5 x6 x7 x8 : Int32), f_H_move_b79 st x1 x2 x3 x4 x5 x6 x7 x8 = some (r, st') → ∀ (H : Heap) (locs : List Loc), va_P D hcl (hW ca ad st) H → va_S (hA ad s.heap.size) s.heap H locs → ∀ ls : Array Slot, lv_has ls 9 [(0, .ref (ad 0)), (1, .int x1), (2, .int x2), (3, .int x3), (4, .int x4), (5, .int x5), (6, .int x6), (7, .int x7), (8, .int x8)] → W p l e { frames := 7, cells := xc r, slots := xs r, locals := 113 } s m args below meth c H locs 0 0 (MQX below (hQ D ca ad (fun v => some (.int v)) r st' s.heap.size) args s (xc r) (xs r) (hA ad s.heap.size)) (F0 m 79 ls [.ref (ad 0)]) := by
  obtain ⟨hx, hb, hml, hr, hlocks, hno, hown, hts⟩ := id C
  intro _ st x1 x2 x3 x4 x5 x6 x7 x8 h H locs hP hS ls hl
  unfold f_H_move_b79 at h
  refine lv_iconst (v := 1) hx hb d_H_move_79 (by decide) ?_
  refine lv_goto (tgt := 84) hx hb d_H_move_80 (by decide) ?_
  exact t_H_move_b84 htl C G () st x1 x2 x3 x4 x5 x6 x7 x8 1 h _ _ hP hS ls (lv_sub hl [0, 1, 2, 3, 4, 5, 6, 7, 8] rfl)
set_option maxHeartbeats 4000000 in
set_option maxRecDepth 100000 in
theorem t_H_move_b59 {l : Launch} (htl : l.stackTraces = false) {p : Program} {e : Env} {s : State} {m : MethodId} {args : Array Value} {below : List Frame} {meth : Method} {c : Code} {D : va_G} {ca : Nat → ClassId} {ad : Nat → Nat} {st' : pu_St} {r : Int32 ⊕ Nat} (C : hC p s m meth c args b_H_move 9 (some .boolean) "MuseumHouse") (G : hX D ca ad (hA ad s.heap.size) s) :
    ∀ (_ : Unit) (st : pu_St) (x1 x2 x3 x4 x5 x6 x7 z0 : Int32), f_H_move_b59 st x1 x2 x3 x4 x5 x6 x7 z0 = some (r, st') → ∀ (H : Heap) (locs : List Loc), va_P D hcl (hW ca ad st) H → va_S (hA ad s.heap.size) s.heap H locs → ∀ ls : Array Slot, lv_has ls 9 [(0, .ref (ad 0)), (1, .int x1), (2, .int x2), (3, .int x3), (4, .int x4), (5, .int x5), (6, .int x6), (7, .int x7)] → W p l e { frames := 7, cells := xc r, slots := xs r, locals := 113 } s m args below meth c H locs 0 0 (MQX below (hQ D ca ad (fun v => some (.int v)) r st' s.heap.size) args s (xc r) (xs r) (hA ad s.heap.size)) (F0 m 59 ls [.int z0]) := by
  obtain ⟨hx, hb, hml, hr, hlocks, hno, hown, hts⟩ := id C
  intro _ st x1 x2 x3 x4 x5 x6 x7 z0 h H locs hP hS ls hl
  unfold f_H_move_b59 at h
  refine lv_istore (lv' := [(8, .int z0), (0, .ref (ad 0)), (1, .int x1), (2, .int x2), (3, .int x3), (4, .int x4), (5, .int x5), (6, .int x6), (7, .int x7)]) hx hb d_H_move_59 hl (by decide) rfl (fun ls hl => ?_)
  refine lv_aload_n hx hb d_H_move_61 rfl (lv_at hl 1 rfl) ?_
  refine lv_iload hx hb d_H_move_62 (lv_at hl 0 rfl) ?_
  refine lv_if_eq (tgt := 79) hx hb d_H_move_64 (by decide) (fun c11 => ?_) (fun c11 => ?_)
  · rw [if_pos c11] at h
    exact t_H_move_b79 htl C G () st x1 x2 x3 x4 x5 x6 x7 z0 h _ _ hP hS ls (lv_sub hl [1, 2, 3, 4, 5, 6, 7, 8, 0] rfl)
  · rw [if_neg c11] at h
    refine lv_aload_n hx hb d_H_move_67 rfl (lv_at hl 1 rfl) ?_
    refine va_get (D := D) (ci := 0) (v := .ref (ad 6)) (C := R_H) (T := T_H) (N := 12) hx hb hts iw_H hown G.1 hP 0 rfl rfl 5 (by decide) (hts _ wd_1_217) (fun _ h9 => h9) rfl d_H_move_68 ?_
    refine lv_iload hx hb d_H_move_71 (lv_at hl 7 rfl) ?_
    obtain ⟨v12, e_v12, h⟩ := pu_ob h
    refine pu_callR (va_runV (As := [.int x6]) (rest := [.ref (ad 0)]) ⟨hx, hb, hml, hown, hts⟩ (c_Mo_isFullFor l D ca ad st _ x6 v12 e_v12) (xCW (C := "MuseumHouse$Moves") 1 hts wd_3_190 wd_1_8 wd_3_187 wd_3_188 wd_3_189 (by decide +kernel) ⟨Nat.le_of_ble_eq_true rfl, Nat.le_of_ble_eq_true rfl⟩) (G.preV hP hS 6 rfl rfl) rfl rfl hl.1 rfl (lv_room (Nat.le_of_ble_eq_true rfl)) d_H_move_73 ⟨Nat.zero_le _, Nat.zero_le _⟩) ?_
    refine lv_if_ne (tgt := 83) hx hb d_H_move_76 (by decide) (fun c13 => ?_) (fun c13 => ?_)
    · rw [if_neg c13] at h
      refine lv_iconst (v := 0) hx hb d_H_move_83 (by decide) ?_
      exact t_H_move_b84 htl C G () st x1 x2 x3 x4 x5 x6 x7 z0 0 h _ _ hP hS ls (lv_sub hl [1, 2, 3, 4, 5, 6, 7, 8, 0] rfl)
    · rw [if_pos c13] at h
      exact t_H_move_b79 htl C G () st x1 x2 x3 x4 x5 x6 x7 z0 h _ _ hP hS ls (lv_sub hl [1, 2, 3, 4, 5, 6, 7, 8, 0] rfl)
set_option maxHeartbeats 4000000 in
set_option maxRecDepth 100000 in
theorem c_H_move (l : Launch) (htl : l.stackTraces = false) (D : va_G) (ca : Nat → ClassId) (ad : Nat → Nat) (st : pu_St) (sz : Nat) (x1 x2 x3 x4 : Int32) (r : Int32 ⊕ Nat) (st' : pu_St) (h : f_H_move st x1 x2 x3 x4 = some (r, st')) : MetX l y_H_move (.code y_H_move b_H_move 9 (some .boolean) :: tG) { frames := 7, cells := xc r, slots := xs r, locals := 113 } (va_Pc [.ref (ad 0), .int x1, .int x2, .int x3, .int x4] (hPc D ca ad st sz)) (hQ D ca ad (fun v => some (.int v)) r st' sz) (xc r) (xs r) (hA ad sz) := by
  refine hMet (by decide +kernel) ?_
  intro p e s m below meth c hsz C G hP
  obtain ⟨hx, hb, hml, hr, hlocks, hno, hown, hts⟩ := id C
  have hown : s.vm.findClass "MuseumHouse" = some m.cls := hown
  have hS : va_S (hA ad s.heap.size) s.heap s.heap [] := va_S.rf
  have hl := lv_entry ([.ref (ad 0), .int x1, .int x2, .int x3, .int x4]) (n := 9) (Nat.le_of_ble_eq_true rfl)
  rw [lg_entry_eq]
  generalize (lg_sl ([.ref (ad 0), .int x1, .int x2, .int x3, .int x4]) ++ List.replicate (9 - (lg_sl ([.ref (ad 0), .int x1, .int x2, .int x3, .int x4])).length) Slot.unset).toArray = ls at hl ⊢
  have hl : lv_has ls 9 [(0, .ref (ad 0)), (1, .int x1), (2, .int x2), (3, .int x3), (4, .int x4)] := hl
  unfold f_H_move at h
  refine lv_aload_n hx hb d_H_move_0 rfl (lv_at hl 0 rfl) ?_
  refine lv_aload_n hx hb d_H_move_1 rfl (lv_at hl 0 rfl) ?_
  refine va_get (D := D) (ci := 0) (v := .ref (ad 1)) (C := R_H) (T := T_H) (N := 12) hx hb hts iw_H hown G.1 hP 0 rfl rfl 0 (by decide) (hts _ wd_1_212) (fun _ h9 => h9) rfl d_H_move_2 ?_
  refine lv_iload_n hx hb d_H_move_5 rfl (lv_at hl 1 rfl) ?_
  rcases pu_xb_inv h with ⟨v1, st2, e_v1, h⟩ | ⟨v1, st2, e_v1, h⟩
  · refine hCallI G hS (va_runV (As := [.ref (ad 1), .int x1]) (rest := []) ⟨hx, hb, hml, hown, hts⟩ (MetX.met (c_H_numberOf_De l htl D ca ad st _ x1 _ _ e_v1) (fun _ _ _ _ q => ⟨_, q.1⟩)) (xCW (C := "MuseumHouse") 2 hts wd_2_26 wd_1_1 wd_2_23 wd_2_25 wd_0_0 (by decide +kernel) ⟨Nat.le_of_ble_eq_true rfl, Nat.le_of_ble_eq_true rfl⟩) (G.preV hP hS 0 rfl rfl) rfl rfl hl.1 rfl (lv_room (Nat.le_of_ble_eq_true rfl)) d_H_move_6 ⟨Nat.zero_le _, Nat.zero_le _⟩) (fun H locs hP hS => ?_)
    refine lv_istore (lv' := [(5, .int v1), (0, .ref (ad 0)), (1, .int x1), (2, .int x2), (3, .int x3), (4, .int x4)]) hx hb d_H_move_9 hl (by decide) rfl (fun ls hl => ?_)
    refine lv_aload_n hx hb d_H_move_11 rfl (lv_at hl 1 rfl) ?_
    refine lv_aload_n hx hb d_H_move_12 rfl (lv_at hl 1 rfl) ?_
    refine va_get (D := D) (ci := 0) (v := .ref (ad 5)) (C := R_H) (T := T_H) (N := 12) hx hb hts iw_H hown G.1 hP 0 rfl rfl 4 (by decide) (hts _ wd_1_216) (fun _ h9 => h9) rfl d_H_move_13 ?_
    refine lv_iload_n hx hb d_H_move_16 rfl (lv_at hl 3 rfl) ?_
    rcases pu_xb_inv h with ⟨v3, st4, e_v3, h⟩ | ⟨v3, st4, e_v3, h⟩
    · refine hCallI G hS (va_runV (As := [.ref (ad 5), .int x2]) (rest := []) ⟨hx, hb, hml, hown, hts⟩ (MetX.met (c_H_numberOf_It l htl D ca ad st2 _ x2 _ _ e_v3) (fun _ _ _ _ q => ⟨_, q.1⟩)) (xCW (C := "MuseumHouse") 2 hts wd_2_26 wd_1_1 wd_2_23 wd_2_25 wd_0_0 (by decide +kernel) ⟨Nat.le_of_ble_eq_true rfl, Nat.le_of_ble_eq_true rfl⟩) (G.preV hP hS 0 rfl rfl) rfl rfl hl.1 rfl (lv_room (Nat.le_of_ble_eq_true rfl)) d_H_move_17 ⟨Nat.zero_le _, Nat.zero_le _⟩) (fun H locs hP hS => ?_)
      refine lv_istore (lv' := [(6, .int v3), (5, .int v1), (0, .ref (ad 0)), (1, .int x1), (2, .int x2), (3, .int x3), (4, .int x4)]) hx hb d_H_move_20 hl (by decide) rfl (fun ls hl => ?_)
      refine lv_aload_n hx hb d_H_move_22 rfl (lv_at hl 2 rfl) ?_
      refine lv_aload_n hx hb d_H_move_23 rfl (lv_at hl 2 rfl) ?_
      refine va_get (D := D) (ci := 0) (v := .ref (ad 7)) (C := R_H) (T := T_H) (N := 12) hx hb hts iw_H hown G.1 hP 0 rfl rfl 6 (by decide) (hts _ wd_1_218) (fun _ h9 => h9) rfl d_H_move_24 ?_
      refine lv_iload_n hx hb d_H_move_27 rfl (lv_at hl 5 rfl) ?_
      rcases pu_xb_inv h with ⟨v5, st6, e_v5, h⟩ | ⟨v5, st6, e_v5, h⟩
      · refine hCallI G hS (va_runV (As := [.ref (ad 7), .int x3]) (rest := []) ⟨hx, hb, hml, hown, hts⟩ (MetX.met (c_H_numberOf_So l htl D ca ad st4 _ x3 _ _ e_v5) (fun _ _ _ _ q => ⟨_, q.1⟩)) (xCW (C := "MuseumHouse") 2 hts wd_2_26 wd_1_1 wd_2_23 wd_2_25 wd_0_0 (by decide +kernel) ⟨Nat.le_of_ble_eq_true rfl, Nat.le_of_ble_eq_true rfl⟩) (G.preV hP hS 0 rfl rfl) rfl rfl hl.1 rfl (lv_room (Nat.le_of_ble_eq_true rfl)) d_H_move_28 ⟨Nat.zero_le _, Nat.zero_le _⟩) (fun H locs hP hS => ?_)
        refine lv_istore (lv' := [(7, .int v5), (6, .int v3), (5, .int v1), (0, .ref (ad 0)), (1, .int x1), (2, .int x2), (3, .int x3), (4, .int x4)]) hx hb d_H_move_31 hl (by decide) rfl (fun ls hl => ?_)
        refine lv_aload_n hx hb d_H_move_33 rfl (lv_at hl 3 rfl) ?_
        refine lv_iload hx hb d_H_move_34 (lv_at hl 2 rfl) ?_
        refine lv_iconst (v := 4) hx hb d_H_move_36 (by decide) ?_
        rcases pu_xb_inv h with ⟨v7, st8, e_v7, h⟩ | ⟨v7, st8, e_v7, h⟩
        · refine hCallU G hS (va_runV (As := [.int v1, .int 4]) (rest := []) ⟨hx, hb, hml, hown, hts⟩ (MetX.met (c_H_askRight l htl D ca ad st6 _ v1 4 _ _ e_v7) (fun _ _ _ _ q => ⟨_, q.1⟩)) (xCW (C := "MuseumHouse") 2 hts wd_2_106 wd_1_1 wd_2_103 wd_2_105 wd_0_2 (by decide +kernel) ⟨Nat.le_of_ble_eq_true rfl, Nat.le_of_ble_eq_true rfl⟩) (G.preV hP hS 0 rfl rfl) rfl rfl hl.1 rfl (lv_room (Nat.le_of_ble_eq_true rfl)) d_H_move_37 ⟨Nat.zero_le _, Nat.zero_le _⟩) (fun H locs hP hS => ?_)
          refine lv_aload_n hx hb d_H_move_40 rfl (lv_at hl 3 rfl) ?_
          refine va_get (D := D) (ci := 0) (v := .ref (ad 6)) (C := R_H) (T := T_H) (N := 12) hx hb hts iw_H hown G.1 hP 0 rfl rfl 5 (by decide) (hts _ wd_1_217) (fun _ h9 => h9) rfl d_H_move_41 ?_
          refine lv_iload hx hb d_H_move_44 (lv_at hl 1 rfl) ?_
          refine lv_iload hx hb d_H_move_46 (lv_at hl 7 rfl) ?_
          obtain ⟨v9, e_v9, h⟩ := pu_ob h
          refine pu_callR (va_runV (As := [.int v3, .int x4]) (rest := []) ⟨hx, hb, hml, hown, hts⟩ (c_Mo_hasDay l D ca ad st8 _ v3 x4 v9 e_v9) (xCW (C := "MuseumHouse$Moves") 2 hts wd_3_174 wd_1_8 wd_3_171 wd_3_172 wd_3_173 (by decide +kernel) ⟨Nat.le_of_ble_eq_true rfl, Nat.le_of_ble_eq_true rfl⟩) (G.preV hP hS 6 rfl rfl) rfl rfl hl.1 rfl (lv_room (Nat.le_of_ble_eq_true rfl)) d_H_move_48 ⟨Nat.zero_le _, Nat.zero_le _⟩) ?_
          refine lv_if_ne (tgt := 58) hx hb d_H_move_51 (by decide) (fun c10 => ?_) (fun c10 => ?_)
          · rw [if_neg c10] at h
            refine lv_iconst (v := 0) hx hb d_H_move_58 (by decide) ?_
            exact t_H_move_b59 htl C G () st8 x1 x2 x3 x4 v1 v3 v5 0 h _ _ hP hS ls (lv_sub hl [3, 4, 5, 6, 7, 2, 1, 0] rfl)
          · rw [if_pos c10] at h
            refine lv_iconst (v := 1) hx hb d_H_move_54 (by decide) ?_
            refine lv_goto (tgt := 59) hx hb d_H_move_55 (by decide) ?_
            exact t_H_move_b59 htl C G () st8 x1 x2 x3 x4 v1 v3 v5 1 h _ _ hP hS ls (lv_sub hl [3, 4, 5, 6, 7, 2, 1, 0] rfl)
        · cases h
          exact hThrV G hS hno hlocks ⟨hx, hb, hml, hown, hts⟩ (As := [.int v1, .int 4]) (rest := []) (c_H_askRight l htl D ca ad st6 _ v1 4 _ _ e_v7) (xCW (C := "MuseumHouse") 2 hts wd_2_106 wd_1_1 wd_2_103 wd_2_105 wd_0_2 (by decide +kernel) ⟨Nat.le_of_ble_eq_true rfl, Nat.le_of_ble_eq_true rfl⟩) (G.preV hP hS 0 rfl rfl) rfl rfl hl.1 rfl (lv_room (Nat.le_of_ble_eq_true rfl)) d_H_move_37 ⟨Nat.le_of_ble_eq_true rfl, Nat.le_of_ble_eq_true rfl⟩
      · cases h
        exact hThrV G hS hno hlocks ⟨hx, hb, hml, hown, hts⟩ (As := [.ref (ad 7), .int x3]) (rest := []) (c_H_numberOf_So l htl D ca ad st4 _ x3 _ _ e_v5) (xCW (C := "MuseumHouse") 2 hts wd_2_26 wd_1_1 wd_2_23 wd_2_25 wd_0_0 (by decide +kernel) ⟨Nat.le_of_ble_eq_true rfl, Nat.le_of_ble_eq_true rfl⟩) (G.preV hP hS 0 rfl rfl) rfl rfl hl.1 rfl (lv_room (Nat.le_of_ble_eq_true rfl)) d_H_move_28 ⟨Nat.le_of_ble_eq_true rfl, Nat.le_of_ble_eq_true rfl⟩
    · cases h
      exact hThrV G hS hno hlocks ⟨hx, hb, hml, hown, hts⟩ (As := [.ref (ad 5), .int x2]) (rest := []) (c_H_numberOf_It l htl D ca ad st2 _ x2 _ _ e_v3) (xCW (C := "MuseumHouse") 2 hts wd_2_26 wd_1_1 wd_2_23 wd_2_25 wd_0_0 (by decide +kernel) ⟨Nat.le_of_ble_eq_true rfl, Nat.le_of_ble_eq_true rfl⟩) (G.preV hP hS 0 rfl rfl) rfl rfl hl.1 rfl (lv_room (Nat.le_of_ble_eq_true rfl)) d_H_move_17 ⟨Nat.le_of_ble_eq_true rfl, Nat.le_of_ble_eq_true rfl⟩
  · cases h
    exact hThrV G hS hno hlocks ⟨hx, hb, hml, hown, hts⟩ (As := [.ref (ad 1), .int x1]) (rest := []) (c_H_numberOf_De l htl D ca ad st _ x1 _ _ e_v1) (xCW (C := "MuseumHouse") 2 hts wd_2_26 wd_1_1 wd_2_23 wd_2_25 wd_0_0 (by decide +kernel) ⟨Nat.le_of_ble_eq_true rfl, Nat.le_of_ble_eq_true rfl⟩) (G.preV hP hS 0 rfl rfl) rfl rfl hl.1 rfl (lv_room (Nat.le_of_ble_eq_true rfl)) d_H_move_6 ⟨Nat.le_of_ble_eq_true rfl, Nat.le_of_ble_eq_true rfl⟩
set_option maxHeartbeats 4000000 in
set_option maxRecDepth 100000 in
theorem t_Mo_storeOn_b19 {l : Launch} {p : Program} {e : Env} {s : State} {m : MethodId} {args : Array Value} {below : List Frame} {meth : Method} {c : Code} {D : va_G} {ca : Nat → ClassId} {ad : Nat → Nat} {A : Nat → Prop} {st : pu_St} {r : Int32} (C : hC p s m meth c args b_Mo_storeOn 7 (some .int) "MuseumHouse$Moves") (G : hX D ca ad A s) (hP : va_P D hcl (hW ca ad st) s.heap) (hS : va_S A s.heap s.heap []) :
    ∀ (n : Nat) (x1 x2 x3 x4 x5 x6 : Int32), f_Mo_storeOn_b19 n st x1 x2 x3 x4 x5 x6 = some r → ∀ ls : Array Slot, lv_has ls 7 [(0, .ref (ad 6)), (1, .int x1), (2, .int x2), (3, .int x3), (4, .int x4), (5, .int x5), (6, .int x6)] → W p l e { frames := 2, cells := 0, slots := 0, locals := 42 } s m args below meth c s.heap [] 0 0 (MQ below (QcRead r) args s 0 0 (fun _ => False)) (F0 m 19 ls []) := by
  obtain ⟨hx, hb, hml, hr, hlocks, hno, hown, hts⟩ := id C
  intro n
  induction n with
  | zero => intro x1 x2 x3 x4 x5 x6 h; cases h
  | succ n ih =>
    intro x1 x2 x3 x4 x5 x6 h ls hl
    unfold f_Mo_storeOn_b19 at h
    refine lv_iload hx hb d_Mo_storeOn_19 (lv_at hl 6 rfl) ?_
    refine lv_iload hx hb d_Mo_storeOn_21 (lv_at hl 5 rfl) ?_
    refine lv_icmp_ge (tgt := 72) hx hb d_Mo_storeOn_23 (by decide) (fun c3 => ?_) (fun c3 => ?_)
    · rw [if_pos c3] at h
      refine lv_iload_n hx hb d_Mo_storeOn_72 rfl (lv_at hl 3 rfl) ?_
      have h := Option.some.inj h
      exact W.iret (v := x3) hx hb hr (fun t ht _ => ⟨by rw [h], ht⟩) (fun _ q => by cases q) d_Mo_storeOn_73
    · rw [if_neg c3] at h
      refine lv_aload_n hx hb d_Mo_storeOn_26 rfl (lv_at hl 0 rfl) ?_
      refine va_get (D := D) (ci := 6) (v := .ref (ad 20)) (C := R_Mo) (T := T_Mo) (N := 3) hx hb hts iw_Mo hown G.1 hP 6 rfl rfl 0 (by decide) (hts _ wd_1_128) (fun _ h9 => h9) rfl d_Mo_storeOn_27 ?_
      refine lv_iload hx hb d_Mo_storeOn_30 (lv_at hl 6 rfl) ?_
      obtain ⟨v4, e_v4, h⟩ := pu_ob h
      refine pu_iald hx hb G.1 hP 20 9 rfl rfl e_v4 d_Mo_storeOn_32 ?_
      refine lv_iload_n hx hb d_Mo_storeOn_33 rfl (lv_at hl 2 rfl) ?_
      refine lv_icmp_gt (tgt := 66) hx hb d_Mo_storeOn_34 (by decide) (fun c5 => ?_) (fun c5 => ?_)
      · rw [if_pos c5] at h
        refine lv_iinc (v := (x6 + 1)) (lv' := [(6, .int (x6 + 1)), (0, .ref (ad 6)), (1, .int x1), (2, .int x2), (3, .int x3), (4, .int x4), (5, .int x5)]) hx hb d_Mo_storeOn_66 hl (k := 6) rfl rfl (by decide) rfl (fun ls hl => ?_)
        refine lv_goto (tgt := 19) hx hb d_Mo_storeOn_69 (by decide) ?_
        exact ih x1 x2 x3 x4 x5 (x6 + 1) h ls (lv_sub hl [1, 2, 3, 4, 5, 6, 0] rfl)
      · rw [if_neg c5] at h
        refine lv_aload_n hx hb d_Mo_storeOn_37 rfl (lv_at hl 0 rfl) ?_
        refine va_get (D := D) (ci := 6) (v := .ref (ad 20)) (C := R_Mo) (T := T_Mo) (N := 3) hx hb hts iw_Mo hown G.1 hP 6 rfl rfl 0 (by decide) (hts _ wd_1_128) (fun _ h9 => h9) rfl d_Mo_storeOn_38 ?_
        refine lv_iload hx hb d_Mo_storeOn_41 (lv_at hl 6 rfl) ?_
        obtain ⟨v6, e_v6, h⟩ := pu_ob h
        refine pu_iald hx hb G.1 hP 20 9 rfl rfl e_v6 d_Mo_storeOn_43 ?_
        refine lv_iload hx hb d_Mo_storeOn_44 (lv_at hl 4 rfl) ?_
        refine lv_icmp_le (tgt := 66) hx hb d_Mo_storeOn_46 (by decide) (fun c7 => ?_) (fun c7 => ?_)
        · rw [if_pos c7] at h
          refine lv_iinc (v := (x6 + 1)) (lv' := [(6, .int (x6 + 1)), (0, .ref (ad 6)), (1, .int x1), (2, .int x2), (3, .int x3), (4, .int x4), (5, .int x5)]) hx hb d_Mo_storeOn_66 hl (k := 6) rfl rfl (by decide) rfl (fun ls hl => ?_)
          refine lv_goto (tgt := 19) hx hb d_Mo_storeOn_69 (by decide) ?_
          exact ih x1 x2 x3 x4 x5 (x6 + 1) h ls (lv_sub hl [1, 2, 3, 4, 5, 6, 0] rfl)
        · rw [if_neg c7] at h
          refine lv_aload_n hx hb d_Mo_storeOn_49 rfl (lv_at hl 0 rfl) ?_
          refine va_get (D := D) (ci := 6) (v := .ref (ad 20)) (C := R_Mo) (T := T_Mo) (N := 3) hx hb hts iw_Mo hown G.1 hP 6 rfl rfl 0 (by decide) (hts _ wd_1_128) (fun _ h9 => h9) rfl d_Mo_storeOn_50 ?_
          refine lv_iload hx hb d_Mo_storeOn_53 (lv_at hl 6 rfl) ?_
          obtain ⟨v8, e_v8, h⟩ := pu_ob h
          refine pu_iald hx hb G.1 hP 20 9 rfl rfl e_v8 d_Mo_storeOn_55 ?_
          refine lv_istore (lv' := [(4, .int v8), (0, .ref (ad 6)), (1, .int x1), (2, .int x2), (3, .int x3), (5, .int x5), (6, .int x6)]) hx hb d_Mo_storeOn_56 hl (by decide) rfl (fun ls hl => ?_)
          refine lv_aload_n hx hb d_Mo_storeOn_58 rfl (lv_at hl 1 rfl) ?_
          refine va_get (D := D) (ci := 6) (v := .ref (ad 21)) (C := R_Mo) (T := T_Mo) (N := 3) hx hb hts iw_Mo hown G.1 hP 6 rfl rfl 1 (by decide) (hts _ wd_1_129) (fun _ h9 => h9) rfl d_Mo_storeOn_59 ?_
          refine lv_iload hx hb d_Mo_storeOn_62 (lv_at hl 6 rfl) ?_
          obtain ⟨v9, e_v9, h⟩ := pu_ob h
          refine pu_iald hx hb G.1 hP 21 10 rfl rfl e_v9 d_Mo_storeOn_64 ?_
          refine lv_istore_n (lv' := [(3, .int v9), (4, .int v8), (0, .ref (ad 6)), (1, .int x1), (2, .int x2), (5, .int x5), (6, .int x6)]) hx hb d_Mo_storeOn_65 rfl hl (by decide) rfl (fun ls hl => ?_)
          refine lv_iinc (v := (x6 + 1)) (lv' := [(6, .int (x6 + 1)), (3, .int v9), (4, .int v8), (0, .ref (ad 6)), (1, .int x1), (2, .int x2), (5, .int x5)]) hx hb d_Mo_storeOn_66 hl (k := 6) rfl rfl (by decide) rfl (fun ls hl => ?_)
          refine lv_goto (tgt := 19) hx hb d_Mo_storeOn_69 (by decide) ?_
          exact ih x1 x2 v9 v8 x5 (x6 + 1) h ls (lv_sub hl [3, 4, 5, 1, 2, 6, 0] rfl)
set_option maxHeartbeats 4000000 in
set_option maxRecDepth 100000 in
theorem c_Mo_storeOn (l : Launch) (D : va_G) (ca : Nat → ClassId) (ad : Nat → Nat) (st : pu_St) (sz : Nat) (x1 x2 : Int32) (r : Int32) (h : f_Mo_storeOn st x1 x2 = some r) : Met l y_Mo_storeOn (.code y_Mo_storeOn b_Mo_storeOn 7 (some .int) :: tG) { frames := 2, cells := 0, slots := 0, locals := 42 } (va_Pc [.ref (ad 6), .int x1, .int x2] (hPc D ca ad st sz)) (QcRead r) 0 0 (fun _ => False) := by
  refine hRead (by decide +kernel) ?_
  intro p e s m below meth c C G hP
  obtain ⟨hx, hb, hml, hr, hlocks, hno, hown, hts⟩ := id C
  have hown : s.vm.findClass "MuseumHouse$Moves" = some m.cls := hown
  have hS : va_S (hA ad s.heap.size) s.heap s.heap [] := va_S.rf
  have hl := lv_entry ([.ref (ad 6), .int x1, .int x2]) (n := 7) (Nat.le_of_ble_eq_true rfl)
  rw [lg_entry_eq]
  generalize (lg_sl ([.ref (ad 6), .int x1, .int x2]) ++ List.replicate (7 - (lg_sl ([.ref (ad 6), .int x1, .int x2])).length) Slot.unset).toArray = ls at hl ⊢
  have hl : lv_has ls 7 [(0, .ref (ad 6)), (1, .int x1), (2, .int x2)] := hl
  unfold f_Mo_storeOn at h
  refine lv_iconst (v := (-1)) hx hb d_Mo_storeOn_0 (by decide) ?_
  refine lv_istore_n (lv' := [(3, .int (-1)), (0, .ref (ad 6)), (1, .int x1), (2, .int x2)]) hx hb d_Mo_storeOn_1 rfl hl (by decide) rfl (fun ls hl => ?_)
  refine lv_iconst (v := (-1)) hx hb d_Mo_storeOn_2 (by decide) ?_
  refine lv_istore (lv' := [(4, .int (-1)), (3, .int (-1)), (0, .ref (ad 6)), (1, .int x1), (2, .int x2)]) hx hb d_Mo_storeOn_3 hl (by decide) rfl (fun ls hl => ?_)
  refine lv_aload_n hx hb d_Mo_storeOn_5 rfl (lv_at hl 2 rfl) ?_
  refine lv_iload_n hx hb d_Mo_storeOn_6 rfl (lv_at hl 3 rfl) ?_
  obtain ⟨v1, e_v1, h⟩ := pu_ob h
  refine pu_callR (va_runV (As := [.int x1]) (rest := []) ⟨hx, hb, hml, hown, hts⟩ (c_Mo_endOfSlots l D ca ad st _ x1 v1 e_v1) (xCW (C := "MuseumHouse$Moves") 1 hts wd_3_182 wd_1_8 wd_3_179 wd_3_181 wd_0_9 (by decide +kernel) ⟨Nat.le_of_ble_eq_true rfl, Nat.le_of_ble_eq_true rfl⟩) (G.preV hP hS 6 rfl rfl) rfl rfl hl.1 rfl (lv_room (Nat.le_of_ble_eq_true rfl)) d_Mo_storeOn_7 ⟨Nat.zero_le _, Nat.zero_le _⟩) ?_
  refine lv_istore (lv' := [(5, .int v1), (4, .int (-1)), (3, .int (-1)), (0, .ref (ad 6)), (1, .int x1), (2, .int x2)]) hx hb d_Mo_storeOn_10 hl (by decide) rfl (fun ls hl => ?_)
  refine lv_aload_n hx hb d_Mo_storeOn_12 rfl (lv_at hl 3 rfl) ?_
  refine lv_iload_n hx hb d_Mo_storeOn_13 rfl (lv_at hl 4 rfl) ?_
  obtain ⟨v2, e_v2, h⟩ := pu_ob h
  refine pu_callR (va_runV (As := [.int x1]) (rest := []) ⟨hx, hb, hml, hown, hts⟩ (c_Mo_firstSlot l D ca ad st _ x1 v2 e_v2) (xCW (C := "MuseumHouse$Moves") 1 hts wd_3_186 wd_1_8 wd_3_183 wd_3_185 wd_0_10 (by decide +kernel) ⟨Nat.le_of_ble_eq_true rfl, Nat.le_of_ble_eq_true rfl⟩) (G.preV hP hS 6 rfl rfl) rfl rfl hl.1 rfl (lv_room (Nat.le_of_ble_eq_true rfl)) d_Mo_storeOn_14 ⟨Nat.zero_le _, Nat.zero_le _⟩) ?_
  refine lv_istore (lv' := [(6, .int v2), (5, .int v1), (4, .int (-1)), (3, .int (-1)), (0, .ref (ad 6)), (1, .int x1), (2, .int x2)]) hx hb d_Mo_storeOn_17 hl (by decide) rfl (fun ls hl => ?_)
  exact t_Mo_storeOn_b19 C G hP hS pu_fu x1 x2 (-1) (-1) v1 v2 h ls (lv_sub hl [4, 5, 6, 3, 2, 1, 0] rfl)
set_option maxHeartbeats 4000000 in
set_option maxRecDepth 100000 in
theorem c_H_placeHandle (l : Launch) (D : va_G) (ca : Nat → ClassId) (ad : Nat → Nat) (st : pu_St) (sz : Nat) (x1 x2 : Int32) (r : Int32) (h : f_H_placeHandle st x1 x2 = some r) : Met l y_H_placeHandle (.code y_H_placeHandle b_H_placeHandle 4 (some .int) :: tG) { frames := 3, cells := 0, slots := 0, locals := 68 } (va_Pc [.ref (ad 0), .int x1, .int x2] (hPc D ca ad st sz)) (QcRead r) 0 0 (fun _ => False) := by
  refine hRead (by decide +kernel) ?_
  intro p e s m below meth c C G hP
  obtain ⟨hx, hb, hml, hr, hlocks, hno, hown, hts⟩ := id C
  have hown : s.vm.findClass "MuseumHouse" = some m.cls := hown
  have hS : va_S (hA ad s.heap.size) s.heap s.heap [] := va_S.rf
  have hl := lv_entry ([.ref (ad 0), .int x1, .int x2]) (n := 4) (Nat.le_of_ble_eq_true rfl)
  rw [lg_entry_eq]
  generalize (lg_sl ([.ref (ad 0), .int x1, .int x2]) ++ List.replicate (4 - (lg_sl ([.ref (ad 0), .int x1, .int x2])).length) Slot.unset).toArray = ls at hl ⊢
  have hl : lv_has ls 4 [(0, .ref (ad 0)), (1, .int x1), (2, .int x2)] := hl
  unfold f_H_placeHandle at h
  refine lv_aload_n hx hb d_H_placeHandle_0 rfl (lv_at hl 0 rfl) ?_
  refine va_get (D := D) (ci := 0) (v := .ref (ad 6)) (C := R_H) (T := T_H) (N := 12) hx hb hts iw_H hown G.1 hP 0 rfl rfl 5 (by decide) (hts _ wd_1_217) (fun _ h9 => h9) rfl d_H_placeHandle_1 ?_
  refine lv_iload_n hx hb d_H_placeHandle_4 rfl (lv_at hl 1 rfl) ?_
  refine lv_iload_n hx hb d_H_placeHandle_5 rfl (lv_at hl 2 rfl) ?_
  obtain ⟨v1, e_v1, h⟩ := pu_ob h
  refine pu_callR (va_runV (As := [.int x1, .int x2]) (rest := []) ⟨hx, hb, hml, hown, hts⟩ (c_Mo_storeOn l D ca ad st _ x1 x2 v1 e_v1) (xCW (C := "MuseumHouse$Moves") 2 hts wd_3_223 wd_1_8 wd_3_220 wd_3_221 wd_3_222 (by decide +kernel) ⟨Nat.le_of_ble_eq_true rfl, Nat.le_of_ble_eq_true rfl⟩) (G.preV hP hS 6 rfl rfl) rfl rfl hl.1 rfl (lv_room (Nat.le_of_ble_eq_true rfl)) d_H_placeHandle_6 ⟨Nat.zero_le _, Nat.zero_le _⟩) ?_
  refine lv_istore_n (lv' := [(3, .int v1), (0, .ref (ad 0)), (1, .int x1), (2, .int x2)]) hx hb d_H_placeHandle_9 rfl hl (by decide) rfl (fun ls hl => ?_)
  refine lv_iload_n hx hb d_H_placeHandle_10 rfl (lv_at hl 0 rfl) ?_
  refine lv_iconst (v := (-1)) hx hb d_H_placeHandle_11 (by decide) ?_
  refine lv_icmp_ne (tgt := 19) hx hb d_H_placeHandle_12 (by decide) (fun c2 => ?_) (fun c2 => ?_)
  · rw [if_neg c2] at h
    refine lv_aload_n hx hb d_H_placeHandle_19 rfl (lv_at hl 1 rfl) ?_
    refine va_get (D := D) (ci := 0) (v := .ref (ad 7)) (C := R_H) (T := T_H) (N := 12) hx hb hts iw_H hown G.1 hP 0 rfl rfl 6 (by decide) (hts _ wd_1_218) (fun _ h9 => h9) rfl d_H_placeHandle_20 ?_
    refine lv_iload_n hx hb d_H_placeHandle_23 rfl (lv_at hl 0 rfl) ?_
    obtain ⟨v3, e_v3, h⟩ := pu_ob h
    refine pu_callR (va_runU (As := [.int v1]) (rest := []) ⟨hx, hb, hml, hown, hts⟩ (c_Rg_handleOf_So l D ca ad st _ v1 v3 e_v3) (xCU (C := "MuseumHouse$Stores") (owner := "MuseumHouse$Register") (x := ⟨"MuseumHouse$Stores", "handleOf", "(I)I"⟩) 1 hts wd_2_164 wd_1_2 wd_3_224 wd_3_131 wd_2_163 wd_3_132 rfl (by decide +kernel) ⟨Nat.le_of_ble_eq_true rfl, Nat.le_of_ble_eq_true rfl⟩) (G.preV hP hS 7 rfl rfl) rfl rfl hl.1 rfl (lv_room (Nat.le_of_ble_eq_true rfl)) d_H_placeHandle_24 ⟨Nat.zero_le _, Nat.zero_le _⟩) ?_
    have h := Option.some.inj h
    exact W.iret (v := v3) hx hb hr (fun t ht _ => ⟨by rw [h], ht⟩) (fun _ q => by cases q) d_H_placeHandle_27
  · rw [if_pos c2] at h
    refine lv_iconst (v := 0) hx hb d_H_placeHandle_15 (by decide) ?_
    refine lv_goto (tgt := 27) hx hb d_H_placeHandle_16 (by decide) ?_
    have h := Option.some.inj h
    exact W.iret (v := 0) hx hb hr (fun t ht _ => ⟨by rw [h], ht⟩) (fun _ q => by cases q) d_H_placeHandle_27
set_option maxHeartbeats 4000000 in
set_option maxRecDepth 100000 in
theorem c_H_place (l : Launch) (htl : l.stackTraces = false) (D : va_G) (ca : Nat → ClassId) (ad : Nat → Nat) (st : pu_St) (sz : Nat) (x1 x2 : Int32) (r : Int32 ⊕ Nat) (st' : pu_St) (h : f_H_place st x1 x2 = some (r, st')) : MetX l y_H_place (.code y_H_place b_H_place 4 (some .int) :: tG) { frames := 7, cells := xc r, slots := xs r, locals := 113 } (va_Pc [.ref (ad 0), .int x1, .int x2] (hPc D ca ad st sz)) (hQ D ca ad (fun v => some (.int v)) r st' sz) (xc r) (xs r) (hA ad sz) := by
  refine hMet (by decide +kernel) ?_
  intro p e s m below meth c hsz C G hP
  obtain ⟨hx, hb, hml, hr, hlocks, hno, hown, hts⟩ := id C
  have hown : s.vm.findClass "MuseumHouse" = some m.cls := hown
  have hS : va_S (hA ad s.heap.size) s.heap s.heap [] := va_S.rf
  have hl := lv_entry ([.ref (ad 0), .int x1, .int x2]) (n := 4) (Nat.le_of_ble_eq_true rfl)
  rw [lg_entry_eq]
  generalize (lg_sl ([.ref (ad 0), .int x1, .int x2]) ++ List.replicate (4 - (lg_sl ([.ref (ad 0), .int x1, .int x2])).length) Slot.unset).toArray = ls at hl ⊢
  have hl : lv_has ls 4 [(0, .ref (ad 0)), (1, .int x1), (2, .int x2)] := hl
  unfold f_H_place at h
  refine lv_aload_n hx hb d_H_place_0 rfl (lv_at hl 0 rfl) ?_
  refine lv_aload_n hx hb d_H_place_1 rfl (lv_at hl 0 rfl) ?_
  refine va_get (D := D) (ci := 0) (v := .ref (ad 5)) (C := R_H) (T := T_H) (N := 12) hx hb hts iw_H hown G.1 hP 0 rfl rfl 4 (by decide) (hts _ wd_1_216) (fun _ h9 => h9) rfl d_H_place_2 ?_
  refine lv_iload_n hx hb d_H_place_5 rfl (lv_at hl 1 rfl) ?_
  rcases pu_xb_inv h with ⟨v1, st2, e_v1, h⟩ | ⟨v1, st2, e_v1, h⟩
  · refine hCallI G hS (va_runV (As := [.ref (ad 5), .int x1]) (rest := []) ⟨hx, hb, hml, hown, hts⟩ (MetX.met (c_H_numberOf_It l htl D ca ad st _ x1 _ _ e_v1) (fun _ _ _ _ q => ⟨_, q.1⟩)) (xCW (C := "MuseumHouse") 2 hts wd_2_26 wd_1_1 wd_2_23 wd_2_25 wd_0_0 (by decide +kernel) ⟨Nat.le_of_ble_eq_true rfl, Nat.le_of_ble_eq_true rfl⟩) (G.preV hP hS 0 rfl rfl) rfl rfl hl.1 rfl (lv_room (Nat.le_of_ble_eq_true rfl)) d_H_place_6 ⟨Nat.zero_le _, Nat.zero_le _⟩) (fun H locs hP hS => ?_)
    refine lv_istore_n (lv' := [(3, .int v1), (0, .ref (ad 0)), (1, .int x1), (2, .int x2)]) hx hb d_H_place_9 rfl hl (by decide) rfl (fun ls hl => ?_)
    refine lv_aload_n hx hb d_H_place_10 rfl (lv_at hl 1 rfl) ?_
    refine lv_iconst (v := 4) hx hb d_H_place_11 (by decide) ?_
    refine lv_iload_n hx hb d_H_place_12 rfl (lv_at hl 3 rfl) ?_
    obtain ⟨v3, e_v3, h⟩ := pu_ob h
    refine pu_callR (va_runS (As := [.int x2]) (rest := [.int 4, .ref (ad 0)]) ⟨hx, hb, hml, hown, hts⟩ (c_H_isDay l D ca ad st2 _ x2 v3 e_v3) (xCS 1 hts wd_3_67 wd_1_1 wd_3_65 wd_3_66 (by decide +kernel) ⟨Nat.le_of_ble_eq_true rfl, Nat.le_of_ble_eq_true rfl⟩) (G.preS hP hS) rfl rfl hl.1 rfl (lv_room (Nat.le_of_ble_eq_true rfl)) d_H_place_13 ⟨Nat.zero_le _, Nat.zero_le _⟩) ?_
    rcases pu_xb_inv h with ⟨v4, st5, e_v4, h⟩ | ⟨v4, st5, e_v4, h⟩
    · refine hCallU G hS (va_runV (As := [.int 4, .int v3]) (rest := []) ⟨hx, hb, hml, hown, hts⟩ (MetX.met (c_H_ask l htl D ca ad st2 _ 4 v3 _ _ e_v4) (fun _ _ _ _ q => ⟨_, q.1⟩)) (xCW (C := "MuseumHouse") 2 hts wd_2_139 wd_1_1 wd_2_136 wd_2_138 wd_0_4 (by decide +kernel) ⟨Nat.le_of_ble_eq_true rfl, Nat.le_of_ble_eq_true rfl⟩) (G.preV hP hS 0 rfl rfl) rfl rfl hl.1 rfl (lv_room (Nat.le_of_ble_eq_true rfl)) d_H_place_16 ⟨Nat.zero_le _, Nat.zero_le _⟩) (fun H locs hP hS => ?_)
      refine lv_aload_n hx hb d_H_place_19 rfl (lv_at hl 1 rfl) ?_
      refine lv_iload_n hx hb d_H_place_20 rfl (lv_at hl 0 rfl) ?_
      refine lv_iload_n hx hb d_H_place_21 rfl (lv_at hl 3 rfl) ?_
      obtain ⟨v6, e_v6, h⟩ := pu_ob h
      refine pu_callR (va_runV (As := [.int v1, .int x2]) (rest := []) ⟨hx, hb, hml, hown, hts⟩ (c_H_placeHandle l D ca ad st5 _ v1 x2 v6 e_v6) (xCW (C := "MuseumHouse") 2 hts wd_3_219 wd_1_1 wd_3_216 wd_3_218 wd_0_11 (by decide +kernel) ⟨Nat.le_of_ble_eq_true rfl, Nat.le_of_ble_eq_true rfl⟩) (G.preV hP hS 0 rfl rfl) rfl rfl hl.1 rfl (lv_room (Nat.le_of_ble_eq_true rfl)) d_H_place_22 ⟨Nat.zero_le _, Nat.zero_le _⟩) ?_
      cases h
      exact W.toX (W.iret hx hb hr (fun t ht _ => ⟨rfl, by rw [ht]; exact hP, hS.F ht⟩) hS.2.2 d_H_place_25)
    · cases h
      exact hThrV G hS hno hlocks ⟨hx, hb, hml, hown, hts⟩ (As := [.int 4, .int v3]) (rest := []) (c_H_ask l htl D ca ad st2 _ 4 v3 _ _ e_v4) (xCW (C := "MuseumHouse") 2 hts wd_2_139 wd_1_1 wd_2_136 wd_2_138 wd_0_4 (by decide +kernel) ⟨Nat.le_of_ble_eq_true rfl, Nat.le_of_ble_eq_true rfl⟩) (G.preV hP hS 0 rfl rfl) rfl rfl hl.1 rfl (lv_room (Nat.le_of_ble_eq_true rfl)) d_H_place_16 ⟨Nat.le_of_ble_eq_true rfl, Nat.le_of_ble_eq_true rfl⟩
  · cases h
    exact hThrV G hS hno hlocks ⟨hx, hb, hml, hown, hts⟩ (As := [.ref (ad 5), .int x1]) (rest := []) (c_H_numberOf_It l htl D ca ad st _ x1 _ _ e_v1) (xCW (C := "MuseumHouse") 2 hts wd_2_26 wd_1_1 wd_2_23 wd_2_25 wd_0_0 (by decide +kernel) ⟨Nat.le_of_ble_eq_true rfl, Nat.le_of_ble_eq_true rfl⟩) (G.preV hP hS 0 rfl rfl) rfl rfl hl.1 rfl (lv_room (Nat.le_of_ble_eq_true rfl)) d_H_place_6 ⟨Nat.le_of_ble_eq_true rfl, Nat.le_of_ble_eq_true rfl⟩
set_option maxHeartbeats 4000000 in
set_option maxRecDepth 100000 in
theorem t_H_stored_b25 {l : Launch} (htl : l.stackTraces = false) {p : Program} {e : Env} {s : State} {m : MethodId} {args : Array Value} {below : List Frame} {meth : Method} {c : Code} {D : va_G} {ca : Nat → ClassId} {ad : Nat → Nat} {st' : pu_St} {r : Int32 ⊕ Nat} (C : hC p s m meth c args b_H_stored 7 (some .int) "MuseumHouse") (G : hX D ca ad (hA ad s.heap.size) s) :
    ∀ (n : Nat) (st : pu_St) (x1 x2 x3 x4 x5 : Int32), f_H_stored_b25 n st x1 x2 x3 x4 x5 = some (r, st') → ∀ (H : Heap) (locs : List Loc), va_P D hcl (hW ca ad st) H → va_S (hA ad s.heap.size) s.heap H locs → ∀ ls : Array Slot, lv_has ls 7 [(0, .ref (ad 0)), (1, .int x1), (2, .int x2), (3, .int x3), (4, .int x4), (5, .int x5)] → W p l e { frames := 7, cells := xc r, slots := xs r, locals := 113 } s m args below meth c H locs 0 0 (MQX below (hQ D ca ad (fun v => some (.int v)) r st' s.heap.size) args s (xc r) (xs r) (hA ad s.heap.size)) (F0 m 25 ls []) := by
  obtain ⟨hx, hb, hml, hr, hlocks, hno, hown, hts⟩ := id C
  intro n
  induction n with
  | zero => intro st x1 x2 x3 x4 x5 h; cases h
  | succ n ih =>
    intro st x1 x2 x3 x4 x5 h H locs hP hS ls hl
    unfold f_H_stored_b25 at h
    refine lv_iload hx hb d_H_stored_25 (lv_at hl 5 rfl) ?_
    refine lv_aload_n hx hb d_H_stored_27 rfl (lv_at hl 0 rfl) ?_
    refine va_get (D := D) (ci := 0) (v := .ref (ad 5)) (C := R_H) (T := T_H) (N := 12) hx hb hts iw_H hown G.1 hP 0 rfl rfl 4 (by decide) (hts _ wd_1_216) (fun _ h9 => h9) rfl d_H_stored_28 ?_
    obtain ⟨v6, e_v6, h⟩ := pu_ob h
    refine pu_callR (va_runU (As := []) (rest := [.int x5]) ⟨hx, hb, hml, hown, hts⟩ (c_Rg_size_It l D ca ad st _ v6 e_v6) (xCU (C := "MuseumHouse$Items") (owner := "MuseumHouse$Register") (x := ⟨"MuseumHouse$Items", "size", "()I"⟩) 0 hts wd_3_4 wd_1_2 wd_3_232 wd_3_93 wd_3_3 wd_3_94 rfl (by decide +kernel) ⟨Nat.le_of_ble_eq_true rfl, Nat.le_of_ble_eq_true rfl⟩) (G.preV hP hS 5 rfl rfl) rfl rfl hl.1 rfl (lv_room (Nat.le_of_ble_eq_true rfl)) d_H_stored_31 ⟨Nat.zero_le _, Nat.zero_le _⟩) ?_
    refine lv_icmp_ge (tgt := 77) hx hb d_H_stored_34 (by decide) (fun c7 => ?_) (fun c7 => ?_)
    · rw [if_pos c7] at h
      refine lv_iload hx hb d_H_stored_77 (lv_at hl 4 rfl) ?_
      cases h
      exact W.toX (W.iret hx hb hr (fun t ht _ => ⟨rfl, by rw [ht]; exact hP, hS.F ht⟩) hS.2.2 d_H_stored_79)
    · rw [if_neg c7] at h
      refine lv_aload_n hx hb d_H_stored_37 rfl (lv_at hl 0 rfl) ?_
      refine va_get (D := D) (ci := 0) (v := .ref (ad 6)) (C := R_H) (T := T_H) (N := 12) hx hb hts iw_H hown G.1 hP 0 rfl rfl 5 (by decide) (hts _ wd_1_217) (fun _ h9 => h9) rfl d_H_stored_38 ?_
      refine lv_iload hx hb d_H_stored_41 (lv_at hl 5 rfl) ?_
      refine lv_iload_n hx hb d_H_stored_43 rfl (lv_at hl 2 rfl) ?_
      obtain ⟨v8, e_v8, h⟩ := pu_ob h
      refine pu_callR (va_runV (As := [.int x5, .int x2]) (rest := []) ⟨hx, hb, hml, hown, hts⟩ (c_Mo_storeOn l D ca ad st _ x5 x2 v8 e_v8) (xCW (C := "MuseumHouse$Moves") 2 hts wd_3_223 wd_1_8 wd_3_220 wd_3_221 wd_3_222 (by decide +kernel) ⟨Nat.le_of_ble_eq_true rfl, Nat.le_of_ble_eq_true rfl⟩) (G.preV hP hS 6 rfl rfl) rfl rfl hl.1 rfl (lv_room (Nat.le_of_ble_eq_true rfl)) d_H_stored_44 ⟨Nat.zero_le _, Nat.zero_le _⟩) ?_
      refine lv_istore (lv' := [(6, .int v8), (0, .ref (ad 0)), (1, .int x1), (2, .int x2), (3, .int x3), (4, .int x4), (5, .int x5)]) hx hb d_H_stored_47 hl (by decide) rfl (fun ls hl => ?_)
      refine lv_iload hx hb d_H_stored_49 (lv_at hl 0 rfl) ?_
      refine lv_iconst (v := (-1)) hx hb d_H_stored_51 (by decide) ?_
      refine lv_icmp_eq (tgt := 71) hx hb d_H_stored_52 (by decide) (fun c9 => ?_) (fun c9 => ?_)
      · rw [if_pos c9] at h
        refine lv_iinc (v := (x5 + 1)) (lv' := [(5, .int (x5 + 1)), (6, .int v8), (0, .ref (ad 0)), (1, .int x1), (2, .int x2), (3, .int x3), (4, .int x4)]) hx hb d_H_stored_71 hl (k := 6) rfl rfl (by decide) rfl (fun ls hl => ?_)
        refine lv_goto (tgt := 25) hx hb d_H_stored_74 (by decide) ?_
        exact ih st x1 x2 x3 x4 (x5 + 1) h _ _ hP hS ls (lv_sub hl [2, 3, 4, 5, 6, 0] rfl)
      · rw [if_neg c9] at h
        refine lv_aload_n hx hb d_H_stored_55 rfl (lv_at hl 1 rfl) ?_
        refine va_get (D := D) (ci := 0) (v := .ref (ad 7)) (C := R_H) (T := T_H) (N := 12) hx hb hts iw_H hown G.1 hP 0 rfl rfl 6 (by decide) (hts _ wd_1_218) (fun _ h9 => h9) rfl d_H_stored_56 ?_
        refine lv_iload hx hb d_H_stored_59 (lv_at hl 0 rfl) ?_
        refine lv_iload_n hx hb d_H_stored_61 rfl (lv_at hl 4 rfl) ?_
        obtain ⟨v10, e_v10, h⟩ := pu_ob h
        refine pu_callR (va_runV (As := [.int v8, .int x3]) (rest := []) ⟨hx, hb, hml, hown, hts⟩ (c_So_isAtOrIn l D ca ad st _ v8 x3 v10 e_v10) (xCW (C := "MuseumHouse$Stores") 2 hts wd_3_143 wd_1_9 wd_3_140 wd_3_141 wd_3_142 (by decide +kernel) ⟨Nat.le_of_ble_eq_true rfl, Nat.le_of_ble_eq_true rfl⟩) (G.preV hP hS 7 rfl rfl) rfl rfl hl.1 rfl (lv_room (Nat.le_of_ble_eq_true rfl)) d_H_stored_62 ⟨Nat.zero_le _, Nat.zero_le _⟩) ?_
        refine lv_if_eq (tgt := 71) hx hb d_H_stored_65 (by decide) (fun c11 => ?_) (fun c11 => ?_)
        · rw [if_pos c11] at h
          refine lv_iinc (v := (x5 + 1)) (lv' := [(5, .int (x5 + 1)), (6, .int v8), (0, .ref (ad 0)), (1, .int x1), (2, .int x2), (3, .int x3), (4, .int x4)]) hx hb d_H_stored_71 hl (k := 6) rfl rfl (by decide) rfl (fun ls hl => ?_)
          refine lv_goto (tgt := 25) hx hb d_H_stored_74 (by decide) ?_
          exact ih st x1 x2 x3 x4 (x5 + 1) h _ _ hP hS ls (lv_sub hl [2, 3, 4, 5, 6, 0] rfl)
        · rw [if_neg c11] at h
          refine lv_iinc (v := (x4 + 1)) (lv' := [(4, .int (x4 + 1)), (6, .int v8), (0, .ref (ad 0)), (1, .int x1), (2, .int x2), (3, .int x3), (5, .int x5)]) hx hb d_H_stored_68 hl (k := 5) rfl rfl (by decide) rfl (fun ls hl => ?_)
          refine lv_iinc (v := (x5 + 1)) (lv' := [(5, .int (x5 + 1)), (4, .int (x4 + 1)), (6, .int v8), (0, .ref (ad 0)), (1, .int x1), (2, .int x2), (3, .int x3)]) hx hb d_H_stored_71 hl (k := 6) rfl rfl (by decide) rfl (fun ls hl => ?_)
          refine lv_goto (tgt := 25) hx hb d_H_stored_74 (by decide) ?_
          exact ih st x1 x2 x3 (x4 + 1) (x5 + 1) h _ _ hP hS ls (lv_sub hl [3, 4, 5, 6, 1, 0] rfl)
set_option maxHeartbeats 4000000 in
set_option maxRecDepth 100000 in
theorem c_H_stored (l : Launch) (htl : l.stackTraces = false) (D : va_G) (ca : Nat → ClassId) (ad : Nat → Nat) (st : pu_St) (sz : Nat) (x1 x2 : Int32) (r : Int32 ⊕ Nat) (st' : pu_St) (h : f_H_stored st x1 x2 = some (r, st')) : MetX l y_H_stored (.code y_H_stored b_H_stored 7 (some .int) :: tG) { frames := 7, cells := xc r, slots := xs r, locals := 113 } (va_Pc [.ref (ad 0), .int x1, .int x2] (hPc D ca ad st sz)) (hQ D ca ad (fun v => some (.int v)) r st' sz) (xc r) (xs r) (hA ad sz) := by
  refine hMet (by decide +kernel) ?_
  intro p e s m below meth c hsz C G hP
  obtain ⟨hx, hb, hml, hr, hlocks, hno, hown, hts⟩ := id C
  have hown : s.vm.findClass "MuseumHouse" = some m.cls := hown
  have hS : va_S (hA ad s.heap.size) s.heap s.heap [] := va_S.rf
  have hl := lv_entry ([.ref (ad 0), .int x1, .int x2]) (n := 7) (Nat.le_of_ble_eq_true rfl)
  rw [lg_entry_eq]
  generalize (lg_sl ([.ref (ad 0), .int x1, .int x2]) ++ List.replicate (7 - (lg_sl ([.ref (ad 0), .int x1, .int x2])).length) Slot.unset).toArray = ls at hl ⊢
  have hl : lv_has ls 7 [(0, .ref (ad 0)), (1, .int x1), (2, .int x2)] := hl
  unfold f_H_stored at h
  refine lv_aload_n hx hb d_H_stored_0 rfl (lv_at hl 0 rfl) ?_
  refine lv_aload_n hx hb d_H_stored_1 rfl (lv_at hl 0 rfl) ?_
  refine va_get (D := D) (ci := 0) (v := .ref (ad 7)) (C := R_H) (T := T_H) (N := 12) hx hb hts iw_H hown G.1 hP 0 rfl rfl 6 (by decide) (hts _ wd_1_218) (fun _ h9 => h9) rfl d_H_stored_2 ?_
  refine lv_iload_n hx hb d_H_stored_5 rfl (lv_at hl 1 rfl) ?_
  rcases pu_xb_inv h with ⟨v1, st2, e_v1, h⟩ | ⟨v1, st2, e_v1, h⟩
  · refine hCallI G hS (va_runV (As := [.ref (ad 7), .int x1]) (rest := []) ⟨hx, hb, hml, hown, hts⟩ (MetX.met (c_H_numberOf_So l htl D ca ad st _ x1 _ _ e_v1) (fun _ _ _ _ q => ⟨_, q.1⟩)) (xCW (C := "MuseumHouse") 2 hts wd_2_26 wd_1_1 wd_2_23 wd_2_25 wd_0_0 (by decide +kernel) ⟨Nat.le_of_ble_eq_true rfl, Nat.le_of_ble_eq_true rfl⟩) (G.preV hP hS 0 rfl rfl) rfl rfl hl.1 rfl (lv_room (Nat.le_of_ble_eq_true rfl)) d_H_stored_6 ⟨Nat.zero_le _, Nat.zero_le _⟩) (fun H locs hP hS => ?_)
    refine lv_istore_n (lv' := [(3, .int v1), (0, .ref (ad 0)), (1, .int x1), (2, .int x2)]) hx hb d_H_stored_9 rfl hl (by decide) rfl (fun ls hl => ?_)
    refine lv_aload_n hx hb d_H_stored_10 rfl (lv_at hl 1 rfl) ?_
    refine lv_iconst (v := 4) hx hb d_H_stored_11 (by decide) ?_
    refine lv_iload_n hx hb d_H_stored_12 rfl (lv_at hl 3 rfl) ?_
    obtain ⟨v3, e_v3, h⟩ := pu_ob h
    refine pu_callR (va_runS (As := [.int x2]) (rest := [.int 4, .ref (ad 0)]) ⟨hx, hb, hml, hown, hts⟩ (c_H_isDay l D ca ad st2 _ x2 v3 e_v3) (xCS 1 hts wd_3_67 wd_1_1 wd_3_65 wd_3_66 (by decide +kernel) ⟨Nat.le_of_ble_eq_true rfl, Nat.le_of_ble_eq_true rfl⟩) (G.preS hP hS) rfl rfl hl.1 rfl (lv_room (Nat.le_of_ble_eq_true rfl)) d_H_stored_13 ⟨Nat.zero_le _, Nat.zero_le _⟩) ?_
    rcases pu_xb_inv h with ⟨v4, st5, e_v4, h⟩ | ⟨v4, st5, e_v4, h⟩
    · refine hCallU G hS (va_runV (As := [.int 4, .int v3]) (rest := []) ⟨hx, hb, hml, hown, hts⟩ (MetX.met (c_H_ask l htl D ca ad st2 _ 4 v3 _ _ e_v4) (fun _ _ _ _ q => ⟨_, q.1⟩)) (xCW (C := "MuseumHouse") 2 hts wd_2_139 wd_1_1 wd_2_136 wd_2_138 wd_0_4 (by decide +kernel) ⟨Nat.le_of_ble_eq_true rfl, Nat.le_of_ble_eq_true rfl⟩) (G.preV hP hS 0 rfl rfl) rfl rfl hl.1 rfl (lv_room (Nat.le_of_ble_eq_true rfl)) d_H_stored_16 ⟨Nat.zero_le _, Nat.zero_le _⟩) (fun H locs hP hS => ?_)
      refine lv_iconst (v := 0) hx hb d_H_stored_19 (by decide) ?_
      refine lv_istore (lv' := [(4, .int 0), (3, .int v1), (0, .ref (ad 0)), (1, .int x1), (2, .int x2)]) hx hb d_H_stored_20 hl (by decide) rfl (fun ls hl => ?_)
      refine lv_iconst (v := 0) hx hb d_H_stored_22 (by decide) ?_
      refine lv_istore (lv' := [(5, .int 0), (4, .int 0), (3, .int v1), (0, .ref (ad 0)), (1, .int x1), (2, .int x2)]) hx hb d_H_stored_23 hl (by decide) rfl (fun ls hl => ?_)
      exact t_H_stored_b25 htl C G pu_fu st5 x1 x2 v1 0 0 h _ _ hP hS ls (lv_sub hl [3, 4, 5, 2, 1, 0] rfl)
    · cases h
      exact hThrV G hS hno hlocks ⟨hx, hb, hml, hown, hts⟩ (As := [.int 4, .int v3]) (rest := []) (c_H_ask l htl D ca ad st2 _ 4 v3 _ _ e_v4) (xCW (C := "MuseumHouse") 2 hts wd_2_139 wd_1_1 wd_2_136 wd_2_138 wd_0_4 (by decide +kernel) ⟨Nat.le_of_ble_eq_true rfl, Nat.le_of_ble_eq_true rfl⟩) (G.preV hP hS 0 rfl rfl) rfl rfl hl.1 rfl (lv_room (Nat.le_of_ble_eq_true rfl)) d_H_stored_16 ⟨Nat.le_of_ble_eq_true rfl, Nat.le_of_ble_eq_true rfl⟩
  · cases h
    exact hThrV G hS hno hlocks ⟨hx, hb, hml, hown, hts⟩ (As := [.ref (ad 7), .int x1]) (rest := []) (c_H_numberOf_So l htl D ca ad st _ x1 _ _ e_v1) (xCW (C := "MuseumHouse") 2 hts wd_2_26 wd_1_1 wd_2_23 wd_2_25 wd_0_0 (by decide +kernel) ⟨Nat.le_of_ble_eq_true rfl, Nat.le_of_ble_eq_true rfl⟩) (G.preV hP hS 0 rfl rfl) rfl rfl hl.1 rfl (lv_room (Nat.le_of_ble_eq_true rfl)) d_H_stored_6 ⟨Nat.le_of_ble_eq_true rfl, Nat.le_of_ble_eq_true rfl⟩
set_option maxHeartbeats 4000000 in
set_option maxRecDepth 100000 in
theorem c_Rg_isFull_Lo (l : Launch) (D : va_G) (ca : Nat → ClassId) (ad : Nat → Nat) (st : pu_St) (sz : Nat) (r : Int32) (h : f_Rg_isFull_Lo st = some r) : Met l y_Rg_isFull (.code y_Rg_isFull b_Rg_isFull 1 (some .boolean) :: tG) { frames := 0, cells := 0, slots := 0, locals := 0 } (va_Pc [.ref (ad 8)] (hPc D ca ad st sz)) (QcRead r) 0 0 (fun _ => False) := by
  refine hRead (by decide +kernel) ?_
  intro p e s m below meth c C G hP
  obtain ⟨hx, hb, hml, hr, hlocks, hno, hown, hts⟩ := id C
  have hown : s.vm.findClass "MuseumHouse$Register" = some m.cls := hown
  have hS : va_S (hA ad s.heap.size) s.heap s.heap [] := va_S.rf
  have hl := lv_entry ([.ref (ad 8)]) (n := 1) (Nat.le_of_ble_eq_true rfl)
  rw [lg_entry_eq]
  generalize (lg_sl ([.ref (ad 8)]) ++ List.replicate (1 - (lg_sl ([.ref (ad 8)])).length) Slot.unset).toArray = ls at hl ⊢
  have hl : lv_has ls 1 [(0, .ref (ad 8))] := hl
  unfold f_Rg_isFull_Lo at h
  refine lv_aload_n hx hb d_Rg_isFull_0 rfl (lv_at hl 0 rfl) ?_
  refine va_get (D := D) (ci := 8) (v := .int (st.1 8)) (C := R_Lo) (T := T_Lo) (N := 6) hx hb hts iw_Lo hown G.1 hP 8 rfl rfl 2 (by decide) (hts _ wd_1_47) (fun _ h9 => h9) rfl d_Rg_isFull_1 ?_
  refine lv_aload_n hx hb d_Rg_isFull_4 rfl (lv_at hl 0 rfl) ?_
  refine va_get (D := D) (ci := 8) (v := .int 40) (C := R_Lo) (T := T_Lo) (N := 6) hx hb hts iw_Lo hown G.1 hP 8 rfl rfl 1 (by decide) (hts _ wd_1_46) (fun _ h9 => h9) rfl d_Rg_isFull_5 ?_
  refine lv_icmp_lt (tgt := 15) hx hb d_Rg_isFull_8 (by decide) (fun c1 => ?_) (fun c1 => ?_)
  · rw [if_pos c1] at h
    refine lv_iconst (v := 0) hx hb d_Rg_isFull_15 (by decide) ?_
    have h := Option.some.inj h
    exact W.zret (v := 0) (ty := .boolean) hx hb hr rfl (fun t ht _ => ⟨by rw [h], ht⟩) (fun _ q => by cases q) d_Rg_isFull_16
  · rw [if_neg c1] at h
    refine lv_iconst (v := 1) hx hb d_Rg_isFull_11 (by decide) ?_
    refine lv_goto (tgt := 16) hx hb d_Rg_isFull_12 (by decide) ?_
    have h := Option.some.inj h
    exact W.zret (v := 1) (ty := .boolean) hx hb hr rfl (fun t ht _ => ⟨by rw [h], ht⟩) (fun _ q => by cases q) d_Rg_isFull_16
set_option maxHeartbeats 4000000 in
set_option maxRecDepth 100000 in
theorem c_Rg_size_Cl (l : Launch) (D : va_G) (ca : Nat → ClassId) (ad : Nat → Nat) (st : pu_St) (sz : Nat) (r : Int32) (h : f_Rg_size_Cl st = some r) : Met l y_Rg_size (.code y_Rg_size b_Rg_size 1 (some .int) :: tG) { frames := 0, cells := 0, slots := 0, locals := 0 } (va_Pc [.ref (ad 10)] (hPc D ca ad st sz)) (QcRead r) 0 0 (fun _ => False) := by
  refine hRead (by decide +kernel) ?_
  intro p e s m below meth c C G hP
  obtain ⟨hx, hb, hml, hr, hlocks, hno, hown, hts⟩ := id C
  have hown : s.vm.findClass "MuseumHouse$Register" = some m.cls := hown
  have hS : va_S (hA ad s.heap.size) s.heap s.heap [] := va_S.rf
  have hl := lv_entry ([.ref (ad 10)]) (n := 1) (Nat.le_of_ble_eq_true rfl)
  rw [lg_entry_eq]
  generalize (lg_sl ([.ref (ad 10)]) ++ List.replicate (1 - (lg_sl ([.ref (ad 10)])).length) Slot.unset).toArray = ls at hl ⊢
  have hl : lv_has ls 1 [(0, .ref (ad 10))] := hl
  unfold f_Rg_size_Cl at h
  refine lv_aload_n hx hb d_Rg_size_0 rfl (lv_at hl 0 rfl) ?_
  refine va_get (D := D) (ci := 10) (v := .int (st.1 10)) (C := R_Cl) (T := T_Cl) (N := 6) hx hb hts iw_Cl hown G.1 hP 10 rfl rfl 2 (by decide) (hts _ wd_1_47) (fun _ h9 => h9) rfl d_Rg_size_1 ?_
  have h := Option.some.inj h
  exact W.iret (v := (st.1 10)) hx hb hr (fun t ht _ => ⟨by rw [h], ht⟩) (fun _ q => by cases q) d_Rg_size_4
set_option maxHeartbeats 4000000 in
set_option maxRecDepth 100000 in
theorem t_Cl_openFor_b4 {l : Launch} {p : Program} {e : Env} {s : State} {m : MethodId} {args : Array Value} {below : List Frame} {meth : Method} {c : Code} {D : va_G} {ca : Nat → ClassId} {ad : Nat → Nat} {A : Nat → Prop} {st : pu_St} {r : Int32} (C : hC p s m meth c args b_Cl_openFor 4 (some .int) "MuseumHouse$Claims") (G : hX D ca ad A s) (hP : va_P D hcl (hW ca ad st) s.heap) (hS : va_S A s.heap s.heap []) :
    ∀ (n : Nat) (x1 x2 x3 : Int32), f_Cl_openFor_b4 n st x1 x2 x3 = some r → ∀ ls : Array Slot, lv_has ls 4 [(0, .ref (ad 10)), (1, .int x1), (2, .int x2), (3, .int x3)] → W p l e { frames := 1, cells := 0, slots := 0, locals := 20 } s m args below meth c s.heap [] 0 0 (MQ below (QcRead r) args s 0 0 (fun _ => False)) (F0 m 4 ls []) := by
  obtain ⟨hx, hb, hml, hr, hlocks, hno, hown, hts⟩ := id C
  intro n
  induction n with
  | zero => intro x1 x2 x3 h; cases h
  | succ n ih =>
    intro x1 x2 x3 h ls hl
    unfold f_Cl_openFor_b4 at h
    refine lv_iload_n hx hb d_Cl_openFor_4 rfl (lv_at hl 3 rfl) ?_
    refine lv_aload_n hx hb d_Cl_openFor_5 rfl (lv_at hl 0 rfl) ?_
    obtain ⟨v1, e_v1, h⟩ := pu_ob h
    refine pu_callR (va_runU (As := []) (rest := [.int x3]) ⟨hx, hb, hml, hown, hts⟩ (c_Rg_size_Cl l D ca ad st _ v1 e_v1) (xCU (C := "MuseumHouse$Claims") (owner := "MuseumHouse$Register") (x := ⟨"MuseumHouse$Claims", "size", "()I"⟩) 0 hts wd_3_4 wd_1_2 wd_4_11 wd_4_12 wd_3_3 wd_4_13 rfl (by decide +kernel) ⟨Nat.le_of_ble_eq_true rfl, Nat.le_of_ble_eq_true rfl⟩) (G.preV hP hS 10 rfl rfl) rfl rfl hl.1 rfl (lv_room (Nat.le_of_ble_eq_true rfl)) d_Cl_openFor_6 ⟨Nat.zero_le _, Nat.zero_le _⟩) ?_
    refine lv_icmp_ge (tgt := 40) hx hb d_Cl_openFor_9 (by decide) (fun c2 => ?_) (fun c2 => ?_)
    · rw [if_pos c2] at h
      refine lv_iload_n hx hb d_Cl_openFor_40 rfl (lv_at hl 2 rfl) ?_
      have h := Option.some.inj h
      exact W.iret (v := x2) hx hb hr (fun t ht _ => ⟨by rw [h], ht⟩) (fun _ q => by cases q) d_Cl_openFor_41
    · rw [if_neg c2] at h
      refine lv_aload_n hx hb d_Cl_openFor_12 rfl (lv_at hl 0 rfl) ?_
      refine va_get (D := D) (ci := 10) (v := .ref (ad 33)) (C := R_Cl) (T := T_Cl) (N := 6) hx hb hts iw_Cl hown G.1 hP 10 rfl rfl 5 (by decide) (hts _ wd_1_200) (fun _ h9 => h9) rfl d_Cl_openFor_13 ?_
      refine lv_iload_n hx hb d_Cl_openFor_16 rfl (lv_at hl 3 rfl) ?_
      obtain ⟨v3, e_v3, h⟩ := pu_ob h
      refine pu_zald hx hb G.1 hP 33 22 rfl rfl e_v3 d_Cl_openFor_17 ?_
      refine lv_if_eq (tgt := 34) hx hb d_Cl_openFor_18 (by decide) (fun c4 => ?_) (fun c4 => ?_)
      · rw [if_pos c4] at h
        refine lv_iinc (v := (x3 + 1)) (lv' := [(3, .int (x3 + 1)), (0, .ref (ad 10)), (1, .int x1), (2, .int x2)]) hx hb d_Cl_openFor_34 hl (k := 3) rfl rfl (by decide) rfl (fun ls hl => ?_)
        refine lv_goto (tgt := 4) hx hb d_Cl_openFor_37 (by decide) ?_
        exact ih x1 x2 (x3 + 1) h ls (lv_sub hl [1, 2, 3, 0] rfl)
      · rw [if_neg c4] at h
        refine lv_aload_n hx hb d_Cl_openFor_21 rfl (lv_at hl 0 rfl) ?_
        refine va_get (D := D) (ci := 10) (v := .ref (ad 31)) (C := R_Cl) (T := T_Cl) (N := 6) hx hb hts iw_Cl hown G.1 hP 10 rfl rfl 3 (by decide) (hts _ wd_1_198) (fun _ h9 => h9) rfl d_Cl_openFor_22 ?_
        refine lv_iload_n hx hb d_Cl_openFor_25 rfl (lv_at hl 3 rfl) ?_
        obtain ⟨v5, e_v5, h⟩ := pu_ob h
        refine pu_iald hx hb G.1 hP 31 20 rfl rfl e_v5 d_Cl_openFor_26 ?_
        refine lv_iload_n hx hb d_Cl_openFor_27 rfl (lv_at hl 1 rfl) ?_
        refine lv_icmp_ne (tgt := 34) hx hb d_Cl_openFor_28 (by decide) (fun c6 => ?_) (fun c6 => ?_)
        · rw [if_neg c6] at h
          refine lv_iinc (v := (x3 + 1)) (lv' := [(3, .int (x3 + 1)), (0, .ref (ad 10)), (1, .int x1), (2, .int x2)]) hx hb d_Cl_openFor_34 hl (k := 3) rfl rfl (by decide) rfl (fun ls hl => ?_)
          refine lv_goto (tgt := 4) hx hb d_Cl_openFor_37 (by decide) ?_
          exact ih x1 x2 (x3 + 1) h ls (lv_sub hl [1, 2, 3, 0] rfl)
        · rw [if_pos c6] at h
          refine lv_iinc (v := (x2 + 1)) (lv' := [(2, .int (x2 + 1)), (0, .ref (ad 10)), (1, .int x1), (3, .int x3)]) hx hb d_Cl_openFor_31 hl (k := 2) rfl rfl (by decide) rfl (fun ls hl => ?_)
          refine lv_iinc (v := (x3 + 1)) (lv' := [(3, .int (x3 + 1)), (2, .int (x2 + 1)), (0, .ref (ad 10)), (1, .int x1)]) hx hb d_Cl_openFor_34 hl (k := 3) rfl rfl (by decide) rfl (fun ls hl => ?_)
          refine lv_goto (tgt := 4) hx hb d_Cl_openFor_37 (by decide) ?_
          exact ih x1 (x2 + 1) (x3 + 1) h ls (lv_sub hl [2, 3, 1, 0] rfl)
set_option maxHeartbeats 4000000 in
set_option maxRecDepth 100000 in
theorem c_Cl_openFor (l : Launch) (D : va_G) (ca : Nat → ClassId) (ad : Nat → Nat) (st : pu_St) (sz : Nat) (x1 : Int32) (r : Int32) (h : f_Cl_openFor st x1 = some r) : Met l y_Cl_openFor (.code y_Cl_openFor b_Cl_openFor 4 (some .int) :: tG) { frames := 1, cells := 0, slots := 0, locals := 20 } (va_Pc [.ref (ad 10), .int x1] (hPc D ca ad st sz)) (QcRead r) 0 0 (fun _ => False) := by
  refine hRead (by decide +kernel) ?_
  intro p e s m below meth c C G hP
  obtain ⟨hx, hb, hml, hr, hlocks, hno, hown, hts⟩ := id C
  have hown : s.vm.findClass "MuseumHouse$Claims" = some m.cls := hown
  have hS : va_S (hA ad s.heap.size) s.heap s.heap [] := va_S.rf
  have hl := lv_entry ([.ref (ad 10), .int x1]) (n := 4) (Nat.le_of_ble_eq_true rfl)
  rw [lg_entry_eq]
  generalize (lg_sl ([.ref (ad 10), .int x1]) ++ List.replicate (4 - (lg_sl ([.ref (ad 10), .int x1])).length) Slot.unset).toArray = ls at hl ⊢
  have hl : lv_has ls 4 [(0, .ref (ad 10)), (1, .int x1)] := hl
  unfold f_Cl_openFor at h
  refine lv_iconst (v := 0) hx hb d_Cl_openFor_0 (by decide) ?_
  refine lv_istore_n (lv' := [(2, .int 0), (0, .ref (ad 10)), (1, .int x1)]) hx hb d_Cl_openFor_1 rfl hl (by decide) rfl (fun ls hl => ?_)
  refine lv_iconst (v := 0) hx hb d_Cl_openFor_2 (by decide) ?_
  refine lv_istore_n (lv' := [(3, .int 0), (2, .int 0), (0, .ref (ad 10)), (1, .int x1)]) hx hb d_Cl_openFor_3 rfl hl (by decide) rfl (fun ls hl => ?_)
  exact t_Cl_openFor_b4 C G hP hS pu_fu x1 0 0 h ls (lv_sub hl [2, 3, 1, 0] rfl)
set_option maxHeartbeats 4000000 in
set_option maxRecDepth 100000 in
theorem c_Rg_size_Sh (l : Launch) (D : va_G) (ca : Nat → ClassId) (ad : Nat → Nat) (st : pu_St) (sz : Nat) (r : Int32) (h : f_Rg_size_Sh st = some r) : Met l y_Rg_size (.code y_Rg_size b_Rg_size 1 (some .int) :: tG) { frames := 0, cells := 0, slots := 0, locals := 0 } (va_Pc [.ref (ad 9)] (hPc D ca ad st sz)) (QcRead r) 0 0 (fun _ => False) := by
  refine hRead (by decide +kernel) ?_
  intro p e s m below meth c C G hP
  obtain ⟨hx, hb, hml, hr, hlocks, hno, hown, hts⟩ := id C
  have hown : s.vm.findClass "MuseumHouse$Register" = some m.cls := hown
  have hS : va_S (hA ad s.heap.size) s.heap s.heap [] := va_S.rf
  have hl := lv_entry ([.ref (ad 9)]) (n := 1) (Nat.le_of_ble_eq_true rfl)
  rw [lg_entry_eq]
  generalize (lg_sl ([.ref (ad 9)]) ++ List.replicate (1 - (lg_sl ([.ref (ad 9)])).length) Slot.unset).toArray = ls at hl ⊢
  have hl : lv_has ls 1 [(0, .ref (ad 9))] := hl
  unfold f_Rg_size_Sh at h
  refine lv_aload_n hx hb d_Rg_size_0 rfl (lv_at hl 0 rfl) ?_
  refine va_get (D := D) (ci := 9) (v := .int (st.1 9)) (C := R_Sh) (T := T_Sh) (N := 7) hx hb hts iw_Sh hown G.1 hP 9 rfl rfl 2 (by decide) (hts _ wd_1_47) (fun _ h9 => h9) rfl d_Rg_size_1 ?_
  have h := Option.some.inj h
  exact W.iret (v := (st.1 9)) hx hb hr (fun t ht _ => ⟨by rw [h], ht⟩) (fun _ q => by cases q) d_Rg_size_4
set_option maxHeartbeats 4000000 in
set_option maxRecDepth 100000 in
theorem c_Sh_holds (l : Launch) (D : va_G) (ca : Nat → ClassId) (ad : Nat → Nat) (st : pu_St) (sz : Nat) (x1 x2 : Int32) (r : Int32) (h : f_Sh_holds st x1 x2 = some r) : Met l y_Sh_holds (.code y_Sh_holds b_Sh_holds 3 (some .boolean) :: tG) { frames := 0, cells := 0, slots := 0, locals := 0 } (va_Pc [.ref (ad 9), .int x1, .int x2] (hPc D ca ad st sz)) (QcRead r) 0 0 (fun _ => False) := by
  refine hRead (by decide +kernel) ?_
  intro p e s m below meth c C G hP
  obtain ⟨hx, hb, hml, hr, hlocks, hno, hown, hts⟩ := id C
  have hown : s.vm.findClass "MuseumHouse$Shows" = some m.cls := hown
  have hS : va_S (hA ad s.heap.size) s.heap s.heap [] := va_S.rf
  have hl := lv_entry ([.ref (ad 9), .int x1, .int x2]) (n := 3) (Nat.le_of_ble_eq_true rfl)
  rw [lg_entry_eq]
  generalize (lg_sl ([.ref (ad 9), .int x1, .int x2]) ++ List.replicate (3 - (lg_sl ([.ref (ad 9), .int x1, .int x2])).length) Slot.unset).toArray = ls at hl ⊢
  have hl : lv_has ls 3 [(0, .ref (ad 9)), (1, .int x1), (2, .int x2)] := hl
  unfold f_Sh_holds at h
  refine lv_aload_n hx hb d_Sh_holds_0 rfl (lv_at hl 0 rfl) ?_
  refine va_get (D := D) (ci := 9) (v := .ref (ad 30)) (C := R_Sh) (T := T_Sh) (N := 7) hx hb hts iw_Sh hown G.1 hP 9 rfl rfl 6 (by decide) (hts _ wd_1_179) (fun _ h9 => h9) rfl d_Sh_holds_1 ?_
  refine lv_iload_n hx hb d_Sh_holds_4 rfl (lv_at hl 1 rfl) ?_
  obtain ⟨v1, e_v1, h⟩ := pu_ob h
  refine pu_iald hx hb G.1 hP 30 19 rfl rfl e_v1 d_Sh_holds_5 ?_
  refine lv_iconst (v := 1) hx hb d_Sh_holds_6 (by decide) ?_
  refine lv_iload_n hx hb d_Sh_holds_7 rfl (lv_at hl 2 rfl) ?_
  refine lv_ishl hx hb d_Sh_holds_8 ?_
  refine lv_iand hx hb d_Sh_holds_9 ?_
  refine lv_if_eq (tgt := 17) hx hb d_Sh_holds_10 (by decide) (fun c2 => ?_) (fun c2 => ?_)
  · rw [if_pos c2] at h
    refine lv_iconst (v := 0) hx hb d_Sh_holds_17 (by decide) ?_
    have h := Option.some.inj h
    exact W.zret (v := 0) (ty := .boolean) hx hb hr rfl (fun t ht _ => ⟨by rw [h], ht⟩) (fun _ q => by cases q) d_Sh_holds_18
  · rw [if_neg c2] at h
    refine lv_iconst (v := 1) hx hb d_Sh_holds_13 (by decide) ?_
    refine lv_goto (tgt := 18) hx hb d_Sh_holds_14 (by decide) ?_
    have h := Option.some.inj h
    exact W.zret (v := 1) (ty := .boolean) hx hb hr rfl (fun t ht _ => ⟨by rw [h], ht⟩) (fun _ q => by cases q) d_Sh_holds_18
set_option maxHeartbeats 4000000 in
set_option maxRecDepth 100000 in
theorem t_Sh_having_b3 {l : Launch} {p : Program} {e : Env} {s : State} {m : MethodId} {args : Array Value} {below : List Frame} {meth : Method} {c : Code} {D : va_G} {ca : Nat → ClassId} {ad : Nat → Nat} {A : Nat → Prop} {st : pu_St} {r : Int32} (C : hC p s m meth c args b_Sh_having 5 (some .int) "MuseumHouse$Shows") (G : hX D ca ad A s) (hP : va_P D hcl (hW ca ad st) s.heap) (hS : va_S A s.heap s.heap []) :
    ∀ (n : Nat) (x1 x2 x3 x4 : Int32), f_Sh_having_b3 n st x1 x2 x3 x4 = some r → ∀ ls : Array Slot, lv_has ls 5 [(0, .ref (ad 9)), (1, .int x1), (2, .int x2), (3, .int x3), (4, .int x4)] → W p l e { frames := 1, cells := 0, slots := 0, locals := 23 } s m args below meth c s.heap [] 0 0 (MQ below (QcRead r) args s 0 0 (fun _ => False)) (F0 m 3 ls []) := by
  obtain ⟨hx, hb, hml, hr, hlocks, hno, hown, hts⟩ := id C
  intro n
  induction n with
  | zero => intro x1 x2 x3 x4 h; cases h
  | succ n ih =>
    intro x1 x2 x3 x4 h ls hl
    unfold f_Sh_having_b3 at h
    refine lv_iload hx hb d_Sh_having_3 (lv_at hl 4 rfl) ?_
    refine lv_aload_n hx hb d_Sh_having_5 rfl (lv_at hl 0 rfl) ?_
    obtain ⟨v1, e_v1, h⟩ := pu_ob h
    refine pu_callR (va_runU (As := []) (rest := [.int x4]) ⟨hx, hb, hml, hown, hts⟩ (c_Rg_size_Sh l D ca ad st _ v1 e_v1) (xCU (C := "MuseumHouse$Shows") (owner := "MuseumHouse$Register") (x := ⟨"MuseumHouse$Shows", "size", "()I"⟩) 0 hts wd_3_4 wd_1_2 wd_4_18 wd_4_19 wd_3_3 wd_4_20 rfl (by decide +kernel) ⟨Nat.le_of_ble_eq_true rfl, Nat.le_of_ble_eq_true rfl⟩) (G.preV hP hS 9 rfl rfl) rfl rfl hl.1 rfl (lv_room (Nat.le_of_ble_eq_true rfl)) d_Sh_having_6 ⟨Nat.zero_le _, Nat.zero_le _⟩) ?_
    refine lv_icmp_ge (tgt := 53) hx hb d_Sh_having_9 (by decide) (fun c2 => ?_) (fun c2 => ?_)
    · rw [if_pos c2] at h
      refine lv_iconst (v := (-1)) hx hb d_Sh_having_53 (by decide) ?_
      have h := Option.some.inj h
      exact W.iret (v := (-1)) hx hb hr (fun t ht _ => ⟨by rw [h], ht⟩) (fun _ q => by cases q) d_Sh_having_54
    · rw [if_neg c2] at h
      refine lv_aload_n hx hb d_Sh_having_12 rfl (lv_at hl 0 rfl) ?_
      refine lv_iload hx hb d_Sh_having_13 (lv_at hl 4 rfl) ?_
      refine lv_iload_n hx hb d_Sh_having_15 rfl (lv_at hl 1 rfl) ?_
      obtain ⟨v3, e_v3, h⟩ := pu_ob h
      refine pu_callR (va_runV (As := [.int x4, .int x1]) (rest := []) ⟨hx, hb, hml, hown, hts⟩ (c_Sh_holds l D ca ad st _ x4 x1 v3 e_v3) (xCW (C := "MuseumHouse$Shows") 2 hts wd_4_24 wd_1_11 wd_4_21 wd_4_22 wd_4_23 (by decide +kernel) ⟨Nat.le_of_ble_eq_true rfl, Nat.le_of_ble_eq_true rfl⟩) (G.preV hP hS 9 rfl rfl) rfl rfl hl.1 rfl (lv_room (Nat.le_of_ble_eq_true rfl)) d_Sh_having_16 ⟨Nat.zero_le _, Nat.zero_le _⟩) ?_
      refine lv_if_eq (tgt := 47) hx hb d_Sh_having_19 (by decide) (fun c4 => ?_) (fun c4 => ?_)
      · rw [if_pos c4] at h
        refine lv_iinc (v := (x4 + 1)) (lv' := [(4, .int (x4 + 1)), (0, .ref (ad 9)), (1, .int x1), (2, .int x2), (3, .int x3)]) hx hb d_Sh_having_47 hl (k := 4) rfl rfl (by decide) rfl (fun ls hl => ?_)
        refine lv_goto (tgt := 3) hx hb d_Sh_having_50 (by decide) ?_
        exact ih x1 x2 x3 (x4 + 1) h ls (lv_sub hl [1, 2, 3, 4, 0] rfl)
      · rw [if_neg c4] at h
        refine lv_aload_n hx hb d_Sh_having_22 rfl (lv_at hl 0 rfl) ?_
        refine va_get (D := D) (ci := 9) (v := .ref (ad 28)) (C := R_Sh) (T := T_Sh) (N := 7) hx hb hts iw_Sh hown G.1 hP 9 rfl rfl 4 (by decide) (hts _ wd_1_177) (fun _ h9 => h9) rfl d_Sh_having_23 ?_
        refine lv_iload hx hb d_Sh_having_26 (lv_at hl 4 rfl) ?_
        obtain ⟨v5, e_v5, h⟩ := pu_ob h
        refine pu_iald hx hb G.1 hP 28 17 rfl rfl e_v5 d_Sh_having_28 ?_
        refine lv_aload_n hx hb d_Sh_having_29 rfl (lv_at hl 0 rfl) ?_
        refine va_get (D := D) (ci := 9) (v := .ref (ad 29)) (C := R_Sh) (T := T_Sh) (N := 7) hx hb hts iw_Sh hown G.1 hP 9 rfl rfl 5 (by decide) (hts _ wd_1_178) (fun _ h9 => h9) rfl d_Sh_having_30 ?_
        refine lv_iload hx hb d_Sh_having_33 (lv_at hl 4 rfl) ?_
        obtain ⟨v6, e_v6, h⟩ := pu_ob h
        refine pu_iald hx hb G.1 hP 29 18 rfl rfl e_v6 d_Sh_having_35 ?_
        refine lv_iload_n hx hb d_Sh_having_36 rfl (lv_at hl 2 rfl) ?_
        refine lv_iload_n hx hb d_Sh_having_37 rfl (lv_at hl 3 rfl) ?_
        obtain ⟨v7, e_v7, h⟩ := pu_ob h
        refine pu_callR (va_runSN (As := [.int v5, .int v6, .int x2, .int x3]) (rest := []) ⟨hx, hb, hml, hown, hts⟩ (c_H_daysMeet l D ca ad st _ v5 v6 x2 x3 v7 e_v7) (xCN 4 hts wd_3_204 wd_1_1 G.2.2.2.2.2.2 wd_3_203 (by decide +kernel) ⟨Nat.le_of_ble_eq_true rfl, Nat.le_of_ble_eq_true rfl⟩) (G.preS hP hS) rfl rfl hl.1 rfl (lv_room (Nat.le_of_ble_eq_true rfl)) d_Sh_having_38 ⟨Nat.zero_le _, Nat.zero_le _⟩) ?_
        refine lv_if_eq (tgt := 47) hx hb d_Sh_having_41 (by decide) (fun c8 => ?_) (fun c8 => ?_)
        · rw [if_pos c8] at h
          refine lv_iinc (v := (x4 + 1)) (lv' := [(4, .int (x4 + 1)), (0, .ref (ad 9)), (1, .int x1), (2, .int x2), (3, .int x3)]) hx hb d_Sh_having_47 hl (k := 4) rfl rfl (by decide) rfl (fun ls hl => ?_)
          refine lv_goto (tgt := 3) hx hb d_Sh_having_50 (by decide) ?_
          exact ih x1 x2 x3 (x4 + 1) h ls (lv_sub hl [1, 2, 3, 4, 0] rfl)
        · rw [if_neg c8] at h
          refine lv_iload hx hb d_Sh_having_44 (lv_at hl 4 rfl) ?_
          have h := Option.some.inj h
          exact W.iret (v := x4) hx hb hr (fun t ht _ => ⟨by rw [h], ht⟩) (fun _ q => by cases q) d_Sh_having_46
set_option maxHeartbeats 4000000 in
set_option maxRecDepth 100000 in
theorem c_Sh_having (l : Launch) (D : va_G) (ca : Nat → ClassId) (ad : Nat → Nat) (st : pu_St) (sz : Nat) (x1 x2 x3 : Int32) (r : Int32) (h : f_Sh_having st x1 x2 x3 = some r) : Met l y_Sh_having (.code y_Sh_having b_Sh_having 5 (some .int) :: tG) { frames := 1, cells := 0, slots := 0, locals := 23 } (va_Pc [.ref (ad 9), .int x1, .int x2, .int x3] (hPc D ca ad st sz)) (QcRead r) 0 0 (fun _ => False) := by
  refine hRead (by decide +kernel) ?_
  intro p e s m below meth c C G hP
  obtain ⟨hx, hb, hml, hr, hlocks, hno, hown, hts⟩ := id C
  have hown : s.vm.findClass "MuseumHouse$Shows" = some m.cls := hown
  have hS : va_S (hA ad s.heap.size) s.heap s.heap [] := va_S.rf
  have hl := lv_entry ([.ref (ad 9), .int x1, .int x2, .int x3]) (n := 5) (Nat.le_of_ble_eq_true rfl)
  rw [lg_entry_eq]
  generalize (lg_sl ([.ref (ad 9), .int x1, .int x2, .int x3]) ++ List.replicate (5 - (lg_sl ([.ref (ad 9), .int x1, .int x2, .int x3])).length) Slot.unset).toArray = ls at hl ⊢
  have hl : lv_has ls 5 [(0, .ref (ad 9)), (1, .int x1), (2, .int x2), (3, .int x3)] := hl
  unfold f_Sh_having at h
  refine lv_iconst (v := 0) hx hb d_Sh_having_0 (by decide) ?_
  refine lv_istore (lv' := [(4, .int 0), (0, .ref (ad 9)), (1, .int x1), (2, .int x2), (3, .int x3)]) hx hb d_Sh_having_1 hl (by decide) rfl (fun ls hl => ?_)
  exact t_Sh_having_b3 C G hP hS pu_fu x1 x2 x3 0 h ls (lv_sub hl [1, 2, 3, 4, 0] rfl)
set_option maxHeartbeats 4000000 in
set_option maxRecDepth 100000 in
theorem t_H_askFree_b81 {l : Launch} (htl : l.stackTraces = false) {p : Program} {e : Env} {s : State} {m : MethodId} {args : Array Value} {below : List Frame} {meth : Method} {c : Code} {D : va_G} {ca : Nat → ClassId} {ad : Nat → Nat} {st' : pu_St} {r : Int32 ⊕ Nat} (C : hC p s m meth c args b_H_askFree 4 none "MuseumHouse") (G : hX D ca ad (hA ad s.heap.size) s) :
    ∀ (_ : Unit) (st : pu_St) (x1 x2 x3 z0 z1 : Int32), f_H_askFree_b81 st x1 x2 x3 z0 z1 = some (r, st') → ∀ (H : Heap) (locs : List Loc), va_P D hcl (hW ca ad st) H → va_S (hA ad s.heap.size) s.heap H locs → ∀ ls : Array Slot, lv_has ls 4 [(0, .ref (ad 0)), (1, .int x1), (2, .int x2), (3, .int x3)] → W p l e { frames := 7, cells := xc r, slots := xs r, locals := 112 } s m args below meth c H locs 0 0 (MQX below (hQ D ca ad (fun _ => none) r st' s.heap.size) args s (xc r) (xs r) (hA ad s.heap.size)) (F0 m 81 ls [.int z0, .int z1, .ref (ad 0)]) := by
  obtain ⟨hx, hb, hml, hr, hlocks, hno, hown, hts⟩ := id C
  intro _ st x1 x2 x3 z0 z1 h H locs hP hS ls hl
  unfold f_H_askFree_b81 at h
  rcases pu_xb_inv h with ⟨v13, st14, e_v13, h⟩ | ⟨v13, st14, e_v13, h⟩
  · refine hCallU G hS (va_runV (As := [.int z1, .int z0]) (rest := []) ⟨hx, hb, hml, hown, hts⟩ (MetX.met (c_H_ask l htl D ca ad st _ z1 z0 _ _ e_v13) (fun _ _ _ _ q => ⟨_, q.1⟩)) (xCW (C := "MuseumHouse") 2 hts wd_2_139 wd_1_1 wd_2_136 wd_2_138 wd_0_4 (by decide +kernel) ⟨Nat.le_of_ble_eq_true rfl, Nat.le_of_ble_eq_true rfl⟩) (G.preV hP hS 0 rfl rfl) rfl rfl hl.1 rfl (lv_room (Nat.le_of_ble_eq_true rfl)) d_H_askFree_81 ⟨Nat.zero_le _, Nat.zero_le _⟩) (fun H locs hP hS => ?_)
    cases h
    exact W.toX (W.vret hx hb hr (fun t ht _ => ⟨rfl, by rw [ht]; exact hP, hS.F ht⟩) hS.2.2 d_H_askFree_84)
  · cases h
    exact hThrV G hS hno hlocks ⟨hx, hb, hml, hown, hts⟩ (As := [.int z1, .int z0]) (rest := []) (c_H_ask l htl D ca ad st _ z1 z0 _ _ e_v13) (xCW (C := "MuseumHouse") 2 hts wd_2_139 wd_1_1 wd_2_136 wd_2_138 wd_0_4 (by decide +kernel) ⟨Nat.le_of_ble_eq_true rfl, Nat.le_of_ble_eq_true rfl⟩) (G.preV hP hS 0 rfl rfl) rfl rfl hl.1 rfl (lv_room (Nat.le_of_ble_eq_true rfl)) d_H_askFree_81 ⟨Nat.le_of_ble_eq_true rfl, Nat.le_of_ble_eq_true rfl⟩
set_option maxHeartbeats 4000000 in
set_option maxRecDepth 100000 in
theorem t_H_askFree_b80 {l : Launch} (htl : l.stackTraces = false) {p : Program} {e : Env} {s : State} {m : MethodId} {args : Array Value} {below : List Frame} {meth : Method} {c : Code} {D : va_G} {ca : Nat → ClassId} {ad : Nat → Nat} {st' : pu_St} {r : Int32 ⊕ Nat} (C : hC p s m meth c args b_H_askFree 4 none "MuseumHouse") (G : hX D ca ad (hA ad s.heap.size) s) :
    ∀ (_ : Unit) (st : pu_St) (x1 x2 x3 z0 : Int32), f_H_askFree_b80 st x1 x2 x3 z0 = some (r, st') → ∀ (H : Heap) (locs : List Loc), va_P D hcl (hW ca ad st) H → va_S (hA ad s.heap.size) s.heap H locs → ∀ ls : Array Slot, lv_has ls 4 [(0, .ref (ad 0)), (1, .int x1), (2, .int x2), (3, .int x3)] → W p l e { frames := 7, cells := xc r, slots := xs r, locals := 112 } s m args below meth c H locs 0 0 (MQX below (hQ D ca ad (fun _ => none) r st' s.heap.size) args s (xc r) (xs r) (hA ad s.heap.size)) (F0 m 80 ls [.int z0, .ref (ad 0)]) := by
  obtain ⟨hx, hb, hml, hr, hlocks, hno, hown, hts⟩ := id C
  intro _ st x1 x2 x3 z0 h H locs hP hS ls hl
  unfold f_H_askFree_b80 at h
  refine lv_iconst (v := 0) hx hb d_H_askFree_80 (by decide) ?_
  exact t_H_askFree_b81 htl C G () st x1 x2 x3 0 z0 h _ _ hP hS ls (lv_sub hl [0, 1, 2, 3] rfl)
set_option maxHeartbeats 4000000 in
set_option maxRecDepth 100000 in
theorem t_H_askFree_b42 {l : Launch} (htl : l.stackTraces = false) {p : Program} {e : Env} {s : State} {m : MethodId} {args : Array Value} {below : List Frame} {meth : Method} {c : Code} {D : va_G} {ca : Nat → ClassId} {ad : Nat → Nat} {st' : pu_St} {r : Int32 ⊕ Nat} (C : hC p s m meth c args b_H_askFree 4 none "MuseumHouse") (G : hX D ca ad (hA ad s.heap.size) s) :
    ∀ (_ : Unit) (st : pu_St) (x1 x2 x3 z0 z1 : Int32), f_H_askFree_b42 st x1 x2 x3 z0 z1 = some (r, st') → ∀ (H : Heap) (locs : List Loc), va_P D hcl (hW ca ad st) H → va_S (hA ad s.heap.size) s.heap H locs → ∀ ls : Array Slot, lv_has ls 4 [(0, .ref (ad 0)), (1, .int x1), (2, .int x2), (3, .int x3)] → W p l e { frames := 7, cells := xc r, slots := xs r, locals := 112 } s m args below meth c H locs 0 0 (MQX below (hQ D ca ad (fun _ => none) r st' s.heap.size) args s (xc r) (xs r) (hA ad s.heap.size)) (F0 m 42 ls [.int z0, .int z1, .ref (ad 0)]) := by
  obtain ⟨hx, hb, hml, hr, hlocks, hno, hown, hts⟩ := id C
  intro _ st x1 x2 x3 z0 z1 h H locs hP hS ls hl
  unfold f_H_askFree_b42 at h
  rcases pu_xb_inv h with ⟨v7, st8, e_v7, h⟩ | ⟨v7, st8, e_v7, h⟩
  · refine hCallU G hS (va_runV (As := [.int z1, .int z0]) (rest := []) ⟨hx, hb, hml, hown, hts⟩ (MetX.met (c_H_ask l htl D ca ad st _ z1 z0 _ _ e_v7) (fun _ _ _ _ q => ⟨_, q.1⟩)) (xCW (C := "MuseumHouse") 2 hts wd_2_139 wd_1_1 wd_2_136 wd_2_138 wd_0_4 (by decide +kernel) ⟨Nat.le_of_ble_eq_true rfl, Nat.le_of_ble_eq_true rfl⟩) (G.preV hP hS 0 rfl rfl) rfl rfl hl.1 rfl (lv_room (Nat.le_of_ble_eq_true rfl)) d_H_askFree_42 ⟨Nat.zero_le _, Nat.zero_le _⟩) (fun H locs hP hS => ?_)
    refine lv_aload_n hx hb d_H_askFree_45 rfl (lv_at hl 0 rfl) ?_
    refine lv_bipush (v := 14) hx hb d_H_askFree_46 (by decide) ?_
    refine lv_aload_n hx hb d_H_askFree_48 rfl (lv_at hl 0 rfl) ?_
    refine va_get (D := D) (ci := 0) (v := .ref (ad 8)) (C := R_H) (T := T_H) (N := 12) hx hb hts iw_H hown G.1 hP 0 rfl rfl 7 (by decide) (hts _ wd_1_219) (fun _ h9 => h9) rfl d_H_askFree_49 ?_
    refine lv_iload_n hx hb d_H_askFree_52 rfl (lv_at hl 1 rfl) ?_
    refine lv_iload_n hx hb d_H_askFree_53 rfl (lv_at hl 2 rfl) ?_
    refine lv_iload_n hx hb d_H_askFree_54 rfl (lv_at hl 3 rfl) ?_
    obtain ⟨v9, e_v9, h⟩ := pu_ob h
    refine pu_callR (va_runV (As := [.int x1, .int x2, .int x3]) (rest := [.int 14, .ref (ad 0)]) ⟨hx, hb, hml, hown, hts⟩ (c_Lo_having l D ca ad st8 _ x1 x2 x3 v9 e_v9) (xCW (C := "MuseumHouse$Loans") 3 hts wd_3_198 wd_1_10 wd_3_195 wd_3_196 wd_3_197 (by decide +kernel) ⟨Nat.le_of_ble_eq_true rfl, Nat.le_of_ble_eq_true rfl⟩) (G.preV hP hS 8 rfl rfl) rfl rfl hl.1 rfl (lv_room (Nat.le_of_ble_eq_true rfl)) d_H_askFree_55 ⟨Nat.zero_le _, Nat.zero_le _⟩) ?_
    refine lv_iconst (v := (-1)) hx hb d_H_askFree_58 (by decide) ?_
    refine lv_icmp_ne (tgt := 80) hx hb d_H_askFree_59 (by decide) (fun c10 => ?_) (fun c10 => ?_)
    · rw [if_neg c10] at h
      exact t_H_askFree_b80 htl C G () st8 x1 x2 x3 14 h _ _ hP hS ls (lv_sub hl [0, 1, 2, 3] rfl)
    · rw [if_pos c10] at h
      refine lv_aload_n hx hb d_H_askFree_62 rfl (lv_at hl 0 rfl) ?_
      refine va_get (D := D) (ci := 0) (v := .ref (ad 9)) (C := R_H) (T := T_H) (N := 12) hx hb hts iw_H hown G.1 hP 0 rfl rfl 8 (by decide) (hts _ wd_1_220) (fun _ h9 => h9) rfl d_H_askFree_63 ?_
      refine lv_iload_n hx hb d_H_askFree_66 rfl (lv_at hl 1 rfl) ?_
      refine lv_iload_n hx hb d_H_askFree_67 rfl (lv_at hl 2 rfl) ?_
      refine lv_iload_n hx hb d_H_askFree_68 rfl (lv_at hl 3 rfl) ?_
      obtain ⟨v11, e_v11, h⟩ := pu_ob h
      refine pu_callR (va_runV (As := [.int x1, .int x2, .int x3]) (rest := [.int 14, .ref (ad 0)]) ⟨hx, hb, hml, hown, hts⟩ (c_Sh_having l D ca ad st8 _ x1 x2 x3 v11 e_v11) (xCW (C := "MuseumHouse$Shows") 3 hts wd_4_17 wd_1_11 wd_4_14 wd_4_15 wd_4_16 (by decide +kernel) ⟨Nat.le_of_ble_eq_true rfl, Nat.le_of_ble_eq_true rfl⟩) (G.preV hP hS 9 rfl rfl) rfl rfl hl.1 rfl (lv_room (Nat.le_of_ble_eq_true rfl)) d_H_askFree_69 ⟨Nat.zero_le _, Nat.zero_le _⟩) ?_
      refine lv_iconst (v := (-1)) hx hb d_H_askFree_72 (by decide) ?_
      refine lv_icmp_ne (tgt := 80) hx hb d_H_askFree_73 (by decide) (fun c12 => ?_) (fun c12 => ?_)
      · rw [if_neg c12] at h
        exact t_H_askFree_b80 htl C G () st8 x1 x2 x3 14 h _ _ hP hS ls (lv_sub hl [0, 1, 2, 3] rfl)
      · rw [if_pos c12] at h
        refine lv_iconst (v := 1) hx hb d_H_askFree_76 (by decide) ?_
        refine lv_goto (tgt := 81) hx hb d_H_askFree_77 (by decide) ?_
        exact t_H_askFree_b81 htl C G () st8 x1 x2 x3 1 14 h _ _ hP hS ls (lv_sub hl [0, 1, 2, 3] rfl)
  · cases h
    exact hThrV G hS hno hlocks ⟨hx, hb, hml, hown, hts⟩ (As := [.int z1, .int z0]) (rest := []) (c_H_ask l htl D ca ad st _ z1 z0 _ _ e_v7) (xCW (C := "MuseumHouse") 2 hts wd_2_139 wd_1_1 wd_2_136 wd_2_138 wd_0_4 (by decide +kernel) ⟨Nat.le_of_ble_eq_true rfl, Nat.le_of_ble_eq_true rfl⟩) (G.preV hP hS 0 rfl rfl) rfl rfl hl.1 rfl (lv_room (Nat.le_of_ble_eq_true rfl)) d_H_askFree_42 ⟨Nat.le_of_ble_eq_true rfl, Nat.le_of_ble_eq_true rfl⟩
set_option maxHeartbeats 4000000 in
set_option maxRecDepth 100000 in
theorem t_H_askFree_b20 {l : Launch} (htl : l.stackTraces = false) {p : Program} {e : Env} {s : State} {m : MethodId} {args : Array Value} {below : List Frame} {meth : Method} {c : Code} {D : va_G} {ca : Nat → ClassId} {ad : Nat → Nat} {st' : pu_St} {r : Int32 ⊕ Nat} (C : hC p s m meth c args b_H_askFree 4 none "MuseumHouse") (G : hX D ca ad (hA ad s.heap.size) s) :
    ∀ (_ : Unit) (st : pu_St) (x1 x2 x3 z0 z1 : Int32), f_H_askFree_b20 st x1 x2 x3 z0 z1 = some (r, st') → ∀ (H : Heap) (locs : List Loc), va_P D hcl (hW ca ad st) H → va_S (hA ad s.heap.size) s.heap H locs → ∀ ls : Array Slot, lv_has ls 4 [(0, .ref (ad 0)), (1, .int x1), (2, .int x2), (3, .int x3)] → W p l e { frames := 7, cells := xc r, slots := xs r, locals := 112 } s m args below meth c H locs 0 0 (MQX below (hQ D ca ad (fun _ => none) r st' s.heap.size) args s (xc r) (xs r) (hA ad s.heap.size)) (F0 m 20 ls [.int z0, .int z1, .ref (ad 0)]) := by
  obtain ⟨hx, hb, hml, hr, hlocks, hno, hown, hts⟩ := id C
  intro _ st x1 x2 x3 z0 z1 h H locs hP hS ls hl
  unfold f_H_askFree_b20 at h
  rcases pu_xb_inv h with ⟨v3, st4, e_v3, h⟩ | ⟨v3, st4, e_v3, h⟩
  · refine hCallU G hS (va_runV (As := [.int z1, .int z0]) (rest := []) ⟨hx, hb, hml, hown, hts⟩ (MetX.met (c_H_ask l htl D ca ad st _ z1 z0 _ _ e_v3) (fun _ _ _ _ q => ⟨_, q.1⟩)) (xCW (C := "MuseumHouse") 2 hts wd_2_139 wd_1_1 wd_2_136 wd_2_138 wd_0_4 (by decide +kernel) ⟨Nat.le_of_ble_eq_true rfl, Nat.le_of_ble_eq_true rfl⟩) (G.preV hP hS 0 rfl rfl) rfl rfl hl.1 rfl (lv_room (Nat.le_of_ble_eq_true rfl)) d_H_askFree_20 ⟨Nat.zero_le _, Nat.zero_le _⟩) (fun H locs hP hS => ?_)
    refine lv_aload_n hx hb d_H_askFree_23 rfl (lv_at hl 0 rfl) ?_
    refine lv_bipush (v := 13) hx hb d_H_askFree_24 (by decide) ?_
    refine lv_aload_n hx hb d_H_askFree_26 rfl (lv_at hl 0 rfl) ?_
    refine va_get (D := D) (ci := 0) (v := .ref (ad 10)) (C := R_H) (T := T_H) (N := 12) hx hb hts iw_H hown G.1 hP 0 rfl rfl 9 (by decide) (hts _ wd_1_221) (fun _ h9 => h9) rfl d_H_askFree_27 ?_
    refine lv_iload_n hx hb d_H_askFree_30 rfl (lv_at hl 1 rfl) ?_
    obtain ⟨v5, e_v5, h⟩ := pu_ob h
    refine pu_callR (va_runV (As := [.int x1]) (rest := [.int 13, .ref (ad 0)]) ⟨hx, hb, hml, hown, hts⟩ (c_Cl_openFor l D ca ad st4 _ x1 v5 e_v5) (xCW (C := "MuseumHouse$Claims") 1 hts wd_4_10 wd_1_12 wd_4_7 wd_4_8 wd_4_9 (by decide +kernel) ⟨Nat.le_of_ble_eq_true rfl, Nat.le_of_ble_eq_true rfl⟩) (G.preV hP hS 10 rfl rfl) rfl rfl hl.1 rfl (lv_room (Nat.le_of_ble_eq_true rfl)) d_H_askFree_31 ⟨Nat.zero_le _, Nat.zero_le _⟩) ?_
    refine lv_if_ne (tgt := 41) hx hb d_H_askFree_34 (by decide) (fun c6 => ?_) (fun c6 => ?_)
    · rw [if_neg c6] at h
      refine lv_iconst (v := 0) hx hb d_H_askFree_41 (by decide) ?_
      exact t_H_askFree_b42 htl C G () st4 x1 x2 x3 0 13 h _ _ hP hS ls (lv_sub hl [0, 1, 2, 3] rfl)
    · rw [if_pos c6] at h
      refine lv_iconst (v := 1) hx hb d_H_askFree_37 (by decide) ?_
      refine lv_goto (tgt := 42) hx hb d_H_askFree_38 (by decide) ?_
      exact t_H_askFree_b42 htl C G () st4 x1 x2 x3 1 13 h _ _ hP hS ls (lv_sub hl [0, 1, 2, 3] rfl)
  · cases h
    exact hThrV G hS hno hlocks ⟨hx, hb, hml, hown, hts⟩ (As := [.int z1, .int z0]) (rest := []) (c_H_ask l htl D ca ad st _ z1 z0 _ _ e_v3) (xCW (C := "MuseumHouse") 2 hts wd_2_139 wd_1_1 wd_2_136 wd_2_138 wd_0_4 (by decide +kernel) ⟨Nat.le_of_ble_eq_true rfl, Nat.le_of_ble_eq_true rfl⟩) (G.preV hP hS 0 rfl rfl) rfl rfl hl.1 rfl (lv_room (Nat.le_of_ble_eq_true rfl)) d_H_askFree_20 ⟨Nat.le_of_ble_eq_true rfl, Nat.le_of_ble_eq_true rfl⟩
set_option maxHeartbeats 4000000 in
set_option maxRecDepth 100000 in
theorem c_H_askFree (l : Launch) (htl : l.stackTraces = false) (D : va_G) (ca : Nat → ClassId) (ad : Nat → Nat) (st : pu_St) (sz : Nat) (x1 x2 x3 : Int32) (r : Int32 ⊕ Nat) (st' : pu_St) (h : f_H_askFree st x1 x2 x3 = some (r, st')) : MetX l y_H_askFree (.code y_H_askFree b_H_askFree 4 none :: tG) { frames := 7, cells := xc r, slots := xs r, locals := 112 } (va_Pc [.ref (ad 0), .int x1, .int x2, .int x3] (hPc D ca ad st sz)) (hQ D ca ad (fun _ => none) r st' sz) (xc r) (xs r) (hA ad sz) := by
  refine hMet (by decide +kernel) ?_
  intro p e s m below meth c hsz C G hP
  obtain ⟨hx, hb, hml, hr, hlocks, hno, hown, hts⟩ := id C
  have hown : s.vm.findClass "MuseumHouse" = some m.cls := hown
  have hS : va_S (hA ad s.heap.size) s.heap s.heap [] := va_S.rf
  have hl := lv_entry ([.ref (ad 0), .int x1, .int x2, .int x3]) (n := 4) (Nat.le_of_ble_eq_true rfl)
  rw [lg_entry_eq]
  generalize (lg_sl ([.ref (ad 0), .int x1, .int x2, .int x3]) ++ List.replicate (4 - (lg_sl ([.ref (ad 0), .int x1, .int x2, .int x3])).length) Slot.unset).toArray = ls at hl ⊢
  have hl : lv_has ls 4 [(0, .ref (ad 0)), (1, .int x1), (2, .int x2), (3, .int x3)] := hl
  unfold f_H_askFree at h
  refine lv_aload_n hx hb d_H_askFree_0 rfl (lv_at hl 0 rfl) ?_
  refine lv_bipush (v := 11) hx hb d_H_askFree_1 (by decide) ?_
  refine lv_iload_n hx hb d_H_askFree_3 rfl (lv_at hl 2 rfl) ?_
  refine lv_aload_n hx hb d_H_askFree_4 rfl (lv_at hl 0 rfl) ?_
  refine va_get (D := D) (ci := 0) (v := .ref (ad 5)) (C := R_H) (T := T_H) (N := 12) hx hb hts iw_H hown G.1 hP 0 rfl rfl 4 (by decide) (hts _ wd_1_216) (fun _ h9 => h9) rfl d_H_askFree_5 ?_
  refine lv_iload_n hx hb d_H_askFree_8 rfl (lv_at hl 1 rfl) ?_
  obtain ⟨v1, e_v1, h⟩ := pu_ob h
  refine pu_callR (va_runV (As := [.int x1]) (rest := [.int x2, .int 11, .ref (ad 0)]) ⟨hx, hb, hml, hown, hts⟩ (c_It_dayOf l D ca ad st _ x1 v1 e_v1) (xCW (C := "MuseumHouse$Items") 1 hts wd_3_194 wd_1_7 wd_3_191 wd_3_192 wd_3_193 (by decide +kernel) ⟨Nat.le_of_ble_eq_true rfl, Nat.le_of_ble_eq_true rfl⟩) (G.preV hP hS 5 rfl rfl) rfl rfl hl.1 rfl (lv_room (Nat.le_of_ble_eq_true rfl)) d_H_askFree_9 ⟨Nat.zero_le _, Nat.zero_le _⟩) ?_
  refine lv_icmp_lt (tgt := 19) hx hb d_H_askFree_12 (by decide) (fun c2 => ?_) (fun c2 => ?_)
  · rw [if_pos c2] at h
    refine lv_iconst (v := 0) hx hb d_H_askFree_19 (by decide) ?_
    exact t_H_askFree_b20 htl C G () st x1 x2 x3 0 11 h _ _ hP hS ls (lv_sub hl [0, 1, 2, 3] rfl)
  · rw [if_neg c2] at h
    refine lv_iconst (v := 1) hx hb d_H_askFree_15 (by decide) ?_
    refine lv_goto (tgt := 20) hx hb d_H_askFree_16 (by decide) ?_
    exact t_H_askFree_b20 htl C G () st x1 x2 x3 1 11 h _ _ hP hS ls (lv_sub hl [0, 1, 2, 3] rfl)
set_option maxHeartbeats 4000000 in
set_option maxRecDepth 100000 in
theorem c_Rg_enter_Lo (l : Launch) (htl : l.stackTraces = false) (D : va_G) (ca : Nat → ClassId) (ad : Nat → Nat) (st : pu_St) (sz : Nat) (v : Int32) (st' : pu_St) (h : f_Rg_enter_Lo st = some (v, st')) : MetX l y_Rg_enter (.code y_Rg_enter b_Rg_enter 2 (some .int) :: tG) { frames := 0, cells := 0, slots := 0, locals := 0 } (va_Pc [.ref (ad 8)] (hPc D ca ad st sz)) (hQ D ca ad (fun v => some (.int v)) (.inl v) st' sz) 0 0 (hA ad sz) := by
  refine hMet (by decide +kernel) ?_
  intro p e s m below meth c hsz C G hP
  obtain ⟨hx, hb, hml, hr, hlocks, hno, hown, hts⟩ := id C
  have hown : s.vm.findClass "MuseumHouse$Register" = some m.cls := hown
  have hS : va_S (hA ad s.heap.size) s.heap s.heap [] := va_S.rf
  have hl := lv_entry ([.ref (ad 8)]) (n := 2) (Nat.le_of_ble_eq_true rfl)
  rw [lg_entry_eq]
  generalize (lg_sl ([.ref (ad 8)]) ++ List.replicate (2 - (lg_sl ([.ref (ad 8)])).length) Slot.unset).toArray = ls at hl ⊢
  have hl : lv_has ls 2 [(0, .ref (ad 8))] := hl
  unfold f_Rg_enter_Lo at h
  refine lv_aload_n hx hb d_Rg_enter_0 rfl (lv_at hl 0 rfl) ?_
  refine va_get (D := D) (ci := 8) (v := .int (st.1 8)) (C := R_Lo) (T := T_Lo) (N := 6) hx hb hts iw_Lo hown G.1 hP 8 rfl rfl 2 (by decide) (hts _ wd_1_47) (fun _ h9 => h9) rfl d_Rg_enter_1 ?_
  refine lv_istore_n (lv' := [(1, .int (st.1 8)), (0, .ref (ad 8))]) hx hb d_Rg_enter_4 rfl hl (by decide) rfl (fun ls hl => ?_)
  refine lv_aload_n hx hb d_Rg_enter_5 rfl (lv_at hl 1 rfl) ?_
  refine lv_dup hx hb d_Rg_enter_6 rfl ?_
  refine va_get (D := D) (ci := 8) (v := .int (st.1 8)) (C := R_Lo) (T := T_Lo) (N := 6) hx hb hts iw_Lo hown G.1 hP 8 rfl rfl 2 (by decide) (hts _ wd_1_47) (fun _ h9 => h9) rfl d_Rg_enter_7 ?_
  refine lv_iconst (v := 1) hx hb d_Rg_enter_10 (by decide) ?_
  refine lv_iadd hx hb d_Rg_enter_11 ?_
  refine va_put (D := D) (ci := 8) (v := .int ((st.1 8) + 1)) (ty := .int) (C := R_Lo) (T := T_Lo) (N := 6) hx hb hts iw_Lo ty_Lo to_Lo nm_Lo hown G.1 hP (G.D) hS 8 rfl rfl 2 (by decide) (hts _ wd_1_47) (fun _ h9 => h9) rfl (by decide +kernel) rfl rfl (Nat.le_of_ble_eq_true rfl) d_Rg_enter_12 (fun H locs hP _ hS => ?_)
  have hP : va_P D hcl (hW ca ad (va_up st.1 8 ((st.1 8) + 1), st.2)) H := hP
  refine lv_iload_n hx hb d_Rg_enter_15 rfl (lv_at hl 0 rfl) ?_
  cases h
  exact W.toX (W.iret hx hb hr (fun t ht _ => ⟨rfl, by rw [ht]; exact hP, hS.F ht⟩) hS.2.2 d_Rg_enter_16)
set_option maxHeartbeats 4000000 in
set_option maxRecDepth 100000 in
theorem c_Rg_handleOf_Lo (l : Launch) (D : va_G) (ca : Nat → ClassId) (ad : Nat → Nat) (st : pu_St) (sz : Nat) (x1 : Int32) (r : Int32) (h : f_Rg_handleOf_Lo st x1 = some r) : Met l y_Rg_handleOf (.code y_Rg_handleOf b_Rg_handleOf 2 (some .int) :: tG) { frames := 0, cells := 0, slots := 0, locals := 0 } (va_Pc [.ref (ad 8), .int x1] (hPc D ca ad st sz)) (QcRead r) 0 0 (fun _ => False) := by
  refine hRead (by decide +kernel) ?_
  intro p e s m below meth c C G hP
  obtain ⟨hx, hb, hml, hr, hlocks, hno, hown, hts⟩ := id C
  have hown : s.vm.findClass "MuseumHouse$Register" = some m.cls := hown
  have hS : va_S (hA ad s.heap.size) s.heap s.heap [] := va_S.rf
  have hl := lv_entry ([.ref (ad 8), .int x1]) (n := 2) (Nat.le_of_ble_eq_true rfl)
  rw [lg_entry_eq]
  generalize (lg_sl ([.ref (ad 8), .int x1]) ++ List.replicate (2 - (lg_sl ([.ref (ad 8), .int x1])).length) Slot.unset).toArray = ls at hl ⊢
  have hl : lv_has ls 2 [(0, .ref (ad 8)), (1, .int x1)] := hl
  unfold f_Rg_handleOf_Lo at h
  refine lv_aload_n hx hb d_Rg_handleOf_0 rfl (lv_at hl 0 rfl) ?_
  refine va_get (D := D) (ci := 8) (v := .int 700) (C := R_Lo) (T := T_Lo) (N := 6) hx hb hts iw_Lo hown G.1 hP 8 rfl rfl 0 (by decide) (hts _ wd_1_45) (fun _ h9 => h9) rfl d_Rg_handleOf_1 ?_
  refine lv_iload_n hx hb d_Rg_handleOf_4 rfl (lv_at hl 1 rfl) ?_
  refine lv_iadd hx hb d_Rg_handleOf_5 ?_
  have h := Option.some.inj h
  exact W.iret (v := (700 + x1)) hx hb hr (fun t ht _ => ⟨by rw [h], ht⟩) (fun _ q => by cases q) d_Rg_handleOf_6
set_option maxHeartbeats 4000000 in
set_option maxRecDepth 100000 in
theorem c_Lo_lend (l : Launch) (htl : l.stackTraces = false) (D : va_G) (ca : Nat → ClassId) (ad : Nat → Nat) (st : pu_St) (sz : Nat) (x1 x2 x3 : Int32) (v : Int32) (st' : pu_St) (h : f_Lo_lend st x1 x2 x3 = some (v, st')) : MetX l y_Lo_lend (.code y_Lo_lend b_Lo_lend 5 (some .int) :: tG) { frames := 1, cells := 0, slots := 0, locals := 21 } (va_Pc [.ref (ad 8), .int x1, .int x2, .int x3] (hPc D ca ad st sz)) (hQ D ca ad (fun v => some (.int v)) (.inl v) st' sz) 0 0 (hA ad sz) := by
  refine hMet (by decide +kernel) ?_
  intro p e s m below meth c hsz C G hP
  obtain ⟨hx, hb, hml, hr, hlocks, hno, hown, hts⟩ := id C
  have hown : s.vm.findClass "MuseumHouse$Loans" = some m.cls := hown
  have hS : va_S (hA ad s.heap.size) s.heap s.heap [] := va_S.rf
  have hl := lv_entry ([.ref (ad 8), .int x1, .int x2, .int x3]) (n := 5) (Nat.le_of_ble_eq_true rfl)
  rw [lg_entry_eq]
  generalize (lg_sl ([.ref (ad 8), .int x1, .int x2, .int x3]) ++ List.replicate (5 - (lg_sl ([.ref (ad 8), .int x1, .int x2, .int x3])).length) Slot.unset).toArray = ls at hl ⊢
  have hl : lv_has ls 5 [(0, .ref (ad 8)), (1, .int x1), (2, .int x2), (3, .int x3)] := hl
  unfold f_Lo_lend at h
  refine lv_aload_n hx hb d_Lo_lend_0 rfl (lv_at hl 0 rfl) ?_
  obtain ⟨q1, e_q1, h⟩ := pu_ob h
  refine hCallI G hS (va_runU (As := []) (rest := []) ⟨hx, hb, hml, hown, hts⟩ (MetX.met (c_Rg_enter_Lo l htl D ca ad st _ q1.1 q1.2 e_q1) (fun _ _ _ _ q => ⟨_, q.1⟩)) (xCU (C := "MuseumHouse$Loans") (owner := "MuseumHouse$Register") (x := ⟨"MuseumHouse$Loans", "enter", "()I"⟩) 0 hts wd_1_43 wd_1_2 wd_4_30 wd_4_31 wd_1_42 wd_4_32 rfl (by decide +kernel) ⟨Nat.le_of_ble_eq_true rfl, Nat.le_of_ble_eq_true rfl⟩) (G.preV hP hS 8 rfl rfl) rfl rfl hl.1 rfl (lv_room (Nat.le_of_ble_eq_true rfl)) d_Lo_lend_1 ⟨Nat.zero_le _, Nat.zero_le _⟩) (fun H locs hP hS => ?_)
  refine lv_istore (lv' := [(4, .int q1.1), (0, .ref (ad 8)), (1, .int x1), (2, .int x2), (3, .int x3)]) hx hb d_Lo_lend_4 hl (by decide) rfl (fun ls hl => ?_)
  refine lv_aload_n hx hb d_Lo_lend_6 rfl (lv_at hl 1 rfl) ?_
  refine va_get (D := D) (ci := 8) (v := .ref (ad 24)) (C := R_Lo) (T := T_Lo) (N := 6) hx hb hts iw_Lo hown G.1 hP 8 rfl rfl 3 (by decide) (hts _ wd_1_157) (fun _ h9 => h9) rfl d_Lo_lend_7 ?_
  refine lv_iload hx hb d_Lo_lend_10 (lv_at hl 0 rfl) ?_
  refine lv_iload_n hx hb d_Lo_lend_12 rfl (lv_at hl 2 rfl) ?_
  obtain ⟨g2, e_g2, h⟩ := pu_ob h
  refine pu_iast hx hb G.1 hP (G.D) hS 24 13 rfl rfl e_g2 d_Lo_lend_13 (fun H locs hP hS => ?_)
  have hP : va_P D hcl (hW ca ad (q1.2.1, va_up q1.2.2 13 g2)) H := hP
  refine lv_aload_n hx hb d_Lo_lend_14 rfl (lv_at hl 1 rfl) ?_
  refine va_get (D := D) (ci := 8) (v := .ref (ad 25)) (C := R_Lo) (T := T_Lo) (N := 6) hx hb hts iw_Lo hown G.1 hP 8 rfl rfl 4 (by decide) (hts _ wd_1_158) (fun _ h9 => h9) rfl d_Lo_lend_15 ?_
  refine lv_iload hx hb d_Lo_lend_18 (lv_at hl 0 rfl) ?_
  refine lv_iload_n hx hb d_Lo_lend_20 rfl (lv_at hl 3 rfl) ?_
  obtain ⟨g3, e_g3, h⟩ := pu_ob h
  refine pu_iast hx hb G.1 hP (G.D) hS 25 14 rfl rfl e_g3 d_Lo_lend_21 (fun H locs hP hS => ?_)
  have hP : va_P D hcl (hW ca ad ((q1.2.1, va_up q1.2.2 13 g2).1, va_up (q1.2.1, va_up q1.2.2 13 g2).2 14 g3)) H := hP
  refine lv_aload_n hx hb d_Lo_lend_22 rfl (lv_at hl 1 rfl) ?_
  refine va_get (D := D) (ci := 8) (v := .ref (ad 26)) (C := R_Lo) (T := T_Lo) (N := 6) hx hb hts iw_Lo hown G.1 hP 8 rfl rfl 5 (by decide) (hts _ wd_1_159) (fun _ h9 => h9) rfl d_Lo_lend_23 ?_
  refine lv_iload hx hb d_Lo_lend_26 (lv_at hl 0 rfl) ?_
  refine lv_iload_n hx hb d_Lo_lend_28 rfl (lv_at hl 4 rfl) ?_
  obtain ⟨g4, e_g4, h⟩ := pu_ob h
  refine pu_iast hx hb G.1 hP (G.D) hS 26 15 rfl rfl e_g4 d_Lo_lend_29 (fun H locs hP hS => ?_)
  have hP : va_P D hcl (hW ca ad (((q1.2.1, va_up q1.2.2 13 g2).1, va_up (q1.2.1, va_up q1.2.2 13 g2).2 14 g3).1, va_up ((q1.2.1, va_up q1.2.2 13 g2).1, va_up (q1.2.1, va_up q1.2.2 13 g2).2 14 g3).2 15 g4)) H := hP
  refine lv_aload_n hx hb d_Lo_lend_30 rfl (lv_at hl 1 rfl) ?_
  refine lv_iload hx hb d_Lo_lend_31 (lv_at hl 0 rfl) ?_
  obtain ⟨v5, e_v5, h⟩ := pu_ob h
  refine pu_callR (va_runU (As := [.int q1.1]) (rest := []) ⟨hx, hb, hml, hown, hts⟩ (c_Rg_handleOf_Lo l D ca ad (((q1.2.1, va_up q1.2.2 13 g2).1, va_up (q1.2.1, va_up q1.2.2 13 g2).2 14 g3).1, va_up ((q1.2.1, va_up q1.2.2 13 g2).1, va_up (q1.2.1, va_up q1.2.2 13 g2).2 14 g3).2 15 g4) _ q1.1 v5 e_v5) (xCU (C := "MuseumHouse$Loans") (owner := "MuseumHouse$Register") (x := ⟨"MuseumHouse$Loans", "handleOf", "(I)I"⟩) 1 hts wd_2_164 wd_1_2 wd_4_33 wd_4_34 wd_2_163 wd_4_35 rfl (by decide +kernel) ⟨Nat.le_of_ble_eq_true rfl, Nat.le_of_ble_eq_true rfl⟩) (G.preV hP hS 8 rfl rfl) rfl rfl hl.1 rfl (lv_room (Nat.le_of_ble_eq_true rfl)) d_Lo_lend_33 ⟨Nat.zero_le _, Nat.zero_le _⟩) ?_
  cases h
  exact W.toX (W.iret hx hb hr (fun t ht _ => ⟨rfl, by rw [ht]; exact hP, hS.F ht⟩) hS.2.2 d_Lo_lend_36)

set_option maxHeartbeats 4000000 in
set_option maxRecDepth 100000 in
theorem t_Md_moveAt_b8 {l : Launch} {p : Program} {e : Env} {s : State} {m : MethodId} {args : Array Value} {below : List Frame} {meth : Method} {c : Code} {D : va_G} {ca : Nat → ClassId} {ad : Nat → Nat} {A : Nat → Prop} {st : pu_St} {r : Int32} (C : hC p s m meth c args b_Md_moveAt 5 (some .int) "MuseumHouseModel") (G : mX D ca ad A s) (hP : va_P D hcl (mW ca ad st) s.heap) (hS : va_S A s.heap s.heap []) :
    ∀ (n : Nat) (x1 x2 x3 x4 : Int32), f_Md_moveAt_b8 n st x1 x2 x3 x4 = some r → ∀ ls : Array Slot, lv_has ls 5 [(0, .ref (ad 0)), (1, .int x1), (2, .int x2), (3, .int x3), (4, .int x4)] → W p l e { frames := 0, cells := 0, slots := 0, locals := 0 } s m args below meth c s.heap [] 0 0 (MQ below (QcRead r) args s 0 0 (fun _ => False)) (F0 m 8 ls []) := by
  obtain ⟨hx, hb, hml, hr, hlocks, hno, hown, hts⟩ := id C
  intro n
  induction n with
  | zero => intro x1 x2 x3 x4 h; cases h
  | succ n ih =>
    intro x1 x2 x3 x4 h ls hl
    unfold f_Md_moveAt_b8 at h
    refine lv_iload hx hb d_Md_moveAt_8 (lv_at hl 4 rfl) ?_
    refine lv_bipush (v := 12) hx hb d_Md_moveAt_10 (by decide) ?_
    refine lv_iload_n hx hb d_Md_moveAt_12 rfl (lv_at hl 1 rfl) ?_
    refine lv_imul hx hb d_Md_moveAt_13 ?_
    refine lv_aload_n hx hb d_Md_moveAt_14 rfl (lv_at hl 0 rfl) ?_
    refine va_get (D := D) (ci := 11) (v := .ref (ad 12)) (C := R_Md) (T := T_Md) (N := 27) hx hb hts iw_Md hown G.1 hP 0 rfl rfl 14 (by decide) (hts _ wd_4_237) (fun _ h9 => h9) rfl d_Md_moveAt_15 ?_
    refine lv_iload_n hx hb d_Md_moveAt_18 rfl (lv_at hl 1 rfl) ?_
    obtain ⟨v1, e_v1, h⟩ := pu_ob h
    refine pu_iald hx hb G.1 hP 12 11 rfl rfl e_v1 d_Md_moveAt_19 ?_
    refine lv_iadd hx hb d_Md_moveAt_20 ?_
    refine lv_icmp_ge (tgt := 48) hx hb d_Md_moveAt_21 (by decide) (fun c2 => ?_) (fun c2 => ?_)
    · rw [if_pos c2] at h
      refine lv_iload_n hx hb d_Md_moveAt_48 rfl (lv_at hl 3 rfl) ?_
      have h := Option.some.inj h
      exact W.iret (v := x3) hx hb hr (fun t ht _ => ⟨by rw [h], ht⟩) (fun _ q => by cases q) d_Md_moveAt_49
    · rw [if_neg c2] at h
      refine lv_aload_n hx hb d_Md_moveAt_24 rfl (lv_at hl 0 rfl) ?_
      refine va_get (D := D) (ci := 11) (v := .ref (ad 13)) (C := R_Md) (T := T_Md) (N := 27) hx hb hts iw_Md hown G.1 hP 0 rfl rfl 15 (by decide) (hts _ wd_4_238) (fun _ h9 => h9) rfl d_Md_moveAt_25 ?_
      refine lv_iload hx hb d_Md_moveAt_28 (lv_at hl 4 rfl) ?_
      obtain ⟨v3, e_v3, h⟩ := pu_ob h
      refine pu_iald hx hb G.1 hP 13 12 rfl rfl e_v3 d_Md_moveAt_30 ?_
      refine lv_iload_n hx hb d_Md_moveAt_31 rfl (lv_at hl 2 rfl) ?_
      refine lv_icmp_ne (tgt := 40) hx hb d_Md_moveAt_32 (by decide) (fun c4 => ?_) (fun c4 => ?_)
      · rw [if_neg c4] at h
        refine lv_iload_n hx hb d_Md_moveAt_40 rfl (lv_at hl 3 rfl) ?_
        refine lv_istore_n (lv' := [(3, .int x3), (0, .ref (ad 0)), (1, .int x1), (2, .int x2), (4, .int x4)]) hx hb d_Md_moveAt_41 rfl hl (by decide) rfl (fun ls hl => ?_)
        refine lv_iinc (v := (x4 + 1)) (lv' := [(4, .int (x4 + 1)), (3, .int x3), (0, .ref (ad 0)), (1, .int x1), (2, .int x2)]) hx hb d_Md_moveAt_42 hl (k := 4) rfl rfl (by decide) rfl (fun ls hl => ?_)
        refine lv_goto (tgt := 8) hx hb d_Md_moveAt_45 (by decide) ?_
        exact ih x1 x2 x3 (x4 + 1) h ls (lv_sub hl [2, 3, 4, 1, 0] rfl)
      · rw [if_pos c4] at h
        refine lv_iload hx hb d_Md_moveAt_35 (lv_at hl 4 rfl) ?_
        refine lv_goto (tgt := 41) hx hb d_Md_moveAt_37 (by decide) ?_
        refine lv_istore_n (lv' := [(3, .int x4), (0, .ref (ad 0)), (1, .int x1), (2, .int x2), (4, .int x4)]) hx hb d_Md_moveAt_41 rfl hl (by decide) rfl (fun ls hl => ?_)
        refine lv_iinc (v := (x4 + 1)) (lv' := [(4, .int (x4 + 1)), (3, .int x4), (0, .ref (ad 0)), (1, .int x1), (2, .int x2)]) hx hb d_Md_moveAt_42 hl (k := 4) rfl rfl (by decide) rfl (fun ls hl => ?_)
        refine lv_goto (tgt := 8) hx hb d_Md_moveAt_45 (by decide) ?_
        exact ih x1 x2 x4 (x4 + 1) h ls (lv_sub hl [2, 3, 4, 1, 0] rfl)
set_option maxHeartbeats 4000000 in
set_option maxRecDepth 100000 in
theorem c_Md_moveAt (l : Launch) (D : va_G) (ca : Nat → ClassId) (ad : Nat → Nat) (st : pu_St) (sz : Nat) (x1 x2 : Int32) (r : Int32) (h : f_Md_moveAt st x1 x2 = some r) : Met l y_Md_moveAt (.code y_Md_moveAt b_Md_moveAt 5 (some .int) :: tG) { frames := 0, cells := 0, slots := 0, locals := 0 } (va_Pc [.ref (ad 0), .int x1, .int x2] (mPc D ca ad st sz)) (QcRead r) 0 0 (fun _ => False) := by
  refine mRead (by decide +kernel) ?_
  intro p e s m below meth c C G hP
  obtain ⟨hx, hb, hml, hr, hlocks, hno, hown, hts⟩ := id C
  have hown : s.vm.findClass "MuseumHouseModel" = some m.cls := hown
  have hS : va_S (mA ad s.heap.size) s.heap s.heap [] := va_S.rf
  have hl := lv_entry ([.ref (ad 0), .int x1, .int x2]) (n := 5) (Nat.le_of_ble_eq_true rfl)
  rw [lg_entry_eq]
  generalize (lg_sl ([.ref (ad 0), .int x1, .int x2]) ++ List.replicate (5 - (lg_sl ([.ref (ad 0), .int x1, .int x2])).length) Slot.unset).toArray = ls at hl ⊢
  have hl : lv_has ls 5 [(0, .ref (ad 0)), (1, .int x1), (2, .int x2)] := hl
  unfold f_Md_moveAt at h
  refine lv_iconst (v := (-1)) hx hb d_Md_moveAt_0 (by decide) ?_
  refine lv_istore_n (lv' := [(3, .int (-1)), (0, .ref (ad 0)), (1, .int x1), (2, .int x2)]) hx hb d_Md_moveAt_1 rfl hl (by decide) rfl (fun ls hl => ?_)
  refine lv_bipush (v := 12) hx hb d_Md_moveAt_2 (by decide) ?_
  refine lv_iload_n hx hb d_Md_moveAt_4 rfl (lv_at hl 2 rfl) ?_
  refine lv_imul hx hb d_Md_moveAt_5 ?_
  refine lv_istore (lv' := [(4, .int (12 * x1)), (3, .int (-1)), (0, .ref (ad 0)), (1, .int x1), (2, .int x2)]) hx hb d_Md_moveAt_6 hl (by decide) rfl (fun ls hl => ?_)
  exact t_Md_moveAt_b8 C G hP hS pu_fu x1 x2 (-1) (12 * x1) h ls (lv_sub hl [2, 3, 4, 1, 0] rfl)
set_option maxHeartbeats 4000000 in
set_option maxRecDepth 100000 in
theorem t_Md_move_b240 {l : Launch} (htl : l.stackTraces = false) {p : Program} {e : Env} {s : State} {m : MethodId} {args : Array Value} {below : List Frame} {meth : Method} {c : Code} {D : va_G} {ca : Nat → ClassId} {ad : Nat → Nat} {st' : pu_St} {v : Int32} (C : hC p s m meth c args b_Md_move 10 (some .boolean) "MuseumHouseModel") (G : mX D ca ad (mA ad s.heap.size) s) :
    ∀ (_ : Unit) (st : pu_St) (x1 x2 x3 x4 x5 x6 x7 x8 x9 z0 z1 : Int32), f_Md_move_b240 st x1 x2 x3 x4 x5 x6 x7 x8 x9 z0 z1 = some (v, st') → ∀ (H : Heap) (locs : List Loc), va_P D hcl (mW ca ad st) H → va_S (mA ad s.heap.size) s.heap H locs → ∀ ls : Array Slot, lv_has ls 10 [(0, .ref (ad 0)), (1, .int x1), (2, .int x2), (3, .int x3), (4, .int x4), (5, .int x5), (6, .int x6), (7, .int x7), (8, .int x8), (9, .int x9)] → W p l e { frames := 2, cells := 0, slots := 0, locals := 46 } s m args below meth c H locs 0 0 (MQX below (mQ D ca ad (fun v => some (.int v)) (.inl v) st' s.heap.size) args s 0 0 (mA ad s.heap.size)) (F0 m 240 ls [.int z0, .int z1, .ref (ad 12)]) := by
  obtain ⟨hx, hb, hml, hr, hlocks, hno, hown, hts⟩ := id C
  intro _ st x1 x2 x3 x4 x5 x6 x7 x8 x9 z0 z1 h H locs hP hS ls hl
  unfold f_Md_move_b240 at h
  obtain ⟨g29, e_g29, h⟩ := pu_ob h
  refine pu_iast hx hb G.1 hP (G.D) hS 12 11 rfl rfl e_g29 d_Md_move_240 (fun H locs hP hS => ?_)
  have hP : va_P D hcl (mW ca ad (st.1, va_up st.2 11 g29)) H := hP
  refine lv_aload_n hx hb d_Md_move_241 rfl (lv_at hl 0 rfl) ?_
  refine va_get (D := D) (ci := 11) (v := .ref (ad 13)) (C := R_Md) (T := T_Md) (N := 27) hx hb hts iw_Md hown G.1 hP 0 rfl rfl 15 (by decide) (hts _ wd_4_238) (fun _ h9 => h9) rfl d_Md_move_242 ?_
  refine lv_iload hx hb d_Md_move_245 (lv_at hl 9 rfl) ?_
  refine lv_iload hx hb d_Md_move_247 (lv_at hl 4 rfl) ?_
  obtain ⟨g30, e_g30, h⟩ := pu_ob h
  refine pu_iast hx hb G.1 hP (G.D) hS 13 12 rfl rfl e_g30 d_Md_move_249 (fun H locs hP hS => ?_)
  have hP : va_P D hcl (mW ca ad ((st.1, va_up st.2 11 g29).1, va_up (st.1, va_up st.2 11 g29).2 12 g30)) H := hP
  refine lv_aload_n hx hb d_Md_move_250 rfl (lv_at hl 0 rfl) ?_
  refine va_get (D := D) (ci := 11) (v := .ref (ad 14)) (C := R_Md) (T := T_Md) (N := 27) hx hb hts iw_Md hown G.1 hP 0 rfl rfl 16 (by decide) (hts _ wd_4_239) (fun _ h9 => h9) rfl d_Md_move_251 ?_
  refine lv_iload hx hb d_Md_move_254 (lv_at hl 9 rfl) ?_
  refine lv_iload_n hx hb d_Md_move_256 rfl (lv_at hl 3 rfl) ?_
  obtain ⟨g31, e_g31, h⟩ := pu_ob h
  refine pu_iast hx hb G.1 hP (G.D) hS 14 13 rfl rfl e_g31 d_Md_move_257 (fun H locs hP hS => ?_)
  have hP : va_P D hcl (mW ca ad (((st.1, va_up st.2 11 g29).1, va_up (st.1, va_up st.2 11 g29).2 12 g30).1, va_up ((st.1, va_up st.2 11 g29).1, va_up (st.1, va_up st.2 11 g29).2 12 g30).2 13 g31)) H := hP
  refine lv_iload hx hb d_Md_move_258 (lv_at hl 7 rfl) ?_
  refine lv_iconst (v := (-1)) hx hb d_Md_move_260 (by decide) ?_
  refine lv_icmp_ne (tgt := 268) hx hb d_Md_move_261 (by decide) (fun c32 => ?_) (fun c32 => ?_)
  · rw [if_neg c32] at h
    refine lv_iconst (v := 0) hx hb d_Md_move_268 (by decide) ?_
    cases h
    exact W.toX (W.zret (ty := .boolean) hx hb hr rfl (fun t ht _ => ⟨rfl, by rw [ht]; exact hP, hS.F ht⟩) hS.2.2 d_Md_move_269)
  · rw [if_pos c32] at h
    refine lv_iconst (v := 1) hx hb d_Md_move_264 (by decide) ?_
    refine lv_goto (tgt := 269) hx hb d_Md_move_265 (by decide) ?_
    cases h
    exact W.toX (W.zret (ty := .boolean) hx hb hr rfl (fun t ht _ => ⟨rfl, by rw [ht]; exact hP, hS.F ht⟩) hS.2.2 d_Md_move_269)
set_option maxHeartbeats 4000000 in
set_option maxRecDepth 100000 in
theorem t_Md_move_b207 {l : Launch} (htl : l.stackTraces = false) {p : Program} {e : Env} {s : State} {m : MethodId} {args : Array Value} {below : List Frame} {meth : Method} {c : Code} {D : va_G} {ca : Nat → ClassId} {ad : Nat → Nat} {st' : pu_St} {v : Int32} (C : hC p s m meth c args b_Md_move 10 (some .boolean) "MuseumHouseModel") (G : mX D ca ad (mA ad s.heap.size) s) :
    ∀ (_ : Unit) (st : pu_St) (x1 x2 x3 x4 x5 x6 x7 x8 z0 : Int32), f_Md_move_b207 st x1 x2 x3 x4 x5 x6 x7 x8 z0 = some (v, st') → ∀ (H : Heap) (locs : List Loc), va_P D hcl (mW ca ad st) H → va_S (mA ad s.heap.size) s.heap H locs → ∀ ls : Array Slot, lv_has ls 10 [(0, .ref (ad 0)), (1, .int x1), (2, .int x2), (3, .int x3), (4, .int x4), (5, .int x5), (6, .int x6), (7, .int x7), (8, .int x8)] → W p l e { frames := 2, cells := 0, slots := 0, locals := 46 } s m args below meth c H locs 0 0 (MQX below (mQ D ca ad (fun v => some (.int v)) (.inl v) st' s.heap.size) args s 0 0 (mA ad s.heap.size)) (F0 m 207 ls [.int z0]) := by
  obtain ⟨hx, hb, hml, hr, hlocks, hno, hown, hts⟩ := id C
  intro _ st x1 x2 x3 x4 x5 x6 x7 x8 z0 h H locs hP hS ls hl
  unfold f_Md_move_b207 at h
  refine lv_istore (lv' := [(9, .int z0), (0, .ref (ad 0)), (1, .int x1), (2, .int x2), (3, .int x3), (4, .int x4), (5, .int x5), (6, .int x6), (7, .int x7), (8, .int x8)]) hx hb d_Md_move_207 hl (by decide) rfl (fun ls hl => ?_)
  refine lv_aload_n hx hb d_Md_move_209 rfl (lv_at hl 1 rfl) ?_
  refine va_get (D := D) (ci := 11) (v := .ref (ad 12)) (C := R_Md) (T := T_Md) (N := 27) hx hb hts iw_Md hown G.1 hP 0 rfl rfl 14 (by decide) (hts _ wd_4_237) (fun _ h9 => h9) rfl d_Md_move_210 ?_
  refine lv_iload hx hb d_Md_move_213 (lv_at hl 7 rfl) ?_
  refine lv_iload hx hb d_Md_move_215 (lv_at hl 8 rfl) ?_
  refine lv_iconst (v := (-1)) hx hb d_Md_move_217 (by decide) ?_
  refine lv_icmp_ne (tgt := 233) hx hb d_Md_move_218 (by decide) (fun c26 => ?_) (fun c26 => ?_)
  · rw [if_neg c26] at h
    refine lv_aload_n hx hb d_Md_move_233 rfl (lv_at hl 1 rfl) ?_
    refine va_get (D := D) (ci := 11) (v := .ref (ad 12)) (C := R_Md) (T := T_Md) (N := 27) hx hb hts iw_Md hown G.1 hP 0 rfl rfl 14 (by decide) (hts _ wd_4_237) (fun _ h9 => h9) rfl d_Md_move_234 ?_
    refine lv_iload hx hb d_Md_move_237 (lv_at hl 7 rfl) ?_
    obtain ⟨v27, e_v27, h⟩ := pu_ob h
    refine pu_iald hx hb G.1 hP 12 11 rfl rfl e_v27 d_Md_move_239 ?_
    exact t_Md_move_b240 htl C G () st x1 x2 x3 x4 x5 x6 x7 x8 z0 v27 x6 h _ _ hP hS ls (lv_sub hl [1, 2, 3, 4, 5, 6, 7, 8, 9, 0] rfl)
  · rw [if_pos c26] at h
    refine lv_aload_n hx hb d_Md_move_221 rfl (lv_at hl 1 rfl) ?_
    refine va_get (D := D) (ci := 11) (v := .ref (ad 12)) (C := R_Md) (T := T_Md) (N := 27) hx hb hts iw_Md hown G.1 hP 0 rfl rfl 14 (by decide) (hts _ wd_4_237) (fun _ h9 => h9) rfl d_Md_move_222 ?_
    refine lv_iload hx hb d_Md_move_225 (lv_at hl 7 rfl) ?_
    obtain ⟨v28, e_v28, h⟩ := pu_ob h
    refine pu_iald hx hb G.1 hP 12 11 rfl rfl e_v28 d_Md_move_227 ?_
    refine lv_iconst (v := 1) hx hb d_Md_move_228 (by decide) ?_
    refine lv_iadd hx hb d_Md_move_229 ?_
    refine lv_goto (tgt := 240) hx hb d_Md_move_230 (by decide) ?_
    exact t_Md_move_b240 htl C G () st x1 x2 x3 x4 x5 x6 x7 x8 z0 (v28 + 1) x6 h _ _ hP hS ls (lv_sub hl [1, 2, 3, 4, 5, 6, 7, 8, 9, 0] rfl)
set_option maxHeartbeats 4000000 in
set_option maxRecDepth 100000 in
theorem t_Md_move_b165 {l : Launch} (htl : l.stackTraces = false) {p : Program} {e : Env} {s : State} {m : MethodId} {args : Array Value} {below : List Frame} {meth : Method} {c : Code} {D : va_G} {ca : Nat → ClassId} {ad : Nat → Nat} {st' : pu_St} {v : Int32} (C : hC p s m meth c args b_Md_move 10 (some .boolean) "MuseumHouseModel") (G : mX D ca ad (mA ad s.heap.size) s) :
    ∀ (_ : Unit) (st : pu_St) (x1 x2 x3 x4 x5 x6 x7 x8 z0 z1 : Int32), f_Md_move_b165 st x1 x2 x3 x4 x5 x6 x7 x8 z0 z1 = some (v, st') → ∀ (H : Heap) (locs : List Loc), va_P D hcl (mW ca ad st) H → va_S (mA ad s.heap.size) s.heap H locs → ∀ ls : Array Slot, lv_has ls 10 [(0, .ref (ad 0)), (1, .int x1), (2, .int x2), (3, .int x3), (4, .int x4), (5, .int x5), (6, .int x6), (7, .int x7), (8, .int x8)] → W p l e { frames := 2, cells := 0, slots := 0, locals := 46 } s m args below meth c H locs 0 0 (MQX below (mQ D ca ad (fun v => some (.int v)) (.inl v) st' s.heap.size) args s 0 0 (mA ad s.heap.size)) (F0 m 165 ls [.int z0, .int z1]) := by
  obtain ⟨hx, hb, hml, hr, hlocks, hno, hown, hts⟩ := id C
  intro _ st x1 x2 x3 x4 x5 x6 x7 x8 z0 z1 h H locs hP hS ls hl
  unfold f_Md_move_b165 at h
  refine lv_bipush (v := 12) hx hb d_Md_move_165 (by decide) ?_
  obtain ⟨v21, e_v21, h⟩ := pu_ob h
  refine pu_callR (va_runS (As := [.int z1, .int z0, .int 12]) (rest := []) ⟨hx, hb, hml, hown, hts⟩ (c_Md_then l D ca ad st _ z1 z0 12 v21 e_v21) (xCS 3 hts wd_5_90 wd_1_13 wd_5_88 wd_5_89 (by decide +kernel) ⟨Nat.le_of_ble_eq_true rfl, Nat.le_of_ble_eq_true rfl⟩) (G.preS hP hS) rfl rfl hl.1 rfl (lv_room (Nat.le_of_ble_eq_true rfl)) d_Md_move_167 ⟨Nat.zero_le _, Nat.zero_le _⟩) ?_
  refine lv_istore (lv' := [(8, .int v21), (0, .ref (ad 0)), (1, .int x1), (2, .int x2), (3, .int x3), (4, .int x4), (5, .int x5), (6, .int x6), (7, .int x7)]) hx hb d_Md_move_170 hl (by decide) rfl (fun ls hl => ?_)
  refine lv_aload_n hx hb d_Md_move_172 rfl (lv_at hl 1 rfl) ?_
  refine lv_iload hx hb d_Md_move_173 (lv_at hl 0 rfl) ?_
  obtain ⟨q22, e_q22, h⟩ := pu_ob h
  refine mCallI G hS (va_runV (As := [.int v21]) (rest := []) ⟨hx, hb, hml, hown, hts⟩ (MetX.met (c_Md_holds l htl D ca ad st _ v21 q22.1 q22.2 e_q22) (fun _ _ _ _ q => ⟨_, q.1⟩)) (xCW (C := "MuseumHouseModel") 1 hts wd_5_94 wd_1_13 wd_5_91 wd_5_93 wd_0_16 (by decide +kernel) ⟨Nat.le_of_ble_eq_true rfl, Nat.le_of_ble_eq_true rfl⟩) (G.preV hP hS 0 rfl rfl) rfl rfl hl.1 rfl (lv_room (Nat.le_of_ble_eq_true rfl)) d_Md_move_175 ⟨Nat.zero_le _, Nat.zero_le _⟩) (fun H locs hP hS => ?_)
  refine lv_if_ne (tgt := 183) hx hb d_Md_move_178 (by decide) (fun c23 => ?_) (fun c23 => ?_)
  · rw [if_neg c23] at h
    refine lv_iload hx hb d_Md_move_183 (lv_at hl 8 rfl) ?_
    refine lv_iconst (v := (-1)) hx hb d_Md_move_185 (by decide) ?_
    refine lv_icmp_ne (tgt := 205) hx hb d_Md_move_186 (by decide) (fun c24 => ?_) (fun c24 => ?_)
    · rw [if_neg c24] at h
      refine lv_iload hx hb d_Md_move_205 (lv_at hl 8 rfl) ?_
      exact t_Md_move_b207 htl C G () q22.2 x1 x2 x3 x4 x5 x6 x7 v21 x7 h _ _ hP hS ls (lv_sub hl [1, 2, 3, 4, 5, 6, 7, 8, 0] rfl)
    · rw [if_pos c24] at h
      refine lv_bipush (v := 12) hx hb d_Md_move_189 (by decide) ?_
      refine lv_iload hx hb d_Md_move_191 (lv_at hl 7 rfl) ?_
      refine lv_imul hx hb d_Md_move_193 ?_
      refine lv_aload_n hx hb d_Md_move_194 rfl (lv_at hl 1 rfl) ?_
      refine va_get (D := D) (ci := 11) (v := .ref (ad 12)) (C := R_Md) (T := T_Md) (N := 27) hx hb hts iw_Md hown G.1 hP 0 rfl rfl 14 (by decide) (hts _ wd_4_237) (fun _ h9 => h9) rfl d_Md_move_195 ?_
      refine lv_iload hx hb d_Md_move_198 (lv_at hl 7 rfl) ?_
      obtain ⟨v25, e_v25, h⟩ := pu_ob h
      refine pu_iald hx hb G.1 hP 12 11 rfl rfl e_v25 d_Md_move_200 ?_
      refine lv_iadd hx hb d_Md_move_201 ?_
      refine lv_goto (tgt := 207) hx hb d_Md_move_202 (by decide) ?_
      exact t_Md_move_b207 htl C G () q22.2 x1 x2 x3 x4 x5 x6 x7 v21 ((12 * x6) + v25) h _ _ hP hS ls (lv_sub hl [1, 2, 3, 4, 5, 6, 7, 8, 0] rfl)
  · rw [if_pos c23] at h
    refine lv_iconst (v := 0) hx hb d_Md_move_181 (by decide) ?_
    cases h
    exact W.toX (W.zret (ty := .boolean) hx hb hr rfl (fun t ht _ => ⟨rfl, by rw [ht]; exact hP, hS.F ht⟩) hS.2.2 d_Md_move_182)
set_option maxHeartbeats 4000000 in
set_option maxRecDepth 100000 in
theorem t_Md_move_b160 {l : Launch} (htl : l.stackTraces = false) {p : Program} {e : Env} {s : State} {m : MethodId} {args : Array Value} {below : List Frame} {meth : Method} {c : Code} {D : va_G} {ca : Nat → ClassId} {ad : Nat → Nat} {st' : pu_St} {v : Int32} (C : hC p s m meth c args b_Md_move 10 (some .boolean) "MuseumHouseModel") (G : mX D ca ad (mA ad s.heap.size) s) :
    ∀ (_ : Unit) (st : pu_St) (x1 x2 x3 x4 x5 x6 x7 x8 z0 : Int32), f_Md_move_b160 st x1 x2 x3 x4 x5 x6 x7 x8 z0 = some (v, st') → ∀ (H : Heap) (locs : List Loc), va_P D hcl (mW ca ad st) H → va_S (mA ad s.heap.size) s.heap H locs → ∀ ls : Array Slot, lv_has ls 10 [(0, .ref (ad 0)), (1, .int x1), (2, .int x2), (3, .int x3), (4, .int x4), (5, .int x5), (6, .int x6), (7, .int x7), (8, .int x8)] → W p l e { frames := 2, cells := 0, slots := 0, locals := 46 } s m args below meth c H locs 0 0 (MQX below (mQ D ca ad (fun v => some (.int v)) (.inl v) st' s.heap.size) args s 0 0 (mA ad s.heap.size)) (F0 m 160 ls [.int z0]) := by
  obtain ⟨hx, hb, hml, hr, hlocks, hno, hown, hts⟩ := id C
  intro _ st x1 x2 x3 x4 x5 x6 x7 x8 z0 h H locs hP hS ls hl
  unfold f_Md_move_b160 at h
  refine lv_iconst (v := 1) hx hb d_Md_move_160 (by decide) ?_
  refine lv_goto (tgt := 165) hx hb d_Md_move_161 (by decide) ?_
  exact t_Md_move_b165 htl C G () st x1 x2 x3 x4 x5 x6 x7 x8 1 z0 h _ _ hP hS ls (lv_sub hl [0, 1, 2, 3, 4, 5, 6, 7, 8] rfl)
set_option maxHeartbeats 4000000 in
set_option maxRecDepth 100000 in
theorem t_Md_move_b134 {l : Launch} (htl : l.stackTraces = false) {p : Program} {e : Env} {s : State} {m : MethodId} {args : Array Value} {below : List Frame} {meth : Method} {c : Code} {D : va_G} {ca : Nat → ClassId} {ad : Nat → Nat} {st' : pu_St} {v : Int32} (C : hC p s m meth c args b_Md_move 10 (some .boolean) "MuseumHouseModel") (G : mX D ca ad (mA ad s.heap.size) s) :
    ∀ (_ : Unit) (st : pu_St) (x1 x2 x3 x4 x5 x6 x7 x8 z0 z1 : Int32), f_Md_move_b134 st x1 x2 x3 x4 x5 x6 x7 x8 z0 z1 = some (v, st') → ∀ (H : Heap) (locs : List Loc), va_P D hcl (mW ca ad st) H → va_S (mA ad s.heap.size) s.heap H locs → ∀ ls : Array Slot, lv_has ls 10 [(0, .ref (ad 0)), (1, .int x1), (2, .int x2), (3, .int x3), (4, .int x4), (5, .int x5), (6, .int x6), (7, .int x7), (8, .int x8)] → W p l e { frames := 2, cells := 0, slots := 0, locals := 46 } s m args below meth c H locs 0 0 (MQX below (mQ D ca ad (fun v => some (.int v)) (.inl v) st' s.heap.size) args s 0 0 (mA ad s.heap.size)) (F0 m 134 ls [.int z0, .int z1]) := by
  obtain ⟨hx, hb, hml, hr, hlocks, hno, hown, hts⟩ := id C
  intro _ st x1 x2 x3 x4 x5 x6 x7 x8 z0 z1 h H locs hP hS ls hl
  unfold f_Md_move_b134 at h
  refine lv_bipush (v := 11) hx hb d_Md_move_134 (by decide) ?_
  obtain ⟨v17, e_v17, h⟩ := pu_ob h
  refine pu_callR (va_runS (As := [.int z1, .int z0, .int 11]) (rest := []) ⟨hx, hb, hml, hown, hts⟩ (c_Md_then l D ca ad st _ z1 z0 11 v17 e_v17) (xCS 3 hts wd_5_90 wd_1_13 wd_5_88 wd_5_89 (by decide +kernel) ⟨Nat.le_of_ble_eq_true rfl, Nat.le_of_ble_eq_true rfl⟩) (G.preS hP hS) rfl rfl hl.1 rfl (lv_room (Nat.le_of_ble_eq_true rfl)) d_Md_move_136 ⟨Nat.zero_le _, Nat.zero_le _⟩) ?_
  refine lv_istore (lv' := [(8, .int v17), (0, .ref (ad 0)), (1, .int x1), (2, .int x2), (3, .int x3), (4, .int x4), (5, .int x5), (6, .int x6), (7, .int x7)]) hx hb d_Md_move_139 hl (by decide) rfl (fun ls hl => ?_)
  refine lv_iload hx hb d_Md_move_141 (lv_at hl 0 rfl) ?_
  refine lv_iload hx hb d_Md_move_143 (lv_at hl 0 rfl) ?_
  refine lv_if_gt (tgt := 160) hx hb d_Md_move_145 (by decide) (fun c18 => ?_) (fun c18 => ?_)
  · rw [if_pos c18] at h
    exact t_Md_move_b160 htl C G () st x1 x2 x3 x4 x5 x6 x7 v17 v17 h _ _ hP hS ls (lv_sub hl [1, 2, 3, 4, 5, 6, 7, 8, 0] rfl)
  · rw [if_neg c18] at h
    refine lv_aload_n hx hb d_Md_move_148 rfl (lv_at hl 1 rfl) ?_
    refine lv_iload_n hx hb d_Md_move_149 rfl (lv_at hl 3 rfl) ?_
    refine lv_iload hx hb d_Md_move_150 (lv_at hl 5 rfl) ?_
    refine lv_iload hx hb d_Md_move_152 (lv_at hl 5 rfl) ?_
    obtain ⟨v19, e_v19, h⟩ := pu_ob h
    refine pu_callR (va_runV (As := [.int x2, .int x4, .int x4]) (rest := [.int v17]) ⟨hx, hb, hml, hown, hts⟩ (c_Md_loanAt l D ca ad st _ x2 x4 x4 v19 e_v19) (xCW (C := "MuseumHouseModel") 3 hts wd_5_186 wd_1_13 wd_5_183 wd_5_185 wd_0_26 (by decide +kernel) ⟨Nat.le_of_ble_eq_true rfl, Nat.le_of_ble_eq_true rfl⟩) (G.preV hP hS 0 rfl rfl) rfl rfl hl.1 rfl (lv_room (Nat.le_of_ble_eq_true rfl)) d_Md_move_154 ⟨Nat.zero_le _, Nat.zero_le _⟩) ?_
    refine lv_if_ne (tgt := 164) hx hb d_Md_move_157 (by decide) (fun c20 => ?_) (fun c20 => ?_)
    · rw [if_neg c20] at h
      refine lv_iconst (v := 0) hx hb d_Md_move_164 (by decide) ?_
      exact t_Md_move_b165 htl C G () st x1 x2 x3 x4 x5 x6 x7 v17 0 v17 h _ _ hP hS ls (lv_sub hl [1, 2, 3, 4, 5, 6, 7, 8, 0] rfl)
    · rw [if_pos c20] at h
      exact t_Md_move_b160 htl C G () st x1 x2 x3 x4 x5 x6 x7 v17 v17 h _ _ hP hS ls (lv_sub hl [1, 2, 3, 4, 5, 6, 7, 8, 0] rfl)
set_option maxHeartbeats 4000000 in
set_option maxRecDepth 100000 in
theorem t_Md_move_b129 {l : Launch} (htl : l.stackTraces = false) {p : Program} {e : Env} {s : State} {m : MethodId} {args : Array Value} {below : List Frame} {meth : Method} {c : Code} {D : va_G} {ca : Nat → ClassId} {ad : Nat → Nat} {st' : pu_St} {v : Int32} (C : hC p s m meth c args b_Md_move 10 (some .boolean) "MuseumHouseModel") (G : mX D ca ad (mA ad s.heap.size) s) :
    ∀ (_ : Unit) (st : pu_St) (x1 x2 x3 x4 x5 x6 x7 x8 z0 : Int32), f_Md_move_b129 st x1 x2 x3 x4 x5 x6 x7 x8 z0 = some (v, st') → ∀ (H : Heap) (locs : List Loc), va_P D hcl (mW ca ad st) H → va_S (mA ad s.heap.size) s.heap H locs → ∀ ls : Array Slot, lv_has ls 10 [(0, .ref (ad 0)), (1, .int x1), (2, .int x2), (3, .int x3), (4, .int x4), (5, .int x5), (6, .int x6), (7, .int x7), (8, .int x8)] → W p l e { frames := 2, cells := 0, slots := 0, locals := 46 } s m args below meth c H locs 0 0 (MQX below (mQ D ca ad (fun v => some (.int v)) (.inl v) st' s.heap.size) args s 0 0 (mA ad s.heap.size)) (F0 m 129 ls [.int z0]) := by
  obtain ⟨hx, hb, hml, hr, hlocks, hno, hown, hts⟩ := id C
  intro _ st x1 x2 x3 x4 x5 x6 x7 x8 z0 h H locs hP hS ls hl
  unfold f_Md_move_b129 at h
  refine lv_iconst (v := 1) hx hb d_Md_move_129 (by decide) ?_
  refine lv_goto (tgt := 134) hx hb d_Md_move_130 (by decide) ?_
  exact t_Md_move_b134 htl C G () st x1 x2 x3 x4 x5 x6 x7 x8 1 z0 h _ _ hP hS ls (lv_sub hl [0, 1, 2, 3, 4, 5, 6, 7, 8] rfl)
set_option maxHeartbeats 4000000 in
set_option maxRecDepth 100000 in
theorem t_Md_move_b89 {l : Launch} (htl : l.stackTraces = false) {p : Program} {e : Env} {s : State} {m : MethodId} {args : Array Value} {below : List Frame} {meth : Method} {c : Code} {D : va_G} {ca : Nat → ClassId} {ad : Nat → Nat} {st' : pu_St} {v : Int32} (C : hC p s m meth c args b_Md_move 10 (some .boolean) "MuseumHouseModel") (G : mX D ca ad (mA ad s.heap.size) s) :
    ∀ (_ : Unit) (st : pu_St) (x1 x2 x3 x4 x5 x6 x7 z0 z1 z2 z3 : Int32), f_Md_move_b89 st x1 x2 x3 x4 x5 x6 x7 z0 z1 z2 z3 = some (v, st') → ∀ (H : Heap) (locs : List Loc), va_P D hcl (mW ca ad st) H → va_S (mA ad s.heap.size) s.heap H locs → ∀ ls : Array Slot, lv_has ls 10 [(0, .ref (ad 0)), (1, .int x1), (2, .int x2), (3, .int x3), (4, .int x4), (5, .int x5), (6, .int x6), (7, .int x7)] → W p l e { frames := 2, cells := 0, slots := 0, locals := 46 } s m args below meth c H locs 0 0 (MQX below (mQ D ca ad (fun v => some (.int v)) (.inl v) st' s.heap.size) args s 0 0 (mA ad s.heap.size)) (F0 m 89 ls [.int z0, .int z1, .int z2, .int z3, .ref (ad 0)]) := by
  obtain ⟨hx, hb, hml, hr, hlocks, hno, hown, hts⟩ := id C
  intro _ st x1 x2 x3 x4 x5 x6 x7 z0 z1 z2 z3 h H locs hP hS ls hl
  unfold f_Md_move_b89 at h
  obtain ⟨v11, e_v11, h⟩ := pu_ob h
  refine pu_callR (va_runV (As := [.int z3, .int z2, .int z1, .int z0]) (rest := []) ⟨hx, hb, hml, hown, hts⟩ (c_Md_first l D ca ad st _ z3 z2 z1 z0 v11 e_v11) (xCW (C := "MuseumHouseModel") 4 hts wd_5_76 wd_1_13 wd_5_73 wd_5_75 wd_0_13 (by decide +kernel) ⟨Nat.le_of_ble_eq_true rfl, Nat.le_of_ble_eq_true rfl⟩) (G.preV hP hS 0 rfl rfl) rfl rfl hl.1 rfl (lv_room (Nat.le_of_ble_eq_true rfl)) d_Md_move_89 ⟨Nat.zero_le _, Nat.zero_le _⟩) ?_
  refine lv_istore (lv' := [(8, .int v11), (0, .ref (ad 0)), (1, .int x1), (2, .int x2), (3, .int x3), (4, .int x4), (5, .int x5), (6, .int x6), (7, .int x7)]) hx hb d_Md_move_92 hl (by decide) rfl (fun ls hl => ?_)
  refine lv_iload hx hb d_Md_move_94 (lv_at hl 0 rfl) ?_
  refine lv_iload hx hb d_Md_move_96 (lv_at hl 5 rfl) ?_
  refine lv_iconst (v := 0) hx hb d_Md_move_98 (by decide) ?_
  refine lv_aload_n hx hb d_Md_move_99 rfl (lv_at hl 1 rfl) ?_
  refine va_get (D := D) (ci := 11) (v := .int (st.1 2)) (C := R_Md) (T := T_Md) (N := 27) hx hb hts iw_Md hown G.1 hP 0 rfl rfl 2 (by decide) (hts _ wd_4_225) (fun _ h9 => h9) rfl d_Md_move_100 ?_
  obtain ⟨v12, e_v12, h⟩ := pu_ob h
  refine pu_callR (va_runS (As := [.int x4, .int 0, .int (st.1 2)]) (rest := [.int v11]) ⟨hx, hb, hml, hown, hts⟩ (c_Md_lies l D ca ad st _ x4 0 (st.1 2) v12 e_v12) (xCS 3 hts wd_5_87 wd_1_13 wd_5_85 wd_5_86 (by decide +kernel) ⟨Nat.le_of_ble_eq_true rfl, Nat.le_of_ble_eq_true rfl⟩) (G.preS hP hS) rfl rfl hl.1 rfl (lv_room (Nat.le_of_ble_eq_true rfl)) d_Md_move_103 ⟨Nat.zero_le _, Nat.zero_le _⟩) ?_
  refine lv_iconst (v := 4) hx hb d_Md_move_106 (by decide) ?_
  obtain ⟨v13, e_v13, h⟩ := pu_ob h
  refine pu_callR (va_runS (As := [.int v11, .int v12, .int 4]) (rest := []) ⟨hx, hb, hml, hown, hts⟩ (c_Md_then l D ca ad st _ v11 v12 4 v13 e_v13) (xCS 3 hts wd_5_90 wd_1_13 wd_5_88 wd_5_89 (by decide +kernel) ⟨Nat.le_of_ble_eq_true rfl, Nat.le_of_ble_eq_true rfl⟩) (G.preS hP hS) rfl rfl hl.1 rfl (lv_room (Nat.le_of_ble_eq_true rfl)) d_Md_move_107 ⟨Nat.zero_le _, Nat.zero_le _⟩) ?_
  refine lv_istore (lv' := [(8, .int v13), (0, .ref (ad 0)), (1, .int x1), (2, .int x2), (3, .int x3), (4, .int x4), (5, .int x5), (6, .int x6), (7, .int x7)]) hx hb d_Md_move_110 hl (by decide) rfl (fun ls hl => ?_)
  refine lv_iload hx hb d_Md_move_112 (lv_at hl 0 rfl) ?_
  refine lv_iload hx hb d_Md_move_114 (lv_at hl 0 rfl) ?_
  refine lv_if_gt (tgt := 129) hx hb d_Md_move_116 (by decide) (fun c14 => ?_) (fun c14 => ?_)
  · rw [if_pos c14] at h
    exact t_Md_move_b129 htl C G () st x1 x2 x3 x4 x5 x6 x7 v13 v13 h _ _ hP hS ls (lv_sub hl [1, 2, 3, 4, 5, 6, 7, 8, 0] rfl)
  · rw [if_neg c14] at h
    refine lv_iload hx hb d_Md_move_119 (lv_at hl 5 rfl) ?_
    refine lv_aload_n hx hb d_Md_move_121 rfl (lv_at hl 1 rfl) ?_
    refine lv_iload_n hx hb d_Md_move_122 rfl (lv_at hl 3 rfl) ?_
    obtain ⟨v15, e_v15, h⟩ := pu_ob h
    refine pu_callR (va_runV (As := [.int x2]) (rest := [.int x4, .int v13]) ⟨hx, hb, hml, hown, hts⟩ (c_Md_dayOf l D ca ad st _ x2 v15 e_v15) (xCW (C := "MuseumHouseModel") 1 hts wd_5_182 wd_1_13 wd_5_179 wd_5_181 wd_0_25 (by decide +kernel) ⟨Nat.le_of_ble_eq_true rfl, Nat.le_of_ble_eq_true rfl⟩) (G.preV hP hS 0 rfl rfl) rfl rfl hl.1 rfl (lv_room (Nat.le_of_ble_eq_true rfl)) d_Md_move_123 ⟨Nat.zero_le _, Nat.zero_le _⟩) ?_
    refine lv_icmp_lt (tgt := 133) hx hb d_Md_move_126 (by decide) (fun c16 => ?_) (fun c16 => ?_)
    · rw [if_pos c16] at h
      refine lv_iconst (v := 0) hx hb d_Md_move_133 (by decide) ?_
      exact t_Md_move_b134 htl C G () st x1 x2 x3 x4 x5 x6 x7 v13 0 v13 h _ _ hP hS ls (lv_sub hl [1, 2, 3, 4, 5, 6, 7, 8, 0] rfl)
    · rw [if_neg c16] at h
      exact t_Md_move_b129 htl C G () st x1 x2 x3 x4 x5 x6 x7 v13 v13 h _ _ hP hS ls (lv_sub hl [1, 2, 3, 4, 5, 6, 7, 8, 0] rfl)
set_option maxHeartbeats 4000000 in
set_option maxRecDepth 100000 in
theorem t_Md_move_b84 {l : Launch} (htl : l.stackTraces = false) {p : Program} {e : Env} {s : State} {m : MethodId} {args : Array Value} {below : List Frame} {meth : Method} {c : Code} {D : va_G} {ca : Nat → ClassId} {ad : Nat → Nat} {st' : pu_St} {v : Int32} (C : hC p s m meth c args b_Md_move 10 (some .boolean) "MuseumHouseModel") (G : mX D ca ad (mA ad s.heap.size) s) :
    ∀ (_ : Unit) (st : pu_St) (x1 x2 x3 x4 x5 x6 x7 z0 z1 z2 : Int32), f_Md_move_b84 st x1 x2 x3 x4 x5 x6 x7 z0 z1 z2 = some (v, st') → ∀ (H : Heap) (locs : List Loc), va_P D hcl (mW ca ad st) H → va_S (mA ad s.heap.size) s.heap H locs → ∀ ls : Array Slot, lv_has ls 10 [(0, .ref (ad 0)), (1, .int x1), (2, .int x2), (3, .int x3), (4, .int x4), (5, .int x5), (6, .int x6), (7, .int x7)] → W p l e { frames := 2, cells := 0, slots := 0, locals := 46 } s m args below meth c H locs 0 0 (MQX below (mQ D ca ad (fun v => some (.int v)) (.inl v) st' s.heap.size) args s 0 0 (mA ad s.heap.size)) (F0 m 84 ls [.int z0, .int z1, .int z2, .ref (ad 0)]) := by
  obtain ⟨hx, hb, hml, hr, hlocks, hno, hown, hts⟩ := id C
  intro _ st x1 x2 x3 x4 x5 x6 x7 z0 z1 z2 h H locs hP hS ls hl
  unfold f_Md_move_b84 at h
  refine lv_iconst (v := 1) hx hb d_Md_move_84 (by decide) ?_
  refine lv_goto (tgt := 89) hx hb d_Md_move_85 (by decide) ?_
  exact t_Md_move_b89 htl C G () st x1 x2 x3 x4 x5 x6 x7 1 z0 z1 z2 h _ _ hP hS ls (lv_sub hl [0, 1, 2, 3, 4, 5, 6, 7] rfl)
set_option maxHeartbeats 4000000 in
set_option maxRecDepth 100000 in
theorem t_Md_move_b59 {l : Launch} (htl : l.stackTraces = false) {p : Program} {e : Env} {s : State} {m : MethodId} {args : Array Value} {below : List Frame} {meth : Method} {c : Code} {D : va_G} {ca : Nat → ClassId} {ad : Nat → Nat} {st' : pu_St} {v : Int32} (C : hC p s m meth c args b_Md_move 10 (some .boolean) "MuseumHouseModel") (G : mX D ca ad (mA ad s.heap.size) s) :
    ∀ (_ : Unit) (st : pu_St) (x1 x2 x3 x4 x5 x6 z0 : Int32), f_Md_move_b59 st x1 x2 x3 x4 x5 x6 z0 = some (v, st') → ∀ (H : Heap) (locs : List Loc), va_P D hcl (mW ca ad st) H → va_S (mA ad s.heap.size) s.heap H locs → ∀ ls : Array Slot, lv_has ls 10 [(0, .ref (ad 0)), (1, .int x1), (2, .int x2), (3, .int x3), (4, .int x4), (5, .int x5), (6, .int x6)] → W p l e { frames := 2, cells := 0, slots := 0, locals := 46 } s m args below meth c H locs 0 0 (MQX below (mQ D ca ad (fun v => some (.int v)) (.inl v) st' s.heap.size) args s 0 0 (mA ad s.heap.size)) (F0 m 59 ls [.int z0]) := by
  obtain ⟨hx, hb, hml, hr, hlocks, hno, hown, hts⟩ := id C
  intro _ st x1 x2 x3 x4 x5 x6 z0 h H locs hP hS ls hl
  unfold f_Md_move_b59 at h
  refine lv_istore (lv' := [(7, .int z0), (0, .ref (ad 0)), (1, .int x1), (2, .int x2), (3, .int x3), (4, .int x4), (5, .int x5), (6, .int x6)]) hx hb d_Md_move_59 hl (by decide) rfl (fun ls hl => ?_)
  refine lv_aload_n hx hb d_Md_move_61 rfl (lv_at hl 1 rfl) ?_
  refine lv_iload hx hb d_Md_move_62 (lv_at hl 6 rfl) ?_
  refine lv_iload_n hx hb d_Md_move_64 rfl (lv_at hl 2 rfl) ?_
  refine lv_iconst (v := 4) hx hb d_Md_move_65 (by decide) ?_
  refine lv_iload hx hb d_Md_move_66 (lv_at hl 0 rfl) ?_
  refine lv_iconst (v := (-1)) hx hb d_Md_move_68 (by decide) ?_
  refine lv_icmp_ne (tgt := 84) hx hb d_Md_move_69 (by decide) (fun c8 => ?_) (fun c8 => ?_)
  · rw [if_neg c8] at h
    exact t_Md_move_b84 htl C G () st x1 x2 x3 x4 x5 x6 z0 4 x1 x5 h _ _ hP hS ls (lv_sub hl [1, 2, 3, 4, 5, 6, 7, 0] rfl)
  · rw [if_pos c8] at h
    refine lv_aload_n hx hb d_Md_move_72 rfl (lv_at hl 1 rfl) ?_
    refine va_get (D := D) (ci := 11) (v := .ref (ad 12)) (C := R_Md) (T := T_Md) (N := 27) hx hb hts iw_Md hown G.1 hP 0 rfl rfl 14 (by decide) (hts _ wd_4_237) (fun _ h9 => h9) rfl d_Md_move_73 ?_
    refine lv_iload hx hb d_Md_move_76 (lv_at hl 7 rfl) ?_
    obtain ⟨v9, e_v9, h⟩ := pu_ob h
    refine pu_iald hx hb G.1 hP 12 11 rfl rfl e_v9 d_Md_move_78 ?_
    refine lv_bipush (v := 12) hx hb d_Md_move_79 (by decide) ?_
    refine lv_icmp_ge (tgt := 88) hx hb d_Md_move_81 (by decide) (fun c10 => ?_) (fun c10 => ?_)
    · rw [if_pos c10] at h
      refine lv_iconst (v := 0) hx hb d_Md_move_88 (by decide) ?_
      exact t_Md_move_b89 htl C G () st x1 x2 x3 x4 x5 x6 z0 0 4 x1 x5 h _ _ hP hS ls (lv_sub hl [1, 2, 3, 4, 5, 6, 7, 0] rfl)
    · rw [if_neg c10] at h
      exact t_Md_move_b84 htl C G () st x1 x2 x3 x4 x5 x6 z0 4 x1 x5 h _ _ hP hS ls (lv_sub hl [1, 2, 3, 4, 5, 6, 7, 0] rfl)
set_option maxHeartbeats 4000000 in
set_option maxRecDepth 100000 in
theorem t_Md_move_b40 {l : Launch} (htl : l.stackTraces = false) {p : Program} {e : Env} {s : State} {m : MethodId} {args : Array Value} {below : List Frame} {meth : Method} {c : Code} {D : va_G} {ca : Nat → ClassId} {ad : Nat → Nat} {st' : pu_St} {v : Int32} (C : hC p s m meth c args b_Md_move 10 (some .boolean) "MuseumHouseModel") (G : mX D ca ad (mA ad s.heap.size) s) :
    ∀ (_ : Unit) (st : pu_St) (x1 x2 x3 x4 x5 z0 : Int32), f_Md_move_b40 st x1 x2 x3 x4 x5 z0 = some (v, st') → ∀ (H : Heap) (locs : List Loc), va_P D hcl (mW ca ad st) H → va_S (mA ad s.heap.size) s.heap H locs → ∀ ls : Array Slot, lv_has ls 10 [(0, .ref (ad 0)), (1, .int x1), (2, .int x2), (3, .int x3), (4, .int x4), (5, .int x5)] → W p l e { frames := 2, cells := 0, slots := 0, locals := 46 } s m args below meth c H locs 0 0 (MQX below (mQ D ca ad (fun v => some (.int v)) (.inl v) st' s.heap.size) args s 0 0 (mA ad s.heap.size)) (F0 m 40 ls [.int z0]) := by
  obtain ⟨hx, hb, hml, hr, hlocks, hno, hown, hts⟩ := id C
  intro _ st x1 x2 x3 x4 x5 z0 h H locs hP hS ls hl
  unfold f_Md_move_b40 at h
  refine lv_istore (lv' := [(6, .int z0), (0, .ref (ad 0)), (1, .int x1), (2, .int x2), (3, .int x3), (4, .int x4), (5, .int x5)]) hx hb d_Md_move_40 hl (by decide) rfl (fun ls hl => ?_)
  refine lv_iload hx hb d_Md_move_42 (lv_at hl 6 rfl) ?_
  refine lv_if_eq (tgt := 58) hx hb d_Md_move_44 (by decide) (fun c6 => ?_) (fun c6 => ?_)
  · rw [if_pos c6] at h
    refine lv_iconst (v := (-1)) hx hb d_Md_move_58 (by decide) ?_
    exact t_Md_move_b59 htl C G () st x1 x2 x3 x4 x5 z0 (-1) h _ _ hP hS ls (lv_sub hl [1, 2, 3, 4, 5, 6, 0] rfl)
  · rw [if_neg c6] at h
    refine lv_aload_n hx hb d_Md_move_47 rfl (lv_at hl 1 rfl) ?_
    refine lv_iload hx hb d_Md_move_48 (lv_at hl 0 rfl) ?_
    refine lv_iload hx hb d_Md_move_50 (lv_at hl 5 rfl) ?_
    obtain ⟨v7, e_v7, h⟩ := pu_ob h
    refine pu_callR (va_runV (As := [.int z0, .int x4]) (rest := []) ⟨hx, hb, hml, hown, hts⟩ (c_Md_moveAt l D ca ad st _ z0 x4 v7 e_v7) (xCW (C := "MuseumHouseModel") 2 hts wd_5_178 wd_1_13 wd_5_175 wd_5_177 wd_0_24 (by decide +kernel) ⟨Nat.le_of_ble_eq_true rfl, Nat.le_of_ble_eq_true rfl⟩) (G.preV hP hS 0 rfl rfl) rfl rfl hl.1 rfl (lv_room (Nat.le_of_ble_eq_true rfl)) d_Md_move_52 ⟨Nat.zero_le _, Nat.zero_le _⟩) ?_
    refine lv_goto (tgt := 59) hx hb d_Md_move_55 (by decide) ?_
    exact t_Md_move_b59 htl C G () st x1 x2 x3 x4 x5 z0 v7 h _ _ hP hS ls (lv_sub hl [1, 2, 3, 4, 5, 6, 0] rfl)
set_option maxHeartbeats 4000000 in
set_option maxRecDepth 100000 in
theorem t_Md_move_b24 {l : Launch} (htl : l.stackTraces = false) {p : Program} {e : Env} {s : State} {m : MethodId} {args : Array Value} {below : List Frame} {meth : Method} {c : Code} {D : va_G} {ca : Nat → ClassId} {ad : Nat → Nat} {st' : pu_St} {v : Int32} (C : hC p s m meth c args b_Md_move 10 (some .boolean) "MuseumHouseModel") (G : mX D ca ad (mA ad s.heap.size) s) :
    ∀ (_ : Unit) (st : pu_St) (x1 x2 x3 x4 z0 : Int32), f_Md_move_b24 st x1 x2 x3 x4 z0 = some (v, st') → ∀ (H : Heap) (locs : List Loc), va_P D hcl (mW ca ad st) H → va_S (mA ad s.heap.size) s.heap H locs → ∀ ls : Array Slot, lv_has ls 10 [(0, .ref (ad 0)), (1, .int x1), (2, .int x2), (3, .int x3), (4, .int x4)] → W p l e { frames := 2, cells := 0, slots := 0, locals := 46 } s m args below meth c H locs 0 0 (MQX below (mQ D ca ad (fun v => some (.int v)) (.inl v) st' s.heap.size) args s 0 0 (mA ad s.heap.size)) (F0 m 24 ls [.int z0]) := by
  obtain ⟨hx, hb, hml, hr, hlocks, hno, hown, hts⟩ := id C
  intro _ st x1 x2 x3 x4 z0 h H locs hP hS ls hl
  unfold f_Md_move_b24 at h
  refine lv_istore (lv' := [(5, .int z0), (0, .ref (ad 0)), (1, .int x1), (2, .int x2), (3, .int x3), (4, .int x4)]) hx hb d_Md_move_24 hl (by decide) rfl (fun ls hl => ?_)
  refine lv_iload hx hb d_Md_move_26 (lv_at hl 0 rfl) ?_
  refine lv_if_eq (tgt := 39) hx hb d_Md_move_28 (by decide) (fun c5 => ?_) (fun c5 => ?_)
  · rw [if_pos c5] at h
    refine lv_iconst (v := 0) hx hb d_Md_move_39 (by decide) ?_
    exact t_Md_move_b40 htl C G () st x1 x2 x3 x4 z0 0 h _ _ hP hS ls (lv_sub hl [1, 2, 3, 4, 5, 0] rfl)
  · rw [if_neg c5] at h
    refine lv_iload_n hx hb d_Md_move_31 rfl (lv_at hl 3 rfl) ?_
    refine lv_sipush (v := 500) hx hb d_Md_move_32 (by decide) ?_
    refine lv_isub hx hb d_Md_move_35 ?_
    refine lv_goto (tgt := 40) hx hb d_Md_move_36 (by decide) ?_
    exact t_Md_move_b40 htl C G () st x1 x2 x3 x4 z0 (x2 - 500) h _ _ hP hS ls (lv_sub hl [1, 2, 3, 4, 5, 0] rfl)
set_option maxHeartbeats 4000000 in
set_option maxRecDepth 100000 in
theorem t_Md_move_b23 {l : Launch} (htl : l.stackTraces = false) {p : Program} {e : Env} {s : State} {m : MethodId} {args : Array Value} {below : List Frame} {meth : Method} {c : Code} {D : va_G} {ca : Nat → ClassId} {ad : Nat → Nat} {st' : pu_St} {v : Int32} (C : hC p s m meth c args b_Md_move 10 (some .boolean) "MuseumHouseModel") (G : mX D ca ad (mA ad s.heap.size) s) :
    ∀ (_ : Unit) (st : pu_St) (x1 x2 x3 x4 : Int32), f_Md_move_b23 st x1 x2 x3 x4 = some (v, st') → ∀ (H : Heap) (locs : List Loc), va_P D hcl (mW ca ad st) H → va_S (mA ad s.heap.size) s.heap H locs → ∀ ls : Array Slot, lv_has ls 10 [(0, .ref (ad 0)), (1, .int x1), (2, .int x2), (3, .int x3), (4, .int x4)] → W p l e { frames := 2, cells := 0, slots := 0, locals := 46 } s m args below meth c H locs 0 0 (MQX below (mQ D ca ad (fun v => some (.int v)) (.inl v) st' s.heap.size) args s 0 0 (mA ad s.heap.size)) (F0 m 23 ls []) := by
  obtain ⟨hx, hb, hml, hr, hlocks, hno, hown, hts⟩ := id C
  intro _ st x1 x2 x3 x4 h H locs hP hS ls hl
  unfold f_Md_move_b23 at h
  refine lv_iconst (v := 0) hx hb d_Md_move_23 (by decide) ?_
  exact t_Md_move_b24 htl C G () st x1 x2 x3 x4 0 h _ _ hP hS ls (lv_sub hl [0, 1, 2, 3, 4] rfl)
set_option maxHeartbeats 4000000 in
set_option maxRecDepth 100000 in
theorem c_Md_move (l : Launch) (htl : l.stackTraces = false) (D : va_G) (ca : Nat → ClassId) (ad : Nat → Nat) (st : pu_St) (sz : Nat) (x1 x2 x3 x4 : Int32) (v : Int32) (st' : pu_St) (h : f_Md_move st x1 x2 x3 x4 = some (v, st')) : MetX l y_Md_move (.code y_Md_move b_Md_move 10 (some .boolean) :: tG) { frames := 2, cells := 0, slots := 0, locals := 46 } (va_Pc [.ref (ad 0), .int x1, .int x2, .int x3, .int x4] (mPc D ca ad st sz)) (mQ D ca ad (fun v => some (.int v)) (.inl v) st' sz) 0 0 (mA ad sz) := by
  refine mMet (by decide +kernel) ?_
  intro p e s m below meth c hsz C G hP
  obtain ⟨hx, hb, hml, hr, hlocks, hno, hown, hts⟩ := id C
  have hown : s.vm.findClass "MuseumHouseModel" = some m.cls := hown
  have hS : va_S (mA ad s.heap.size) s.heap s.heap [] := va_S.rf
  have hl := lv_entry ([.ref (ad 0), .int x1, .int x2, .int x3, .int x4]) (n := 10) (Nat.le_of_ble_eq_true rfl)
  rw [lg_entry_eq]
  generalize (lg_sl ([.ref (ad 0), .int x1, .int x2, .int x3, .int x4]) ++ List.replicate (10 - (lg_sl ([.ref (ad 0), .int x1, .int x2, .int x3, .int x4])).length) Slot.unset).toArray = ls at hl ⊢
  have hl : lv_has ls 10 [(0, .ref (ad 0)), (1, .int x1), (2, .int x2), (3, .int x3), (4, .int x4)] := hl
  unfold f_Md_move at h
  refine lv_aload_n hx hb d_Md_move_0 rfl (lv_at hl 0 rfl) ?_
  refine lv_iload_n hx hb d_Md_move_1 rfl (lv_at hl 2 rfl) ?_
  refine lv_iconst (v := 5) hx hb d_Md_move_2 (by decide) ?_
  obtain ⟨v1, e_v1, h⟩ := pu_ob h
  refine pu_callR (va_runV (As := [.int x2, .int 5]) (rest := []) ⟨hx, hb, hml, hown, hts⟩ (c_Md_is l D ca ad st _ x2 5 v1 e_v1) (xCW (C := "MuseumHouseModel") 2 hts wd_5_80 wd_1_13 wd_5_77 wd_5_79 wd_0_14 (by decide +kernel) ⟨Nat.le_of_ble_eq_true rfl, Nat.le_of_ble_eq_true rfl⟩) (G.preV hP hS 0 rfl rfl) rfl rfl hl.1 rfl (lv_room (Nat.le_of_ble_eq_true rfl)) d_Md_move_3 ⟨Nat.zero_le _, Nat.zero_le _⟩) ?_
  refine lv_if_eq (tgt := 23) hx hb d_Md_move_6 (by decide) (fun c2 => ?_) (fun c2 => ?_)
  · rw [if_pos c2] at h
    exact t_Md_move_b23 htl C G () st x1 x2 x3 x4 h _ _ hP hS ls (lv_sub hl [0, 1, 2, 3, 4] rfl)
  · rw [if_neg c2] at h
    refine lv_aload_n hx hb d_Md_move_9 rfl (lv_at hl 0 rfl) ?_
    refine lv_iload_n hx hb d_Md_move_10 rfl (lv_at hl 3 rfl) ?_
    refine lv_bipush (v := 6) hx hb d_Md_move_11 (by decide) ?_
    obtain ⟨v3, e_v3, h⟩ := pu_ob h
    refine pu_callR (va_runV (As := [.int x3, .int 6]) (rest := []) ⟨hx, hb, hml, hown, hts⟩ (c_Md_is l D ca ad st _ x3 6 v3 e_v3) (xCW (C := "MuseumHouseModel") 2 hts wd_5_80 wd_1_13 wd_5_77 wd_5_79 wd_0_14 (by decide +kernel) ⟨Nat.le_of_ble_eq_true rfl, Nat.le_of_ble_eq_true rfl⟩) (G.preV hP hS 0 rfl rfl) rfl rfl hl.1 rfl (lv_room (Nat.le_of_ble_eq_true rfl)) d_Md_move_13 ⟨Nat.zero_le _, Nat.zero_le _⟩) ?_
    refine lv_if_eq (tgt := 23) hx hb d_Md_move_16 (by decide) (fun c4 => ?_) (fun c4 => ?_)
    · rw [if_pos c4] at h
      exact t_Md_move_b23 htl C G () st x1 x2 x3 x4 h _ _ hP hS ls (lv_sub hl [0, 1, 2, 3, 4] rfl)
    · rw [if_neg c4] at h
      refine lv_iconst (v := 1) hx hb d_Md_move_19 (by decide) ?_
      refine lv_goto (tgt := 24) hx hb d_Md_move_20 (by decide) ?_
      exact t_Md_move_b24 htl C G () st x1 x2 x3 x4 1 h _ _ hP hS ls (lv_sub hl [0, 1, 2, 3, 4] rfl)
set_option maxHeartbeats 4000000 in
set_option maxRecDepth 100000 in
theorem c_Md_isDay (l : Launch) (D : va_G) (ca : Nat → ClassId) (ad : Nat → Nat) (st : pu_St) (sz : Nat) (x0 : Int32) (r : Int32) (h : f_Md_isDay st x0 = some r) : Met l y_Md_isDay (.code y_Md_isDay b_Md_isDay 1 (some .boolean) :: tG) { frames := 1, cells := 0, slots := 0, locals := 22 } (va_Pc [.int x0] (mPc D ca ad st sz)) (QcRead r) 0 0 (fun _ => False) := by
  refine mRead (by decide +kernel) ?_
  intro p e s m below meth c C G hP
  obtain ⟨hx, hb, hml, hr, hlocks, hno, hown, hts⟩ := id C
  have hown : s.vm.findClass "MuseumHouseModel" = some m.cls := hown
  have hS : va_S (mA ad s.heap.size) s.heap s.heap [] := va_S.rf
  have hl := lv_entry ([.int x0]) (n := 1) (Nat.le_of_ble_eq_true rfl)
  rw [lg_entry_eq]
  generalize (lg_sl ([.int x0]) ++ List.replicate (1 - (lg_sl ([.int x0])).length) Slot.unset).toArray = ls at hl ⊢
  have hl : lv_has ls 1 [(0, .int x0)] := hl
  unfold f_Md_isDay at h
  refine lv_iload_n hx hb d_Md_isDay_0 rfl (lv_at hl 0 rfl) ?_
  refine lv_iconst (v := 0) hx hb d_Md_isDay_1 (by decide) ?_
  refine lv_sipush (v := 9999) hx hb d_Md_isDay_2 (by decide) ?_
  obtain ⟨v1, e_v1, h⟩ := pu_ob h
  refine pu_callR (va_runS (As := [.int x0, .int 0, .int 9999]) (rest := []) ⟨hx, hb, hml, hown, hts⟩ (c_Md_lies l D ca ad st _ x0 0 9999 v1 e_v1) (xCS 3 hts wd_5_87 wd_1_13 wd_5_85 wd_5_86 (by decide +kernel) ⟨Nat.le_of_ble_eq_true rfl, Nat.le_of_ble_eq_true rfl⟩) (G.preS hP hS) rfl rfl hl.1 rfl (lv_room (Nat.le_of_ble_eq_true rfl)) d_Md_isDay_5 ⟨Nat.zero_le _, Nat.zero_le _⟩) ?_
  obtain ⟨h, hz⟩ := pu_bo_inv h
  exact W.zret (v := v1) (ty := .boolean) hx hb hr (by rw [h]; rcases hz with e | e <;> rw [e] <;> rfl) (fun t ht _ => ⟨by rw [h], ht⟩) (fun _ q => by cases q) d_Md_isDay_8
set_option maxHeartbeats 4000000 in
set_option maxRecDepth 100000 in
theorem t_Md_placeOf_b8 {l : Launch} {p : Program} {e : Env} {s : State} {m : MethodId} {args : Array Value} {below : List Frame} {meth : Method} {c : Code} {D : va_G} {ca : Nat → ClassId} {ad : Nat → Nat} {A : Nat → Prop} {st : pu_St} {r : Int32} (C : hC p s m meth c args b_Md_placeOf 5 (some .int) "MuseumHouseModel") (G : mX D ca ad A s) (hP : va_P D hcl (mW ca ad st) s.heap) (hS : va_S A s.heap s.heap []) :
    ∀ (n : Nat) (x1 x2 x3 x4 : Int32), f_Md_placeOf_b8 n st x1 x2 x3 x4 = some r → ∀ ls : Array Slot, lv_has ls 5 [(0, .ref (ad 0)), (1, .int x1), (2, .int x2), (3, .int x3), (4, .int x4)] → W p l e { frames := 0, cells := 0, slots := 0, locals := 0 } s m args below meth c s.heap [] 0 0 (MQ below (QcRead r) args s 0 0 (fun _ => False)) (F0 m 8 ls []) := by
  obtain ⟨hx, hb, hml, hr, hlocks, hno, hown, hts⟩ := id C
  intro n
  induction n with
  | zero => intro x1 x2 x3 x4 h; cases h
  | succ n ih =>
    intro x1 x2 x3 x4 h ls hl
    unfold f_Md_placeOf_b8 at h
    refine lv_iload hx hb d_Md_placeOf_8 (lv_at hl 4 rfl) ?_
    refine lv_bipush (v := 12) hx hb d_Md_placeOf_10 (by decide) ?_
    refine lv_iload_n hx hb d_Md_placeOf_12 rfl (lv_at hl 1 rfl) ?_
    refine lv_imul hx hb d_Md_placeOf_13 ?_
    refine lv_aload_n hx hb d_Md_placeOf_14 rfl (lv_at hl 0 rfl) ?_
    refine va_get (D := D) (ci := 11) (v := .ref (ad 12)) (C := R_Md) (T := T_Md) (N := 27) hx hb hts iw_Md hown G.1 hP 0 rfl rfl 14 (by decide) (hts _ wd_4_237) (fun _ h9 => h9) rfl d_Md_placeOf_15 ?_
    refine lv_iload_n hx hb d_Md_placeOf_18 rfl (lv_at hl 1 rfl) ?_
    obtain ⟨v1, e_v1, h⟩ := pu_ob h
    refine pu_iald hx hb G.1 hP 12 11 rfl rfl e_v1 d_Md_placeOf_19 ?_
    refine lv_iadd hx hb d_Md_placeOf_20 ?_
    refine lv_icmp_ge (tgt := 69) hx hb d_Md_placeOf_21 (by decide) (fun c2 => ?_) (fun c2 => ?_)
    · rw [if_pos c2] at h
      refine lv_iload_n hx hb d_Md_placeOf_69 rfl (lv_at hl 3 rfl) ?_
      refine lv_iconst (v := (-1)) hx hb d_Md_placeOf_70 (by decide) ?_
      refine lv_icmp_ne (tgt := 78) hx hb d_Md_placeOf_71 (by decide) (fun c3 => ?_) (fun c3 => ?_)
      · rw [if_neg c3] at h
        refine lv_aload_n hx hb d_Md_placeOf_78 rfl (lv_at hl 0 rfl) ?_
        refine va_get (D := D) (ci := 11) (v := .ref (ad 14)) (C := R_Md) (T := T_Md) (N := 27) hx hb hts iw_Md hown G.1 hP 0 rfl rfl 16 (by decide) (hts _ wd_4_239) (fun _ h9 => h9) rfl d_Md_placeOf_79 ?_
        refine lv_iload_n hx hb d_Md_placeOf_82 rfl (lv_at hl 3 rfl) ?_
        obtain ⟨v4, e_v4, h⟩ := pu_ob h
        refine pu_iald hx hb G.1 hP 14 13 rfl rfl e_v4 d_Md_placeOf_83 ?_
        have h := Option.some.inj h
        exact W.iret (v := v4) hx hb hr (fun t ht _ => ⟨by rw [h], ht⟩) (fun _ q => by cases q) d_Md_placeOf_84
      · rw [if_pos c3] at h
        refine lv_iconst (v := 0) hx hb d_Md_placeOf_74 (by decide) ?_
        refine lv_goto (tgt := 84) hx hb d_Md_placeOf_75 (by decide) ?_
        have h := Option.some.inj h
        exact W.iret (v := 0) hx hb hr (fun t ht _ => ⟨by rw [h], ht⟩) (fun _ q => by cases q) d_Md_placeOf_84
    · rw [if_neg c2] at h
      refine lv_aload_n hx hb d_Md_placeOf_24 rfl (lv_at hl 0 rfl) ?_
      refine va_get (D := D) (ci := 11) (v := .ref (ad 13)) (C := R_Md) (T := T_Md) (N := 27) hx hb hts iw_Md hown G.1 hP 0 rfl rfl 15 (by decide) (hts _ wd_4_238) (fun _ h9 => h9) rfl d_Md_placeOf_25 ?_
      refine lv_iload hx hb d_Md_placeOf_28 (lv_at hl 4 rfl) ?_
      obtain ⟨v5, e_v5, h⟩ := pu_ob h
      refine pu_iald hx hb G.1 hP 13 12 rfl rfl e_v5 d_Md_placeOf_30 ?_
      refine lv_iload_n hx hb d_Md_placeOf_31 rfl (lv_at hl 2 rfl) ?_
      refine lv_icmp_gt (tgt := 61) hx hb d_Md_placeOf_32 (by decide) (fun c6 => ?_) (fun c6 => ?_)
      · rw [if_pos c6] at h
        refine lv_iload_n hx hb d_Md_placeOf_61 rfl (lv_at hl 3 rfl) ?_
        refine lv_istore_n (lv' := [(3, .int x3), (0, .ref (ad 0)), (1, .int x1), (2, .int x2), (4, .int x4)]) hx hb d_Md_placeOf_62 rfl hl (by decide) rfl (fun ls hl => ?_)
        refine lv_iinc (v := (x4 + 1)) (lv' := [(4, .int (x4 + 1)), (3, .int x3), (0, .ref (ad 0)), (1, .int x1), (2, .int x2)]) hx hb d_Md_placeOf_63 hl (k := 4) rfl rfl (by decide) rfl (fun ls hl => ?_)
        refine lv_goto (tgt := 8) hx hb d_Md_placeOf_66 (by decide) ?_
        exact ih x1 x2 x3 (x4 + 1) h ls (lv_sub hl [2, 3, 4, 1, 0] rfl)
      · rw [if_neg c6] at h
        refine lv_iload_n hx hb d_Md_placeOf_35 rfl (lv_at hl 3 rfl) ?_
        refine lv_iconst (v := (-1)) hx hb d_Md_placeOf_36 (by decide) ?_
        refine lv_icmp_eq (tgt := 56) hx hb d_Md_placeOf_37 (by decide) (fun c7 => ?_) (fun c7 => ?_)
        · rw [if_pos c7] at h
          refine lv_iload hx hb d_Md_placeOf_56 (lv_at hl 4 rfl) ?_
          refine lv_goto (tgt := 62) hx hb d_Md_placeOf_58 (by decide) ?_
          refine lv_istore_n (lv' := [(3, .int x4), (0, .ref (ad 0)), (1, .int x1), (2, .int x2), (4, .int x4)]) hx hb d_Md_placeOf_62 rfl hl (by decide) rfl (fun ls hl => ?_)
          refine lv_iinc (v := (x4 + 1)) (lv' := [(4, .int (x4 + 1)), (3, .int x4), (0, .ref (ad 0)), (1, .int x1), (2, .int x2)]) hx hb d_Md_placeOf_63 hl (k := 4) rfl rfl (by decide) rfl (fun ls hl => ?_)
          refine lv_goto (tgt := 8) hx hb d_Md_placeOf_66 (by decide) ?_
          exact ih x1 x2 x4 (x4 + 1) h ls (lv_sub hl [2, 3, 4, 1, 0] rfl)
        · rw [if_neg c7] at h
          refine lv_aload_n hx hb d_Md_placeOf_40 rfl (lv_at hl 0 rfl) ?_
          refine va_get (D := D) (ci := 11) (v := .ref (ad 13)) (C := R_Md) (T := T_Md) (N := 27) hx hb hts iw_Md hown G.1 hP 0 rfl rfl 15 (by decide) (hts _ wd_4_238) (fun _ h9 => h9) rfl d_Md_placeOf_41 ?_
          refine lv_iload hx hb d_Md_placeOf_44 (lv_at hl 4 rfl) ?_
          obtain ⟨v8, e_v8, h⟩ := pu_ob h
          refine pu_iald hx hb G.1 hP 13 12 rfl rfl e_v8 d_Md_placeOf_46 ?_
          refine lv_aload_n hx hb d_Md_placeOf_47 rfl (lv_at hl 0 rfl) ?_
          refine va_get (D := D) (ci := 11) (v := .ref (ad 13)) (C := R_Md) (T := T_Md) (N := 27) hx hb hts iw_Md hown G.1 hP 0 rfl rfl 15 (by decide) (hts _ wd_4_238) (fun _ h9 => h9) rfl d_Md_placeOf_48 ?_
          refine lv_iload_n hx hb d_Md_placeOf_51 rfl (lv_at hl 3 rfl) ?_
          obtain ⟨v9, e_v9, h⟩ := pu_ob h
          refine pu_iald hx hb G.1 hP 13 12 rfl rfl e_v9 d_Md_placeOf_52 ?_
          refine lv_icmp_le (tgt := 61) hx hb d_Md_placeOf_53 (by decide) (fun c10 => ?_) (fun c10 => ?_)
          · rw [if_pos c10] at h
            refine lv_iload_n hx hb d_Md_placeOf_61 rfl (lv_at hl 3 rfl) ?_
            refine lv_istore_n (lv' := [(3, .int x3), (0, .ref (ad 0)), (1, .int x1), (2, .int x2), (4, .int x4)]) hx hb d_Md_placeOf_62 rfl hl (by decide) rfl (fun ls hl => ?_)
            refine lv_iinc (v := (x4 + 1)) (lv' := [(4, .int (x4 + 1)), (3, .int x3), (0, .ref (ad 0)), (1, .int x1), (2, .int x2)]) hx hb d_Md_placeOf_63 hl (k := 4) rfl rfl (by decide) rfl (fun ls hl => ?_)
            refine lv_goto (tgt := 8) hx hb d_Md_placeOf_66 (by decide) ?_
            exact ih x1 x2 x3 (x4 + 1) h ls (lv_sub hl [2, 3, 4, 1, 0] rfl)
          · rw [if_neg c10] at h
            refine lv_iload hx hb d_Md_placeOf_56 (lv_at hl 4 rfl) ?_
            refine lv_goto (tgt := 62) hx hb d_Md_placeOf_58 (by decide) ?_
            refine lv_istore_n (lv' := [(3, .int x4), (0, .ref (ad 0)), (1, .int x1), (2, .int x2), (4, .int x4)]) hx hb d_Md_placeOf_62 rfl hl (by decide) rfl (fun ls hl => ?_)
            refine lv_iinc (v := (x4 + 1)) (lv' := [(4, .int (x4 + 1)), (3, .int x4), (0, .ref (ad 0)), (1, .int x1), (2, .int x2)]) hx hb d_Md_placeOf_63 hl (k := 4) rfl rfl (by decide) rfl (fun ls hl => ?_)
            refine lv_goto (tgt := 8) hx hb d_Md_placeOf_66 (by decide) ?_
            exact ih x1 x2 x4 (x4 + 1) h ls (lv_sub hl [2, 3, 4, 1, 0] rfl)
set_option maxHeartbeats 4000000 in
set_option maxRecDepth 100000 in
theorem c_Md_placeOf (l : Launch) (D : va_G) (ca : Nat → ClassId) (ad : Nat → Nat) (st : pu_St) (sz : Nat) (x1 x2 : Int32) (r : Int32) (h : f_Md_placeOf st x1 x2 = some r) : Met l y_Md_placeOf (.code y_Md_placeOf b_Md_placeOf 5 (some .int) :: tG) { frames := 0, cells := 0, slots := 0, locals := 0 } (va_Pc [.ref (ad 0), .int x1, .int x2] (mPc D ca ad st sz)) (QcRead r) 0 0 (fun _ => False) := by
  refine mRead (by decide +kernel) ?_
  intro p e s m below meth c C G hP
  obtain ⟨hx, hb, hml, hr, hlocks, hno, hown, hts⟩ := id C
  have hown : s.vm.findClass "MuseumHouseModel" = some m.cls := hown
  have hS : va_S (mA ad s.heap.size) s.heap s.heap [] := va_S.rf
  have hl := lv_entry ([.ref (ad 0), .int x1, .int x2]) (n := 5) (Nat.le_of_ble_eq_true rfl)
  rw [lg_entry_eq]
  generalize (lg_sl ([.ref (ad 0), .int x1, .int x2]) ++ List.replicate (5 - (lg_sl ([.ref (ad 0), .int x1, .int x2])).length) Slot.unset).toArray = ls at hl ⊢
  have hl : lv_has ls 5 [(0, .ref (ad 0)), (1, .int x1), (2, .int x2)] := hl
  unfold f_Md_placeOf at h
  refine lv_iconst (v := (-1)) hx hb d_Md_placeOf_0 (by decide) ?_
  refine lv_istore_n (lv' := [(3, .int (-1)), (0, .ref (ad 0)), (1, .int x1), (2, .int x2)]) hx hb d_Md_placeOf_1 rfl hl (by decide) rfl (fun ls hl => ?_)
  refine lv_bipush (v := 12) hx hb d_Md_placeOf_2 (by decide) ?_
  refine lv_iload_n hx hb d_Md_placeOf_4 rfl (lv_at hl 2 rfl) ?_
  refine lv_imul hx hb d_Md_placeOf_5 ?_
  refine lv_istore (lv' := [(4, .int (12 * x1)), (3, .int (-1)), (0, .ref (ad 0)), (1, .int x1), (2, .int x2)]) hx hb d_Md_placeOf_6 hl (by decide) rfl (fun ls hl => ?_)
  exact t_Md_placeOf_b8 C G hP hS pu_fu x1 x2 (-1) (12 * x1) h ls (lv_sub hl [2, 3, 4, 1, 0] rfl)
set_option maxHeartbeats 4000000 in
set_option maxRecDepth 100000 in
theorem t_Md_place_b15 {l : Launch} (htl : l.stackTraces = false) {p : Program} {e : Env} {s : State} {m : MethodId} {args : Array Value} {below : List Frame} {meth : Method} {c : Code} {D : va_G} {ca : Nat → ClassId} {ad : Nat → Nat} {st' : pu_St} {v : Int32} (C : hC p s m meth c args b_Md_place 3 (some .int) "MuseumHouseModel") (G : mX D ca ad (mA ad s.heap.size) s) :
    ∀ (_ : Unit) (st : pu_St) (x1 x2 z0 : Int32), f_Md_place_b15 st x1 x2 z0 = some (v, st') → ∀ (H : Heap) (locs : List Loc), va_P D hcl (mW ca ad st) H → va_S (mA ad s.heap.size) s.heap H locs → ∀ ls : Array Slot, lv_has ls 3 [(0, .ref (ad 0)), (1, .int x1), (2, .int x2)] → W p l e { frames := 2, cells := 0, slots := 0, locals := 42 } s m args below meth c H locs 0 0 (MQX below (mQ D ca ad (fun v => some (.int v)) (.inl v) st' s.heap.size) args s 0 0 (mA ad s.heap.size)) (F0 m 15 ls [.int z0, .ref (ad 0)]) := by
  obtain ⟨hx, hb, hml, hr, hlocks, hno, hown, hts⟩ := id C
  intro _ st x1 x2 z0 h H locs hP hS ls hl
  unfold f_Md_place_b15 at h
  refine lv_iload_n hx hb d_Md_place_15 rfl (lv_at hl 2 rfl) ?_
  obtain ⟨v3, e_v3, h⟩ := pu_ob h
  refine pu_callR (va_runS (As := [.int x2]) (rest := [.int z0, .ref (ad 0)]) ⟨hx, hb, hml, hown, hts⟩ (c_Md_isDay l D ca ad st _ x2 v3 e_v3) (xCS 1 hts wd_5_193 wd_1_13 wd_5_191 wd_5_192 (by decide +kernel) ⟨Nat.le_of_ble_eq_true rfl, Nat.le_of_ble_eq_true rfl⟩) (G.preS hP hS) rfl rfl hl.1 rfl (lv_room (Nat.le_of_ble_eq_true rfl)) d_Md_place_16 ⟨Nat.zero_le _, Nat.zero_le _⟩) ?_
  refine lv_iconst (v := 4) hx hb d_Md_place_19 (by decide) ?_
  obtain ⟨v4, e_v4, h⟩ := pu_ob h
  refine pu_callR (va_runS (As := [.int z0, .int v3, .int 4]) (rest := [.ref (ad 0)]) ⟨hx, hb, hml, hown, hts⟩ (c_Md_then l D ca ad st _ z0 v3 4 v4 e_v4) (xCS 3 hts wd_5_90 wd_1_13 wd_5_88 wd_5_89 (by decide +kernel) ⟨Nat.le_of_ble_eq_true rfl, Nat.le_of_ble_eq_true rfl⟩) (G.preS hP hS) rfl rfl hl.1 rfl (lv_room (Nat.le_of_ble_eq_true rfl)) d_Md_place_20 ⟨Nat.zero_le _, Nat.zero_le _⟩) ?_
  obtain ⟨q5, e_q5, h⟩ := pu_ob h
  refine mCallI G hS (va_runV (As := [.int v4]) (rest := []) ⟨hx, hb, hml, hown, hts⟩ (MetX.met (c_Md_holdsShort l htl D ca ad st _ v4 q5.1 q5.2 e_q5) (fun _ _ _ _ q => ⟨_, q.1⟩)) (xCW (C := "MuseumHouseModel") 1 hts wd_5_146 wd_1_13 wd_5_143 wd_5_145 wd_0_22 (by decide +kernel) ⟨Nat.le_of_ble_eq_true rfl, Nat.le_of_ble_eq_true rfl⟩) (G.preV hP hS 0 rfl rfl) rfl rfl hl.1 rfl (lv_room (Nat.le_of_ble_eq_true rfl)) d_Md_place_23 ⟨Nat.zero_le _, Nat.zero_le _⟩) (fun H locs hP hS => ?_)
  refine lv_if_eq (tgt := 42) hx hb d_Md_place_26 (by decide) (fun c6 => ?_) (fun c6 => ?_)
  · rw [if_pos c6] at h
    refine lv_iconst (v := 0) hx hb d_Md_place_42 (by decide) ?_
    cases h
    exact W.toX (W.iret hx hb hr (fun t ht _ => ⟨rfl, by rw [ht]; exact hP, hS.F ht⟩) hS.2.2 d_Md_place_43)
  · rw [if_neg c6] at h
    refine lv_aload_n hx hb d_Md_place_29 rfl (lv_at hl 0 rfl) ?_
    refine lv_iload_n hx hb d_Md_place_30 rfl (lv_at hl 1 rfl) ?_
    refine lv_sipush (v := 500) hx hb d_Md_place_31 (by decide) ?_
    refine lv_isub hx hb d_Md_place_34 ?_
    refine lv_iload_n hx hb d_Md_place_35 rfl (lv_at hl 2 rfl) ?_
    obtain ⟨v7, e_v7, h⟩ := pu_ob h
    refine pu_callR (va_runV (As := [.int (x1 - 500), .int x2]) (rest := []) ⟨hx, hb, hml, hown, hts⟩ (c_Md_placeOf l D ca ad q5.2 _ (x1 - 500) x2 v7 e_v7) (xCW (C := "MuseumHouseModel") 2 hts wd_5_197 wd_1_13 wd_5_194 wd_5_196 wd_0_27 (by decide +kernel) ⟨Nat.le_of_ble_eq_true rfl, Nat.le_of_ble_eq_true rfl⟩) (G.preV hP hS 0 rfl rfl) rfl rfl hl.1 rfl (lv_room (Nat.le_of_ble_eq_true rfl)) d_Md_place_36 ⟨Nat.zero_le _, Nat.zero_le _⟩) ?_
    refine lv_goto (tgt := 43) hx hb d_Md_place_39 (by decide) ?_
    cases h
    exact W.toX (W.iret hx hb hr (fun t ht _ => ⟨rfl, by rw [ht]; exact hP, hS.F ht⟩) hS.2.2 d_Md_place_43)
set_option maxHeartbeats 4000000 in
set_option maxRecDepth 100000 in
theorem c_Md_place (l : Launch) (htl : l.stackTraces = false) (D : va_G) (ca : Nat → ClassId) (ad : Nat → Nat) (st : pu_St) (sz : Nat) (x1 x2 : Int32) (v : Int32) (st' : pu_St) (h : f_Md_place st x1 x2 = some (v, st')) : MetX l y_Md_place (.code y_Md_place b_Md_place 3 (some .int) :: tG) { frames := 2, cells := 0, slots := 0, locals := 42 } (va_Pc [.ref (ad 0), .int x1, .int x2] (mPc D ca ad st sz)) (mQ D ca ad (fun v => some (.int v)) (.inl v) st' sz) 0 0 (mA ad sz) := by
  refine mMet (by decide +kernel) ?_
  intro p e s m below meth c hsz C G hP
  obtain ⟨hx, hb, hml, hr, hlocks, hno, hown, hts⟩ := id C
  have hown : s.vm.findClass "MuseumHouseModel" = some m.cls := hown
  have hS : va_S (mA ad s.heap.size) s.heap s.heap [] := va_S.rf
  have hl := lv_entry ([.ref (ad 0), .int x1, .int x2]) (n := 3) (Nat.le_of_ble_eq_true rfl)
  rw [lg_entry_eq]
  generalize (lg_sl ([.ref (ad 0), .int x1, .int x2]) ++ List.replicate (3 - (lg_sl ([.ref (ad 0), .int x1, .int x2])).length) Slot.unset).toArray = ls at hl ⊢
  have hl : lv_has ls 3 [(0, .ref (ad 0)), (1, .int x1), (2, .int x2)] := hl
  unfold f_Md_place at h
  refine lv_aload_n hx hb d_Md_place_0 rfl (lv_at hl 0 rfl) ?_
  refine lv_aload_n hx hb d_Md_place_1 rfl (lv_at hl 0 rfl) ?_
  refine lv_iload_n hx hb d_Md_place_2 rfl (lv_at hl 1 rfl) ?_
  refine lv_iconst (v := 5) hx hb d_Md_place_3 (by decide) ?_
  obtain ⟨v1, e_v1, h⟩ := pu_ob h
  refine pu_callR (va_runV (As := [.int x1, .int 5]) (rest := [.ref (ad 0)]) ⟨hx, hb, hml, hown, hts⟩ (c_Md_is l D ca ad st _ x1 5 v1 e_v1) (xCW (C := "MuseumHouseModel") 2 hts wd_5_80 wd_1_13 wd_5_77 wd_5_79 wd_0_14 (by decide +kernel) ⟨Nat.le_of_ble_eq_true rfl, Nat.le_of_ble_eq_true rfl⟩) (G.preV hP hS 0 rfl rfl) rfl rfl hl.1 rfl (lv_room (Nat.le_of_ble_eq_true rfl)) d_Md_place_4 ⟨Nat.zero_le _, Nat.zero_le _⟩) ?_
  refine lv_if_eq (tgt := 14) hx hb d_Md_place_7 (by decide) (fun c2 => ?_) (fun c2 => ?_)
  · rw [if_pos c2] at h
    refine lv_iconst (v := 1) hx hb d_Md_place_14 (by decide) ?_
    exact t_Md_place_b15 htl C G () st x1 x2 1 h _ _ hP hS ls (lv_sub hl [0, 1, 2] rfl)
  · rw [if_neg c2] at h
    refine lv_iconst (v := 0) hx hb d_Md_place_10 (by decide) ?_
    refine lv_goto (tgt := 15) hx hb d_Md_place_11 (by decide) ?_
    exact t_Md_place_b15 htl C G () st x1 x2 0 h _ _ hP hS ls (lv_sub hl [0, 1, 2] rfl)
set_option maxHeartbeats 4000000 in
set_option maxRecDepth 100000 in
theorem t_Md_stored_b37 {l : Launch} (htl : l.stackTraces = false) {p : Program} {e : Env} {s : State} {m : MethodId} {args : Array Value} {below : List Frame} {meth : Method} {c : Code} {D : va_G} {ca : Nat → ClassId} {ad : Nat → Nat} {st' : pu_St} {v : Int32} (C : hC p s m meth c args b_Md_stored 6 (some .int) "MuseumHouseModel") (G : mX D ca ad (mA ad s.heap.size) s) :
    ∀ (n : Nat) (st : pu_St) (x1 x2 x3 x4 : Int32), f_Md_stored_b37 n st x1 x2 x3 x4 = some (v, st') → ∀ (H : Heap) (locs : List Loc), va_P D hcl (mW ca ad st) H → va_S (mA ad s.heap.size) s.heap H locs → ∀ ls : Array Slot, lv_has ls 6 [(0, .ref (ad 0)), (1, .int x1), (2, .int x2), (3, .int x3), (4, .int x4)] → W p l e { frames := 2, cells := 0, slots := 0, locals := 42 } s m args below meth c H locs 0 0 (MQX below (mQ D ca ad (fun v => some (.int v)) (.inl v) st' s.heap.size) args s 0 0 (mA ad s.heap.size)) (F0 m 37 ls []) := by
  obtain ⟨hx, hb, hml, hr, hlocks, hno, hown, hts⟩ := id C
  intro n
  induction n with
  | zero => intro st x1 x2 x3 x4 h; cases h
  | succ n ih =>
    intro st x1 x2 x3 x4 h H locs hP hS ls hl
    unfold f_Md_stored_b37 at h
    refine lv_iload hx hb d_Md_stored_37 (lv_at hl 4 rfl) ?_
    refine lv_aload_n hx hb d_Md_stored_39 rfl (lv_at hl 0 rfl) ?_
    refine va_get (D := D) (ci := 11) (v := .ref (ad 1)) (C := R_Md) (T := T_Md) (N := 27) hx hb hts iw_Md hown G.1 hP 0 rfl rfl 3 (by decide) (hts _ wd_4_226) (fun _ h9 => h9) rfl d_Md_stored_40 ?_
    refine lv_iconst (v := 5) hx hb d_Md_stored_43 (by decide) ?_
    obtain ⟨v7, e_v7, h⟩ := pu_ob h
    refine pu_iald hx hb G.1 hP 1 0 rfl rfl e_v7 d_Md_stored_44 ?_
    refine lv_icmp_ge (tgt := 100) hx hb d_Md_stored_45 (by decide) (fun c8 => ?_) (fun c8 => ?_)
    · rw [if_pos c8] at h
      refine lv_iload_n hx hb d_Md_stored_100 rfl (lv_at hl 3 rfl) ?_
      cases h
      exact W.toX (W.iret hx hb hr (fun t ht _ => ⟨rfl, by rw [ht]; exact hP, hS.F ht⟩) hS.2.2 d_Md_stored_101)
    · rw [if_neg c8] at h
      refine lv_aload_n hx hb d_Md_stored_48 rfl (lv_at hl 0 rfl) ?_
      refine lv_iload hx hb d_Md_stored_49 (lv_at hl 4 rfl) ?_
      refine lv_iload_n hx hb d_Md_stored_51 rfl (lv_at hl 2 rfl) ?_
      obtain ⟨v9, e_v9, h⟩ := pu_ob h
      refine pu_callR (va_runV (As := [.int x4, .int x2]) (rest := []) ⟨hx, hb, hml, hown, hts⟩ (c_Md_placeOf l D ca ad st _ x4 x2 v9 e_v9) (xCW (C := "MuseumHouseModel") 2 hts wd_5_197 wd_1_13 wd_5_194 wd_5_196 wd_0_27 (by decide +kernel) ⟨Nat.le_of_ble_eq_true rfl, Nat.le_of_ble_eq_true rfl⟩) (G.preV hP hS 0 rfl rfl) rfl rfl hl.1 rfl (lv_room (Nat.le_of_ble_eq_true rfl)) d_Md_stored_52 ⟨Nat.zero_le _, Nat.zero_le _⟩) ?_
      refine lv_istore (lv' := [(5, .int v9), (0, .ref (ad 0)), (1, .int x1), (2, .int x2), (3, .int x3), (4, .int x4)]) hx hb d_Md_stored_55 hl (by decide) rfl (fun ls hl => ?_)
      refine lv_iload hx hb d_Md_stored_57 (lv_at hl 0 rfl) ?_
      refine lv_iload_n hx hb d_Md_stored_59 rfl (lv_at hl 2 rfl) ?_
      refine lv_icmp_eq (tgt := 86) hx hb d_Md_stored_60 (by decide) (fun c10 => ?_) (fun c10 => ?_)
      · rw [if_pos c10] at h
        refine lv_iload_n hx hb d_Md_stored_86 rfl (lv_at hl 4 rfl) ?_
        refine lv_iconst (v := 1) hx hb d_Md_stored_87 (by decide) ?_
        refine lv_iadd hx hb d_Md_stored_88 ?_
        refine lv_goto (tgt := 93) hx hb d_Md_stored_89 (by decide) ?_
        refine lv_istore_n (lv' := [(3, .int (x3 + 1)), (5, .int v9), (0, .ref (ad 0)), (1, .int x1), (2, .int x2), (4, .int x4)]) hx hb d_Md_stored_93 rfl hl (by decide) rfl (fun ls hl => ?_)
        refine lv_iinc (v := (x4 + 1)) (lv' := [(4, .int (x4 + 1)), (3, .int (x3 + 1)), (5, .int v9), (0, .ref (ad 0)), (1, .int x1), (2, .int x2)]) hx hb d_Md_stored_94 hl (k := 5) rfl rfl (by decide) rfl (fun ls hl => ?_)
        refine lv_goto (tgt := 37) hx hb d_Md_stored_97 (by decide) ?_
        exact ih st x1 x2 (x3 + 1) (x4 + 1) h _ _ hP hS ls (lv_sub hl [3, 4, 5, 1, 0] rfl)
      · rw [if_neg c10] at h
        refine lv_iload hx hb d_Md_stored_63 (lv_at hl 0 rfl) ?_
        refine lv_if_le (tgt := 92) hx hb d_Md_stored_65 (by decide) (fun c11 => ?_) (fun c11 => ?_)
        · rw [if_pos c11] at h
          refine lv_iload_n hx hb d_Md_stored_92 rfl (lv_at hl 4 rfl) ?_
          refine lv_istore_n (lv' := [(3, .int x3), (5, .int v9), (0, .ref (ad 0)), (1, .int x1), (2, .int x2), (4, .int x4)]) hx hb d_Md_stored_93 rfl hl (by decide) rfl (fun ls hl => ?_)
          refine lv_iinc (v := (x4 + 1)) (lv' := [(4, .int (x4 + 1)), (3, .int x3), (5, .int v9), (0, .ref (ad 0)), (1, .int x1), (2, .int x2)]) hx hb d_Md_stored_94 hl (k := 5) rfl rfl (by decide) rfl (fun ls hl => ?_)
          refine lv_goto (tgt := 37) hx hb d_Md_stored_97 (by decide) ?_
          exact ih st x1 x2 x3 (x4 + 1) h _ _ hP hS ls (lv_sub hl [3, 4, 5, 1, 0] rfl)
        · rw [if_neg c11] at h
          refine lv_aload_n hx hb d_Md_stored_68 rfl (lv_at hl 1 rfl) ?_
          refine lv_iload hx hb d_Md_stored_69 (lv_at hl 0 rfl) ?_
          refine lv_sipush (v := 600) hx hb d_Md_stored_71 (by decide) ?_
          refine lv_isub hx hb d_Md_stored_74 ?_
          refine lv_iload_n hx hb d_Md_stored_75 rfl (lv_at hl 2 rfl) ?_
          refine lv_sipush (v := 600) hx hb d_Md_stored_76 (by decide) ?_
          refine lv_isub hx hb d_Md_stored_79 ?_
          obtain ⟨v12, e_v12, h⟩ := pu_ob h
          refine pu_callR (va_runV (As := [.int (v9 - 600), .int (x1 - 600)]) (rest := []) ⟨hx, hb, hml, hown, hts⟩ (c_Md_isIn l D ca ad st _ (v9 - 600) (x1 - 600) v12 e_v12) (xCW (C := "MuseumHouseModel") 2 hts wd_5_166 wd_1_13 wd_5_163 wd_5_165 wd_0_23 (by decide +kernel) ⟨Nat.le_of_ble_eq_true rfl, Nat.le_of_ble_eq_true rfl⟩) (G.preV hP hS 0 rfl rfl) rfl rfl hl.1 rfl (lv_room (Nat.le_of_ble_eq_true rfl)) d_Md_stored_80 ⟨Nat.zero_le _, Nat.zero_le _⟩) ?_
          refine lv_if_eq (tgt := 92) hx hb d_Md_stored_83 (by decide) (fun c13 => ?_) (fun c13 => ?_)
          · rw [if_pos c13] at h
            refine lv_iload_n hx hb d_Md_stored_92 rfl (lv_at hl 4 rfl) ?_
            refine lv_istore_n (lv' := [(3, .int x3), (5, .int v9), (0, .ref (ad 0)), (1, .int x1), (2, .int x2), (4, .int x4)]) hx hb d_Md_stored_93 rfl hl (by decide) rfl (fun ls hl => ?_)
            refine lv_iinc (v := (x4 + 1)) (lv' := [(4, .int (x4 + 1)), (3, .int x3), (5, .int v9), (0, .ref (ad 0)), (1, .int x1), (2, .int x2)]) hx hb d_Md_stored_94 hl (k := 5) rfl rfl (by decide) rfl (fun ls hl => ?_)
            refine lv_goto (tgt := 37) hx hb d_Md_stored_97 (by decide) ?_
            exact ih st x1 x2 x3 (x4 + 1) h _ _ hP hS ls (lv_sub hl [3, 4, 5, 1, 0] rfl)
          · rw [if_neg c13] at h
            refine lv_iload_n hx hb d_Md_stored_86 rfl (lv_at hl 4 rfl) ?_
            refine lv_iconst (v := 1) hx hb d_Md_stored_87 (by decide) ?_
            refine lv_iadd hx hb d_Md_stored_88 ?_
            refine lv_goto (tgt := 93) hx hb d_Md_stored_89 (by decide) ?_
            refine lv_istore_n (lv' := [(3, .int (x3 + 1)), (5, .int v9), (0, .ref (ad 0)), (1, .int x1), (2, .int x2), (4, .int x4)]) hx hb d_Md_stored_93 rfl hl (by decide) rfl (fun ls hl => ?_)
            refine lv_iinc (v := (x4 + 1)) (lv' := [(4, .int (x4 + 1)), (3, .int (x3 + 1)), (5, .int v9), (0, .ref (ad 0)), (1, .int x1), (2, .int x2)]) hx hb d_Md_stored_94 hl (k := 5) rfl rfl (by decide) rfl (fun ls hl => ?_)
            refine lv_goto (tgt := 37) hx hb d_Md_stored_97 (by decide) ?_
            exact ih st x1 x2 (x3 + 1) (x4 + 1) h _ _ hP hS ls (lv_sub hl [3, 4, 5, 1, 0] rfl)
set_option maxHeartbeats 4000000 in
set_option maxRecDepth 100000 in
theorem t_Md_stored_b16 {l : Launch} (htl : l.stackTraces = false) {p : Program} {e : Env} {s : State} {m : MethodId} {args : Array Value} {below : List Frame} {meth : Method} {c : Code} {D : va_G} {ca : Nat → ClassId} {ad : Nat → Nat} {st' : pu_St} {v : Int32} (C : hC p s m meth c args b_Md_stored 6 (some .int) "MuseumHouseModel") (G : mX D ca ad (mA ad s.heap.size) s) :
    ∀ (_ : Unit) (st : pu_St) (x1 x2 z0 : Int32), f_Md_stored_b16 st x1 x2 z0 = some (v, st') → ∀ (H : Heap) (locs : List Loc), va_P D hcl (mW ca ad st) H → va_S (mA ad s.heap.size) s.heap H locs → ∀ ls : Array Slot, lv_has ls 6 [(0, .ref (ad 0)), (1, .int x1), (2, .int x2)] → W p l e { frames := 2, cells := 0, slots := 0, locals := 42 } s m args below meth c H locs 0 0 (MQX below (mQ D ca ad (fun v => some (.int v)) (.inl v) st' s.heap.size) args s 0 0 (mA ad s.heap.size)) (F0 m 16 ls [.int z0, .ref (ad 0)]) := by
  obtain ⟨hx, hb, hml, hr, hlocks, hno, hown, hts⟩ := id C
  intro _ st x1 x2 z0 h H locs hP hS ls hl
  unfold f_Md_stored_b16 at h
  refine lv_iload_n hx hb d_Md_stored_16 rfl (lv_at hl 2 rfl) ?_
  obtain ⟨v3, e_v3, h⟩ := pu_ob h
  refine pu_callR (va_runS (As := [.int x2]) (rest := [.int z0, .ref (ad 0)]) ⟨hx, hb, hml, hown, hts⟩ (c_Md_isDay l D ca ad st _ x2 v3 e_v3) (xCS 1 hts wd_5_193 wd_1_13 wd_5_191 wd_5_192 (by decide +kernel) ⟨Nat.le_of_ble_eq_true rfl, Nat.le_of_ble_eq_true rfl⟩) (G.preS hP hS) rfl rfl hl.1 rfl (lv_room (Nat.le_of_ble_eq_true rfl)) d_Md_stored_17 ⟨Nat.zero_le _, Nat.zero_le _⟩) ?_
  refine lv_iconst (v := 4) hx hb d_Md_stored_20 (by decide) ?_
  obtain ⟨v4, e_v4, h⟩ := pu_ob h
  refine pu_callR (va_runS (As := [.int z0, .int v3, .int 4]) (rest := [.ref (ad 0)]) ⟨hx, hb, hml, hown, hts⟩ (c_Md_then l D ca ad st _ z0 v3 4 v4 e_v4) (xCS 3 hts wd_5_90 wd_1_13 wd_5_88 wd_5_89 (by decide +kernel) ⟨Nat.le_of_ble_eq_true rfl, Nat.le_of_ble_eq_true rfl⟩) (G.preS hP hS) rfl rfl hl.1 rfl (lv_room (Nat.le_of_ble_eq_true rfl)) d_Md_stored_21 ⟨Nat.zero_le _, Nat.zero_le _⟩) ?_
  obtain ⟨q5, e_q5, h⟩ := pu_ob h
  refine mCallI G hS (va_runV (As := [.int v4]) (rest := []) ⟨hx, hb, hml, hown, hts⟩ (MetX.met (c_Md_holdsShort l htl D ca ad st _ v4 q5.1 q5.2 e_q5) (fun _ _ _ _ q => ⟨_, q.1⟩)) (xCW (C := "MuseumHouseModel") 1 hts wd_5_146 wd_1_13 wd_5_143 wd_5_145 wd_0_22 (by decide +kernel) ⟨Nat.le_of_ble_eq_true rfl, Nat.le_of_ble_eq_true rfl⟩) (G.preV hP hS 0 rfl rfl) rfl rfl hl.1 rfl (lv_room (Nat.le_of_ble_eq_true rfl)) d_Md_stored_24 ⟨Nat.zero_le _, Nat.zero_le _⟩) (fun H locs hP hS => ?_)
  refine lv_if_ne (tgt := 32) hx hb d_Md_stored_27 (by decide) (fun c6 => ?_) (fun c6 => ?_)
  · rw [if_neg c6] at h
    refine lv_iconst (v := 0) hx hb d_Md_stored_32 (by decide) ?_
    refine lv_istore_n (lv' := [(3, .int 0), (0, .ref (ad 0)), (1, .int x1), (2, .int x2)]) hx hb d_Md_stored_33 rfl hl (by decide) rfl (fun ls hl => ?_)
    refine lv_iconst (v := 0) hx hb d_Md_stored_34 (by decide) ?_
    refine lv_istore (lv' := [(4, .int 0), (3, .int 0), (0, .ref (ad 0)), (1, .int x1), (2, .int x2)]) hx hb d_Md_stored_35 hl (by decide) rfl (fun ls hl => ?_)
    exact t_Md_stored_b37 htl C G pu_fu q5.2 x1 x2 0 0 h _ _ hP hS ls (lv_sub hl [2, 3, 4, 1, 0] rfl)
  · rw [if_pos c6] at h
    refine lv_iconst (v := 0) hx hb d_Md_stored_30 (by decide) ?_
    cases h
    exact W.toX (W.iret hx hb hr (fun t ht _ => ⟨rfl, by rw [ht]; exact hP, hS.F ht⟩) hS.2.2 d_Md_stored_31)
set_option maxHeartbeats 4000000 in
set_option maxRecDepth 100000 in
theorem c_Md_stored (l : Launch) (htl : l.stackTraces = false) (D : va_G) (ca : Nat → ClassId) (ad : Nat → Nat) (st : pu_St) (sz : Nat) (x1 x2 : Int32) (v : Int32) (st' : pu_St) (h : f_Md_stored st x1 x2 = some (v, st')) : MetX l y_Md_stored (.code y_Md_stored b_Md_stored 6 (some .int) :: tG) { frames := 2, cells := 0, slots := 0, locals := 42 } (va_Pc [.ref (ad 0), .int x1, .int x2] (mPc D ca ad st sz)) (mQ D ca ad (fun v => some (.int v)) (.inl v) st' sz) 0 0 (mA ad sz) := by
  refine mMet (by decide +kernel) ?_
  intro p e s m below meth c hsz C G hP
  obtain ⟨hx, hb, hml, hr, hlocks, hno, hown, hts⟩ := id C
  have hown : s.vm.findClass "MuseumHouseModel" = some m.cls := hown
  have hS : va_S (mA ad s.heap.size) s.heap s.heap [] := va_S.rf
  have hl := lv_entry ([.ref (ad 0), .int x1, .int x2]) (n := 6) (Nat.le_of_ble_eq_true rfl)
  rw [lg_entry_eq]
  generalize (lg_sl ([.ref (ad 0), .int x1, .int x2]) ++ List.replicate (6 - (lg_sl ([.ref (ad 0), .int x1, .int x2])).length) Slot.unset).toArray = ls at hl ⊢
  have hl : lv_has ls 6 [(0, .ref (ad 0)), (1, .int x1), (2, .int x2)] := hl
  unfold f_Md_stored at h
  refine lv_aload_n hx hb d_Md_stored_0 rfl (lv_at hl 0 rfl) ?_
  refine lv_aload_n hx hb d_Md_stored_1 rfl (lv_at hl 0 rfl) ?_
  refine lv_iload_n hx hb d_Md_stored_2 rfl (lv_at hl 1 rfl) ?_
  refine lv_bipush (v := 6) hx hb d_Md_stored_3 (by decide) ?_
  obtain ⟨v1, e_v1, h⟩ := pu_ob h
  refine pu_callR (va_runV (As := [.int x1, .int 6]) (rest := [.ref (ad 0)]) ⟨hx, hb, hml, hown, hts⟩ (c_Md_is l D ca ad st _ x1 6 v1 e_v1) (xCW (C := "MuseumHouseModel") 2 hts wd_5_80 wd_1_13 wd_5_77 wd_5_79 wd_0_14 (by decide +kernel) ⟨Nat.le_of_ble_eq_true rfl, Nat.le_of_ble_eq_true rfl⟩) (G.preV hP hS 0 rfl rfl) rfl rfl hl.1 rfl (lv_room (Nat.le_of_ble_eq_true rfl)) d_Md_stored_5 ⟨Nat.zero_le _, Nat.zero_le _⟩) ?_
  refine lv_if_eq (tgt := 15) hx hb d_Md_stored_8 (by decide) (fun c2 => ?_) (fun c2 => ?_)
  · rw [if_pos c2] at h
    refine lv_iconst (v := 1) hx hb d_Md_stored_15 (by decide) ?_
    exact t_Md_stored_b16 htl C G () st x1 x2 1 h _ _ hP hS ls (lv_sub hl [0, 1, 2] rfl)
  · rw [if_neg c2] at h
    refine lv_iconst (v := 0) hx hb d_Md_stored_11 (by decide) ?_
    refine lv_goto (tgt := 16) hx hb d_Md_stored_12 (by decide) ?_
    exact t_Md_stored_b16 htl C G () st x1 x2 0 h _ _ hP hS ls (lv_sub hl [0, 1, 2] rfl)
set_option maxHeartbeats 4000000 in
set_option maxRecDepth 100000 in
theorem c_Md_isSpan (l : Launch) (D : va_G) (ca : Nat → ClassId) (ad : Nat → Nat) (st : pu_St) (sz : Nat) (x0 x1 : Int32) (r : Int32) (h : f_Md_isSpan st x0 x1 = some r) : Met l y_Md_isSpan (.code y_Md_isSpan b_Md_isSpan 2 (some .boolean) :: tG) { frames := 0, cells := 0, slots := 0, locals := 0 } (va_Pc [.int x0, .int x1] (mPc D ca ad st sz)) (QcRead r) 0 0 (fun _ => False) := by
  refine mRead (by decide +kernel) ?_
  intro p e s m below meth c C G hP
  obtain ⟨hx, hb, hml, hr, hlocks, hno, hown, hts⟩ := id C
  have hown : s.vm.findClass "MuseumHouseModel" = some m.cls := hown
  have hS : va_S (mA ad s.heap.size) s.heap s.heap [] := va_S.rf
  have hl := lv_entry ([.int x0, .int x1]) (n := 2) (Nat.le_of_ble_eq_true rfl)
  rw [lg_entry_eq]
  generalize (lg_sl ([.int x0, .int x1]) ++ List.replicate (2 - (lg_sl ([.int x0, .int x1])).length) Slot.unset).toArray = ls at hl ⊢
  have hl : lv_has ls 2 [(0, .int x0), (1, .int x1)] := hl
  unfold f_Md_isSpan at h
  refine lv_iload_n hx hb d_Md_isSpan_0 rfl (lv_at hl 0 rfl) ?_
  refine lv_if_lt (tgt := 20) hx hb d_Md_isSpan_1 (by decide) (fun c1 => ?_) (fun c1 => ?_)
  · rw [if_pos c1] at h
    refine lv_iconst (v := 0) hx hb d_Md_isSpan_20 (by decide) ?_
    have h := Option.some.inj h
    exact W.zret (v := 0) (ty := .boolean) hx hb hr rfl (fun t ht _ => ⟨by rw [h], ht⟩) (fun _ q => by cases q) d_Md_isSpan_21
  · rw [if_neg c1] at h
    refine lv_iload_n hx hb d_Md_isSpan_4 rfl (lv_at hl 0 rfl) ?_
    refine lv_iload_n hx hb d_Md_isSpan_5 rfl (lv_at hl 1 rfl) ?_
    refine lv_icmp_gt (tgt := 20) hx hb d_Md_isSpan_6 (by decide) (fun c2 => ?_) (fun c2 => ?_)
    · rw [if_pos c2] at h
      refine lv_iconst (v := 0) hx hb d_Md_isSpan_20 (by decide) ?_
      have h := Option.some.inj h
      exact W.zret (v := 0) (ty := .boolean) hx hb hr rfl (fun t ht _ => ⟨by rw [h], ht⟩) (fun _ q => by cases q) d_Md_isSpan_21
    · rw [if_neg c2] at h
      refine lv_iload_n hx hb d_Md_isSpan_9 rfl (lv_at hl 1 rfl) ?_
      refine lv_sipush (v := 9999) hx hb d_Md_isSpan_10 (by decide) ?_
      refine lv_icmp_gt (tgt := 20) hx hb d_Md_isSpan_13 (by decide) (fun c3 => ?_) (fun c3 => ?_)
      · rw [if_pos c3] at h
        refine lv_iconst (v := 0) hx hb d_Md_isSpan_20 (by decide) ?_
        have h := Option.some.inj h
        exact W.zret (v := 0) (ty := .boolean) hx hb hr rfl (fun t ht _ => ⟨by rw [h], ht⟩) (fun _ q => by cases q) d_Md_isSpan_21
      · rw [if_neg c3] at h
        refine lv_iconst (v := 1) hx hb d_Md_isSpan_16 (by decide) ?_
        refine lv_goto (tgt := 21) hx hb d_Md_isSpan_17 (by decide) ?_
        have h := Option.some.inj h
        exact W.zret (v := 1) (ty := .boolean) hx hb hr rfl (fun t ht _ => ⟨by rw [h], ht⟩) (fun _ q => by cases q) d_Md_isSpan_21
set_option maxHeartbeats 4000000 in
set_option maxRecDepth 100000 in
theorem t_Md_showAt_b6 {l : Launch} {p : Program} {e : Env} {s : State} {m : MethodId} {args : Array Value} {below : List Frame} {meth : Method} {c : Code} {D : va_G} {ca : Nat → ClassId} {ad : Nat → Nat} {A : Nat → Prop} {st : pu_St} {r : Int32} (C : hC p s m meth c args b_Md_showAt 7 (some .int) "MuseumHouseModel") (G : mX D ca ad A s) (hP : va_P D hcl (mW ca ad st) s.heap) (hS : va_S A s.heap s.heap []) :
    ∀ (n : Nat) (x1 x2 x3 x4 x5 x6 : Int32), f_Md_showAt_b6 n st x1 x2 x3 x4 x5 x6 = some r → ∀ ls : Array Slot, lv_has ls 7 [(0, .ref (ad 0)), (1, .int x1), (2, .int x2), (3, .int x3), (4, .int x4), (5, .int x5), (6, .int x6)] → W p l e { frames := 0, cells := 0, slots := 0, locals := 0 } s m args below meth c s.heap [] 0 0 (MQ below (QcRead r) args s 0 0 (fun _ => False)) (F0 m 6 ls []) := by
  obtain ⟨hx, hb, hml, hr, hlocks, hno, hown, hts⟩ := id C
  intro n
  induction n with
  | zero => intro x1 x2 x3 x4 x5 x6 h; cases h
  | succ n ih =>
    intro x1 x2 x3 x4 x5 x6 h ls hl
    unfold f_Md_showAt_b6 at h
    refine lv_iload hx hb d_Md_showAt_6 (lv_at hl 6 rfl) ?_
    refine lv_aload_n hx hb d_Md_showAt_8 rfl (lv_at hl 0 rfl) ?_
    refine va_get (D := D) (ci := 11) (v := .ref (ad 1)) (C := R_Md) (T := T_Md) (N := 27) hx hb hts iw_Md hown G.1 hP 0 rfl rfl 3 (by decide) (hts _ wd_4_226) (fun _ h9 => h9) rfl d_Md_showAt_9 ?_
    refine lv_bipush (v := 8) hx hb d_Md_showAt_12 (by decide) ?_
    obtain ⟨v1, e_v1, h⟩ := pu_ob h
    refine pu_iald hx hb G.1 hP 1 0 rfl rfl e_v1 d_Md_showAt_14 ?_
    refine lv_icmp_ge (tgt := 85) hx hb d_Md_showAt_15 (by decide) (fun c2 => ?_) (fun c2 => ?_)
    · rw [if_pos c2] at h
      refine lv_iload hx hb d_Md_showAt_85 (lv_at hl 5 rfl) ?_
      have h := Option.some.inj h
      exact W.iret (v := x5) hx hb hr (fun t ht _ => ⟨by rw [h], ht⟩) (fun _ q => by cases q) d_Md_showAt_87
    · rw [if_neg c2] at h
      refine lv_iload hx hb d_Md_showAt_18 (lv_at hl 6 rfl) ?_
      refine lv_iload hx hb d_Md_showAt_20 (lv_at hl 4 rfl) ?_
      refine lv_icmp_eq (tgt := 75) hx hb d_Md_showAt_22 (by decide) (fun c3 => ?_) (fun c3 => ?_)
      · rw [if_pos c3] at h
        refine lv_iload hx hb d_Md_showAt_75 (lv_at hl 5 rfl) ?_
        refine lv_istore (lv' := [(5, .int x5), (0, .ref (ad 0)), (1, .int x1), (2, .int x2), (3, .int x3), (4, .int x4), (6, .int x6)]) hx hb d_Md_showAt_77 hl (by decide) rfl (fun ls hl => ?_)
        refine lv_iinc (v := (x6 + 1)) (lv' := [(6, .int (x6 + 1)), (5, .int x5), (0, .ref (ad 0)), (1, .int x1), (2, .int x2), (3, .int x3), (4, .int x4)]) hx hb d_Md_showAt_79 hl (k := 6) rfl rfl (by decide) rfl (fun ls hl => ?_)
        refine lv_goto (tgt := 6) hx hb d_Md_showAt_82 (by decide) ?_
        exact ih x1 x2 x3 x4 x5 (x6 + 1) h ls (lv_sub hl [2, 3, 4, 5, 6, 1, 0] rfl)
      · rw [if_neg c3] at h
        refine lv_aload_n hx hb d_Md_showAt_25 rfl (lv_at hl 0 rfl) ?_
        refine va_get (D := D) (ci := 11) (v := .ref (ad 21)) (C := R_Md) (T := T_Md) (N := 27) hx hb hts iw_Md hown G.1 hP 0 rfl rfl 23 (by decide) (hts _ wd_5_6) (fun _ h9 => h9) rfl d_Md_showAt_26 ?_
        refine lv_bipush (v := 30) hx hb d_Md_showAt_29 (by decide) ?_
        refine lv_iload hx hb d_Md_showAt_31 (lv_at hl 6 rfl) ?_
        refine lv_imul hx hb d_Md_showAt_33 ?_
        refine lv_iload_n hx hb d_Md_showAt_34 rfl (lv_at hl 1 rfl) ?_
        refine lv_iadd hx hb d_Md_showAt_35 ?_
        refine lv_sipush (v := 500) hx hb d_Md_showAt_36 (by decide) ?_
        refine lv_isub hx hb d_Md_showAt_39 ?_
        obtain ⟨v4, e_v4, h⟩ := pu_ob h
        refine pu_zald hx hb G.1 hP 21 20 rfl rfl e_v4 d_Md_showAt_40 ?_
        refine lv_if_eq (tgt := 75) hx hb d_Md_showAt_41 (by decide) (fun c5 => ?_) (fun c5 => ?_)
        · rw [if_pos c5] at h
          refine lv_iload hx hb d_Md_showAt_75 (lv_at hl 5 rfl) ?_
          refine lv_istore (lv' := [(5, .int x5), (0, .ref (ad 0)), (1, .int x1), (2, .int x2), (3, .int x3), (4, .int x4), (6, .int x6)]) hx hb d_Md_showAt_77 hl (by decide) rfl (fun ls hl => ?_)
          refine lv_iinc (v := (x6 + 1)) (lv' := [(6, .int (x6 + 1)), (5, .int x5), (0, .ref (ad 0)), (1, .int x1), (2, .int x2), (3, .int x3), (4, .int x4)]) hx hb d_Md_showAt_79 hl (k := 6) rfl rfl (by decide) rfl (fun ls hl => ?_)
          refine lv_goto (tgt := 6) hx hb d_Md_showAt_82 (by decide) ?_
          exact ih x1 x2 x3 x4 x5 (x6 + 1) h ls (lv_sub hl [2, 3, 4, 5, 6, 1, 0] rfl)
        · rw [if_neg c5] at h
          refine lv_aload_n hx hb d_Md_showAt_44 rfl (lv_at hl 0 rfl) ?_
          refine va_get (D := D) (ci := 11) (v := .ref (ad 19)) (C := R_Md) (T := T_Md) (N := 27) hx hb hts iw_Md hown G.1 hP 0 rfl rfl 21 (by decide) (hts _ wd_5_4) (fun _ h9 => h9) rfl d_Md_showAt_45 ?_
          refine lv_iload hx hb d_Md_showAt_48 (lv_at hl 6 rfl) ?_
          obtain ⟨v6, e_v6, h⟩ := pu_ob h
          refine pu_iald hx hb G.1 hP 19 18 rfl rfl e_v6 d_Md_showAt_50 ?_
          refine lv_iload_n hx hb d_Md_showAt_51 rfl (lv_at hl 3 rfl) ?_
          refine lv_icmp_gt (tgt := 75) hx hb d_Md_showAt_52 (by decide) (fun c7 => ?_) (fun c7 => ?_)
          · rw [if_pos c7] at h
            refine lv_iload hx hb d_Md_showAt_75 (lv_at hl 5 rfl) ?_
            refine lv_istore (lv' := [(5, .int x5), (0, .ref (ad 0)), (1, .int x1), (2, .int x2), (3, .int x3), (4, .int x4), (6, .int x6)]) hx hb d_Md_showAt_77 hl (by decide) rfl (fun ls hl => ?_)
            refine lv_iinc (v := (x6 + 1)) (lv' := [(6, .int (x6 + 1)), (5, .int x5), (0, .ref (ad 0)), (1, .int x1), (2, .int x2), (3, .int x3), (4, .int x4)]) hx hb d_Md_showAt_79 hl (k := 6) rfl rfl (by decide) rfl (fun ls hl => ?_)
            refine lv_goto (tgt := 6) hx hb d_Md_showAt_82 (by decide) ?_
            exact ih x1 x2 x3 x4 x5 (x6 + 1) h ls (lv_sub hl [2, 3, 4, 5, 6, 1, 0] rfl)
          · rw [if_neg c7] at h
            refine lv_aload_n hx hb d_Md_showAt_55 rfl (lv_at hl 0 rfl) ?_
            refine va_get (D := D) (ci := 11) (v := .ref (ad 20)) (C := R_Md) (T := T_Md) (N := 27) hx hb hts iw_Md hown G.1 hP 0 rfl rfl 22 (by decide) (hts _ wd_5_5) (fun _ h9 => h9) rfl d_Md_showAt_56 ?_
            refine lv_iload hx hb d_Md_showAt_59 (lv_at hl 6 rfl) ?_
            obtain ⟨v8, e_v8, h⟩ := pu_ob h
            refine pu_iald hx hb G.1 hP 20 19 rfl rfl e_v8 d_Md_showAt_61 ?_
            refine lv_iload_n hx hb d_Md_showAt_62 rfl (lv_at hl 2 rfl) ?_
            refine lv_icmp_lt (tgt := 75) hx hb d_Md_showAt_63 (by decide) (fun c9 => ?_) (fun c9 => ?_)
            · rw [if_pos c9] at h
              refine lv_iload hx hb d_Md_showAt_75 (lv_at hl 5 rfl) ?_
              refine lv_istore (lv' := [(5, .int x5), (0, .ref (ad 0)), (1, .int x1), (2, .int x2), (3, .int x3), (4, .int x4), (6, .int x6)]) hx hb d_Md_showAt_77 hl (by decide) rfl (fun ls hl => ?_)
              refine lv_iinc (v := (x6 + 1)) (lv' := [(6, .int (x6 + 1)), (5, .int x5), (0, .ref (ad 0)), (1, .int x1), (2, .int x2), (3, .int x3), (4, .int x4)]) hx hb d_Md_showAt_79 hl (k := 6) rfl rfl (by decide) rfl (fun ls hl => ?_)
              refine lv_goto (tgt := 6) hx hb d_Md_showAt_82 (by decide) ?_
              exact ih x1 x2 x3 x4 x5 (x6 + 1) h ls (lv_sub hl [2, 3, 4, 5, 6, 1, 0] rfl)
            · rw [if_neg c9] at h
              refine lv_sipush (v := 800) hx hb d_Md_showAt_66 (by decide) ?_
              refine lv_iload hx hb d_Md_showAt_69 (lv_at hl 6 rfl) ?_
              refine lv_iadd hx hb d_Md_showAt_71 ?_
              refine lv_goto (tgt := 77) hx hb d_Md_showAt_72 (by decide) ?_
              refine lv_istore (lv' := [(5, .int (800 + x6)), (0, .ref (ad 0)), (1, .int x1), (2, .int x2), (3, .int x3), (4, .int x4), (6, .int x6)]) hx hb d_Md_showAt_77 hl (by decide) rfl (fun ls hl => ?_)
              refine lv_iinc (v := (x6 + 1)) (lv' := [(6, .int (x6 + 1)), (5, .int (800 + x6)), (0, .ref (ad 0)), (1, .int x1), (2, .int x2), (3, .int x3), (4, .int x4)]) hx hb d_Md_showAt_79 hl (k := 6) rfl rfl (by decide) rfl (fun ls hl => ?_)
              refine lv_goto (tgt := 6) hx hb d_Md_showAt_82 (by decide) ?_
              exact ih x1 x2 x3 x4 (800 + x6) (x6 + 1) h ls (lv_sub hl [2, 3, 4, 5, 6, 1, 0] rfl)
set_option maxHeartbeats 4000000 in
set_option maxRecDepth 100000 in
theorem c_Md_showAt (l : Launch) (D : va_G) (ca : Nat → ClassId) (ad : Nat → Nat) (st : pu_St) (sz : Nat) (x1 x2 x3 x4 : Int32) (r : Int32) (h : f_Md_showAt st x1 x2 x3 x4 = some r) : Met l y_Md_showAt (.code y_Md_showAt b_Md_showAt 7 (some .int) :: tG) { frames := 0, cells := 0, slots := 0, locals := 0 } (va_Pc [.ref (ad 0), .int x1, .int x2, .int x3, .int x4] (mPc D ca ad st sz)) (QcRead r) 0 0 (fun _ => False) := by
  refine mRead (by decide +kernel) ?_
  intro p e s m below meth c C G hP
  obtain ⟨hx, hb, hml, hr, hlocks, hno, hown, hts⟩ := id C
  have hown : s.vm.findClass "MuseumHouseModel" = some m.cls := hown
  have hS : va_S (mA ad s.heap.size) s.heap s.heap [] := va_S.rf
  have hl := lv_entry ([.ref (ad 0), .int x1, .int x2, .int x3, .int x4]) (n := 7) (Nat.le_of_ble_eq_true rfl)
  rw [lg_entry_eq]
  generalize (lg_sl ([.ref (ad 0), .int x1, .int x2, .int x3, .int x4]) ++ List.replicate (7 - (lg_sl ([.ref (ad 0), .int x1, .int x2, .int x3, .int x4])).length) Slot.unset).toArray = ls at hl ⊢
  have hl : lv_has ls 7 [(0, .ref (ad 0)), (1, .int x1), (2, .int x2), (3, .int x3), (4, .int x4)] := hl
  unfold f_Md_showAt at h
  refine lv_iconst (v := 0) hx hb d_Md_showAt_0 (by decide) ?_
  refine lv_istore (lv' := [(5, .int 0), (0, .ref (ad 0)), (1, .int x1), (2, .int x2), (3, .int x3), (4, .int x4)]) hx hb d_Md_showAt_1 hl (by decide) rfl (fun ls hl => ?_)
  refine lv_iconst (v := 0) hx hb d_Md_showAt_3 (by decide) ?_
  refine lv_istore (lv' := [(6, .int 0), (5, .int 0), (0, .ref (ad 0)), (1, .int x1), (2, .int x2), (3, .int x3), (4, .int x4)]) hx hb d_Md_showAt_4 hl (by decide) rfl (fun ls hl => ?_)
  exact t_Md_showAt_b6 C G hP hS pu_fu x1 x2 x3 x4 0 0 h ls (lv_sub hl [2, 3, 4, 5, 6, 1, 0] rfl)

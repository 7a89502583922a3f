set_option maxHeartbeats 4000000 in
set_option maxRecDepth 100000 in
theorem c_So_parentOf (l : Launch) (D : va_G) (ca : Nat → ClassId) (ad : Nat → Nat) (st : pu_St) (sz : Nat) (x1 : Int32) (r : Int32) (h : f_So_parentOf st x1 = some r) : Met l y_So_parentOf (.code y_So_parentOf b_So_parentOf 2 (some .int) :: tG) { frames := 0, cells := 0, slots := 0, locals := 0 } (va_Pc [.ref (ad 7), .int x1] (hPc D ca ad st sz)) (QcRead r) 0 0 (fun _ => False) := by
  refine hRead (by decide +kernel) ?_
  intro p e s m below meth c C G hP
  obtain ⟨hx, hb, hml, hr, hlocks, hno, hown, hts⟩ := id C
  have hown : s.vm.findClass "MuseumHouse$Stores" = some m.cls := hown
  have hS : va_S (hA ad s.heap.size) s.heap s.heap [] := va_S.rf
  have hl := lv_entry ([.ref (ad 7), .int x1]) (n := 2) (Nat.le_of_ble_eq_true rfl)
  rw [lg_entry_eq]
  generalize (lg_sl ([.ref (ad 7), .int x1]) ++ List.replicate (2 - (lg_sl ([.ref (ad 7), .int x1])).length) Slot.unset).toArray = ls at hl ⊢
  have hl : lv_has ls 2 [(0, .ref (ad 7)), (1, .int x1)] := hl
  unfold f_So_parentOf at h
  refine lv_aload_n hx hb d_So_parentOf_0 rfl (lv_at hl 0 rfl) ?_
  refine va_get (D := D) (ci := 7) (v := .ref (ad 23)) (C := R_So) (T := T_So) (N := 4) hx hb hts iw_So hown G.1 hP 7 rfl rfl 3 (by decide) (hts _ wd_1_144) (fun _ h9 => h9) rfl d_So_parentOf_1 ?_
  refine lv_iload_n hx hb d_So_parentOf_4 rfl (lv_at hl 1 rfl) ?_
  obtain ⟨v1, e_v1, h⟩ := pu_ob h
  refine pu_iald hx hb G.1 hP 23 12 rfl rfl e_v1 d_So_parentOf_5 ?_
  have h := Option.some.inj h
  exact W.iret (v := v1) hx hb hr (fun t ht _ => ⟨by rw [h], ht⟩) (fun _ q => by cases q) d_So_parentOf_6
set_option maxHeartbeats 4000000 in
set_option maxRecDepth 100000 in
theorem c_So_setParent (l : Launch) (htl : l.stackTraces = false) (D : va_G) (ca : Nat → ClassId) (ad : Nat → Nat) (st : pu_St) (sz : Nat) (x1 x2 : Int32) (v : Int32) (st' : pu_St) (h : f_So_setParent st x1 x2 = some (v, st')) : MetX l y_So_setParent (.code y_So_setParent b_So_setParent 3 none :: tG) { frames := 0, cells := 0, slots := 0, locals := 0 } (va_Pc [.ref (ad 7), .int x1, .int x2] (hPc D ca ad st sz)) (hQ D ca ad (fun _ => none) (.inl v) st' sz) 0 0 (hA ad sz) := by
  refine hMet (by decide +kernel) ?_
  intro p e s m below meth c hsz C G hP
  obtain ⟨hx, hb, hml, hr, hlocks, hno, hown, hts⟩ := id C
  have hown : s.vm.findClass "MuseumHouse$Stores" = some m.cls := hown
  have hS : va_S (hA ad s.heap.size) s.heap s.heap [] := va_S.rf
  have hl := lv_entry ([.ref (ad 7), .int x1, .int x2]) (n := 3) (Nat.le_of_ble_eq_true rfl)
  rw [lg_entry_eq]
  generalize (lg_sl ([.ref (ad 7), .int x1, .int x2]) ++ List.replicate (3 - (lg_sl ([.ref (ad 7), .int x1, .int x2])).length) Slot.unset).toArray = ls at hl ⊢
  have hl : lv_has ls 3 [(0, .ref (ad 7)), (1, .int x1), (2, .int x2)] := hl
  unfold f_So_setParent at h
  refine lv_aload_n hx hb d_So_setParent_0 rfl (lv_at hl 0 rfl) ?_
  refine va_get (D := D) (ci := 7) (v := .ref (ad 23)) (C := R_So) (T := T_So) (N := 4) hx hb hts iw_So hown G.1 hP 7 rfl rfl 3 (by decide) (hts _ wd_1_144) (fun _ h9 => h9) rfl d_So_setParent_1 ?_
  refine lv_iload_n hx hb d_So_setParent_4 rfl (lv_at hl 1 rfl) ?_
  refine lv_iload_n hx hb d_So_setParent_5 rfl (lv_at hl 2 rfl) ?_
  obtain ⟨g1, e_g1, h⟩ := pu_ob h
  refine pu_iast hx hb G.1 hP (G.D) hS 23 12 rfl rfl e_g1 d_So_setParent_6 (fun H locs hP hS => ?_)
  have hP : va_P D hcl (hW ca ad (st.1, va_up st.2 12 g1)) H := hP
  cases h
  exact W.toX (W.vret hx hb hr (fun t ht _ => ⟨rfl, by rw [ht]; exact hP, hS.F ht⟩) hS.2.2 d_So_setParent_7)
set_option maxHeartbeats 4000000 in
set_option maxRecDepth 100000 in
theorem t_So_isIn_b10 {l : Launch} {p : Program} {e : Env} {s : State} {m : MethodId} {args : Array Value} {below : List Frame} {meth : Method} {c : Code} {D : va_G} {ca : Nat → ClassId} {ad : Nat → Nat} {A : Nat → Prop} {st : pu_St} {r : Int32} (C : hC p s m meth c args b_So_isIn 5 (some .boolean) "MuseumHouse$Stores") (G : hX D ca ad A s) (hP : va_P D hcl (hW ca ad st) s.heap) (hS : va_S A s.heap s.heap []) :
    ∀ (n : Nat) (x1 x2 x3 x4 : Int32), f_So_isIn_b10 n st x1 x2 x3 x4 = some r → ∀ ls : Array Slot, lv_has ls 5 [(0, .ref (ad 7)), (1, .int x1), (2, .int x2), (3, .int x3), (4, .int x4)] → W p l e { frames := 0, cells := 0, slots := 0, locals := 0 } s m args below meth c s.heap [] 0 0 (MQ below (QcRead r) args s 0 0 (fun _ => False)) (F0 m 10 ls []) := by
  obtain ⟨hx, hb, hml, hr, hlocks, hno, hown, hts⟩ := id C
  intro n
  induction n with
  | zero => intro x1 x2 x3 x4 h; cases h
  | succ n ih =>
    intro x1 x2 x3 x4 h ls hl
    unfold f_So_isIn_b10 at h
    refine lv_iload hx hb d_So_isIn_10 (lv_at hl 4 rfl) ?_
    refine lv_bipush (v := 16) hx hb d_So_isIn_12 (by decide) ?_
    refine lv_icmp_ge (tgt := 42) hx hb d_So_isIn_14 (by decide) (fun c2 => ?_) (fun c2 => ?_)
    · rw [if_pos c2] at h
      refine lv_iconst (v := 0) hx hb d_So_isIn_42 (by decide) ?_
      have h := Option.some.inj h
      exact W.zret (v := 0) (ty := .boolean) hx hb hr rfl (fun t ht _ => ⟨by rw [h], ht⟩) (fun _ q => by cases q) d_So_isIn_43
    · rw [if_neg c2] at h
      refine lv_iload_n hx hb d_So_isIn_17 rfl (lv_at hl 3 rfl) ?_
      refine lv_iconst (v := (-1)) hx hb d_So_isIn_18 (by decide) ?_
      refine lv_icmp_eq (tgt := 42) hx hb d_So_isIn_19 (by decide) (fun c3 => ?_) (fun c3 => ?_)
      · rw [if_pos c3] at h
        refine lv_iconst (v := 0) hx hb d_So_isIn_42 (by decide) ?_
        have h := Option.some.inj h
        exact W.zret (v := 0) (ty := .boolean) hx hb hr rfl (fun t ht _ => ⟨by rw [h], ht⟩) (fun _ q => by cases q) d_So_isIn_43
      · rw [if_neg c3] at h
        refine lv_iload_n hx hb d_So_isIn_22 rfl (lv_at hl 3 rfl) ?_
        refine lv_iload_n hx hb d_So_isIn_23 rfl (lv_at hl 2 rfl) ?_
        refine lv_icmp_ne (tgt := 29) hx hb d_So_isIn_24 (by decide) (fun c4 => ?_) (fun c4 => ?_)
        · rw [if_neg c4] at h
          refine lv_aload_n hx hb d_So_isIn_29 rfl (lv_at hl 0 rfl) ?_
          refine va_get (D := D) (ci := 7) (v := .ref (ad 23)) (C := R_So) (T := T_So) (N := 4) hx hb hts iw_So hown G.1 hP 7 rfl rfl 3 (by decide) (hts _ wd_1_144) (fun _ h9 => h9) rfl d_So_isIn_30 ?_
          refine lv_iload_n hx hb d_So_isIn_33 rfl (lv_at hl 3 rfl) ?_
          obtain ⟨v5, e_v5, h⟩ := pu_ob h
          refine pu_iald hx hb G.1 hP 23 12 rfl rfl e_v5 d_So_isIn_34 ?_
          refine lv_istore_n (lv' := [(3, .int v5), (0, .ref (ad 7)), (1, .int x1), (2, .int x2), (4, .int x4)]) hx hb d_So_isIn_35 rfl hl (by decide) rfl (fun ls hl => ?_)
          refine lv_iinc (v := (x4 + 1)) (lv' := [(4, .int (x4 + 1)), (3, .int v5), (0, .ref (ad 7)), (1, .int x1), (2, .int x2)]) hx hb d_So_isIn_36 hl (k := 4) rfl rfl (by decide) rfl (fun ls hl => ?_)
          refine lv_goto (tgt := 10) hx hb d_So_isIn_39 (by decide) ?_
          exact ih x1 x2 v5 (x4 + 1) h ls (lv_sub hl [2, 3, 4, 1, 0] rfl)
        · rw [if_pos c4] at h
          refine lv_iconst (v := 1) hx hb d_So_isIn_27 (by decide) ?_
          have h := Option.some.inj h
          exact W.zret (v := 1) (ty := .boolean) hx hb hr rfl (fun t ht _ => ⟨by rw [h], ht⟩) (fun _ q => by cases q) d_So_isIn_28
set_option maxHeartbeats 4000000 in
set_option maxRecDepth 100000 in
theorem c_So_isIn (l : Launch) (D : va_G) (ca : Nat → ClassId) (ad : Nat → Nat) (st : pu_St) (sz : Nat) (x1 x2 : Int32) (r : Int32) (h : f_So_isIn st x1 x2 = some r) : Met l y_So_isIn (.code y_So_isIn b_So_isIn 5 (some .boolean) :: tG) { frames := 0, cells := 0, slots := 0, locals := 0 } (va_Pc [.ref (ad 7), .int x1, .int x2] (hPc D ca ad st sz)) (QcRead r) 0 0 (fun _ => False) := by
  refine hRead (by decide +kernel) ?_
  intro p e s m below meth c C G hP
  obtain ⟨hx, hb, hml, hr, hlocks, hno, hown, hts⟩ := id C
  have hown : s.vm.findClass "MuseumHouse$Stores" = some m.cls := hown
  have hS : va_S (hA ad s.heap.size) s.heap s.heap [] := va_S.rf
  have hl := lv_entry ([.ref (ad 7), .int x1, .int x2]) (n := 5) (Nat.le_of_ble_eq_true rfl)
  rw [lg_entry_eq]
  generalize (lg_sl ([.ref (ad 7), .int x1, .int x2]) ++ List.replicate (5 - (lg_sl ([.ref (ad 7), .int x1, .int x2])).length) Slot.unset).toArray = ls at hl ⊢
  have hl : lv_has ls 5 [(0, .ref (ad 7)), (1, .int x1), (2, .int x2)] := hl
  unfold f_So_isIn at h
  refine lv_aload_n hx hb d_So_isIn_0 rfl (lv_at hl 0 rfl) ?_
  refine va_get (D := D) (ci := 7) (v := .ref (ad 23)) (C := R_So) (T := T_So) (N := 4) hx hb hts iw_So hown G.1 hP 7 rfl rfl 3 (by decide) (hts _ wd_1_144) (fun _ h9 => h9) rfl d_So_isIn_1 ?_
  refine lv_iload_n hx hb d_So_isIn_4 rfl (lv_at hl 1 rfl) ?_
  obtain ⟨v1, e_v1, h⟩ := pu_ob h
  refine pu_iald hx hb G.1 hP 23 12 rfl rfl e_v1 d_So_isIn_5 ?_
  refine lv_istore_n (lv' := [(3, .int v1), (0, .ref (ad 7)), (1, .int x1), (2, .int x2)]) hx hb d_So_isIn_6 rfl hl (by decide) rfl (fun ls hl => ?_)
  refine lv_iconst (v := 0) hx hb d_So_isIn_7 (by decide) ?_
  refine lv_istore (lv' := [(4, .int 0), (3, .int v1), (0, .ref (ad 7)), (1, .int x1), (2, .int x2)]) hx hb d_So_isIn_8 hl (by decide) rfl (fun ls hl => ?_)
  exact t_So_isIn_b10 C G hP hS pu_fu x1 x2 v1 0 h ls (lv_sub hl [2, 3, 4, 1, 0] rfl)
set_option maxHeartbeats 4000000 in
set_option maxRecDepth 100000 in
theorem c_So_isAtOrIn (l : Launch) (D : va_G) (ca : Nat → ClassId) (ad : Nat → Nat) (st : pu_St) (sz : Nat) (x1 x2 : Int32) (r : Int32) (h : f_So_isAtOrIn st x1 x2 = some r) : Met l y_So_isAtOrIn (.code y_So_isAtOrIn b_So_isAtOrIn 3 (some .boolean) :: tG) { frames := 1, cells := 0, slots := 0, locals := 24 } (va_Pc [.ref (ad 7), .int x1, .int x2] (hPc D ca ad st sz)) (QcRead r) 0 0 (fun _ => False) := by
  refine hRead (by decide +kernel) ?_
  intro p e s m below meth c C G hP
  obtain ⟨hx, hb, hml, hr, hlocks, hno, hown, hts⟩ := id C
  have hown : s.vm.findClass "MuseumHouse$Stores" = some m.cls := hown
  have hS : va_S (hA ad s.heap.size) s.heap s.heap [] := va_S.rf
  have hl := lv_entry ([.ref (ad 7), .int x1, .int x2]) (n := 3) (Nat.le_of_ble_eq_true rfl)
  rw [lg_entry_eq]
  generalize (lg_sl ([.ref (ad 7), .int x1, .int x2]) ++ List.replicate (3 - (lg_sl ([.ref (ad 7), .int x1, .int x2])).length) Slot.unset).toArray = ls at hl ⊢
  have hl : lv_has ls 3 [(0, .ref (ad 7)), (1, .int x1), (2, .int x2)] := hl
  unfold f_So_isAtOrIn at h
  refine lv_iload_n hx hb d_So_isAtOrIn_0 rfl (lv_at hl 1 rfl) ?_
  refine lv_iload_n hx hb d_So_isAtOrIn_1 rfl (lv_at hl 2 rfl) ?_
  refine lv_icmp_eq (tgt := 14) hx hb d_So_isAtOrIn_2 (by decide) (fun c1 => ?_) (fun c1 => ?_)
  · rw [if_pos c1] at h
    refine lv_iconst (v := 1) hx hb d_So_isAtOrIn_14 (by decide) ?_
    refine lv_goto (tgt := 19) hx hb d_So_isAtOrIn_15 (by decide) ?_
    have h := Option.some.inj h
    exact W.zret (v := 1) (ty := .boolean) hx hb hr rfl (fun t ht _ => ⟨by rw [h], ht⟩) (fun _ q => by cases q) d_So_isAtOrIn_19
  · rw [if_neg c1] at h
    refine lv_aload_n hx hb d_So_isAtOrIn_5 rfl (lv_at hl 0 rfl) ?_
    refine lv_iload_n hx hb d_So_isAtOrIn_6 rfl (lv_at hl 1 rfl) ?_
    refine lv_iload_n hx hb d_So_isAtOrIn_7 rfl (lv_at hl 2 rfl) ?_
    obtain ⟨v2, e_v2, h⟩ := pu_ob h
    refine pu_callR (va_runV (As := [.int x1, .int x2]) (rest := []) ⟨hx, hb, hml, hown, hts⟩ (c_So_isIn l D ca ad st _ x1 x2 v2 e_v2) (xCW (C := "MuseumHouse$Stores") 2 hts wd_3_147 wd_1_9 wd_3_144 wd_3_145 wd_3_146 (by decide +kernel) ⟨Nat.le_of_ble_eq_true rfl, Nat.le_of_ble_eq_true rfl⟩) (G.preV hP hS 7 rfl rfl) rfl rfl hl.1 rfl (lv_room (Nat.le_of_ble_eq_true rfl)) d_So_isAtOrIn_8 ⟨Nat.zero_le _, Nat.zero_le _⟩) ?_
    refine lv_if_eq (tgt := 18) hx hb d_So_isAtOrIn_11 (by decide) (fun c3 => ?_) (fun c3 => ?_)
    · rw [if_pos c3] at h
      refine lv_iconst (v := 0) hx hb d_So_isAtOrIn_18 (by decide) ?_
      have h := Option.some.inj h
      exact W.zret (v := 0) (ty := .boolean) hx hb hr rfl (fun t ht _ => ⟨by rw [h], ht⟩) (fun _ q => by cases q) d_So_isAtOrIn_19
    · rw [if_neg c3] at h
      refine lv_iconst (v := 1) hx hb d_So_isAtOrIn_14 (by decide) ?_
      refine lv_goto (tgt := 19) hx hb d_So_isAtOrIn_15 (by decide) ?_
      have h := Option.some.inj h
      exact W.zret (v := 1) (ty := .boolean) hx hb hr rfl (fun t ht _ => ⟨by rw [h], ht⟩) (fun _ q => by cases q) d_So_isAtOrIn_19
set_option maxHeartbeats 4000000 in
set_option maxRecDepth 100000 in
theorem t_H_carry_b86 {l : Launch} (htl : l.stackTraces = false) {p : Program} {e : Env} {s : State} {m : MethodId} {args : Array Value} {below : List Frame} {meth : Method} {c : Code} {D : va_G} {ca : Nat → ClassId} {ad : Nat → Nat} {st' : pu_St} {r : Int32 ⊕ Nat} (C : hC p s m meth c args b_H_carry 8 (some .boolean) "MuseumHouse") (G : hX D ca ad (hA ad s.heap.size) s) :
    ∀ (_ : Unit) (st : pu_St) (x1 x2 x3 x4 x5 x6 z0 : Int32), f_H_carry_b86 st x1 x2 x3 x4 x5 x6 z0 = some (r, st') → ∀ (H : Heap) (locs : List Loc), va_P D hcl (hW ca ad st) H → va_S (hA ad s.heap.size) s.heap H locs → ∀ ls : Array Slot, lv_has ls 8 [(0, .ref (ad 0)), (1, .int x1), (2, .int x2), (3, .int x3), (4, .int x4), (5, .int x5), (6, .int x6)] → W p l e { frames := 8, cells := xc r, slots := xs r, locals := 134 } s m args below meth c H locs 0 0 (MQX below (hQ D ca ad (fun v => some (.int v)) r st' s.heap.size) args s (xc r) (xs r) (hA ad s.heap.size)) (F0 m 86 ls [.int z0]) := by
  obtain ⟨hx, hb, hml, hr, hlocks, hno, hown, hts⟩ := id C
  intro _ st x1 x2 x3 x4 x5 x6 z0 h H locs hP hS ls hl
  unfold f_H_carry_b86 at h
  refine lv_istore (lv' := [(7, .int z0), (0, .ref (ad 0)), (1, .int x1), (2, .int x2), (3, .int x3), (4, .int x4), (5, .int x5), (6, .int x6)]) hx hb d_H_carry_86 hl (by decide) rfl (fun ls hl => ?_)
  refine lv_aload_n hx hb d_H_carry_88 rfl (lv_at hl 1 rfl) ?_
  refine va_get (D := D) (ci := 0) (v := .ref (ad 7)) (C := R_H) (T := T_H) (N := 12) hx hb hts iw_H hown G.1 hP 0 rfl rfl 6 (by decide) (hts _ wd_1_218) (fun _ h9 => h9) rfl d_H_carry_89 ?_
  refine lv_iload hx hb d_H_carry_92 (lv_at hl 6 rfl) ?_
  refine lv_iload hx hb d_H_carry_94 (lv_at hl 7 rfl) ?_
  obtain ⟨q16, e_q16, h⟩ := pu_ob h
  refine hCallU G hS (va_runV (As := [.int x5, .int x6]) (rest := []) ⟨hx, hb, hml, hown, hts⟩ (MetX.met (c_So_setParent l htl D ca ad st _ x5 x6 q16.1 q16.2 e_q16) (fun _ _ _ _ q => ⟨_, q.1⟩)) (xCW (C := "MuseumHouse$Stores") 2 hts wd_3_155 wd_1_9 wd_3_152 wd_3_153 wd_3_154 (by decide +kernel) ⟨Nat.le_of_ble_eq_true rfl, Nat.le_of_ble_eq_true rfl⟩) (G.preV hP hS 7 rfl rfl) rfl rfl hl.1 rfl (lv_room (Nat.le_of_ble_eq_true rfl)) d_H_carry_96 ⟨Nat.zero_le _, Nat.zero_le _⟩) (fun H locs hP hS => ?_)
  refine lv_iload hx hb d_H_carry_99 (lv_at hl 0 rfl) ?_
  obtain ⟨b17, e_b17, h⟩ := pu_ob h
  obtain ⟨e_b17, k_b17⟩ := pu_bo_inv e_b17
  cases h
  rw [e_b17]
  exact W.toX (W.zret (ty := .boolean) hx hb hr (by rcases k_b17 with e | e <;> rw [e] <;> rfl) (fun t ht _ => ⟨rfl, by rw [ht]; exact hP, hS.F ht⟩) hS.2.2 d_H_carry_101)
set_option maxHeartbeats 4000000 in
set_option maxRecDepth 100000 in
theorem t_H_carry_b64 {l : Launch} (htl : l.stackTraces = false) {p : Program} {e : Env} {s : State} {m : MethodId} {args : Array Value} {below : List Frame} {meth : Method} {c : Code} {D : va_G} {ca : Nat → ClassId} {ad : Nat → Nat} {st' : pu_St} {r : Int32 ⊕ Nat} (C : hC p s m meth c args b_H_carry 8 (some .boolean) "MuseumHouse") (G : hX D ca ad (hA ad s.heap.size) s) :
    ∀ (_ : Unit) (st : pu_St) (x1 x2 x3 x4 x5 x6 z0 z1 : Int32), f_H_carry_b64 st x1 x2 x3 x4 x5 x6 z0 z1 = some (r, st') → ∀ (H : Heap) (locs : List Loc), va_P D hcl (hW ca ad st) H → va_S (hA ad s.heap.size) s.heap H locs → ∀ ls : Array Slot, lv_has ls 8 [(0, .ref (ad 0)), (1, .int x1), (2, .int x2), (3, .int x3), (4, .int x4), (5, .int x5), (6, .int x6)] → W p l e { frames := 8, cells := xc r, slots := xs r, locals := 134 } s m args below meth c H locs 0 0 (MQX below (hQ D ca ad (fun v => some (.int v)) r st' s.heap.size) args s (xc r) (xs r) (hA ad s.heap.size)) (F0 m 64 ls [.int z0, .int z1, .ref (ad 0)]) := by
  obtain ⟨hx, hb, hml, hr, hlocks, hno, hown, hts⟩ := id C
  intro _ st x1 x2 x3 x4 x5 x6 z0 z1 h H locs hP hS ls hl
  unfold f_H_carry_b64 at h
  rcases pu_xb_inv h with ⟨v12, st13, e_v12, h⟩ | ⟨v12, st13, e_v12, h⟩
  · refine hCallU G hS (va_runV (As := [.int z1, .int z0]) (rest := []) ⟨hx, hb, hml, hown, hts⟩ (MetX.met (c_H_ask l htl D ca ad st _ z1 z0 _ _ e_v12) (fun _ _ _ _ q => ⟨_, q.1⟩)) (xCW (C := "MuseumHouse") 2 hts wd_2_139 wd_1_1 wd_2_136 wd_2_138 wd_0_4 (by decide +kernel) ⟨Nat.le_of_ble_eq_true rfl, Nat.le_of_ble_eq_true rfl⟩) (G.preV hP hS 0 rfl rfl) rfl rfl hl.1 rfl (lv_room (Nat.le_of_ble_eq_true rfl)) d_H_carry_64 ⟨Nat.zero_le _, Nat.zero_le _⟩) (fun H locs hP hS => ?_)
    refine lv_aload_n hx hb d_H_carry_67 rfl (lv_at hl 0 rfl) ?_
    refine va_get (D := D) (ci := 0) (v := .ref (ad 7)) (C := R_H) (T := T_H) (N := 12) hx hb hts iw_H hown G.1 hP 0 rfl rfl 6 (by decide) (hts _ wd_1_218) (fun _ h9 => h9) rfl d_H_carry_68 ?_
    refine lv_iload hx hb d_H_carry_71 (lv_at hl 5 rfl) ?_
    obtain ⟨v14, e_v14, h⟩ := pu_ob h
    refine pu_callR (va_runV (As := [.int x5]) (rest := []) ⟨hx, hb, hml, hown, hts⟩ (c_So_parentOf l D ca ad st13 _ x5 v14 e_v14) (xCW (C := "MuseumHouse$Stores") 1 hts wd_3_151 wd_1_9 wd_3_148 wd_3_149 wd_3_150 (by decide +kernel) ⟨Nat.le_of_ble_eq_true rfl, Nat.le_of_ble_eq_true rfl⟩) (G.preV hP hS 7 rfl rfl) rfl rfl hl.1 rfl (lv_room (Nat.le_of_ble_eq_true rfl)) d_H_carry_73 ⟨Nat.zero_le _, Nat.zero_le _⟩) ?_
    refine lv_iload hx hb d_H_carry_76 (lv_at hl 6 rfl) ?_
    refine lv_icmp_eq (tgt := 85) hx hb d_H_carry_78 (by decide) (fun c15 => ?_) (fun c15 => ?_)
    · rw [if_pos c15] at h
      refine lv_iconst (v := 0) hx hb d_H_carry_85 (by decide) ?_
      exact t_H_carry_b86 htl C G () st13 x1 x2 x3 x4 x5 x6 0 h _ _ hP hS ls (lv_sub hl [0, 1, 2, 3, 4, 5, 6] rfl)
    · rw [if_neg c15] at h
      refine lv_iconst (v := 1) hx hb d_H_carry_81 (by decide) ?_
      refine lv_goto (tgt := 86) hx hb d_H_carry_82 (by decide) ?_
      exact t_H_carry_b86 htl C G () st13 x1 x2 x3 x4 x5 x6 1 h _ _ hP hS ls (lv_sub hl [0, 1, 2, 3, 4, 5, 6] rfl)
  · cases h
    exact hThrV G hS hno hlocks ⟨hx, hb, hml, hown, hts⟩ (As := [.int z1, .int z0]) (rest := []) (c_H_ask l htl D ca ad st _ z1 z0 _ _ e_v12) (xCW (C := "MuseumHouse") 2 hts wd_2_139 wd_1_1 wd_2_136 wd_2_138 wd_0_4 (by decide +kernel) ⟨Nat.le_of_ble_eq_true rfl, Nat.le_of_ble_eq_true rfl⟩) (G.preV hP hS 0 rfl rfl) rfl rfl hl.1 rfl (lv_room (Nat.le_of_ble_eq_true rfl)) d_H_carry_64 ⟨Nat.le_of_ble_eq_true rfl, Nat.le_of_ble_eq_true rfl⟩
set_option maxHeartbeats 4000000 in
set_option maxRecDepth 100000 in
theorem t_H_carry_b59 {l : Launch} (htl : l.stackTraces = false) {p : Program} {e : Env} {s : State} {m : MethodId} {args : Array Value} {below : List Frame} {meth : Method} {c : Code} {D : va_G} {ca : Nat → ClassId} {ad : Nat → Nat} {st' : pu_St} {r : Int32 ⊕ Nat} (C : hC p s m meth c args b_H_carry 8 (some .boolean) "MuseumHouse") (G : hX D ca ad (hA ad s.heap.size) s) :
    ∀ (_ : Unit) (st : pu_St) (x1 x2 x3 x4 x5 x6 z0 : Int32), f_H_carry_b59 st x1 x2 x3 x4 x5 x6 z0 = some (r, st') → ∀ (H : Heap) (locs : List Loc), va_P D hcl (hW ca ad st) H → va_S (hA ad s.heap.size) s.heap H locs → ∀ ls : Array Slot, lv_has ls 8 [(0, .ref (ad 0)), (1, .int x1), (2, .int x2), (3, .int x3), (4, .int x4), (5, .int x5), (6, .int x6)] → W p l e { frames := 8, cells := xc r, slots := xs r, locals := 134 } s m args below meth c H locs 0 0 (MQX below (hQ D ca ad (fun v => some (.int v)) r st' s.heap.size) args s (xc r) (xs r) (hA ad s.heap.size)) (F0 m 59 ls [.int z0, .ref (ad 0)]) := by
  obtain ⟨hx, hb, hml, hr, hlocks, hno, hown, hts⟩ := id C
  intro _ st x1 x2 x3 x4 x5 x6 z0 h H locs hP hS ls hl
  unfold f_H_carry_b59 at h
  refine lv_iconst (v := 1) hx hb d_H_carry_59 (by decide) ?_
  refine lv_goto (tgt := 64) hx hb d_H_carry_60 (by decide) ?_
  exact t_H_carry_b64 htl C G () st x1 x2 x3 x4 x5 x6 1 z0 h _ _ hP hS ls (lv_sub hl [0, 1, 2, 3, 4, 5, 6] rfl)
set_option maxHeartbeats 4000000 in
set_option maxRecDepth 100000 in
theorem c_H_carry (l : Launch) (htl : l.stackTraces = false) (D : va_G) (ca : Nat → ClassId) (ad : Nat → Nat) (st : pu_St) (sz : Nat) (x1 x2 x3 : Int32) (r : Int32 ⊕ Nat) (st' : pu_St) (h : f_H_carry st x1 x2 x3 = some (r, st')) : MetX l y_H_carry (.code y_H_carry b_H_carry 8 (some .boolean) :: tG) { frames := 8, cells := xc r, slots := xs r, locals := 134 } (va_Pc [.ref (ad 0), .int x1, .int x2, .int x3] (hPc D ca ad st sz)) (hQ D ca ad (fun v => some (.int v)) r st' sz) (xc r) (xs r) (hA ad sz) := by
  refine hMet (by decide +kernel) ?_
  intro p e s m below meth c hsz C G hP
  obtain ⟨hx, hb, hml, hr, hlocks, hno, hown, hts⟩ := id C
  have hown : s.vm.findClass "MuseumHouse" = some m.cls := hown
  have hS : va_S (hA ad s.heap.size) s.heap s.heap [] := va_S.rf
  have hl := lv_entry ([.ref (ad 0), .int x1, .int x2, .int x3]) (n := 8) (Nat.le_of_ble_eq_true rfl)
  rw [lg_entry_eq]
  generalize (lg_sl ([.ref (ad 0), .int x1, .int x2, .int x3]) ++ List.replicate (8 - (lg_sl ([.ref (ad 0), .int x1, .int x2, .int x3])).length) Slot.unset).toArray = ls at hl ⊢
  have hl : lv_has ls 8 [(0, .ref (ad 0)), (1, .int x1), (2, .int x2), (3, .int x3)] := hl
  unfold f_H_carry at h
  refine lv_aload_n hx hb d_H_carry_0 rfl (lv_at hl 0 rfl) ?_
  refine lv_aload_n hx hb d_H_carry_1 rfl (lv_at hl 0 rfl) ?_
  refine va_get (D := D) (ci := 0) (v := .ref (ad 1)) (C := R_H) (T := T_H) (N := 12) hx hb hts iw_H hown G.1 hP 0 rfl rfl 0 (by decide) (hts _ wd_1_212) (fun _ h9 => h9) rfl d_H_carry_2 ?_
  refine lv_iload_n hx hb d_H_carry_5 rfl (lv_at hl 1 rfl) ?_
  rcases pu_xb_inv h with ⟨v1, st2, e_v1, h⟩ | ⟨v1, st2, e_v1, h⟩
  · refine hCallI G hS (va_runV (As := [.ref (ad 1), .int x1]) (rest := []) ⟨hx, hb, hml, hown, hts⟩ (MetX.met (c_H_numberOf_De l htl D ca ad st _ x1 _ _ e_v1) (fun _ _ _ _ q => ⟨_, q.1⟩)) (xCW (C := "MuseumHouse") 2 hts wd_2_26 wd_1_1 wd_2_23 wd_2_25 wd_0_0 (by decide +kernel) ⟨Nat.le_of_ble_eq_true rfl, Nat.le_of_ble_eq_true rfl⟩) (G.preV hP hS 0 rfl rfl) rfl rfl hl.1 rfl (lv_room (Nat.le_of_ble_eq_true rfl)) d_H_carry_6 ⟨Nat.zero_le _, Nat.zero_le _⟩) (fun H locs hP hS => ?_)
    refine lv_istore (lv' := [(4, .int v1), (0, .ref (ad 0)), (1, .int x1), (2, .int x2), (3, .int x3)]) hx hb d_H_carry_9 hl (by decide) rfl (fun ls hl => ?_)
    refine lv_aload_n hx hb d_H_carry_11 rfl (lv_at hl 1 rfl) ?_
    refine lv_aload_n hx hb d_H_carry_12 rfl (lv_at hl 1 rfl) ?_
    refine va_get (D := D) (ci := 0) (v := .ref (ad 7)) (C := R_H) (T := T_H) (N := 12) hx hb hts iw_H hown G.1 hP 0 rfl rfl 6 (by decide) (hts _ wd_1_218) (fun _ h9 => h9) rfl d_H_carry_13 ?_
    refine lv_iload_n hx hb d_H_carry_16 rfl (lv_at hl 3 rfl) ?_
    rcases pu_xb_inv h with ⟨v3, st4, e_v3, h⟩ | ⟨v3, st4, e_v3, h⟩
    · refine hCallI G hS (va_runV (As := [.ref (ad 7), .int x2]) (rest := []) ⟨hx, hb, hml, hown, hts⟩ (MetX.met (c_H_numberOf_So l htl D ca ad st2 _ x2 _ _ e_v3) (fun _ _ _ _ q => ⟨_, q.1⟩)) (xCW (C := "MuseumHouse") 2 hts wd_2_26 wd_1_1 wd_2_23 wd_2_25 wd_0_0 (by decide +kernel) ⟨Nat.le_of_ble_eq_true rfl, Nat.le_of_ble_eq_true rfl⟩) (G.preV hP hS 0 rfl rfl) rfl rfl hl.1 rfl (lv_room (Nat.le_of_ble_eq_true rfl)) d_H_carry_17 ⟨Nat.zero_le _, Nat.zero_le _⟩) (fun H locs hP hS => ?_)
      refine lv_istore (lv' := [(5, .int v3), (4, .int v1), (0, .ref (ad 0)), (1, .int x1), (2, .int x2), (3, .int x3)]) hx hb d_H_carry_20 hl (by decide) rfl (fun ls hl => ?_)
      refine lv_aload_n hx hb d_H_carry_22 rfl (lv_at hl 2 rfl) ?_
      refine lv_iload_n hx hb d_H_carry_23 rfl (lv_at hl 5 rfl) ?_
      rcases pu_xb_inv h with ⟨v5, st6, e_v5, h⟩ | ⟨v5, st6, e_v5, h⟩
      · refine hCallI G hS (va_runV (As := [.int x3]) (rest := []) ⟨hx, hb, hml, hown, hts⟩ (MetX.met (c_H_parentNumberOf l htl D ca ad st4 _ x3 _ _ e_v5) (fun _ _ _ _ q => ⟨_, q.1⟩)) (xCW (C := "MuseumHouse") 1 hts wd_3_119 wd_1_1 wd_3_116 wd_3_118 wd_0_7 (by decide +kernel) ⟨Nat.le_of_ble_eq_true rfl, Nat.le_of_ble_eq_true rfl⟩) (G.preV hP hS 0 rfl rfl) rfl rfl hl.1 rfl (lv_room (Nat.le_of_ble_eq_true rfl)) d_H_carry_24 ⟨Nat.zero_le _, Nat.zero_le _⟩) (fun H locs hP hS => ?_)
        refine lv_istore (lv' := [(6, .int v5), (5, .int v3), (4, .int v1), (0, .ref (ad 0)), (1, .int x1), (2, .int x2), (3, .int x3)]) hx hb d_H_carry_27 hl (by decide) rfl (fun ls hl => ?_)
        refine lv_aload_n hx hb d_H_carry_29 rfl (lv_at hl 3 rfl) ?_
        refine lv_iload hx hb d_H_carry_30 (lv_at hl 2 rfl) ?_
        refine lv_iconst (v := 4) hx hb d_H_carry_32 (by decide) ?_
        rcases pu_xb_inv h with ⟨v7, st8, e_v7, h⟩ | ⟨v7, st8, e_v7, h⟩
        · refine hCallU G hS (va_runV (As := [.int v1, .int 4]) (rest := []) ⟨hx, hb, hml, hown, hts⟩ (MetX.met (c_H_askRight l htl D ca ad st6 _ v1 4 _ _ e_v7) (fun _ _ _ _ q => ⟨_, q.1⟩)) (xCW (C := "MuseumHouse") 2 hts wd_2_106 wd_1_1 wd_2_103 wd_2_105 wd_0_2 (by decide +kernel) ⟨Nat.le_of_ble_eq_true rfl, Nat.le_of_ble_eq_true rfl⟩) (G.preV hP hS 0 rfl rfl) rfl rfl hl.1 rfl (lv_room (Nat.le_of_ble_eq_true rfl)) d_H_carry_33 ⟨Nat.zero_le _, Nat.zero_le _⟩) (fun H locs hP hS => ?_)
          refine lv_aload_n hx hb d_H_carry_36 rfl (lv_at hl 3 rfl) ?_
          refine lv_bipush (v := 10) hx hb d_H_carry_37 (by decide) ?_
          refine lv_iload hx hb d_H_carry_39 (lv_at hl 0 rfl) ?_
          refine lv_iconst (v := (-1)) hx hb d_H_carry_41 (by decide) ?_
          refine lv_icmp_eq (tgt := 59) hx hb d_H_carry_42 (by decide) (fun c9 => ?_) (fun c9 => ?_)
          · rw [if_pos c9] at h
            exact t_H_carry_b59 htl C G () st8 x1 x2 x3 v1 v3 v5 10 h _ _ hP hS ls (lv_sub hl [3, 4, 5, 6, 2, 1, 0] rfl)
          · rw [if_neg c9] at h
            refine lv_aload_n hx hb d_H_carry_45 rfl (lv_at hl 3 rfl) ?_
            refine va_get (D := D) (ci := 0) (v := .ref (ad 7)) (C := R_H) (T := T_H) (N := 12) hx hb hts iw_H hown G.1 hP 0 rfl rfl 6 (by decide) (hts _ wd_1_218) (fun _ h9 => h9) rfl d_H_carry_46 ?_
            refine lv_iload hx hb d_H_carry_49 (lv_at hl 0 rfl) ?_
            refine lv_iload hx hb d_H_carry_51 (lv_at hl 1 rfl) ?_
            obtain ⟨v10, e_v10, h⟩ := pu_ob h
            refine pu_callR (va_runV (As := [.int v5, .int v3]) (rest := [.int 10, .ref (ad 0)]) ⟨hx, hb, hml, hown, hts⟩ (c_So_isAtOrIn l D ca ad st8 _ v5 v3 v10 e_v10) (xCW (C := "MuseumHouse$Stores") 2 hts wd_3_143 wd_1_9 wd_3_140 wd_3_141 wd_3_142 (by decide +kernel) ⟨Nat.le_of_ble_eq_true rfl, Nat.le_of_ble_eq_true rfl⟩) (G.preV hP hS 7 rfl rfl) rfl rfl hl.1 rfl (lv_room (Nat.le_of_ble_eq_true rfl)) d_H_carry_53 ⟨Nat.zero_le _, Nat.zero_le _⟩) ?_
            refine lv_if_ne (tgt := 63) hx hb d_H_carry_56 (by decide) (fun c11 => ?_) (fun c11 => ?_)
            · rw [if_neg c11] at h
              refine lv_iconst (v := 0) hx hb d_H_carry_63 (by decide) ?_
              exact t_H_carry_b64 htl C G () st8 x1 x2 x3 v1 v3 v5 0 10 h _ _ hP hS ls (lv_sub hl [3, 4, 5, 6, 2, 1, 0] rfl)
            · rw [if_pos c11] at h
              exact t_H_carry_b59 htl C G () st8 x1 x2 x3 v1 v3 v5 10 h _ _ hP hS ls (lv_sub hl [3, 4, 5, 6, 2, 1, 0] rfl)
        · cases h
          exact hThrV G hS hno hlocks ⟨hx, hb, hml, hown, hts⟩ (As := [.int v1, .int 4]) (rest := []) (c_H_askRight l htl D ca ad st6 _ v1 4 _ _ e_v7) (xCW (C := "MuseumHouse") 2 hts wd_2_106 wd_1_1 wd_2_103 wd_2_105 wd_0_2 (by decide +kernel) ⟨Nat.le_of_ble_eq_true rfl, Nat.le_of_ble_eq_true rfl⟩) (G.preV hP hS 0 rfl rfl) rfl rfl hl.1 rfl (lv_room (Nat.le_of_ble_eq_true rfl)) d_H_carry_33 ⟨Nat.le_of_ble_eq_true rfl, Nat.le_of_ble_eq_true rfl⟩
      · cases h
        exact hThrV G hS hno hlocks ⟨hx, hb, hml, hown, hts⟩ (As := [.int x3]) (rest := []) (c_H_parentNumberOf l htl D ca ad st4 _ x3 _ _ e_v5) (xCW (C := "MuseumHouse") 1 hts wd_3_119 wd_1_1 wd_3_116 wd_3_118 wd_0_7 (by decide +kernel) ⟨Nat.le_of_ble_eq_true rfl, Nat.le_of_ble_eq_true rfl⟩) (G.preV hP hS 0 rfl rfl) rfl rfl hl.1 rfl (lv_room (Nat.le_of_ble_eq_true rfl)) d_H_carry_24 ⟨Nat.le_of_ble_eq_true rfl, Nat.le_of_ble_eq_true rfl⟩
    · cases h
      exact hThrV G hS hno hlocks ⟨hx, hb, hml, hown, hts⟩ (As := [.ref (ad 7), .int x2]) (rest := []) (c_H_numberOf_So l htl D ca ad st2 _ x2 _ _ e_v3) (xCW (C := "MuseumHouse") 2 hts wd_2_26 wd_1_1 wd_2_23 wd_2_25 wd_0_0 (by decide +kernel) ⟨Nat.le_of_ble_eq_true rfl, Nat.le_of_ble_eq_true rfl⟩) (G.preV hP hS 0 rfl rfl) rfl rfl hl.1 rfl (lv_room (Nat.le_of_ble_eq_true rfl)) d_H_carry_17 ⟨Nat.le_of_ble_eq_true rfl, Nat.le_of_ble_eq_true rfl⟩
  · cases h
    exact hThrV G hS hno hlocks ⟨hx, hb, hml, hown, hts⟩ (As := [.ref (ad 1), .int x1]) (rest := []) (c_H_numberOf_De l htl D ca ad st _ x1 _ _ e_v1) (xCW (C := "MuseumHouse") 2 hts wd_2_26 wd_1_1 wd_2_23 wd_2_25 wd_0_0 (by decide +kernel) ⟨Nat.le_of_ble_eq_true rfl, Nat.le_of_ble_eq_true rfl⟩) (G.preV hP hS 0 rfl rfl) rfl rfl hl.1 rfl (lv_room (Nat.le_of_ble_eq_true rfl)) d_H_carry_6 ⟨Nat.le_of_ble_eq_true rfl, Nat.le_of_ble_eq_true rfl⟩
set_option maxHeartbeats 4000000 in
set_option maxRecDepth 100000 in
theorem c_H_within (l : Launch) (htl : l.stackTraces = false) (D : va_G) (ca : Nat → ClassId) (ad : Nat → Nat) (st : pu_St) (sz : Nat) (x1 x2 : Int32) (r : Int32 ⊕ Nat) (st' : pu_St) (h : f_H_within st x1 x2 = some (r, st')) : MetX l y_H_within (.code y_H_within b_H_within 5 (some .boolean) :: tG) { frames := 7, cells := xc r, slots := xs r, locals := 113 } (va_Pc [.ref (ad 0), .int x1, .int x2] (hPc D ca ad st sz)) (hQ D ca ad (fun v => some (.int v)) r st' sz) (xc r) (xs r) (hA ad sz) := by
  refine hMet (by decide +kernel) ?_
  intro p e s m below meth c hsz C G hP
  obtain ⟨hx, hb, hml, hr, hlocks, hno, hown, hts⟩ := id C
  have hown : s.vm.findClass "MuseumHouse" = some m.cls := hown
  have hS : va_S (hA ad s.heap.size) s.heap s.heap [] := va_S.rf
  have hl := lv_entry ([.ref (ad 0), .int x1, .int x2]) (n := 5) (Nat.le_of_ble_eq_true rfl)
  rw [lg_entry_eq]
  generalize (lg_sl ([.ref (ad 0), .int x1, .int x2]) ++ List.replicate (5 - (lg_sl ([.ref (ad 0), .int x1, .int x2])).length) Slot.unset).toArray = ls at hl ⊢
  have hl : lv_has ls 5 [(0, .ref (ad 0)), (1, .int x1), (2, .int x2)] := hl
  unfold f_H_within at h
  refine lv_aload_n hx hb d_H_within_0 rfl (lv_at hl 0 rfl) ?_
  refine lv_aload_n hx hb d_H_within_1 rfl (lv_at hl 0 rfl) ?_
  refine va_get (D := D) (ci := 0) (v := .ref (ad 7)) (C := R_H) (T := T_H) (N := 12) hx hb hts iw_H hown G.1 hP 0 rfl rfl 6 (by decide) (hts _ wd_1_218) (fun _ h9 => h9) rfl d_H_within_2 ?_
  refine lv_iload_n hx hb d_H_within_5 rfl (lv_at hl 1 rfl) ?_
  rcases pu_xb_inv h with ⟨v1, st2, e_v1, h⟩ | ⟨v1, st2, e_v1, h⟩
  · refine hCallI G hS (va_runV (As := [.ref (ad 7), .int x1]) (rest := []) ⟨hx, hb, hml, hown, hts⟩ (MetX.met (c_H_numberOf_So l htl D ca ad st _ x1 _ _ e_v1) (fun _ _ _ _ q => ⟨_, q.1⟩)) (xCW (C := "MuseumHouse") 2 hts wd_2_26 wd_1_1 wd_2_23 wd_2_25 wd_0_0 (by decide +kernel) ⟨Nat.le_of_ble_eq_true rfl, Nat.le_of_ble_eq_true rfl⟩) (G.preV hP hS 0 rfl rfl) rfl rfl hl.1 rfl (lv_room (Nat.le_of_ble_eq_true rfl)) d_H_within_6 ⟨Nat.zero_le _, Nat.zero_le _⟩) (fun H locs hP hS => ?_)
    refine lv_istore_n (lv' := [(3, .int v1), (0, .ref (ad 0)), (1, .int x1), (2, .int x2)]) hx hb d_H_within_9 rfl hl (by decide) rfl (fun ls hl => ?_)
    refine lv_aload_n hx hb d_H_within_10 rfl (lv_at hl 1 rfl) ?_
    refine lv_aload_n hx hb d_H_within_11 rfl (lv_at hl 1 rfl) ?_
    refine va_get (D := D) (ci := 0) (v := .ref (ad 7)) (C := R_H) (T := T_H) (N := 12) hx hb hts iw_H hown G.1 hP 0 rfl rfl 6 (by decide) (hts _ wd_1_218) (fun _ h9 => h9) rfl d_H_within_12 ?_
    refine lv_iload_n hx hb d_H_within_15 rfl (lv_at hl 3 rfl) ?_
    rcases pu_xb_inv h with ⟨v3, st4, e_v3, h⟩ | ⟨v3, st4, e_v3, h⟩
    · refine hCallI G hS (va_runV (As := [.ref (ad 7), .int x2]) (rest := []) ⟨hx, hb, hml, hown, hts⟩ (MetX.met (c_H_numberOf_So l htl D ca ad st2 _ x2 _ _ e_v3) (fun _ _ _ _ q => ⟨_, q.1⟩)) (xCW (C := "MuseumHouse") 2 hts wd_2_26 wd_1_1 wd_2_23 wd_2_25 wd_0_0 (by decide +kernel) ⟨Nat.le_of_ble_eq_true rfl, Nat.le_of_ble_eq_true rfl⟩) (G.preV hP hS 0 rfl rfl) rfl rfl hl.1 rfl (lv_room (Nat.le_of_ble_eq_true rfl)) d_H_within_16 ⟨Nat.zero_le _, Nat.zero_le _⟩) (fun H locs hP hS => ?_)
      refine lv_istore (lv' := [(4, .int v3), (3, .int v1), (0, .ref (ad 0)), (1, .int x1), (2, .int x2)]) hx hb d_H_within_19 hl (by decide) rfl (fun ls hl => ?_)
      refine lv_aload_n hx hb d_H_within_21 rfl (lv_at hl 2 rfl) ?_
      refine va_get (D := D) (ci := 0) (v := .ref (ad 7)) (C := R_H) (T := T_H) (N := 12) hx hb hts iw_H hown G.1 hP 0 rfl rfl 6 (by decide) (hts _ wd_1_218) (fun _ h9 => h9) rfl d_H_within_22 ?_
      refine lv_iload_n hx hb d_H_within_25 rfl (lv_at hl 1 rfl) ?_
      refine lv_iload hx hb d_H_within_26 (lv_at hl 0 rfl) ?_
      obtain ⟨v5, e_v5, h⟩ := pu_ob h
      refine pu_callR (va_runV (As := [.int v1, .int v3]) (rest := []) ⟨hx, hb, hml, hown, hts⟩ (c_So_isIn l D ca ad st4 _ v1 v3 v5 e_v5) (xCW (C := "MuseumHouse$Stores") 2 hts wd_3_147 wd_1_9 wd_3_163 wd_3_145 wd_3_146 (by decide +kernel) ⟨Nat.le_of_ble_eq_true rfl, Nat.le_of_ble_eq_true rfl⟩) (G.preV hP hS 7 rfl rfl) rfl rfl hl.1 rfl (lv_room (Nat.le_of_ble_eq_true rfl)) d_H_within_28 ⟨Nat.zero_le _, Nat.zero_le _⟩) ?_
      obtain ⟨b6, e_b6, h⟩ := pu_ob h
      obtain ⟨e_b6, k_b6⟩ := pu_bo_inv e_b6
      cases h
      rw [e_b6]
      exact W.toX (W.zret (ty := .boolean) hx hb hr (by rcases k_b6 with e | e <;> rw [e] <;> rfl) (fun t ht _ => ⟨rfl, by rw [ht]; exact hP, hS.F ht⟩) hS.2.2 d_H_within_31)
    · cases h
      exact hThrV G hS hno hlocks ⟨hx, hb, hml, hown, hts⟩ (As := [.ref (ad 7), .int x2]) (rest := []) (c_H_numberOf_So l htl D ca ad st2 _ x2 _ _ e_v3) (xCW (C := "MuseumHouse") 2 hts wd_2_26 wd_1_1 wd_2_23 wd_2_25 wd_0_0 (by decide +kernel) ⟨Nat.le_of_ble_eq_true rfl, Nat.le_of_ble_eq_true rfl⟩) (G.preV hP hS 0 rfl rfl) rfl rfl hl.1 rfl (lv_room (Nat.le_of_ble_eq_true rfl)) d_H_within_16 ⟨Nat.le_of_ble_eq_true rfl, Nat.le_of_ble_eq_true rfl⟩
  · cases h
    exact hThrV G hS hno hlocks ⟨hx, hb, hml, hown, hts⟩ (As := [.ref (ad 7), .int x1]) (rest := []) (c_H_numberOf_So l htl D ca ad st _ x1 _ _ e_v1) (xCW (C := "MuseumHouse") 2 hts wd_2_26 wd_1_1 wd_2_23 wd_2_25 wd_0_0 (by decide +kernel) ⟨Nat.le_of_ble_eq_true rfl, Nat.le_of_ble_eq_true rfl⟩) (G.preV hP hS 0 rfl rfl) rfl rfl hl.1 rfl (lv_room (Nat.le_of_ble_eq_true rfl)) d_H_within_6 ⟨Nat.le_of_ble_eq_true rfl, Nat.le_of_ble_eq_true rfl⟩
set_option maxHeartbeats 4000000 in
set_option maxRecDepth 100000 in
theorem t_Rg_numberFor_It_b23 {l : Launch} {p : Program} {e : Env} {s : State} {m : MethodId} {args : Array Value} {below : List Frame} {meth : Method} {c : Code} {D : va_G} {ca : Nat → ClassId} {ad : Nat → Nat} {A : Nat → Prop} {st : pu_St} {r : Int32} (C : hC p s m meth c args b_Rg_numberFor 3 (some .int) "MuseumHouse$Register") (G : hX D ca ad A s) (hP : va_P D hcl (hW ca ad st) s.heap) (hS : va_S A s.heap s.heap []) :
    ∀ (_ : Unit) (x1 x2 : Int32), f_Rg_numberFor_It_b23 st x1 x2 = some r → ∀ ls : Array Slot, lv_has ls 3 [(0, .ref (ad 5)), (1, .int x1), (2, .int x2)] → W p l e { frames := 0, cells := 0, slots := 0, locals := 0 } s m args below meth c s.heap [] 0 0 (MQ below (QcRead r) args s 0 0 (fun _ => False)) (F0 m 23 ls []) := by
  obtain ⟨hx, hb, hml, hr, hlocks, hno, hown, hts⟩ := id C
  intro _ x1 x2 h ls hl
  unfold f_Rg_numberFor_It_b23 at h
  refine lv_iconst (v := (-1)) hx hb d_Rg_numberFor_23 (by decide) ?_
  have h := Option.some.inj h
  exact W.iret (v := (-1)) hx hb hr (fun t ht _ => ⟨by rw [h], ht⟩) (fun _ q => by cases q) d_Rg_numberFor_24
set_option maxHeartbeats 4000000 in
set_option maxRecDepth 100000 in
theorem c_Rg_numberFor_It (l : Launch) (D : va_G) (ca : Nat → ClassId) (ad : Nat → Nat) (st : pu_St) (sz : Nat) (x1 : Int32) (r : Int32) (h : f_Rg_numberFor_It st x1 = some r) : Met l y_Rg_numberFor (.code y_Rg_numberFor b_Rg_numberFor 3 (some .int) :: tG) { frames := 0, cells := 0, slots := 0, locals := 0 } (va_Pc [.ref (ad 5), .int x1] (hPc D ca ad st sz)) (QcRead r) 0 0 (fun _ => False) := by
  refine hRead (by decide +kernel) ?_
  intro p e s m below meth c C G hP
  obtain ⟨hx, hb, hml, hr, hlocks, hno, hown, hts⟩ := id C
  have hown : s.vm.findClass "MuseumHouse$Register" = some m.cls := hown
  have hS : va_S (hA ad s.heap.size) s.heap s.heap [] := va_S.rf
  have hl := lv_entry ([.ref (ad 5), .int x1]) (n := 3) (Nat.le_of_ble_eq_true rfl)
  rw [lg_entry_eq]
  generalize (lg_sl ([.ref (ad 5), .int x1]) ++ List.replicate (3 - (lg_sl ([.ref (ad 5), .int x1])).length) Slot.unset).toArray = ls at hl ⊢
  have hl : lv_has ls 3 [(0, .ref (ad 5)), (1, .int x1)] := hl
  unfold f_Rg_numberFor_It at h
  refine lv_iload_n hx hb d_Rg_numberFor_0 rfl (lv_at hl 1 rfl) ?_
  refine lv_aload_n hx hb d_Rg_numberFor_1 rfl (lv_at hl 0 rfl) ?_
  refine va_get (D := D) (ci := 5) (v := .int 500) (C := R_It) (T := T_It) (N := 5) hx hb hts iw_It hown G.1 hP 5 rfl rfl 0 (by decide) (hts _ wd_1_45) (fun _ h9 => h9) rfl d_Rg_numberFor_2 ?_
  refine lv_isub hx hb d_Rg_numberFor_5 ?_
  refine lv_istore_n (lv' := [(2, .int (x1 - 500)), (0, .ref (ad 5)), (1, .int x1)]) hx hb d_Rg_numberFor_6 rfl hl (by decide) rfl (fun ls hl => ?_)
  refine lv_iload_n hx hb d_Rg_numberFor_7 rfl (lv_at hl 0 rfl) ?_
  refine lv_if_lt (tgt := 23) hx hb d_Rg_numberFor_8 (by decide) (fun c1 => ?_) (fun c1 => ?_)
  · rw [if_pos c1] at h
    exact t_Rg_numberFor_It_b23 C G hP hS () x1 (x1 - 500) h ls (lv_sub hl [1, 2, 0] rfl)
  · rw [if_neg c1] at h
    refine lv_iload_n hx hb d_Rg_numberFor_11 rfl (lv_at hl 0 rfl) ?_
    refine lv_aload_n hx hb d_Rg_numberFor_12 rfl (lv_at hl 1 rfl) ?_
    refine va_get (D := D) (ci := 5) (v := .int (st.1 6)) (C := R_It) (T := T_It) (N := 5) hx hb hts iw_It hown G.1 hP 5 rfl rfl 2 (by decide) (hts _ wd_1_47) (fun _ h9 => h9) rfl d_Rg_numberFor_13 ?_
    refine lv_icmp_ge (tgt := 23) hx hb d_Rg_numberFor_16 (by decide) (fun c2 => ?_) (fun c2 => ?_)
    · rw [if_pos c2] at h
      exact t_Rg_numberFor_It_b23 C G hP hS () x1 (x1 - 500) h ls (lv_sub hl [1, 2, 0] rfl)
    · rw [if_neg c2] at h
      refine lv_iload_n hx hb d_Rg_numberFor_19 rfl (lv_at hl 0 rfl) ?_
      refine lv_goto (tgt := 24) hx hb d_Rg_numberFor_20 (by decide) ?_
      have h := Option.some.inj h
      exact W.iret (v := (x1 - 500)) hx hb hr (fun t ht _ => ⟨by rw [h], ht⟩) (fun _ q => by cases q) d_Rg_numberFor_24
set_option maxHeartbeats 4000000 in
set_option maxRecDepth 100000 in
theorem c_H_numberOf_It (l : Launch) (htl : l.stackTraces = false) (D : va_G) (ca : Nat → ClassId) (ad : Nat → Nat) (st : pu_St) (sz : Nat) (x2 : Int32) (r : Int32 ⊕ Nat) (st' : pu_St) (h : f_H_numberOf_It st x2 = some (r, st')) : MetX l y_H_numberOf (.code y_H_numberOf b_H_numberOf 4 (some .int) :: tG) { frames := 6, cells := xc r, slots := xs r, locals := 90 } (va_Pc [.ref (ad 0), .ref (ad 5), .int x2] (hPc D ca ad st sz)) (hQ D ca ad (fun v => some (.int v)) r st' sz) (xc r) (xs r) (hA ad sz) := by
  refine hMet (by decide +kernel) ?_
  intro p e s m below meth c hsz C G hP
  obtain ⟨hx, hb, hml, hr, hlocks, hno, hown, hts⟩ := id C
  have hown : s.vm.findClass "MuseumHouse" = some m.cls := hown
  have hS : va_S (hA ad s.heap.size) s.heap s.heap [] := va_S.rf
  have hl := lv_entry ([.ref (ad 0), .ref (ad 5), .int x2]) (n := 4) (Nat.le_of_ble_eq_true rfl)
  rw [lg_entry_eq]
  generalize (lg_sl ([.ref (ad 0), .ref (ad 5), .int x2]) ++ List.replicate (4 - (lg_sl ([.ref (ad 0), .ref (ad 5), .int x2])).length) Slot.unset).toArray = ls at hl ⊢
  have hl : lv_has ls 4 [(0, .ref (ad 0)), (1, .ref (ad 5)), (2, .int x2)] := hl
  unfold f_H_numberOf_It at h
  refine lv_aload_n hx hb d_H_numberOf_0 rfl (lv_at hl 1 rfl) ?_
  refine lv_iload_n hx hb d_H_numberOf_1 rfl (lv_at hl 2 rfl) ?_
  obtain ⟨v1, e_v1, h⟩ := pu_ob h
  refine pu_callR (va_runV (As := [.int x2]) (rest := []) ⟨hx, hb, hml, hown, hts⟩ (c_Rg_numberFor_It l D ca ad st _ x2 v1 e_v1) (xCW (C := "MuseumHouse$Items") 1 hts wd_2_39 wd_1_2 wd_2_27 wd_2_28 wd_2_34 (by decide +kernel) ⟨Nat.le_of_ble_eq_true rfl, Nat.le_of_ble_eq_true rfl⟩) (G.preV hP hS 5 rfl rfl) rfl rfl hl.1 rfl (lv_room (Nat.le_of_ble_eq_true rfl)) d_H_numberOf_2 ⟨Nat.zero_le _, Nat.zero_le _⟩) ?_
  refine lv_istore_n (lv' := [(3, .int v1), (0, .ref (ad 0)), (1, .ref (ad 5)), (2, .int x2)]) hx hb d_H_numberOf_5 rfl hl (by decide) rfl (fun ls hl => ?_)
  refine lv_iload_n hx hb d_H_numberOf_6 rfl (lv_at hl 0 rfl) ?_
  refine lv_iconst (v := (-1)) hx hb d_H_numberOf_7 (by decide) ?_
  refine lv_icmp_ne (tgt := 24) hx hb d_H_numberOf_8 (by decide) (fun c2 => ?_) (fun c2 => ?_)
  · rw [if_neg c2] at h
    refine lv_iload_n hx hb d_H_numberOf_24 rfl (lv_at hl 0 rfl) ?_
    cases h
    exact W.toX (W.iret hx hb hr (fun t ht _ => ⟨rfl, by rw [ht]; exact hP, hS.F ht⟩) hS.2.2 d_H_numberOf_25)
  · rw [if_pos c2] at h
    refine lv_aload_n hx hb d_H_numberOf_11 rfl (lv_at hl 1 rfl) ?_
    refine lv_iconst (v := 1) hx hb d_H_numberOf_12 (by decide) ?_
    refine va_put (D := D) (ci := 0) (v := .int 1) (ty := .int) (C := R_H) (T := T_H) (N := 12) hx hb hts iw_H ty_H to_H nm_H hown G.1 hP (G.D) hS 0 rfl rfl 11 (by decide) (hts _ wd_1_223) (fun _ h9 => h9) rfl (by decide +kernel) rfl rfl (Nat.le_of_ble_eq_true rfl) d_H_numberOf_13 (fun H locs hP _ hS => ?_)
    have hP : va_P D hcl (hW ca ad (va_up st.1 1 1, st.2)) H := hP
    cases h
    exact hThrow G hx hb (hl.1.trans hml.symm) hown hno hlocks htl hts (by decide +kernel) xo_1 wd_2_40 wd_2_41 wd_1_17 hP hS d_H_numberOf_16 d_H_numberOf_19 d_H_numberOf_20 d_H_numberOf_23 (Nat.le_of_ble_eq_true rfl) (Nat.le_of_ble_eq_true rfl) (Nat.le_of_ble_eq_true rfl) (Nat.le_of_ble_eq_true rfl) rfl
set_option maxHeartbeats 4000000 in
set_option maxRecDepth 100000 in
theorem c_Mo_firstSlot (l : Launch) (D : va_G) (ca : Nat → ClassId) (ad : Nat → Nat) (st : pu_St) (sz : Nat) (x1 : Int32) (r : Int32) (h : f_Mo_firstSlot st x1 = some r) : Met l y_Mo_firstSlot (.code y_Mo_firstSlot b_Mo_firstSlot 2 (some .int) :: tG) { frames := 0, cells := 0, slots := 0, locals := 0 } (va_Pc [.ref (ad 6), .int x1] (hPc D ca ad st sz)) (QcRead r) 0 0 (fun _ => False) := by
  refine hRead (by decide +kernel) ?_
  intro p e s m below meth c C G hP
  obtain ⟨hx, hb, hml, hr, hlocks, hno, hown, hts⟩ := id C
  have hown : s.vm.findClass "MuseumHouse$Moves" = some m.cls := hown
  have hS : va_S (hA ad s.heap.size) s.heap s.heap [] := va_S.rf
  have hl := lv_entry ([.ref (ad 6), .int x1]) (n := 2) (Nat.le_of_ble_eq_true rfl)
  rw [lg_entry_eq]
  generalize (lg_sl ([.ref (ad 6), .int x1]) ++ List.replicate (2 - (lg_sl ([.ref (ad 6), .int x1])).length) Slot.unset).toArray = ls at hl ⊢
  have hl : lv_has ls 2 [(0, .ref (ad 6)), (1, .int x1)] := hl
  unfold f_Mo_firstSlot at h
  refine lv_iload_n hx hb d_Mo_firstSlot_0 rfl (lv_at hl 1 rfl) ?_
  refine lv_bipush (v := 12) hx hb d_Mo_firstSlot_1 (by decide) ?_
  refine lv_imul hx hb d_Mo_firstSlot_3 ?_
  have h := Option.some.inj h
  exact W.iret (v := (x1 * 12)) hx hb hr (fun t ht _ => ⟨by rw [h], ht⟩) (fun _ q => by cases q) d_Mo_firstSlot_4
set_option maxHeartbeats 4000000 in
set_option maxRecDepth 100000 in
theorem c_Mo_endOfSlots (l : Launch) (D : va_G) (ca : Nat → ClassId) (ad : Nat → Nat) (st : pu_St) (sz : Nat) (x1 : Int32) (r : Int32) (h : f_Mo_endOfSlots st x1 = some r) : Met l y_Mo_endOfSlots (.code y_Mo_endOfSlots b_Mo_endOfSlots 2 (some .int) :: tG) { frames := 1, cells := 0, slots := 0, locals := 21 } (va_Pc [.ref (ad 6), .int x1] (hPc D ca ad st sz)) (QcRead r) 0 0 (fun _ => False) := by
  refine hRead (by decide +kernel) ?_
  intro p e s m below meth c C G hP
  obtain ⟨hx, hb, hml, hr, hlocks, hno, hown, hts⟩ := id C
  have hown : s.vm.findClass "MuseumHouse$Moves" = some m.cls := hown
  have hS : va_S (hA ad s.heap.size) s.heap s.heap [] := va_S.rf
  have hl := lv_entry ([.ref (ad 6), .int x1]) (n := 2) (Nat.le_of_ble_eq_true rfl)
  rw [lg_entry_eq]
  generalize (lg_sl ([.ref (ad 6), .int x1]) ++ List.replicate (2 - (lg_sl ([.ref (ad 6), .int x1])).length) Slot.unset).toArray = ls at hl ⊢
  have hl : lv_has ls 2 [(0, .ref (ad 6)), (1, .int x1)] := hl
  unfold f_Mo_endOfSlots at h
  refine lv_aload_n hx hb d_Mo_endOfSlots_0 rfl (lv_at hl 0 rfl) ?_
  refine lv_iload_n hx hb d_Mo_endOfSlots_1 rfl (lv_at hl 1 rfl) ?_
  obtain ⟨v1, e_v1, h⟩ := pu_ob h
  refine pu_callR (va_runV (As := [.int x1]) (rest := []) ⟨hx, hb, hml, hown, hts⟩ (c_Mo_firstSlot l D ca ad st _ x1 v1 e_v1) (xCW (C := "MuseumHouse$Moves") 1 hts wd_3_186 wd_1_8 wd_3_183 wd_3_185 wd_0_10 (by decide +kernel) ⟨Nat.le_of_ble_eq_true rfl, Nat.le_of_ble_eq_true rfl⟩) (G.preV hP hS 6 rfl rfl) rfl rfl hl.1 rfl (lv_room (Nat.le_of_ble_eq_true rfl)) d_Mo_endOfSlots_2 ⟨Nat.zero_le _, Nat.zero_le _⟩) ?_
  refine lv_aload_n hx hb d_Mo_endOfSlots_5 rfl (lv_at hl 0 rfl) ?_
  refine va_get (D := D) (ci := 6) (v := .ref (ad 22)) (C := R_Mo) (T := T_Mo) (N := 3) hx hb hts iw_Mo hown G.1 hP 6 rfl rfl 2 (by decide) (hts _ wd_1_130) (fun _ h9 => h9) rfl d_Mo_endOfSlots_6 ?_
  refine lv_iload_n hx hb d_Mo_endOfSlots_9 rfl (lv_at hl 1 rfl) ?_
  obtain ⟨v2, e_v2, h⟩ := pu_ob h
  refine pu_iald hx hb G.1 hP 22 11 rfl rfl e_v2 d_Mo_endOfSlots_10 ?_
  refine lv_iadd hx hb d_Mo_endOfSlots_11 ?_
  have h := Option.some.inj h
  exact W.iret (v := (v1 + v2)) hx hb hr (fun t ht _ => ⟨by rw [h], ht⟩) (fun _ q => by cases q) d_Mo_endOfSlots_12
set_option maxHeartbeats 4000000 in
set_option maxRecDepth 100000 in
theorem t_Mo_slotOf_b13 {l : Launch} {p : Program} {e : Env} {s : State} {m : MethodId} {args : Array Value} {below : List Frame} {meth : Method} {c : Code} {D : va_G} {ca : Nat → ClassId} {ad : Nat → Nat} {A : Nat → Prop} {st : pu_St} {r : Int32} (C : hC p s m meth c args b_Mo_slotOf 5 (some .int) "MuseumHouse$Moves") (G : hX D ca ad A s) (hP : va_P D hcl (hW ca ad st) s.heap) (hS : va_S A s.heap s.heap []) :
    ∀ (n : Nat) (x1 x2 x3 x4 : Int32), f_Mo_slotOf_b13 n st x1 x2 x3 x4 = some r → ∀ ls : Array Slot, lv_has ls 5 [(0, .ref (ad 6)), (1, .int x1), (2, .int x2), (3, .int x3), (4, .int x4)] → W p l e { frames := 2, cells := 0, slots := 0, locals := 42 } s m args below meth c s.heap [] 0 0 (MQ below (QcRead r) args s 0 0 (fun _ => False)) (F0 m 13 ls []) := by
  obtain ⟨hx, hb, hml, hr, hlocks, hno, hown, hts⟩ := id C
  intro n
  induction n with
  | zero => intro x1 x2 x3 x4 h; cases h
  | succ n ih =>
    intro x1 x2 x3 x4 h ls hl
    unfold f_Mo_slotOf_b13 at h
    refine lv_iload hx hb d_Mo_slotOf_13 (lv_at hl 4 rfl) ?_
    refine lv_iload_n hx hb d_Mo_slotOf_15 rfl (lv_at hl 3 rfl) ?_
    refine lv_icmp_ge (tgt := 39) hx hb d_Mo_slotOf_16 (by decide) (fun c3 => ?_) (fun c3 => ?_)
    · rw [if_pos c3] at h
      refine lv_iconst (v := (-1)) hx hb d_Mo_slotOf_39 (by decide) ?_
      have h := Option.some.inj h
      exact W.iret (v := (-1)) hx hb hr (fun t ht _ => ⟨by rw [h], ht⟩) (fun _ q => by cases q) d_Mo_slotOf_40
    · rw [if_neg c3] at h
      refine lv_aload_n hx hb d_Mo_slotOf_19 rfl (lv_at hl 0 rfl) ?_
      refine va_get (D := D) (ci := 6) (v := .ref (ad 20)) (C := R_Mo) (T := T_Mo) (N := 3) hx hb hts iw_Mo hown G.1 hP 6 rfl rfl 0 (by decide) (hts _ wd_1_128) (fun _ h9 => h9) rfl d_Mo_slotOf_20 ?_
      refine lv_iload hx hb d_Mo_slotOf_23 (lv_at hl 4 rfl) ?_
      obtain ⟨v4, e_v4, h⟩ := pu_ob h
      refine pu_iald hx hb G.1 hP 20 9 rfl rfl e_v4 d_Mo_slotOf_25 ?_
      refine lv_iload_n hx hb d_Mo_slotOf_26 rfl (lv_at hl 2 rfl) ?_
      refine lv_icmp_ne (tgt := 33) hx hb d_Mo_slotOf_27 (by decide) (fun c5 => ?_) (fun c5 => ?_)
      · rw [if_neg c5] at h
        refine lv_iinc (v := (x4 + 1)) (lv' := [(4, .int (x4 + 1)), (0, .ref (ad 6)), (1, .int x1), (2, .int x2), (3, .int x3)]) hx hb d_Mo_slotOf_33 hl (k := 4) rfl rfl (by decide) rfl (fun ls hl => ?_)
        refine lv_goto (tgt := 13) hx hb d_Mo_slotOf_36 (by decide) ?_
        exact ih x1 x2 x3 (x4 + 1) h ls (lv_sub hl [1, 2, 3, 4, 0] rfl)
      · rw [if_pos c5] at h
        refine lv_iload hx hb d_Mo_slotOf_30 (lv_at hl 4 rfl) ?_
        have h := Option.some.inj h
        exact W.iret (v := x4) hx hb hr (fun t ht _ => ⟨by rw [h], ht⟩) (fun _ q => by cases q) d_Mo_slotOf_32
set_option maxHeartbeats 4000000 in
set_option maxRecDepth 100000 in
theorem c_Mo_slotOf (l : Launch) (D : va_G) (ca : Nat → ClassId) (ad : Nat → Nat) (st : pu_St) (sz : Nat) (x1 x2 : Int32) (r : Int32) (h : f_Mo_slotOf st x1 x2 = some r) : Met l y_Mo_slotOf (.code y_Mo_slotOf b_Mo_slotOf 5 (some .int) :: tG) { frames := 2, cells := 0, slots := 0, locals := 42 } (va_Pc [.ref (ad 6), .int x1, .int x2] (hPc D ca ad st sz)) (QcRead r) 0 0 (fun _ => False) := by
  refine hRead (by decide +kernel) ?_
  intro p e s m below meth c C G hP
  obtain ⟨hx, hb, hml, hr, hlocks, hno, hown, hts⟩ := id C
  have hown : s.vm.findClass "MuseumHouse$Moves" = some m.cls := hown
  have hS : va_S (hA ad s.heap.size) s.heap s.heap [] := va_S.rf
  have hl := lv_entry ([.ref (ad 6), .int x1, .int x2]) (n := 5) (Nat.le_of_ble_eq_true rfl)
  rw [lg_entry_eq]
  generalize (lg_sl ([.ref (ad 6), .int x1, .int x2]) ++ List.replicate (5 - (lg_sl ([.ref (ad 6), .int x1, .int x2])).length) Slot.unset).toArray = ls at hl ⊢
  have hl : lv_has ls 5 [(0, .ref (ad 6)), (1, .int x1), (2, .int x2)] := hl
  unfold f_Mo_slotOf at h
  refine lv_aload_n hx hb d_Mo_slotOf_0 rfl (lv_at hl 0 rfl) ?_
  refine lv_iload_n hx hb d_Mo_slotOf_1 rfl (lv_at hl 1 rfl) ?_
  obtain ⟨v1, e_v1, h⟩ := pu_ob h
  refine pu_callR (va_runV (As := [.int x1]) (rest := []) ⟨hx, hb, hml, hown, hts⟩ (c_Mo_endOfSlots l D ca ad st _ x1 v1 e_v1) (xCW (C := "MuseumHouse$Moves") 1 hts wd_3_182 wd_1_8 wd_3_179 wd_3_181 wd_0_9 (by decide +kernel) ⟨Nat.le_of_ble_eq_true rfl, Nat.le_of_ble_eq_true rfl⟩) (G.preV hP hS 6 rfl rfl) rfl rfl hl.1 rfl (lv_room (Nat.le_of_ble_eq_true rfl)) d_Mo_slotOf_2 ⟨Nat.zero_le _, Nat.zero_le _⟩) ?_
  refine lv_istore_n (lv' := [(3, .int v1), (0, .ref (ad 6)), (1, .int x1), (2, .int x2)]) hx hb d_Mo_slotOf_5 rfl hl (by decide) rfl (fun ls hl => ?_)
  refine lv_aload_n hx hb d_Mo_slotOf_6 rfl (lv_at hl 1 rfl) ?_
  refine lv_iload_n hx hb d_Mo_slotOf_7 rfl (lv_at hl 2 rfl) ?_
  obtain ⟨v2, e_v2, h⟩ := pu_ob h
  refine pu_callR (va_runV (As := [.int x1]) (rest := []) ⟨hx, hb, hml, hown, hts⟩ (c_Mo_firstSlot l D ca ad st _ x1 v2 e_v2) (xCW (C := "MuseumHouse$Moves") 1 hts wd_3_186 wd_1_8 wd_3_183 wd_3_185 wd_0_10 (by decide +kernel) ⟨Nat.le_of_ble_eq_true rfl, Nat.le_of_ble_eq_true rfl⟩) (G.preV hP hS 6 rfl rfl) rfl rfl hl.1 rfl (lv_room (Nat.le_of_ble_eq_true rfl)) d_Mo_slotOf_8 ⟨Nat.zero_le _, Nat.zero_le _⟩) ?_
  refine lv_istore (lv' := [(4, .int v2), (3, .int v1), (0, .ref (ad 6)), (1, .int x1), (2, .int x2)]) hx hb d_Mo_slotOf_11 hl (by decide) rfl (fun ls hl => ?_)
  exact t_Mo_slotOf_b13 C G hP hS pu_fu x1 x2 v1 v2 h ls (lv_sub hl [2, 3, 4, 1, 0] rfl)
set_option maxHeartbeats 4000000 in
set_option maxRecDepth 100000 in
theorem c_Mo_hasDay (l : Launch) (D : va_G) (ca : Nat → ClassId) (ad : Nat → Nat) (st : pu_St) (sz : Nat) (x1 x2 : Int32) (r : Int32) (h : f_Mo_hasDay st x1 x2 = some r) : Met l y_Mo_hasDay (.code y_Mo_hasDay b_Mo_hasDay 3 (some .boolean) :: tG) { frames := 3, cells := 0, slots := 0, locals := 66 } (va_Pc [.ref (ad 6), .int x1, .int x2] (hPc D ca ad st sz)) (QcRead r) 0 0 (fun _ => False) := by
  refine hRead (by decide +kernel) ?_
  intro p e s m below meth c C G hP
  obtain ⟨hx, hb, hml, hr, hlocks, hno, hown, hts⟩ := id C
  have hown : s.vm.findClass "MuseumHouse$Moves" = some m.cls := hown
  have hS : va_S (hA ad s.heap.size) s.heap s.heap [] := va_S.rf
  have hl := lv_entry ([.ref (ad 6), .int x1, .int x2]) (n := 3) (Nat.le_of_ble_eq_true rfl)
  rw [lg_entry_eq]
  generalize (lg_sl ([.ref (ad 6), .int x1, .int x2]) ++ List.replicate (3 - (lg_sl ([.ref (ad 6), .int x1, .int x2])).length) Slot.unset).toArray = ls at hl ⊢
  have hl : lv_has ls 3 [(0, .ref (ad 6)), (1, .int x1), (2, .int x2)] := hl
  unfold f_Mo_hasDay at h
  refine lv_aload_n hx hb d_Mo_hasDay_0 rfl (lv_at hl 0 rfl) ?_
  refine lv_iload_n hx hb d_Mo_hasDay_1 rfl (lv_at hl 1 rfl) ?_
  refine lv_iload_n hx hb d_Mo_hasDay_2 rfl (lv_at hl 2 rfl) ?_
  obtain ⟨v1, e_v1, h⟩ := pu_ob h
  refine pu_callR (va_runV (As := [.int x1, .int x2]) (rest := []) ⟨hx, hb, hml, hown, hts⟩ (c_Mo_slotOf l D ca ad st _ x1 x2 v1 e_v1) (xCW (C := "MuseumHouse$Moves") 2 hts wd_3_178 wd_1_8 wd_3_175 wd_3_177 wd_0_8 (by decide +kernel) ⟨Nat.le_of_ble_eq_true rfl, Nat.le_of_ble_eq_true rfl⟩) (G.preV hP hS 6 rfl rfl) rfl rfl hl.1 rfl (lv_room (Nat.le_of_ble_eq_true rfl)) d_Mo_hasDay_3 ⟨Nat.zero_le _, Nat.zero_le _⟩) ?_
  refine lv_iconst (v := (-1)) hx hb d_Mo_hasDay_6 (by decide) ?_
  refine lv_icmp_eq (tgt := 14) hx hb d_Mo_hasDay_7 (by decide) (fun c2 => ?_) (fun c2 => ?_)
  · rw [if_pos c2] at h
    refine lv_iconst (v := 0) hx hb d_Mo_hasDay_14 (by decide) ?_
    have h := Option.some.inj h
    exact W.zret (v := 0) (ty := .boolean) hx hb hr rfl (fun t ht _ => ⟨by rw [h], ht⟩) (fun _ q => by cases q) d_Mo_hasDay_15
  · rw [if_neg c2] at h
    refine lv_iconst (v := 1) hx hb d_Mo_hasDay_10 (by decide) ?_
    refine lv_goto (tgt := 15) hx hb d_Mo_hasDay_11 (by decide) ?_
    have h := Option.some.inj h
    exact W.zret (v := 1) (ty := .boolean) hx hb hr rfl (fun t ht _ => ⟨by rw [h], ht⟩) (fun _ q => by cases q) d_Mo_hasDay_15
set_option maxHeartbeats 4000000 in
set_option maxRecDepth 100000 in
theorem c_It_dayOf (l : Launch) (D : va_G) (ca : Nat → ClassId) (ad : Nat → Nat) (st : pu_St) (sz : Nat) (x1 : Int32) (r : Int32) (h : f_It_dayOf st x1 = some r) : Met l y_It_dayOf (.code y_It_dayOf b_It_dayOf 2 (some .int) :: tG) { frames := 0, cells := 0, slots := 0, locals := 0 } (va_Pc [.ref (ad 5), .int x1] (hPc D ca ad st sz)) (QcRead r) 0 0 (fun _ => False) := by
  refine hRead (by decide +kernel) ?_
  intro p e s m below meth c C G hP
  obtain ⟨hx, hb, hml, hr, hlocks, hno, hown, hts⟩ := id C
  have hown : s.vm.findClass "MuseumHouse$Items" = some m.cls := hown
  have hS : va_S (hA ad s.heap.size) s.heap s.heap [] := va_S.rf
  have hl := lv_entry ([.ref (ad 5), .int x1]) (n := 2) (Nat.le_of_ble_eq_true rfl)
  rw [lg_entry_eq]
  generalize (lg_sl ([.ref (ad 5), .int x1]) ++ List.replicate (2 - (lg_sl ([.ref (ad 5), .int x1])).length) Slot.unset).toArray = ls at hl ⊢
  have hl : lv_has ls 2 [(0, .ref (ad 5)), (1, .int x1)] := hl
  unfold f_It_dayOf at h
  refine lv_aload_n hx hb d_It_dayOf_0 rfl (lv_at hl 0 rfl) ?_
  refine va_get (D := D) (ci := 5) (v := .ref (ad 19)) (C := R_It) (T := T_It) (N := 5) hx hb hts iw_It hown G.1 hP 5 rfl rfl 4 (by decide) (hts _ wd_1_113) (fun _ h9 => h9) rfl d_It_dayOf_1 ?_
  refine lv_iload_n hx hb d_It_dayOf_4 rfl (lv_at hl 1 rfl) ?_
  obtain ⟨v1, e_v1, h⟩ := pu_ob h
  refine pu_iald hx hb G.1 hP 19 8 rfl rfl e_v1 d_It_dayOf_5 ?_
  have h := Option.some.inj h
  exact W.iret (v := v1) hx hb hr (fun t ht _ => ⟨by rw [h], ht⟩) (fun _ q => by cases q) d_It_dayOf_6
set_option maxHeartbeats 4000000 in
set_option maxRecDepth 100000 in
theorem c_Rg_size_Lo (l : Launch) (D : va_G) (ca : Nat → ClassId) (ad : Nat → Nat) (st : pu_St) (sz : Nat) (r : Int32) (h : f_Rg_size_Lo st = some r) : Met l y_Rg_size (.code y_Rg_size b_Rg_size 1 (some .int) :: tG) { frames := 0, cells := 0, slots := 0, locals := 0 } (va_Pc [.ref (ad 8)] (hPc D ca ad st sz)) (QcRead r) 0 0 (fun _ => False) := by
  refine hRead (by decide +kernel) ?_
  intro p e s m below meth c C G hP
  obtain ⟨hx, hb, hml, hr, hlocks, hno, hown, hts⟩ := id C
  have hown : s.vm.findClass "MuseumHouse$Register" = some m.cls := hown
  have hS : va_S (hA ad s.heap.size) s.heap s.heap [] := va_S.rf
  have hl := lv_entry ([.ref (ad 8)]) (n := 1) (Nat.le_of_ble_eq_true rfl)
  rw [lg_entry_eq]
  generalize (lg_sl ([.ref (ad 8)]) ++ List.replicate (1 - (lg_sl ([.ref (ad 8)])).length) Slot.unset).toArray = ls at hl ⊢
  have hl : lv_has ls 1 [(0, .ref (ad 8))] := hl
  unfold f_Rg_size_Lo at h
  refine lv_aload_n hx hb d_Rg_size_0 rfl (lv_at hl 0 rfl) ?_
  refine va_get (D := D) (ci := 8) (v := .int (st.1 8)) (C := R_Lo) (T := T_Lo) (N := 6) hx hb hts iw_Lo hown G.1 hP 8 rfl rfl 2 (by decide) (hts _ wd_1_47) (fun _ h9 => h9) rfl d_Rg_size_1 ?_
  have h := Option.some.inj h
  exact W.iret (v := (st.1 8)) hx hb hr (fun t ht _ => ⟨by rw [h], ht⟩) (fun _ q => by cases q) d_Rg_size_4
set_option maxHeartbeats 4000000 in
set_option maxRecDepth 100000 in
theorem c_H_daysMeet (l : Launch) (D : va_G) (ca : Nat → ClassId) (ad : Nat → Nat) (st : pu_St) (sz : Nat) (x0 x1 x2 x3 : Int32) (r : Int32) (h : f_H_daysMeet st x0 x1 x2 x3 = some r) : Met l y_H_daysMeet (.code y_H_daysMeet b_H_daysMeet 4 (some .boolean) :: tG) { frames := 0, cells := 0, slots := 0, locals := 0 } (va_Pc [.int x0, .int x1, .int x2, .int x3] (hPc D ca ad st sz)) (QcRead r) 0 0 (fun _ => False) := by
  refine hRead (by decide +kernel) ?_
  intro p e s m below meth c C G hP
  obtain ⟨hx, hb, hml, hr, hlocks, hno, hown, hts⟩ := id C
  have hown : s.vm.findClass "MuseumHouse" = some m.cls := hown
  have hS : va_S (hA ad s.heap.size) s.heap s.heap [] := va_S.rf
  have hl := lv_entry ([.int x0, .int x1, .int x2, .int x3]) (n := 4) (Nat.le_of_ble_eq_true rfl)
  rw [lg_entry_eq]
  generalize (lg_sl ([.int x0, .int x1, .int x2, .int x3]) ++ List.replicate (4 - (lg_sl ([.int x0, .int x1, .int x2, .int x3])).length) Slot.unset).toArray = ls at hl ⊢
  have hl : lv_has ls 4 [(0, .int x0), (1, .int x1), (2, .int x2), (3, .int x3)] := hl
  unfold f_H_daysMeet at h
  refine lv_iload_n hx hb d_H_daysMeet_0 rfl (lv_at hl 0 rfl) ?_
  refine lv_iload_n hx hb d_H_daysMeet_1 rfl (lv_at hl 3 rfl) ?_
  refine lv_icmp_gt (tgt := 14) hx hb d_H_daysMeet_2 (by decide) (fun c1 => ?_) (fun c1 => ?_)
  · rw [if_pos c1] at h
    refine lv_iconst (v := 0) hx hb d_H_daysMeet_14 (by decide) ?_
    have h := Option.some.inj h
    exact W.zret (v := 0) (ty := .boolean) hx hb hr rfl (fun t ht _ => ⟨by rw [h], ht⟩) (fun _ q => by cases q) d_H_daysMeet_15
  · rw [if_neg c1] at h
    refine lv_iload_n hx hb d_H_daysMeet_5 rfl (lv_at hl 2 rfl) ?_
    refine lv_iload_n hx hb d_H_daysMeet_6 rfl (lv_at hl 1 rfl) ?_
    refine lv_icmp_gt (tgt := 14) hx hb d_H_daysMeet_7 (by decide) (fun c2 => ?_) (fun c2 => ?_)
    · rw [if_pos c2] at h
      refine lv_iconst (v := 0) hx hb d_H_daysMeet_14 (by decide) ?_
      have h := Option.some.inj h
      exact W.zret (v := 0) (ty := .boolean) hx hb hr rfl (fun t ht _ => ⟨by rw [h], ht⟩) (fun _ q => by cases q) d_H_daysMeet_15
    · rw [if_neg c2] at h
      refine lv_iconst (v := 1) hx hb d_H_daysMeet_10 (by decide) ?_
      refine lv_goto (tgt := 15) hx hb d_H_daysMeet_11 (by decide) ?_
      have h := Option.some.inj h
      exact W.zret (v := 1) (ty := .boolean) hx hb hr rfl (fun t ht _ => ⟨by rw [h], ht⟩) (fun _ q => by cases q) d_H_daysMeet_15
set_option maxHeartbeats 4000000 in
set_option maxRecDepth 100000 in
theorem t_Lo_having_b3 {l : Launch} {p : Program} {e : Env} {s : State} {m : MethodId} {args : Array Value} {below : List Frame} {meth : Method} {c : Code} {D : va_G} {ca : Nat → ClassId} {ad : Nat → Nat} {A : Nat → Prop} {st : pu_St} {r : Int32} (C : hC p s m meth c args b_Lo_having 5 (some .int) "MuseumHouse$Loans") (G : hX D ca ad A s) (hP : va_P D hcl (hW ca ad st) s.heap) (hS : va_S A s.heap s.heap []) :
    ∀ (n : Nat) (x1 x2 x3 x4 : Int32), f_Lo_having_b3 n st x1 x2 x3 x4 = some r → ∀ ls : Array Slot, lv_has ls 5 [(0, .ref (ad 8)), (1, .int x1), (2, .int x2), (3, .int x3), (4, .int x4)] → W p l e { frames := 1, cells := 0, slots := 0, locals := 23 } s m args below meth c s.heap [] 0 0 (MQ below (QcRead r) args s 0 0 (fun _ => False)) (F0 m 3 ls []) := by
  obtain ⟨hx, hb, hml, hr, hlocks, hno, hown, hts⟩ := id C
  intro n
  induction n with
  | zero => intro x1 x2 x3 x4 h; cases h
  | succ n ih =>
    intro x1 x2 x3 x4 h ls hl
    unfold f_Lo_having_b3 at h
    refine lv_iload hx hb d_Lo_having_3 (lv_at hl 4 rfl) ?_
    refine lv_aload_n hx hb d_Lo_having_5 rfl (lv_at hl 0 rfl) ?_
    obtain ⟨v1, e_v1, h⟩ := pu_ob h
    refine pu_callR (va_runU (As := []) (rest := [.int x4]) ⟨hx, hb, hml, hown, hts⟩ (c_Rg_size_Lo l D ca ad st _ v1 e_v1) (xCU (C := "MuseumHouse$Loans") (owner := "MuseumHouse$Register") (x := ⟨"MuseumHouse$Loans", "size", "()I"⟩) 0 hts wd_3_4 wd_1_2 wd_3_199 wd_3_200 wd_3_3 wd_3_201 rfl (by decide +kernel) ⟨Nat.le_of_ble_eq_true rfl, Nat.le_of_ble_eq_true rfl⟩) (G.preV hP hS 8 rfl rfl) rfl rfl hl.1 rfl (lv_room (Nat.le_of_ble_eq_true rfl)) d_Lo_having_6 ⟨Nat.zero_le _, Nat.zero_le _⟩) ?_
    refine lv_icmp_ge (tgt := 54) hx hb d_Lo_having_9 (by decide) (fun c2 => ?_) (fun c2 => ?_)
    · rw [if_pos c2] at h
      refine lv_iconst (v := (-1)) hx hb d_Lo_having_54 (by decide) ?_
      have h := Option.some.inj h
      exact W.iret (v := (-1)) hx hb hr (fun t ht _ => ⟨by rw [h], ht⟩) (fun _ q => by cases q) d_Lo_having_55
    · rw [if_neg c2] at h
      refine lv_aload_n hx hb d_Lo_having_12 rfl (lv_at hl 0 rfl) ?_
      refine va_get (D := D) (ci := 8) (v := .ref (ad 24)) (C := R_Lo) (T := T_Lo) (N := 6) hx hb hts iw_Lo hown G.1 hP 8 rfl rfl 3 (by decide) (hts _ wd_1_157) (fun _ h9 => h9) rfl d_Lo_having_13 ?_
      refine lv_iload hx hb d_Lo_having_16 (lv_at hl 4 rfl) ?_
      obtain ⟨v3, e_v3, h⟩ := pu_ob h
      refine pu_iald hx hb G.1 hP 24 13 rfl rfl e_v3 d_Lo_having_18 ?_
      refine lv_iload_n hx hb d_Lo_having_19 rfl (lv_at hl 1 rfl) ?_
      refine lv_icmp_ne (tgt := 48) hx hb d_Lo_having_20 (by decide) (fun c4 => ?_) (fun c4 => ?_)
      · rw [if_neg c4] at h
        refine lv_iinc (v := (x4 + 1)) (lv' := [(4, .int (x4 + 1)), (0, .ref (ad 8)), (1, .int x1), (2, .int x2), (3, .int x3)]) hx hb d_Lo_having_48 hl (k := 4) rfl rfl (by decide) rfl (fun ls hl => ?_)
        refine lv_goto (tgt := 3) hx hb d_Lo_having_51 (by decide) ?_
        exact ih x1 x2 x3 (x4 + 1) h ls (lv_sub hl [1, 2, 3, 4, 0] rfl)
      · rw [if_pos c4] at h
        refine lv_aload_n hx hb d_Lo_having_23 rfl (lv_at hl 0 rfl) ?_
        refine va_get (D := D) (ci := 8) (v := .ref (ad 25)) (C := R_Lo) (T := T_Lo) (N := 6) hx hb hts iw_Lo hown G.1 hP 8 rfl rfl 4 (by decide) (hts _ wd_1_158) (fun _ h9 => h9) rfl d_Lo_having_24 ?_
        refine lv_iload hx hb d_Lo_having_27 (lv_at hl 4 rfl) ?_
        obtain ⟨v5, e_v5, h⟩ := pu_ob h
        refine pu_iald hx hb G.1 hP 25 14 rfl rfl e_v5 d_Lo_having_29 ?_
        refine lv_aload_n hx hb d_Lo_having_30 rfl (lv_at hl 0 rfl) ?_
        refine va_get (D := D) (ci := 8) (v := .ref (ad 26)) (C := R_Lo) (T := T_Lo) (N := 6) hx hb hts iw_Lo hown G.1 hP 8 rfl rfl 5 (by decide) (hts _ wd_1_159) (fun _ h9 => h9) rfl d_Lo_having_31 ?_
        refine lv_iload hx hb d_Lo_having_34 (lv_at hl 4 rfl) ?_
        obtain ⟨v6, e_v6, h⟩ := pu_ob h
        refine pu_iald hx hb G.1 hP 26 15 rfl rfl e_v6 d_Lo_having_36 ?_
        refine lv_iload_n hx hb d_Lo_having_37 rfl (lv_at hl 2 rfl) ?_
        refine lv_iload_n hx hb d_Lo_having_38 rfl (lv_at hl 3 rfl) ?_
        obtain ⟨v7, e_v7, h⟩ := pu_ob h
        refine pu_callR (va_runSN (As := [.int v5, .int v6, .int x2, .int x3]) (rest := []) ⟨hx, hb, hml, hown, hts⟩ (c_H_daysMeet l D ca ad st _ v5 v6 x2 x3 v7 e_v7) (xCN 4 hts wd_3_204 wd_1_1 G.2.2.2.2.2.1 wd_3_203 (by decide +kernel) ⟨Nat.le_of_ble_eq_true rfl, Nat.le_of_ble_eq_true rfl⟩) (G.preS hP hS) rfl rfl hl.1 rfl (lv_room (Nat.le_of_ble_eq_true rfl)) d_Lo_having_39 ⟨Nat.zero_le _, Nat.zero_le _⟩) ?_
        refine lv_if_eq (tgt := 48) hx hb d_Lo_having_42 (by decide) (fun c8 => ?_) (fun c8 => ?_)
        · rw [if_pos c8] at h
          refine lv_iinc (v := (x4 + 1)) (lv' := [(4, .int (x4 + 1)), (0, .ref (ad 8)), (1, .int x1), (2, .int x2), (3, .int x3)]) hx hb d_Lo_having_48 hl (k := 4) rfl rfl (by decide) rfl (fun ls hl => ?_)
          refine lv_goto (tgt := 3) hx hb d_Lo_having_51 (by decide) ?_
          exact ih x1 x2 x3 (x4 + 1) h ls (lv_sub hl [1, 2, 3, 4, 0] rfl)
        · rw [if_neg c8] at h
          refine lv_iload hx hb d_Lo_having_45 (lv_at hl 4 rfl) ?_
          have h := Option.some.inj h
          exact W.iret (v := x4) hx hb hr (fun t ht _ => ⟨by rw [h], ht⟩) (fun _ q => by cases q) d_Lo_having_47
set_option maxHeartbeats 4000000 in
set_option maxRecDepth 100000 in
theorem c_Lo_having (l : Launch) (D : va_G) (ca : Nat → ClassId) (ad : Nat → Nat) (st : pu_St) (sz : Nat) (x1 x2 x3 : Int32) (r : Int32) (h : f_Lo_having st x1 x2 x3 = some r) : Met l y_Lo_having (.code y_Lo_having b_Lo_having 5 (some .int) :: tG) { frames := 1, cells := 0, slots := 0, locals := 23 } (va_Pc [.ref (ad 8), .int x1, .int x2, .int x3] (hPc D ca ad st sz)) (QcRead r) 0 0 (fun _ => False) := by
  refine hRead (by decide +kernel) ?_
  intro p e s m below meth c C G hP
  obtain ⟨hx, hb, hml, hr, hlocks, hno, hown, hts⟩ := id C
  have hown : s.vm.findClass "MuseumHouse$Loans" = some m.cls := hown
  have hS : va_S (hA ad s.heap.size) s.heap s.heap [] := va_S.rf
  have hl := lv_entry ([.ref (ad 8), .int x1, .int x2, .int x3]) (n := 5) (Nat.le_of_ble_eq_true rfl)
  rw [lg_entry_eq]
  generalize (lg_sl ([.ref (ad 8), .int x1, .int x2, .int x3]) ++ List.replicate (5 - (lg_sl ([.ref (ad 8), .int x1, .int x2, .int x3])).length) Slot.unset).toArray = ls at hl ⊢
  have hl : lv_has ls 5 [(0, .ref (ad 8)), (1, .int x1), (2, .int x2), (3, .int x3)] := hl
  unfold f_Lo_having at h
  refine lv_iconst (v := 0) hx hb d_Lo_having_0 (by decide) ?_
  refine lv_istore (lv' := [(4, .int 0), (0, .ref (ad 8)), (1, .int x1), (2, .int x2), (3, .int x3)]) hx hb d_Lo_having_1 hl (by decide) rfl (fun ls hl => ?_)
  exact t_Lo_having_b3 C G hP hS pu_fu x1 x2 x3 0 h ls (lv_sub hl [1, 2, 3, 4, 0] rfl)
set_option maxHeartbeats 4000000 in
set_option maxRecDepth 100000 in
theorem t_Mo_tell_b31 {l : Launch} (htl : l.stackTraces = false) {p : Program} {e : Env} {s : State} {m : MethodId} {args : Array Value} {below : List Frame} {meth : Method} {c : Code} {D : va_G} {ca : Nat → ClassId} {ad : Nat → Nat} {st' : pu_St} {v : Int32} (C : hC p s m meth c args b_Mo_tell 5 none "MuseumHouse$Moves") (G : hX D ca ad (hA ad s.heap.size) s) :
    ∀ (_ : Unit) (st : pu_St) (x1 x2 x3 x4 : Int32), f_Mo_tell_b31 st x1 x2 x3 x4 = some (v, st') → ∀ (H : Heap) (locs : List Loc), va_P D hcl (hW ca ad st) H → va_S (hA ad s.heap.size) s.heap H locs → ∀ ls : Array Slot, lv_has ls 5 [(0, .ref (ad 6)), (1, .int x1), (2, .int x2), (3, .int x3), (4, .int x4)] → W p l e { frames := 3, cells := 0, slots := 0, locals := 66 } s m args below meth c H locs 0 0 (MQX below (hQ D ca ad (fun _ => none) (.inl v) st' s.heap.size) args s 0 0 (hA ad s.heap.size)) (F0 m 31 ls []) := by
  obtain ⟨hx, hb, hml, hr, hlocks, hno, hown, hts⟩ := id C
  intro _ st x1 x2 x3 x4 h H locs hP hS ls hl
  unfold f_Mo_tell_b31 at h
  refine lv_aload_n hx hb d_Mo_tell_31 rfl (lv_at hl 0 rfl) ?_
  refine va_get (D := D) (ci := 6) (v := .ref (ad 20)) (C := R_Mo) (T := T_Mo) (N := 3) hx hb hts iw_Mo hown G.1 hP 6 rfl rfl 0 (by decide) (hts _ wd_1_128) (fun _ h9 => h9) rfl d_Mo_tell_32 ?_
  refine lv_iload hx hb d_Mo_tell_35 (lv_at hl 4 rfl) ?_
  refine lv_iload_n hx hb d_Mo_tell_37 rfl (lv_at hl 3 rfl) ?_
  obtain ⟨g6, e_g6, h⟩ := pu_ob h
  refine pu_iast hx hb G.1 hP (G.D) hS 20 9 rfl rfl e_g6 d_Mo_tell_38 (fun H locs hP hS => ?_)
  have hP : va_P D hcl (hW ca ad (st.1, va_up st.2 9 g6)) H := hP
  refine lv_aload_n hx hb d_Mo_tell_39 rfl (lv_at hl 0 rfl) ?_
  refine va_get (D := D) (ci := 6) (v := .ref (ad 21)) (C := R_Mo) (T := T_Mo) (N := 3) hx hb hts iw_Mo hown G.1 hP 6 rfl rfl 1 (by decide) (hts _ wd_1_129) (fun _ h9 => h9) rfl d_Mo_tell_40 ?_
  refine lv_iload hx hb d_Mo_tell_43 (lv_at hl 4 rfl) ?_
  refine lv_iload_n hx hb d_Mo_tell_45 rfl (lv_at hl 2 rfl) ?_
  obtain ⟨g7, e_g7, h⟩ := pu_ob h
  refine pu_iast hx hb G.1 hP (G.D) hS 21 10 rfl rfl e_g7 d_Mo_tell_46 (fun H locs hP hS => ?_)
  have hP : va_P D hcl (hW ca ad ((st.1, va_up st.2 9 g6).1, va_up (st.1, va_up st.2 9 g6).2 10 g7)) H := hP
  cases h
  exact W.toX (W.vret hx hb hr (fun t ht _ => ⟨rfl, by rw [ht]; exact hP, hS.F ht⟩) hS.2.2 d_Mo_tell_47)
set_option maxHeartbeats 4000000 in
set_option maxRecDepth 100000 in
theorem c_Mo_tell (l : Launch) (htl : l.stackTraces = false) (D : va_G) (ca : Nat → ClassId) (ad : Nat → Nat) (st : pu_St) (sz : Nat) (x1 x2 x3 : Int32) (v : Int32) (st' : pu_St) (h : f_Mo_tell st x1 x2 x3 = some (v, st')) : MetX l y_Mo_tell (.code y_Mo_tell b_Mo_tell 5 none :: tG) { frames := 3, cells := 0, slots := 0, locals := 66 } (va_Pc [.ref (ad 6), .int x1, .int x2, .int x3] (hPc D ca ad st sz)) (hQ D ca ad (fun _ => none) (.inl v) st' sz) 0 0 (hA ad sz) := by
  refine hMet (by decide +kernel) ?_
  intro p e s m below meth c hsz C G hP
  obtain ⟨hx, hb, hml, hr, hlocks, hno, hown, hts⟩ := id C
  have hown : s.vm.findClass "MuseumHouse$Moves" = some m.cls := hown
  have hS : va_S (hA ad s.heap.size) s.heap s.heap [] := va_S.rf
  have hl := lv_entry ([.ref (ad 6), .int x1, .int x2, .int x3]) (n := 5) (Nat.le_of_ble_eq_true rfl)
  rw [lg_entry_eq]
  generalize (lg_sl ([.ref (ad 6), .int x1, .int x2, .int x3]) ++ List.replicate (5 - (lg_sl ([.ref (ad 6), .int x1, .int x2, .int x3])).length) Slot.unset).toArray = ls at hl ⊢
  have hl : lv_has ls 5 [(0, .ref (ad 6)), (1, .int x1), (2, .int x2), (3, .int x3)] := hl
  unfold f_Mo_tell at h
  refine lv_aload_n hx hb d_Mo_tell_0 rfl (lv_at hl 0 rfl) ?_
  refine lv_iload_n hx hb d_Mo_tell_1 rfl (lv_at hl 1 rfl) ?_
  refine lv_iload_n hx hb d_Mo_tell_2 rfl (lv_at hl 3 rfl) ?_
  obtain ⟨v1, e_v1, h⟩ := pu_ob h
  refine pu_callR (va_runV (As := [.int x1, .int x3]) (rest := []) ⟨hx, hb, hml, hown, hts⟩ (c_Mo_slotOf l D ca ad st _ x1 x3 v1 e_v1) (xCW (C := "MuseumHouse$Moves") 2 hts wd_3_178 wd_1_8 wd_3_175 wd_3_177 wd_0_8 (by decide +kernel) ⟨Nat.le_of_ble_eq_true rfl, Nat.le_of_ble_eq_true rfl⟩) (G.preV hP hS 6 rfl rfl) rfl rfl hl.1 rfl (lv_room (Nat.le_of_ble_eq_true rfl)) d_Mo_tell_3 ⟨Nat.zero_le _, Nat.zero_le _⟩) ?_
  refine lv_istore (lv' := [(4, .int v1), (0, .ref (ad 6)), (1, .int x1), (2, .int x2), (3, .int x3)]) hx hb d_Mo_tell_6 hl (by decide) rfl (fun ls hl => ?_)
  refine lv_iload hx hb d_Mo_tell_8 (lv_at hl 0 rfl) ?_
  refine lv_iconst (v := (-1)) hx hb d_Mo_tell_10 (by decide) ?_
  refine lv_icmp_ne (tgt := 31) hx hb d_Mo_tell_11 (by decide) (fun c2 => ?_) (fun c2 => ?_)
  · rw [if_neg c2] at h
    exact t_Mo_tell_b31 htl C G () st x1 x2 x3 v1 h _ _ hP hS ls (lv_sub hl [1, 2, 3, 4, 0] rfl)
  · rw [if_pos c2] at h
    refine lv_aload_n hx hb d_Mo_tell_14 rfl (lv_at hl 1 rfl) ?_
    refine lv_iload_n hx hb d_Mo_tell_15 rfl (lv_at hl 2 rfl) ?_
    obtain ⟨v3, e_v3, h⟩ := pu_ob h
    refine pu_callR (va_runV (As := [.int x1]) (rest := []) ⟨hx, hb, hml, hown, hts⟩ (c_Mo_endOfSlots l D ca ad st _ x1 v3 e_v3) (xCW (C := "MuseumHouse$Moves") 1 hts wd_3_182 wd_1_8 wd_3_179 wd_3_181 wd_0_9 (by decide +kernel) ⟨Nat.le_of_ble_eq_true rfl, Nat.le_of_ble_eq_true rfl⟩) (G.preV hP hS 6 rfl rfl) rfl rfl hl.1 rfl (lv_room (Nat.le_of_ble_eq_true rfl)) d_Mo_tell_16 ⟨Nat.zero_le _, Nat.zero_le _⟩) ?_
    refine lv_istore (lv' := [(4, .int v3), (0, .ref (ad 6)), (1, .int x1), (2, .int x2), (3, .int x3)]) hx hb d_Mo_tell_19 hl (by decide) rfl (fun ls hl => ?_)
    refine lv_aload_n hx hb d_Mo_tell_21 rfl (lv_at hl 1 rfl) ?_
    refine va_get (D := D) (ci := 6) (v := .ref (ad 22)) (C := R_Mo) (T := T_Mo) (N := 3) hx hb hts iw_Mo hown G.1 hP 6 rfl rfl 2 (by decide) (hts _ wd_1_130) (fun _ h9 => h9) rfl d_Mo_tell_22 ?_
    refine lv_iload_n hx hb d_Mo_tell_25 rfl (lv_at hl 2 rfl) ?_
    refine lv_dup2_11 hx hb d_Mo_tell_26 rfl rfl ?_
    obtain ⟨v4, e_v4, h⟩ := pu_ob h
    refine pu_iald hx hb G.1 hP 22 11 rfl rfl e_v4 d_Mo_tell_27 ?_
    refine lv_iconst (v := 1) hx hb d_Mo_tell_28 (by decide) ?_
    refine lv_iadd hx hb d_Mo_tell_29 ?_
    obtain ⟨g5, e_g5, h⟩ := pu_ob h
    refine pu_iast hx hb G.1 hP (G.D) hS 22 11 rfl rfl e_g5 d_Mo_tell_30 (fun H locs hP hS => ?_)
    have hP : va_P D hcl (hW ca ad (st.1, va_up st.2 11 g5)) H := hP
    exact t_Mo_tell_b31 htl C G () (st.1, va_up st.2 11 g5) x1 x2 x3 v3 h _ _ hP hS ls (lv_sub hl [1, 2, 3, 4, 0] rfl)
set_option maxHeartbeats 4000000 in
set_option maxRecDepth 100000 in
theorem c_Mo_isFullFor (l : Launch) (D : va_G) (ca : Nat → ClassId) (ad : Nat → Nat) (st : pu_St) (sz : Nat) (x1 : Int32) (r : Int32) (h : f_Mo_isFullFor st x1 = some r) : Met l y_Mo_isFullFor (.code y_Mo_isFullFor b_Mo_isFullFor 2 (some .boolean) :: tG) { frames := 0, cells := 0, slots := 0, locals := 0 } (va_Pc [.ref (ad 6), .int x1] (hPc D ca ad st sz)) (QcRead r) 0 0 (fun _ => False) := by
  refine hRead (by decide +kernel) ?_
  intro p e s m below meth c C G hP
  obtain ⟨hx, hb, hml, hr, hlocks, hno, hown, hts⟩ := id C
  have hown : s.vm.findClass "MuseumHouse$Moves" = some m.cls := hown
  have hS : va_S (hA ad s.heap.size) s.heap s.heap [] := va_S.rf
  have hl := lv_entry ([.ref (ad 6), .int x1]) (n := 2) (Nat.le_of_ble_eq_true rfl)
  rw [lg_entry_eq]
  generalize (lg_sl ([.ref (ad 6), .int x1]) ++ List.replicate (2 - (lg_sl ([.ref (ad 6), .int x1])).length) Slot.unset).toArray = ls at hl ⊢
  have hl : lv_has ls 2 [(0, .ref (ad 6)), (1, .int x1)] := hl
  unfold f_Mo_isFullFor at h
  refine lv_aload_n hx hb d_Mo_isFullFor_0 rfl (lv_at hl 0 rfl) ?_
  refine va_get (D := D) (ci := 6) (v := .ref (ad 22)) (C := R_Mo) (T := T_Mo) (N := 3) hx hb hts iw_Mo hown G.1 hP 6 rfl rfl 2 (by decide) (hts _ wd_1_130) (fun _ h9 => h9) rfl d_Mo_isFullFor_1 ?_
  refine lv_iload_n hx hb d_Mo_isFullFor_4 rfl (lv_at hl 1 rfl) ?_
  obtain ⟨v1, e_v1, h⟩ := pu_ob h
  refine pu_iald hx hb G.1 hP 22 11 rfl rfl e_v1 d_Mo_isFullFor_5 ?_
  refine lv_bipush (v := 12) hx hb d_Mo_isFullFor_6 (by decide) ?_
  refine lv_icmp_lt (tgt := 15) hx hb d_Mo_isFullFor_8 (by decide) (fun c2 => ?_) (fun c2 => ?_)
  · rw [if_pos c2] at h
    refine lv_iconst (v := 0) hx hb d_Mo_isFullFor_15 (by decide) ?_
    have h := Option.some.inj h
    exact W.zret (v := 0) (ty := .boolean) hx hb hr rfl (fun t ht _ => ⟨by rw [h], ht⟩) (fun _ q => by cases q) d_Mo_isFullFor_16
  · rw [if_neg c2] at h
    refine lv_iconst (v := 1) hx hb d_Mo_isFullFor_11 (by decide) ?_
    refine lv_goto (tgt := 16) hx hb d_Mo_isFullFor_12 (by decide) ?_
    have h := Option.some.inj h
    exact W.zret (v := 1) (ty := .boolean) hx hb hr rfl (fun t ht _ => ⟨by rw [h], ht⟩) (fun _ q => by cases q) d_Mo_isFullFor_16

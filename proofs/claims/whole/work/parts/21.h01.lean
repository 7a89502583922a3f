set_option maxHeartbeats 4000000 in
set_option maxRecDepth 100000 in
theorem t_Rg_numberFor_Co_b23 {l : Launch} {p : Program} {e : Env} {s : State} {m : MethodId} {args : Array Value} {below : List Frame} {meth : Method} {c : Code} {D : va_G} {ca : Nat → ClassId} {ad : Nat → Nat} {A : Nat → Prop} {st : pu_St} {r : Int32} (C : hC p s m meth c args b_Rg_numberFor 3 (some .int) "MuseumHouse$Register") (G : hX D ca ad A s) (hP : va_P D hcl (hW ca ad st) s.heap) (hS : va_S A s.heap s.heap []) :
    ∀ (_ : Unit) (x1 x2 : Int32), f_Rg_numberFor_Co_b23 st x1 x2 = some r → ∀ ls : Array Slot, lv_has ls 3 [(0, .ref (ad 3)), (1, .int x1), (2, .int x2)] → W p l e { frames := 0, cells := 0, slots := 0, locals := 0 } s m args below meth c s.heap [] 0 0 (MQ below (QcRead r) args s 0 0 (fun _ => False)) (F0 m 23 ls []) := by
  obtain ⟨hx, hb, hml, hr, hlocks, hno, hown, hts⟩ := id C
  intro _ x1 x2 h ls hl
  unfold f_Rg_numberFor_Co_b23 at h
  refine lv_iconst (v := (-1)) hx hb d_Rg_numberFor_23 (by decide) ?_
  have h := Option.some.inj h
  exact W.iret (v := (-1)) hx hb hr (fun t ht _ => ⟨by rw [h], ht⟩) (fun _ q => by cases q) d_Rg_numberFor_24
set_option maxHeartbeats 4000000 in
set_option maxRecDepth 100000 in
theorem c_Rg_numberFor_Co (l : Launch) (D : va_G) (ca : Nat → ClassId) (ad : Nat → Nat) (st : pu_St) (sz : Nat) (x1 : Int32) (r : Int32) (h : f_Rg_numberFor_Co st x1 = some r) : Met l y_Rg_numberFor (.code y_Rg_numberFor b_Rg_numberFor 3 (some .int) :: tG) { frames := 0, cells := 0, slots := 0, locals := 0 } (va_Pc [.ref (ad 3), .int x1] (hPc D ca ad st sz)) (QcRead r) 0 0 (fun _ => False) := by
  refine hRead (by decide +kernel) ?_
  intro p e s m below meth c C G hP
  obtain ⟨hx, hb, hml, hr, hlocks, hno, hown, hts⟩ := id C
  have hown : s.vm.findClass "MuseumHouse$Register" = some m.cls := hown
  have hS : va_S (hA ad s.heap.size) s.heap s.heap [] := va_S.rf
  have hl := lv_entry ([.ref (ad 3), .int x1]) (n := 3) (Nat.le_of_ble_eq_true rfl)
  rw [lg_entry_eq]
  generalize (lg_sl ([.ref (ad 3), .int x1]) ++ List.replicate (3 - (lg_sl ([.ref (ad 3), .int x1])).length) Slot.unset).toArray = ls at hl ⊢
  have hl : lv_has ls 3 [(0, .ref (ad 3)), (1, .int x1)] := hl
  unfold f_Rg_numberFor_Co at h
  refine lv_iload_n hx hb d_Rg_numberFor_0 rfl (lv_at hl 1 rfl) ?_
  refine lv_aload_n hx hb d_Rg_numberFor_1 rfl (lv_at hl 0 rfl) ?_
  refine va_get (D := D) (ci := 3) (v := .int 300) (C := R_Co) (T := T_Co) (N := 7) hx hb hts iw_Co hown G.1 hP 3 rfl rfl 0 (by decide) (hts _ wd_1_45) (fun _ h9 => h9) rfl d_Rg_numberFor_2 ?_
  refine lv_isub hx hb d_Rg_numberFor_5 ?_
  refine lv_istore_n (lv' := [(2, .int (x1 - 300)), (0, .ref (ad 3)), (1, .int x1)]) hx hb d_Rg_numberFor_6 rfl hl (by decide) rfl (fun ls hl => ?_)
  refine lv_iload_n hx hb d_Rg_numberFor_7 rfl (lv_at hl 0 rfl) ?_
  refine lv_if_lt (tgt := 23) hx hb d_Rg_numberFor_8 (by decide) (fun c1 => ?_) (fun c1 => ?_)
  · rw [if_pos c1] at h
    exact t_Rg_numberFor_Co_b23 C G hP hS () x1 (x1 - 300) h ls (lv_sub hl [1, 2, 0] rfl)
  · rw [if_neg c1] at h
    refine lv_iload_n hx hb d_Rg_numberFor_11 rfl (lv_at hl 0 rfl) ?_
    refine lv_aload_n hx hb d_Rg_numberFor_12 rfl (lv_at hl 1 rfl) ?_
    refine va_get (D := D) (ci := 3) (v := .int (st.1 4)) (C := R_Co) (T := T_Co) (N := 7) hx hb hts iw_Co hown G.1 hP 3 rfl rfl 2 (by decide) (hts _ wd_1_47) (fun _ h9 => h9) rfl d_Rg_numberFor_13 ?_
    refine lv_icmp_ge (tgt := 23) hx hb d_Rg_numberFor_16 (by decide) (fun c2 => ?_) (fun c2 => ?_)
    · rw [if_pos c2] at h
      exact t_Rg_numberFor_Co_b23 C G hP hS () x1 (x1 - 300) h ls (lv_sub hl [1, 2, 0] rfl)
    · rw [if_neg c2] at h
      refine lv_iload_n hx hb d_Rg_numberFor_19 rfl (lv_at hl 0 rfl) ?_
      refine lv_goto (tgt := 24) hx hb d_Rg_numberFor_20 (by decide) ?_
      have h := Option.some.inj h
      exact W.iret (v := (x1 - 300)) hx hb hr (fun t ht _ => ⟨by rw [h], ht⟩) (fun _ q => by cases q) d_Rg_numberFor_24
set_option maxHeartbeats 4000000 in
set_option maxRecDepth 100000 in
theorem c_H_numberOf_Co (l : Launch) (htl : l.stackTraces = false) (D : va_G) (ca : Nat → ClassId) (ad : Nat → Nat) (st : pu_St) (sz : Nat) (x2 : Int32) (r : Int32 ⊕ Nat) (st' : pu_St) (h : f_H_numberOf_Co st x2 = some (r, st')) : MetX l y_H_numberOf (.code y_H_numberOf b_H_numberOf 4 (some .int) :: tG) { frames := 6, cells := xc r, slots := xs r, locals := 90 } (va_Pc [.ref (ad 0), .ref (ad 3), .int x2] (hPc D ca ad st sz)) (hQ D ca ad (fun v => some (.int v)) r st' sz) (xc r) (xs r) (hA ad sz) := by
  refine hMet (by decide +kernel) ?_
  intro p e s m below meth c hsz C G hP
  obtain ⟨hx, hb, hml, hr, hlocks, hno, hown, hts⟩ := id C
  have hown : s.vm.findClass "MuseumHouse" = some m.cls := hown
  have hS : va_S (hA ad s.heap.size) s.heap s.heap [] := va_S.rf
  have hl := lv_entry ([.ref (ad 0), .ref (ad 3), .int x2]) (n := 4) (Nat.le_of_ble_eq_true rfl)
  rw [lg_entry_eq]
  generalize (lg_sl ([.ref (ad 0), .ref (ad 3), .int x2]) ++ List.replicate (4 - (lg_sl ([.ref (ad 0), .ref (ad 3), .int x2])).length) Slot.unset).toArray = ls at hl ⊢
  have hl : lv_has ls 4 [(0, .ref (ad 0)), (1, .ref (ad 3)), (2, .int x2)] := hl
  unfold f_H_numberOf_Co at h
  refine lv_aload_n hx hb d_H_numberOf_0 rfl (lv_at hl 1 rfl) ?_
  refine lv_iload_n hx hb d_H_numberOf_1 rfl (lv_at hl 2 rfl) ?_
  obtain ⟨v1, e_v1, h⟩ := pu_ob h
  refine pu_callR (va_runV (As := [.int x2]) (rest := []) ⟨hx, hb, hml, hown, hts⟩ (c_Rg_numberFor_Co l D ca ad st _ x2 v1 e_v1) (xCW (C := "MuseumHouse$Contexts") 1 hts wd_2_39 wd_1_2 wd_2_27 wd_2_28 wd_2_31 (by decide +kernel) ⟨Nat.le_of_ble_eq_true rfl, Nat.le_of_ble_eq_true rfl⟩) (G.preV hP hS 3 rfl rfl) rfl rfl hl.1 rfl (lv_room (Nat.le_of_ble_eq_true rfl)) d_H_numberOf_2 ⟨Nat.zero_le _, Nat.zero_le _⟩) ?_
  refine lv_istore_n (lv' := [(3, .int v1), (0, .ref (ad 0)), (1, .ref (ad 3)), (2, .int x2)]) hx hb d_H_numberOf_5 rfl hl (by decide) rfl (fun ls hl => ?_)
  refine lv_iload_n hx hb d_H_numberOf_6 rfl (lv_at hl 0 rfl) ?_
  refine lv_iconst (v := (-1)) hx hb d_H_numberOf_7 (by decide) ?_
  refine lv_icmp_ne (tgt := 24) hx hb d_H_numberOf_8 (by decide) (fun c2 => ?_) (fun c2 => ?_)
  · rw [if_neg c2] at h
    refine lv_iload_n hx hb d_H_numberOf_24 rfl (lv_at hl 0 rfl) ?_
    cases h
    exact W.toX (W.iret hx hb hr (fun t ht _ => ⟨rfl, by rw [ht]; exact hP, hS.F ht⟩) hS.2.2 d_H_numberOf_25)
  · rw [if_pos c2] at h
    refine lv_aload_n hx hb d_H_numberOf_11 rfl (lv_at hl 1 rfl) ?_
    refine lv_iconst (v := 1) hx hb d_H_numberOf_12 (by decide) ?_
    refine va_put (D := D) (ci := 0) (v := .int 1) (ty := .int) (C := R_H) (T := T_H) (N := 12) hx hb hts iw_H ty_H to_H nm_H hown G.1 hP (G.D) hS 0 rfl rfl 11 (by decide) (hts _ wd_1_223) (fun _ h9 => h9) rfl (by decide +kernel) rfl rfl (Nat.le_of_ble_eq_true rfl) d_H_numberOf_13 (fun H locs hP _ hS => ?_)
    have hP : va_P D hcl (hW ca ad (va_up st.1 1 1, st.2)) H := hP
    cases h
    exact hThrow G hx hb (hl.1.trans hml.symm) hown hno hlocks htl hts (by decide +kernel) xo_1 wd_2_40 wd_2_41 wd_1_17 hP hS d_H_numberOf_16 d_H_numberOf_19 d_H_numberOf_20 d_H_numberOf_23 (Nat.le_of_ble_eq_true rfl) (Nat.le_of_ble_eq_true rfl) (Nat.le_of_ble_eq_true rfl) (Nat.le_of_ble_eq_true rfl) rfl
set_option maxHeartbeats 4000000 in
set_option maxRecDepth 100000 in
theorem c_Co_siteOf (l : Launch) (D : va_G) (ca : Nat → ClassId) (ad : Nat → Nat) (st : pu_St) (sz : Nat) (x1 : Int32) (r : Int32) (h : f_Co_siteOf st x1 = some r) : Met l y_Co_siteOf (.code y_Co_siteOf b_Co_siteOf 2 (some .int) :: tG) { frames := 0, cells := 0, slots := 0, locals := 0 } (va_Pc [.ref (ad 3), .int x1] (hPc D ca ad st sz)) (QcRead r) 0 0 (fun _ => False) := by
  refine hRead (by decide +kernel) ?_
  intro p e s m below meth c C G hP
  obtain ⟨hx, hb, hml, hr, hlocks, hno, hown, hts⟩ := id C
  have hown : s.vm.findClass "MuseumHouse$Contexts" = some m.cls := hown
  have hS : va_S (hA ad s.heap.size) s.heap s.heap [] := va_S.rf
  have hl := lv_entry ([.ref (ad 3), .int x1]) (n := 2) (Nat.le_of_ble_eq_true rfl)
  rw [lg_entry_eq]
  generalize (lg_sl ([.ref (ad 3), .int x1]) ++ List.replicate (2 - (lg_sl ([.ref (ad 3), .int x1])).length) Slot.unset).toArray = ls at hl ⊢
  have hl : lv_has ls 2 [(0, .ref (ad 3)), (1, .int x1)] := hl
  unfold f_Co_siteOf at h
  refine lv_aload_n hx hb d_Co_siteOf_0 rfl (lv_at hl 0 rfl) ?_
  refine va_get (D := D) (ci := 3) (v := .ref (ad 12)) (C := R_Co) (T := T_Co) (N := 7) hx hb hts iw_Co hown G.1 hP 3 rfl rfl 3 (by decide) (hts _ wd_1_74) (fun _ h9 => h9) rfl d_Co_siteOf_1 ?_
  refine lv_iload_n hx hb d_Co_siteOf_4 rfl (lv_at hl 1 rfl) ?_
  obtain ⟨v1, e_v1, h⟩ := pu_ob h
  refine pu_iald hx hb G.1 hP 12 1 rfl rfl e_v1 d_Co_siteOf_5 ?_
  have h := Option.some.inj h
  exact W.iret (v := v1) hx hb hr (fun t ht _ => ⟨by rw [h], ht⟩) (fun _ q => by cases q) d_Co_siteOf_6
set_option maxHeartbeats 4000000 in
set_option maxRecDepth 100000 in
theorem c_Rg_size_Co (l : Launch) (D : va_G) (ca : Nat → ClassId) (ad : Nat → Nat) (st : pu_St) (sz : Nat) (r : Int32) (h : f_Rg_size_Co st = some r) : Met l y_Rg_size (.code y_Rg_size b_Rg_size 1 (some .int) :: tG) { frames := 0, cells := 0, slots := 0, locals := 0 } (va_Pc [.ref (ad 3)] (hPc D ca ad st sz)) (QcRead r) 0 0 (fun _ => False) := by
  refine hRead (by decide +kernel) ?_
  intro p e s m below meth c C G hP
  obtain ⟨hx, hb, hml, hr, hlocks, hno, hown, hts⟩ := id C
  have hown : s.vm.findClass "MuseumHouse$Register" = some m.cls := hown
  have hS : va_S (hA ad s.heap.size) s.heap s.heap [] := va_S.rf
  have hl := lv_entry ([.ref (ad 3)]) (n := 1) (Nat.le_of_ble_eq_true rfl)
  rw [lg_entry_eq]
  generalize (lg_sl ([.ref (ad 3)]) ++ List.replicate (1 - (lg_sl ([.ref (ad 3)])).length) Slot.unset).toArray = ls at hl ⊢
  have hl : lv_has ls 1 [(0, .ref (ad 3))] := hl
  unfold f_Rg_size_Co at h
  refine lv_aload_n hx hb d_Rg_size_0 rfl (lv_at hl 0 rfl) ?_
  refine va_get (D := D) (ci := 3) (v := .int (st.1 4)) (C := R_Co) (T := T_Co) (N := 7) hx hb hts iw_Co hown G.1 hP 3 rfl rfl 2 (by decide) (hts _ wd_1_47) (fun _ h9 => h9) rfl d_Rg_size_1 ?_
  have h := Option.some.inj h
  exact W.iret (v := (st.1 4)) hx hb hr (fun t ht _ => ⟨by rw [h], ht⟩) (fun _ q => by cases q) d_Rg_size_4
set_option maxHeartbeats 4000000 in
set_option maxRecDepth 100000 in
theorem c_Co_isOver (l : Launch) (D : va_G) (ca : Nat → ClassId) (ad : Nat → Nat) (st : pu_St) (sz : Nat) (x1 x2 : Int32) (r : Int32) (h : f_Co_isOver st x1 x2 = some r) : Met l y_Co_isOver (.code y_Co_isOver b_Co_isOver 3 (some .boolean) :: tG) { frames := 0, cells := 0, slots := 0, locals := 0 } (va_Pc [.ref (ad 3), .int x1, .int x2] (hPc D ca ad st sz)) (QcRead r) 0 0 (fun _ => False) := by
  refine hRead (by decide +kernel) ?_
  intro p e s m below meth c C G hP
  obtain ⟨hx, hb, hml, hr, hlocks, hno, hown, hts⟩ := id C
  have hown : s.vm.findClass "MuseumHouse$Contexts" = some m.cls := hown
  have hS : va_S (hA ad s.heap.size) s.heap s.heap [] := va_S.rf
  have hl := lv_entry ([.ref (ad 3), .int x1, .int x2]) (n := 3) (Nat.le_of_ble_eq_true rfl)
  rw [lg_entry_eq]
  generalize (lg_sl ([.ref (ad 3), .int x1, .int x2]) ++ List.replicate (3 - (lg_sl ([.ref (ad 3), .int x1, .int x2])).length) Slot.unset).toArray = ls at hl ⊢
  have hl : lv_has ls 3 [(0, .ref (ad 3)), (1, .int x1), (2, .int x2)] := hl
  unfold f_Co_isOver at h
  refine lv_aload_n hx hb d_Co_isOver_0 rfl (lv_at hl 0 rfl) ?_
  refine va_get (D := D) (ci := 3) (v := .ref (ad 15)) (C := R_Co) (T := T_Co) (N := 7) hx hb hts iw_Co hown G.1 hP 3 rfl rfl 6 (by decide) (hts _ wd_1_77) (fun _ h9 => h9) rfl d_Co_isOver_1 ?_
  refine lv_iload_n hx hb d_Co_isOver_4 rfl (lv_at hl 1 rfl) ?_
  obtain ⟨v1, e_v1, h⟩ := pu_ob h
  refine pu_iald hx hb G.1 hP 15 4 rfl rfl e_v1 d_Co_isOver_5 ?_
  refine lv_iconst (v := 1) hx hb d_Co_isOver_6 (by decide) ?_
  refine lv_iload_n hx hb d_Co_isOver_7 rfl (lv_at hl 2 rfl) ?_
  refine lv_ishl hx hb d_Co_isOver_8 ?_
  refine lv_iand hx hb d_Co_isOver_9 ?_
  refine lv_if_eq (tgt := 17) hx hb d_Co_isOver_10 (by decide) (fun c2 => ?_) (fun c2 => ?_)
  · rw [if_pos c2] at h
    refine lv_iconst (v := 0) hx hb d_Co_isOver_17 (by decide) ?_
    have h := Option.some.inj h
    exact W.zret (v := 0) (ty := .boolean) hx hb hr rfl (fun t ht _ => ⟨by rw [h], ht⟩) (fun _ q => by cases q) d_Co_isOver_18
  · rw [if_neg c2] at h
    refine lv_iconst (v := 1) hx hb d_Co_isOver_13 (by decide) ?_
    refine lv_goto (tgt := 18) hx hb d_Co_isOver_14 (by decide) ?_
    have h := Option.some.inj h
    exact W.zret (v := 1) (ty := .boolean) hx hb hr rfl (fun t ht _ => ⟨by rw [h], ht⟩) (fun _ q => by cases q) d_Co_isOver_18
set_option maxHeartbeats 4000000 in
set_option maxRecDepth 100000 in
theorem t_Co_greatestFirstBelow_b4 {l : Launch} {p : Program} {e : Env} {s : State} {m : MethodId} {args : Array Value} {below : List Frame} {meth : Method} {c : Code} {D : va_G} {ca : Nat → ClassId} {ad : Nat → Nat} {A : Nat → Prop} {st : pu_St} {r : Int32} (C : hC p s m meth c args b_Co_greatestFirstBelow 4 (some .int) "MuseumHouse$Contexts") (G : hX D ca ad A s) (hP : va_P D hcl (hW ca ad st) s.heap) (hS : va_S A s.heap s.heap []) :
    ∀ (n : Nat) (x1 x2 x3 : Int32), f_Co_greatestFirstBelow_b4 n st x1 x2 x3 = some r → ∀ ls : Array Slot, lv_has ls 4 [(0, .ref (ad 3)), (1, .int x1), (2, .int x2), (3, .int x3)] → W p l e { frames := 1, cells := 0, slots := 0, locals := 29 } s m args below meth c s.heap [] 0 0 (MQ below (QcRead r) args s 0 0 (fun _ => False)) (F0 m 4 ls []) := by
  obtain ⟨hx, hb, hml, hr, hlocks, hno, hown, hts⟩ := id C
  intro n
  induction n with
  | zero => intro x1 x2 x3 h; cases h
  | succ n ih =>
    intro x1 x2 x3 h ls hl
    unfold f_Co_greatestFirstBelow_b4 at h
    refine lv_iload_n hx hb d_Co_greatestFirstBelow_4 rfl (lv_at hl 3 rfl) ?_
    refine lv_aload_n hx hb d_Co_greatestFirstBelow_5 rfl (lv_at hl 0 rfl) ?_
    obtain ⟨v1, e_v1, h⟩ := pu_ob h
    refine pu_callR (va_runU (As := []) (rest := [.int x3]) ⟨hx, hb, hml, hown, hts⟩ (c_Rg_size_Co l D ca ad st _ v1 e_v1) (xCU (C := "MuseumHouse$Contexts") (owner := "MuseumHouse$Register") (x := ⟨"MuseumHouse$Contexts", "size", "()I"⟩) 0 hts wd_3_4 wd_1_2 wd_2_239 wd_3_0 wd_3_3 wd_3_2 rfl (by decide +kernel) ⟨Nat.le_of_ble_eq_true rfl, Nat.le_of_ble_eq_true rfl⟩) (G.preV hP hS 3 rfl rfl) rfl rfl hl.1 rfl (lv_room (Nat.le_of_ble_eq_true rfl)) d_Co_greatestFirstBelow_6 ⟨Nat.zero_le _, Nat.zero_le _⟩) ?_
    refine lv_icmp_ge (tgt := 38) hx hb d_Co_greatestFirstBelow_9 (by decide) (fun c2 => ?_) (fun c2 => ?_)
    · rw [if_pos c2] at h
      refine lv_iload_n hx hb d_Co_greatestFirstBelow_38 rfl (lv_at hl 2 rfl) ?_
      have h := Option.some.inj h
      exact W.iret (v := x2) hx hb hr (fun t ht _ => ⟨by rw [h], ht⟩) (fun _ q => by cases q) d_Co_greatestFirstBelow_39
    · rw [if_neg c2] at h
      refine lv_aload_n hx hb d_Co_greatestFirstBelow_12 rfl (lv_at hl 0 rfl) ?_
      refine lv_iload_n hx hb d_Co_greatestFirstBelow_13 rfl (lv_at hl 1 rfl) ?_
      refine lv_iload_n hx hb d_Co_greatestFirstBelow_14 rfl (lv_at hl 3 rfl) ?_
      obtain ⟨v3, e_v3, h⟩ := pu_ob h
      refine pu_callR (va_runV (As := [.int x1, .int x3]) (rest := []) ⟨hx, hb, hml, hown, hts⟩ (c_Co_isOver l D ca ad st _ x1 x3 v3 e_v3) (xCW (C := "MuseumHouse$Contexts") 2 hts wd_2_226 wd_1_5 wd_3_5 wd_2_224 wd_2_225 (by decide +kernel) ⟨Nat.le_of_ble_eq_true rfl, Nat.le_of_ble_eq_true rfl⟩) (G.preV hP hS 3 rfl rfl) rfl rfl hl.1 rfl (lv_room (Nat.le_of_ble_eq_true rfl)) d_Co_greatestFirstBelow_15 ⟨Nat.zero_le _, Nat.zero_le _⟩) ?_
      refine lv_if_eq (tgt := 32) hx hb d_Co_greatestFirstBelow_18 (by decide) (fun c4 => ?_) (fun c4 => ?_)
      · rw [if_pos c4] at h
        refine lv_iinc (v := (x3 + 1)) (lv' := [(3, .int (x3 + 1)), (0, .ref (ad 3)), (1, .int x1), (2, .int x2)]) hx hb d_Co_greatestFirstBelow_32 hl (k := 3) rfl rfl (by decide) rfl (fun ls hl => ?_)
        refine lv_goto (tgt := 4) hx hb d_Co_greatestFirstBelow_35 (by decide) ?_
        exact ih x1 x2 (x3 + 1) h ls (lv_sub hl [1, 2, 3, 0] rfl)
      · rw [if_neg c4] at h
        refine lv_iload_n hx hb d_Co_greatestFirstBelow_21 rfl (lv_at hl 2 rfl) ?_
        refine lv_aload_n hx hb d_Co_greatestFirstBelow_22 rfl (lv_at hl 0 rfl) ?_
        refine va_get (D := D) (ci := 3) (v := .ref (ad 13)) (C := R_Co) (T := T_Co) (N := 7) hx hb hts iw_Co hown G.1 hP 3 rfl rfl 4 (by decide) (hts _ wd_1_75) (fun _ h9 => h9) rfl d_Co_greatestFirstBelow_23 ?_
        refine lv_iload_n hx hb d_Co_greatestFirstBelow_26 rfl (lv_at hl 3 rfl) ?_
        obtain ⟨v5, e_v5, h⟩ := pu_ob h
        refine pu_iald hx hb G.1 hP 13 2 rfl rfl e_v5 d_Co_greatestFirstBelow_27 ?_
        refine va_mmax hx hb (hml.trans hl.1.symm) hown (hts _ wd_3_6) (hts _ wd_3_7) (hts _ wd_1_20) (hts _ wd_3_8) (Nat.le_of_ble_eq_true rfl) (Nat.le_of_ble_eq_true rfl) (Nat.zero_le _) (Nat.zero_le _) d_Co_greatestFirstBelow_28 ?_
        refine lv_istore_n (lv' := [(2, .int (if x2 < v5 then v5 else x2)), (0, .ref (ad 3)), (1, .int x1), (3, .int x3)]) hx hb d_Co_greatestFirstBelow_31 rfl hl (by decide) rfl (fun ls hl => ?_)
        refine lv_iinc (v := (x3 + 1)) (lv' := [(3, .int (x3 + 1)), (2, .int (if x2 < v5 then v5 else x2)), (0, .ref (ad 3)), (1, .int x1)]) hx hb d_Co_greatestFirstBelow_32 hl (k := 3) rfl rfl (by decide) rfl (fun ls hl => ?_)
        refine lv_goto (tgt := 4) hx hb d_Co_greatestFirstBelow_35 (by decide) ?_
        exact ih x1 (if x2 < v5 then v5 else x2) (x3 + 1) h ls (lv_sub hl [2, 3, 1, 0] rfl)
set_option maxHeartbeats 4000000 in
set_option maxRecDepth 100000 in
theorem c_Co_greatestFirstBelow (l : Launch) (D : va_G) (ca : Nat → ClassId) (ad : Nat → Nat) (st : pu_St) (sz : Nat) (x1 : Int32) (r : Int32) (h : f_Co_greatestFirstBelow st x1 = some r) : Met l y_Co_greatestFirstBelow (.code y_Co_greatestFirstBelow b_Co_greatestFirstBelow 4 (some .int) :: tG) { frames := 1, cells := 0, slots := 0, locals := 29 } (va_Pc [.ref (ad 3), .int x1] (hPc D ca ad st sz)) (QcRead r) 0 0 (fun _ => False) := by
  refine hRead (by decide +kernel) ?_
  intro p e s m below meth c C G hP
  obtain ⟨hx, hb, hml, hr, hlocks, hno, hown, hts⟩ := id C
  have hown : s.vm.findClass "MuseumHouse$Contexts" = some m.cls := hown
  have hS : va_S (hA ad s.heap.size) s.heap s.heap [] := va_S.rf
  have hl := lv_entry ([.ref (ad 3), .int x1]) (n := 4) (Nat.le_of_ble_eq_true rfl)
  rw [lg_entry_eq]
  generalize (lg_sl ([.ref (ad 3), .int x1]) ++ List.replicate (4 - (lg_sl ([.ref (ad 3), .int x1])).length) Slot.unset).toArray = ls at hl ⊢
  have hl : lv_has ls 4 [(0, .ref (ad 3)), (1, .int x1)] := hl
  unfold f_Co_greatestFirstBelow at h
  refine lv_iconst (v := 0) hx hb d_Co_greatestFirstBelow_0 (by decide) ?_
  refine lv_istore_n (lv' := [(2, .int 0), (0, .ref (ad 3)), (1, .int x1)]) hx hb d_Co_greatestFirstBelow_1 rfl hl (by decide) rfl (fun ls hl => ?_)
  refine lv_iconst (v := 0) hx hb d_Co_greatestFirstBelow_2 (by decide) ?_
  refine lv_istore_n (lv' := [(3, .int 0), (2, .int 0), (0, .ref (ad 3)), (1, .int x1)]) hx hb d_Co_greatestFirstBelow_3 rfl hl (by decide) rfl (fun ls hl => ?_)
  exact t_Co_greatestFirstBelow_b4 C G hP hS pu_fu x1 0 0 h ls (lv_sub hl [2, 3, 1, 0] rfl)
set_option maxHeartbeats 4000000 in
set_option maxRecDepth 100000 in
theorem c_Co_earliest (l : Launch) (D : va_G) (ca : Nat → ClassId) (ad : Nat → Nat) (st : pu_St) (sz : Nat) (x1 : Int32) (r : Int32) (h : f_Co_earliest st x1 = some r) : Met l y_Co_earliest (.code y_Co_earliest b_Co_earliest 2 (some .int) :: tG) { frames := 2, cells := 0, slots := 0, locals := 52 } (va_Pc [.ref (ad 3), .int x1] (hPc D ca ad st sz)) (QcRead r) 0 0 (fun _ => False) := by
  refine hRead (by decide +kernel) ?_
  intro p e s m below meth c C G hP
  obtain ⟨hx, hb, hml, hr, hlocks, hno, hown, hts⟩ := id C
  have hown : s.vm.findClass "MuseumHouse$Contexts" = some m.cls := hown
  have hS : va_S (hA ad s.heap.size) s.heap s.heap [] := va_S.rf
  have hl := lv_entry ([.ref (ad 3), .int x1]) (n := 2) (Nat.le_of_ble_eq_true rfl)
  rw [lg_entry_eq]
  generalize (lg_sl ([.ref (ad 3), .int x1]) ++ List.replicate (2 - (lg_sl ([.ref (ad 3), .int x1])).length) Slot.unset).toArray = ls at hl ⊢
  have hl : lv_has ls 2 [(0, .ref (ad 3)), (1, .int x1)] := hl
  unfold f_Co_earliest at h
  refine lv_aload_n hx hb d_Co_earliest_0 rfl (lv_at hl 0 rfl) ?_
  refine va_get (D := D) (ci := 3) (v := .ref (ad 13)) (C := R_Co) (T := T_Co) (N := 7) hx hb hts iw_Co hown G.1 hP 3 rfl rfl 4 (by decide) (hts _ wd_1_75) (fun _ h9 => h9) rfl d_Co_earliest_1 ?_
  refine lv_iload_n hx hb d_Co_earliest_4 rfl (lv_at hl 1 rfl) ?_
  obtain ⟨v1, e_v1, h⟩ := pu_ob h
  refine pu_iald hx hb G.1 hP 13 2 rfl rfl e_v1 d_Co_earliest_5 ?_
  refine lv_aload_n hx hb d_Co_earliest_6 rfl (lv_at hl 0 rfl) ?_
  refine lv_iload_n hx hb d_Co_earliest_7 rfl (lv_at hl 1 rfl) ?_
  obtain ⟨v2, e_v2, h⟩ := pu_ob h
  refine pu_callR (va_runV (As := [.int x1]) (rest := [.int v1]) ⟨hx, hb, hml, hown, hts⟩ (c_Co_greatestFirstBelow l D ca ad st _ x1 v2 e_v2) (xCW (C := "MuseumHouse$Contexts") 1 hts wd_2_238 wd_1_5 wd_2_235 wd_2_237 wd_0_5 (by decide +kernel) ⟨Nat.le_of_ble_eq_true rfl, Nat.le_of_ble_eq_true rfl⟩) (G.preV hP hS 3 rfl rfl) rfl rfl hl.1 rfl (lv_room (Nat.le_of_ble_eq_true rfl)) d_Co_earliest_8 ⟨Nat.zero_le _, Nat.zero_le _⟩) ?_
  refine va_mmax hx hb (hml.trans hl.1.symm) hown (hts _ wd_3_6) (hts _ wd_3_7) (hts _ wd_1_20) (hts _ wd_3_8) (Nat.le_of_ble_eq_true rfl) (Nat.le_of_ble_eq_true rfl) (Nat.zero_le _) (Nat.zero_le _) d_Co_earliest_11 ?_
  have h := Option.some.inj h
  exact W.iret (v := (if v1 < v2 then v2 else v1)) hx hb hr (fun t ht _ => ⟨by rw [h], ht⟩) (fun _ q => by cases q) d_Co_earliest_14
set_option maxHeartbeats 4000000 in
set_option maxRecDepth 100000 in
theorem t_Co_leastLastAbove_b6 {l : Launch} {p : Program} {e : Env} {s : State} {m : MethodId} {args : Array Value} {below : List Frame} {meth : Method} {c : Code} {D : va_G} {ca : Nat → ClassId} {ad : Nat → Nat} {A : Nat → Prop} {st : pu_St} {r : Int32} (C : hC p s m meth c args b_Co_leastLastAbove 4 (some .int) "MuseumHouse$Contexts") (G : hX D ca ad A s) (hP : va_P D hcl (hW ca ad st) s.heap) (hS : va_S A s.heap s.heap []) :
    ∀ (n : Nat) (x1 x2 x3 : Int32), f_Co_leastLastAbove_b6 n st x1 x2 x3 = some r → ∀ ls : Array Slot, lv_has ls 4 [(0, .ref (ad 3)), (1, .int x1), (2, .int x2), (3, .int x3)] → W p l e { frames := 1, cells := 0, slots := 0, locals := 29 } s m args below meth c s.heap [] 0 0 (MQ below (QcRead r) args s 0 0 (fun _ => False)) (F0 m 6 ls []) := by
  obtain ⟨hx, hb, hml, hr, hlocks, hno, hown, hts⟩ := id C
  intro n
  induction n with
  | zero => intro x1 x2 x3 h; cases h
  | succ n ih =>
    intro x1 x2 x3 h ls hl
    unfold f_Co_leastLastAbove_b6 at h
    refine lv_iload_n hx hb d_Co_leastLastAbove_6 rfl (lv_at hl 3 rfl) ?_
    refine lv_aload_n hx hb d_Co_leastLastAbove_7 rfl (lv_at hl 0 rfl) ?_
    obtain ⟨v1, e_v1, h⟩ := pu_ob h
    refine pu_callR (va_runU (As := []) (rest := [.int x3]) ⟨hx, hb, hml, hown, hts⟩ (c_Rg_size_Co l D ca ad st _ v1 e_v1) (xCU (C := "MuseumHouse$Contexts") (owner := "MuseumHouse$Register") (x := ⟨"MuseumHouse$Contexts", "size", "()I"⟩) 0 hts wd_3_4 wd_1_2 wd_2_239 wd_3_0 wd_3_3 wd_3_2 rfl (by decide +kernel) ⟨Nat.le_of_ble_eq_true rfl, Nat.le_of_ble_eq_true rfl⟩) (G.preV hP hS 3 rfl rfl) rfl rfl hl.1 rfl (lv_room (Nat.le_of_ble_eq_true rfl)) d_Co_leastLastAbove_8 ⟨Nat.zero_le _, Nat.zero_le _⟩) ?_
    refine lv_icmp_ge (tgt := 40) hx hb d_Co_leastLastAbove_11 (by decide) (fun c2 => ?_) (fun c2 => ?_)
    · rw [if_pos c2] at h
      refine lv_iload_n hx hb d_Co_leastLastAbove_40 rfl (lv_at hl 2 rfl) ?_
      have h := Option.some.inj h
      exact W.iret (v := x2) hx hb hr (fun t ht _ => ⟨by rw [h], ht⟩) (fun _ q => by cases q) d_Co_leastLastAbove_41
    · rw [if_neg c2] at h
      refine lv_aload_n hx hb d_Co_leastLastAbove_14 rfl (lv_at hl 0 rfl) ?_
      refine lv_iload_n hx hb d_Co_leastLastAbove_15 rfl (lv_at hl 3 rfl) ?_
      refine lv_iload_n hx hb d_Co_leastLastAbove_16 rfl (lv_at hl 1 rfl) ?_
      obtain ⟨v3, e_v3, h⟩ := pu_ob h
      refine pu_callR (va_runV (As := [.int x3, .int x1]) (rest := []) ⟨hx, hb, hml, hown, hts⟩ (c_Co_isOver l D ca ad st _ x3 x1 v3 e_v3) (xCW (C := "MuseumHouse$Contexts") 2 hts wd_2_226 wd_1_5 wd_3_5 wd_2_224 wd_2_225 (by decide +kernel) ⟨Nat.le_of_ble_eq_true rfl, Nat.le_of_ble_eq_true rfl⟩) (G.preV hP hS 3 rfl rfl) rfl rfl hl.1 rfl (lv_room (Nat.le_of_ble_eq_true rfl)) d_Co_leastLastAbove_17 ⟨Nat.zero_le _, Nat.zero_le _⟩) ?_
      refine lv_if_eq (tgt := 34) hx hb d_Co_leastLastAbove_20 (by decide) (fun c4 => ?_) (fun c4 => ?_)
      · rw [if_pos c4] at h
        refine lv_iinc (v := (x3 + 1)) (lv' := [(3, .int (x3 + 1)), (0, .ref (ad 3)), (1, .int x1), (2, .int x2)]) hx hb d_Co_leastLastAbove_34 hl (k := 3) rfl rfl (by decide) rfl (fun ls hl => ?_)
        refine lv_goto (tgt := 6) hx hb d_Co_leastLastAbove_37 (by decide) ?_
        exact ih x1 x2 (x3 + 1) h ls (lv_sub hl [1, 2, 3, 0] rfl)
      · rw [if_neg c4] at h
        refine lv_iload_n hx hb d_Co_leastLastAbove_23 rfl (lv_at hl 2 rfl) ?_
        refine lv_aload_n hx hb d_Co_leastLastAbove_24 rfl (lv_at hl 0 rfl) ?_
        refine va_get (D := D) (ci := 3) (v := .ref (ad 14)) (C := R_Co) (T := T_Co) (N := 7) hx hb hts iw_Co hown G.1 hP 3 rfl rfl 5 (by decide) (hts _ wd_1_76) (fun _ h9 => h9) rfl d_Co_leastLastAbove_25 ?_
        refine lv_iload_n hx hb d_Co_leastLastAbove_28 rfl (lv_at hl 3 rfl) ?_
        obtain ⟨v5, e_v5, h⟩ := pu_ob h
        refine pu_iald hx hb G.1 hP 14 3 rfl rfl e_v5 d_Co_leastLastAbove_29 ?_
        refine va_mmin hx hb (hml.trans hl.1.symm) hown (hts _ wd_3_17) (hts _ wd_3_18) (hts _ wd_1_20) (hts _ wd_3_19) (Nat.le_of_ble_eq_true rfl) (Nat.le_of_ble_eq_true rfl) (Nat.zero_le _) (Nat.zero_le _) d_Co_leastLastAbove_30 ?_
        refine lv_istore_n (lv' := [(2, .int (if v5 < x2 then v5 else x2)), (0, .ref (ad 3)), (1, .int x1), (3, .int x3)]) hx hb d_Co_leastLastAbove_33 rfl hl (by decide) rfl (fun ls hl => ?_)
        refine lv_iinc (v := (x3 + 1)) (lv' := [(3, .int (x3 + 1)), (2, .int (if v5 < x2 then v5 else x2)), (0, .ref (ad 3)), (1, .int x1)]) hx hb d_Co_leastLastAbove_34 hl (k := 3) rfl rfl (by decide) rfl (fun ls hl => ?_)
        refine lv_goto (tgt := 6) hx hb d_Co_leastLastAbove_37 (by decide) ?_
        exact ih x1 (if v5 < x2 then v5 else x2) (x3 + 1) h ls (lv_sub hl [2, 3, 1, 0] rfl)
set_option maxHeartbeats 4000000 in
set_option maxRecDepth 100000 in
theorem c_Co_leastLastAbove (l : Launch) (D : va_G) (ca : Nat → ClassId) (ad : Nat → Nat) (st : pu_St) (sz : Nat) (x1 : Int32) (r : Int32) (h : f_Co_leastLastAbove st x1 = some r) : Met l y_Co_leastLastAbove (.code y_Co_leastLastAbove b_Co_leastLastAbove 4 (some .int) :: tG) { frames := 1, cells := 0, slots := 0, locals := 29 } (va_Pc [.ref (ad 3), .int x1] (hPc D ca ad st sz)) (QcRead r) 0 0 (fun _ => False) := by
  refine hRead (by decide +kernel) ?_
  intro p e s m below meth c C G hP
  obtain ⟨hx, hb, hml, hr, hlocks, hno, hown, hts⟩ := id C
  have hown : s.vm.findClass "MuseumHouse$Contexts" = some m.cls := hown
  have hS : va_S (hA ad s.heap.size) s.heap s.heap [] := va_S.rf
  have hl := lv_entry ([.ref (ad 3), .int x1]) (n := 4) (Nat.le_of_ble_eq_true rfl)
  rw [lg_entry_eq]
  generalize (lg_sl ([.ref (ad 3), .int x1]) ++ List.replicate (4 - (lg_sl ([.ref (ad 3), .int x1])).length) Slot.unset).toArray = ls at hl ⊢
  have hl : lv_has ls 4 [(0, .ref (ad 3)), (1, .int x1)] := hl
  unfold f_Co_leastLastAbove at h
  refine lv_sipush (v := 999) hx hb d_Co_leastLastAbove_0 (by decide) ?_
  refine lv_istore_n (lv' := [(2, .int 999), (0, .ref (ad 3)), (1, .int x1)]) hx hb d_Co_leastLastAbove_3 rfl hl (by decide) rfl (fun ls hl => ?_)
  refine lv_iconst (v := 0) hx hb d_Co_leastLastAbove_4 (by decide) ?_
  refine lv_istore_n (lv' := [(3, .int 0), (2, .int 999), (0, .ref (ad 3)), (1, .int x1)]) hx hb d_Co_leastLastAbove_5 rfl hl (by decide) rfl (fun ls hl => ?_)
  exact t_Co_leastLastAbove_b6 C G hP hS pu_fu x1 999 0 h ls (lv_sub hl [2, 3, 1, 0] rfl)
set_option maxHeartbeats 4000000 in
set_option maxRecDepth 100000 in
theorem c_Co_latest (l : Launch) (D : va_G) (ca : Nat → ClassId) (ad : Nat → Nat) (st : pu_St) (sz : Nat) (x1 : Int32) (r : Int32) (h : f_Co_latest st x1 = some r) : Met l y_Co_latest (.code y_Co_latest b_Co_latest 2 (some .int) :: tG) { frames := 2, cells := 0, slots := 0, locals := 52 } (va_Pc [.ref (ad 3), .int x1] (hPc D ca ad st sz)) (QcRead r) 0 0 (fun _ => False) := by
  refine hRead (by decide +kernel) ?_
  intro p e s m below meth c C G hP
  obtain ⟨hx, hb, hml, hr, hlocks, hno, hown, hts⟩ := id C
  have hown : s.vm.findClass "MuseumHouse$Contexts" = some m.cls := hown
  have hS : va_S (hA ad s.heap.size) s.heap s.heap [] := va_S.rf
  have hl := lv_entry ([.ref (ad 3), .int x1]) (n := 2) (Nat.le_of_ble_eq_true rfl)
  rw [lg_entry_eq]
  generalize (lg_sl ([.ref (ad 3), .int x1]) ++ List.replicate (2 - (lg_sl ([.ref (ad 3), .int x1])).length) Slot.unset).toArray = ls at hl ⊢
  have hl : lv_has ls 2 [(0, .ref (ad 3)), (1, .int x1)] := hl
  unfold f_Co_latest at h
  refine lv_aload_n hx hb d_Co_latest_0 rfl (lv_at hl 0 rfl) ?_
  refine va_get (D := D) (ci := 3) (v := .ref (ad 14)) (C := R_Co) (T := T_Co) (N := 7) hx hb hts iw_Co hown G.1 hP 3 rfl rfl 5 (by decide) (hts _ wd_1_76) (fun _ h9 => h9) rfl d_Co_latest_1 ?_
  refine lv_iload_n hx hb d_Co_latest_4 rfl (lv_at hl 1 rfl) ?_
  obtain ⟨v1, e_v1, h⟩ := pu_ob h
  refine pu_iald hx hb G.1 hP 14 3 rfl rfl e_v1 d_Co_latest_5 ?_
  refine lv_aload_n hx hb d_Co_latest_6 rfl (lv_at hl 0 rfl) ?_
  refine lv_iload_n hx hb d_Co_latest_7 rfl (lv_at hl 1 rfl) ?_
  obtain ⟨v2, e_v2, h⟩ := pu_ob h
  refine pu_callR (va_runV (As := [.int x1]) (rest := [.int v1]) ⟨hx, hb, hml, hown, hts⟩ (c_Co_leastLastAbove l D ca ad st _ x1 v2 e_v2) (xCW (C := "MuseumHouse$Contexts") 1 hts wd_3_16 wd_1_5 wd_3_13 wd_3_15 wd_0_6 (by decide +kernel) ⟨Nat.le_of_ble_eq_true rfl, Nat.le_of_ble_eq_true rfl⟩) (G.preV hP hS 3 rfl rfl) rfl rfl hl.1 rfl (lv_room (Nat.le_of_ble_eq_true rfl)) d_Co_latest_8 ⟨Nat.zero_le _, Nat.zero_le _⟩) ?_
  refine va_mmin hx hb (hml.trans hl.1.symm) hown (hts _ wd_3_17) (hts _ wd_3_18) (hts _ wd_1_20) (hts _ wd_3_19) (Nat.le_of_ble_eq_true rfl) (Nat.le_of_ble_eq_true rfl) (Nat.zero_le _) (Nat.zero_le _) d_Co_latest_11 ?_
  have h := Option.some.inj h
  exact W.iret (v := (if v2 < v1 then v2 else v1)) hx hb hr (fun t ht _ => ⟨by rw [h], ht⟩) (fun _ q => by cases q) d_Co_latest_14
set_option maxHeartbeats 4000000 in
set_option maxRecDepth 100000 in
theorem c_Co_yearsLetOver (l : Launch) (D : va_G) (ca : Nat → ClassId) (ad : Nat → Nat) (st : pu_St) (sz : Nat) (x1 x2 : Int32) (r : Int32) (h : f_Co_yearsLetOver st x1 x2 = some r) : Met l y_Co_yearsLetOver (.code y_Co_yearsLetOver b_Co_yearsLetOver 3 (some .boolean) :: tG) { frames := 3, cells := 0, slots := 0, locals := 73 } (va_Pc [.ref (ad 3), .int x1, .int x2] (hPc D ca ad st sz)) (QcRead r) 0 0 (fun _ => False) := by
  refine hRead (by decide +kernel) ?_
  intro p e s m below meth c C G hP
  obtain ⟨hx, hb, hml, hr, hlocks, hno, hown, hts⟩ := id C
  have hown : s.vm.findClass "MuseumHouse$Contexts" = some m.cls := hown
  have hS : va_S (hA ad s.heap.size) s.heap s.heap [] := va_S.rf
  have hl := lv_entry ([.ref (ad 3), .int x1, .int x2]) (n := 3) (Nat.le_of_ble_eq_true rfl)
  rw [lg_entry_eq]
  generalize (lg_sl ([.ref (ad 3), .int x1, .int x2]) ++ List.replicate (3 - (lg_sl ([.ref (ad 3), .int x1, .int x2])).length) Slot.unset).toArray = ls at hl ⊢
  have hl : lv_has ls 3 [(0, .ref (ad 3)), (1, .int x1), (2, .int x2)] := hl
  unfold f_Co_yearsLetOver at h
  refine lv_aload_n hx hb d_Co_yearsLetOver_0 rfl (lv_at hl 0 rfl) ?_
  refine lv_iload_n hx hb d_Co_yearsLetOver_1 rfl (lv_at hl 2 rfl) ?_
  obtain ⟨v1, e_v1, h⟩ := pu_ob h
  refine pu_callR (va_runV (As := [.int x2]) (rest := []) ⟨hx, hb, hml, hown, hts⟩ (c_Co_earliest l D ca ad st _ x2 v1 e_v1) (xCW (C := "MuseumHouse$Contexts") 1 hts wd_2_234 wd_1_5 wd_2_231 wd_2_232 wd_2_233 (by decide +kernel) ⟨Nat.le_of_ble_eq_true rfl, Nat.le_of_ble_eq_true rfl⟩) (G.preV hP hS 3 rfl rfl) rfl rfl hl.1 rfl (lv_room (Nat.le_of_ble_eq_true rfl)) d_Co_yearsLetOver_2 ⟨Nat.zero_le _, Nat.zero_le _⟩) ?_
  refine lv_aload_n hx hb d_Co_yearsLetOver_5 rfl (lv_at hl 0 rfl) ?_
  refine lv_iload_n hx hb d_Co_yearsLetOver_6 rfl (lv_at hl 1 rfl) ?_
  obtain ⟨v2, e_v2, h⟩ := pu_ob h
  refine pu_callR (va_runV (As := [.int x1]) (rest := [.int v1]) ⟨hx, hb, hml, hown, hts⟩ (c_Co_latest l D ca ad st _ x1 v2 e_v2) (xCW (C := "MuseumHouse$Contexts") 1 hts wd_3_12 wd_1_5 wd_3_9 wd_3_10 wd_3_11 (by decide +kernel) ⟨Nat.le_of_ble_eq_true rfl, Nat.le_of_ble_eq_true rfl⟩) (G.preV hP hS 3 rfl rfl) rfl rfl hl.1 rfl (lv_room (Nat.le_of_ble_eq_true rfl)) d_Co_yearsLetOver_7 ⟨Nat.zero_le _, Nat.zero_le _⟩) ?_
  refine lv_icmp_gt (tgt := 17) hx hb d_Co_yearsLetOver_10 (by decide) (fun c3 => ?_) (fun c3 => ?_)
  · rw [if_pos c3] at h
    refine lv_iconst (v := 0) hx hb d_Co_yearsLetOver_17 (by decide) ?_
    have h := Option.some.inj h
    exact W.zret (v := 0) (ty := .boolean) hx hb hr rfl (fun t ht _ => ⟨by rw [h], ht⟩) (fun _ q => by cases q) d_Co_yearsLetOver_18
  · rw [if_neg c3] at h
    refine lv_iconst (v := 1) hx hb d_Co_yearsLetOver_13 (by decide) ?_
    refine lv_goto (tgt := 18) hx hb d_Co_yearsLetOver_14 (by decide) ?_
    have h := Option.some.inj h
    exact W.zret (v := 1) (ty := .boolean) hx hb hr rfl (fun t ht _ => ⟨by rw [h], ht⟩) (fun _ q => by cases q) d_Co_yearsLetOver_18
set_option maxHeartbeats 4000000 in
set_option maxRecDepth 100000 in
theorem t_Co_putOver_b14 {l : Launch} (htl : l.stackTraces = false) {p : Program} {e : Env} {s : State} {m : MethodId} {args : Array Value} {below : List Frame} {meth : Method} {c : Code} {D : va_G} {ca : Nat → ClassId} {ad : Nat → Nat} {st' : pu_St} {v : Int32} (C : hC p s m meth c args b_Co_putOver 5 none "MuseumHouse$Contexts") (G : hX D ca ad (hA ad s.heap.size) s) :
    ∀ (n : Nat) (st : pu_St) (x1 x2 x3 x4 : Int32), f_Co_putOver_b14 n st x1 x2 x3 x4 = some (v, st') → ∀ (H : Heap) (locs : List Loc), va_P D hcl (hW ca ad st) H → va_S (hA ad s.heap.size) s.heap H locs → ∀ ls : Array Slot, lv_has ls 5 [(0, .ref (ad 3)), (1, .int x1), (2, .int x2), (3, .int x3), (4, .int x4)] → W p l e { frames := 1, cells := 0, slots := 0, locals := 22 } s m args below meth c H locs 0 0 (MQX below (hQ D ca ad (fun _ => none) (.inl v) st' s.heap.size) args s 0 0 (hA ad s.heap.size)) (F0 m 14 ls []) := by
  obtain ⟨hx, hb, hml, hr, hlocks, hno, hown, hts⟩ := id C
  intro n
  induction n with
  | zero => intro st x1 x2 x3 x4 h; cases h
  | succ n ih =>
    intro st x1 x2 x3 x4 h H locs hP hS ls hl
    unfold f_Co_putOver_b14 at h
    refine lv_iload hx hb d_Co_putOver_14 (lv_at hl 4 rfl) ?_
    refine lv_aload_n hx hb d_Co_putOver_16 rfl (lv_at hl 0 rfl) ?_
    obtain ⟨v2, e_v2, h⟩ := pu_ob h
    refine pu_callR (va_runU (As := []) (rest := [.int x4]) ⟨hx, hb, hml, hown, hts⟩ (c_Rg_size_Co l D ca ad st _ v2 e_v2) (xCU (C := "MuseumHouse$Contexts") (owner := "MuseumHouse$Register") (x := ⟨"MuseumHouse$Contexts", "size", "()I"⟩) 0 hts wd_3_4 wd_1_2 wd_2_239 wd_3_0 wd_3_3 wd_3_2 rfl (by decide +kernel) ⟨Nat.le_of_ble_eq_true rfl, Nat.le_of_ble_eq_true rfl⟩) (G.preV hP hS 3 rfl rfl) rfl rfl hl.1 rfl (lv_room (Nat.le_of_ble_eq_true rfl)) d_Co_putOver_17 ⟨Nat.zero_le _, Nat.zero_le _⟩) ?_
    refine lv_icmp_ge (tgt := 56) hx hb d_Co_putOver_20 (by decide) (fun c3 => ?_) (fun c3 => ?_)
    · rw [if_pos c3] at h
      cases h
      exact W.toX (W.vret hx hb hr (fun t ht _ => ⟨rfl, by rw [ht]; exact hP, hS.F ht⟩) hS.2.2 d_Co_putOver_56)
    · rw [if_neg c3] at h
      refine lv_iload hx hb d_Co_putOver_23 (lv_at hl 4 rfl) ?_
      refine lv_iload_n hx hb d_Co_putOver_25 rfl (lv_at hl 1 rfl) ?_
      refine lv_icmp_eq (tgt := 39) hx hb d_Co_putOver_26 (by decide) (fun c4 => ?_) (fun c4 => ?_)
      · rw [if_pos c4] at h
        refine lv_aload_n hx hb d_Co_putOver_39 rfl (lv_at hl 0 rfl) ?_
        refine va_get (D := D) (ci := 3) (v := .ref (ad 15)) (C := R_Co) (T := T_Co) (N := 7) hx hb hts iw_Co hown G.1 hP 3 rfl rfl 6 (by decide) (hts _ wd_1_77) (fun _ h9 => h9) rfl d_Co_putOver_40 ?_
        refine lv_iload hx hb d_Co_putOver_43 (lv_at hl 4 rfl) ?_
        refine lv_dup2_11 hx hb d_Co_putOver_45 rfl rfl ?_
        obtain ⟨v5, e_v5, h⟩ := pu_ob h
        refine pu_iald hx hb G.1 hP 15 4 rfl rfl e_v5 d_Co_putOver_46 ?_
        refine lv_iload_n hx hb d_Co_putOver_47 rfl (lv_at hl 3 rfl) ?_
        refine lv_ior hx hb d_Co_putOver_48 ?_
        obtain ⟨g6, e_g6, h⟩ := pu_ob h
        refine pu_iast hx hb G.1 hP (G.D) hS 15 4 rfl rfl e_g6 d_Co_putOver_49 (fun H locs hP hS => ?_)
        have hP : va_P D hcl (hW ca ad (st.1, va_up st.2 4 g6)) H := hP
        refine lv_iinc (v := (x4 + 1)) (lv' := [(4, .int (x4 + 1)), (0, .ref (ad 3)), (1, .int x1), (2, .int x2), (3, .int x3)]) hx hb d_Co_putOver_50 hl (k := 4) rfl rfl (by decide) rfl (fun ls hl => ?_)
        refine lv_goto (tgt := 14) hx hb d_Co_putOver_53 (by decide) ?_
        exact ih (st.1, va_up st.2 4 g6) x1 x2 x3 (x4 + 1) h _ _ hP hS ls (lv_sub hl [1, 2, 3, 4, 0] rfl)
      · rw [if_neg c4] at h
        refine lv_aload_n hx hb d_Co_putOver_29 rfl (lv_at hl 0 rfl) ?_
        refine lv_iload hx hb d_Co_putOver_30 (lv_at hl 4 rfl) ?_
        refine lv_iload_n hx hb d_Co_putOver_32 rfl (lv_at hl 1 rfl) ?_
        obtain ⟨v7, e_v7, h⟩ := pu_ob h
        refine pu_callR (va_runV (As := [.int x4, .int x1]) (rest := []) ⟨hx, hb, hml, hown, hts⟩ (c_Co_isOver l D ca ad st _ x4 x1 v7 e_v7) (xCW (C := "MuseumHouse$Contexts") 2 hts wd_2_226 wd_1_5 wd_3_5 wd_2_224 wd_2_225 (by decide +kernel) ⟨Nat.le_of_ble_eq_true rfl, Nat.le_of_ble_eq_true rfl⟩) (G.preV hP hS 3 rfl rfl) rfl rfl hl.1 rfl (lv_room (Nat.le_of_ble_eq_true rfl)) d_Co_putOver_33 ⟨Nat.zero_le _, Nat.zero_le _⟩) ?_
        refine lv_if_eq (tgt := 50) hx hb d_Co_putOver_36 (by decide) (fun c8 => ?_) (fun c8 => ?_)
        · rw [if_pos c8] at h
          refine lv_iinc (v := (x4 + 1)) (lv' := [(4, .int (x4 + 1)), (0, .ref (ad 3)), (1, .int x1), (2, .int x2), (3, .int x3)]) hx hb d_Co_putOver_50 hl (k := 4) rfl rfl (by decide) rfl (fun ls hl => ?_)
          refine lv_goto (tgt := 14) hx hb d_Co_putOver_53 (by decide) ?_
          exact ih st x1 x2 x3 (x4 + 1) h _ _ hP hS ls (lv_sub hl [1, 2, 3, 4, 0] rfl)
        · rw [if_neg c8] at h
          refine lv_aload_n hx hb d_Co_putOver_39 rfl (lv_at hl 0 rfl) ?_
          refine va_get (D := D) (ci := 3) (v := .ref (ad 15)) (C := R_Co) (T := T_Co) (N := 7) hx hb hts iw_Co hown G.1 hP 3 rfl rfl 6 (by decide) (hts _ wd_1_77) (fun _ h9 => h9) rfl d_Co_putOver_40 ?_
          refine lv_iload hx hb d_Co_putOver_43 (lv_at hl 4 rfl) ?_
          refine lv_dup2_11 hx hb d_Co_putOver_45 rfl rfl ?_
          obtain ⟨v9, e_v9, h⟩ := pu_ob h
          refine pu_iald hx hb G.1 hP 15 4 rfl rfl e_v9 d_Co_putOver_46 ?_
          refine lv_iload_n hx hb d_Co_putOver_47 rfl (lv_at hl 3 rfl) ?_
          refine lv_ior hx hb d_Co_putOver_48 ?_
          obtain ⟨g10, e_g10, h⟩ := pu_ob h
          refine pu_iast hx hb G.1 hP (G.D) hS 15 4 rfl rfl e_g10 d_Co_putOver_49 (fun H locs hP hS => ?_)
          have hP : va_P D hcl (hW ca ad (st.1, va_up st.2 4 g10)) H := hP
          refine lv_iinc (v := (x4 + 1)) (lv' := [(4, .int (x4 + 1)), (0, .ref (ad 3)), (1, .int x1), (2, .int x2), (3, .int x3)]) hx hb d_Co_putOver_50 hl (k := 4) rfl rfl (by decide) rfl (fun ls hl => ?_)
          refine lv_goto (tgt := 14) hx hb d_Co_putOver_53 (by decide) ?_
          exact ih (st.1, va_up st.2 4 g10) x1 x2 x3 (x4 + 1) h _ _ hP hS ls (lv_sub hl [1, 2, 3, 4, 0] rfl)
set_option maxHeartbeats 4000000 in
set_option maxRecDepth 100000 in
theorem c_Co_putOver (l : Launch) (htl : l.stackTraces = false) (D : va_G) (ca : Nat → ClassId) (ad : Nat → Nat) (st : pu_St) (sz : Nat) (x1 x2 : Int32) (v : Int32) (st' : pu_St) (h : f_Co_putOver st x1 x2 = some (v, st')) : MetX l y_Co_putOver (.code y_Co_putOver b_Co_putOver 5 none :: tG) { frames := 1, cells := 0, slots := 0, locals := 22 } (va_Pc [.ref (ad 3), .int x1, .int x2] (hPc D ca ad st sz)) (hQ D ca ad (fun _ => none) (.inl v) st' sz) 0 0 (hA ad sz) := by
  refine hMet (by decide +kernel) ?_
  intro p e s m below meth c hsz C G hP
  obtain ⟨hx, hb, hml, hr, hlocks, hno, hown, hts⟩ := id C
  have hown : s.vm.findClass "MuseumHouse$Contexts" = some m.cls := hown
  have hS : va_S (hA ad s.heap.size) s.heap s.heap [] := va_S.rf
  have hl := lv_entry ([.ref (ad 3), .int x1, .int x2]) (n := 5) (Nat.le_of_ble_eq_true rfl)
  rw [lg_entry_eq]
  generalize (lg_sl ([.ref (ad 3), .int x1, .int x2]) ++ List.replicate (5 - (lg_sl ([.ref (ad 3), .int x1, .int x2])).length) Slot.unset).toArray = ls at hl ⊢
  have hl : lv_has ls 5 [(0, .ref (ad 3)), (1, .int x1), (2, .int x2)] := hl
  unfold f_Co_putOver at h
  refine lv_aload_n hx hb d_Co_putOver_0 rfl (lv_at hl 0 rfl) ?_
  refine va_get (D := D) (ci := 3) (v := .ref (ad 15)) (C := R_Co) (T := T_Co) (N := 7) hx hb hts iw_Co hown G.1 hP 3 rfl rfl 6 (by decide) (hts _ wd_1_77) (fun _ h9 => h9) rfl d_Co_putOver_1 ?_
  refine lv_iload_n hx hb d_Co_putOver_4 rfl (lv_at hl 2 rfl) ?_
  obtain ⟨v1, e_v1, h⟩ := pu_ob h
  refine pu_iald hx hb G.1 hP 15 4 rfl rfl e_v1 d_Co_putOver_5 ?_
  refine lv_iconst (v := 1) hx hb d_Co_putOver_6 (by decide) ?_
  refine lv_iload_n hx hb d_Co_putOver_7 rfl (lv_at hl 2 rfl) ?_
  refine lv_ishl hx hb d_Co_putOver_8 ?_
  refine lv_ior hx hb d_Co_putOver_9 ?_
  refine lv_istore_n (lv' := [(3, .int (v1 ||| (1 <<< (x2 &&& 31)))), (0, .ref (ad 3)), (1, .int x1), (2, .int x2)]) hx hb d_Co_putOver_10 rfl hl (by decide) rfl (fun ls hl => ?_)
  refine lv_iconst (v := 0) hx hb d_Co_putOver_11 (by decide) ?_
  refine lv_istore (lv' := [(4, .int 0), (3, .int (v1 ||| (1 <<< (x2 &&& 31)))), (0, .ref (ad 3)), (1, .int x1), (2, .int x2)]) hx hb d_Co_putOver_12 hl (by decide) rfl (fun ls hl => ?_)
  exact t_Co_putOver_b14 htl C G pu_fu st x1 x2 (v1 ||| (1 <<< (x2 &&& 31))) 0 h _ _ hP hS ls (lv_sub hl [2, 3, 4, 1, 0] rfl)
set_option maxHeartbeats 4000000 in
set_option maxRecDepth 100000 in
theorem t_H_above_b140 {l : Launch} (htl : l.stackTraces = false) {p : Program} {e : Env} {s : State} {m : MethodId} {args : Array Value} {below : List Frame} {meth : Method} {c : Code} {D : va_G} {ca : Nat → ClassId} {ad : Nat → Nat} {st' : pu_St} {r : Int32 ⊕ Nat} (C : hC p s m meth c args b_H_above 8 (some .boolean) "MuseumHouse") (G : hX D ca ad (hA ad s.heap.size) s) :
    ∀ (_ : Unit) (st : pu_St) (x1 x2 x3 x4 x5 x6 z0 : Int32), f_H_above_b140 st x1 x2 x3 x4 x5 x6 z0 = some (r, st') → ∀ (H : Heap) (locs : List Loc), va_P D hcl (hW ca ad st) H → va_S (hA ad s.heap.size) s.heap H locs → ∀ ls : Array Slot, lv_has ls 8 [(0, .ref (ad 0)), (1, .int x1), (2, .int x2), (3, .int x3), (4, .int x4), (5, .int x5), (6, .int x6)] → W p l e { frames := 7, cells := xc r, slots := xs r, locals := 113 } s m args below meth c H locs 0 0 (MQX below (hQ D ca ad (fun v => some (.int v)) r st' s.heap.size) args s (xc r) (xs r) (hA ad s.heap.size)) (F0 m 140 ls [.int z0]) := by
  obtain ⟨hx, hb, hml, hr, hlocks, hno, hown, hts⟩ := id C
  intro _ st x1 x2 x3 x4 x5 x6 z0 h H locs hP hS ls hl
  unfold f_H_above_b140 at h
  refine lv_istore (lv' := [(7, .int z0), (0, .ref (ad 0)), (1, .int x1), (2, .int x2), (3, .int x3), (4, .int x4), (5, .int x5), (6, .int x6)]) hx hb d_H_above_140 hl (by decide) rfl (fun ls hl => ?_)
  refine lv_aload_n hx hb d_H_above_142 rfl (lv_at hl 1 rfl) ?_
  refine va_get (D := D) (ci := 0) (v := .ref (ad 3)) (C := R_H) (T := T_H) (N := 12) hx hb hts iw_H hown G.1 hP 0 rfl rfl 2 (by decide) (hts _ wd_1_214) (fun _ h9 => h9) rfl d_H_above_143 ?_
  refine lv_iload hx hb d_H_above_146 (lv_at hl 6 rfl) ?_
  refine lv_iload hx hb d_H_above_148 (lv_at hl 7 rfl) ?_
  obtain ⟨q24, e_q24, h⟩ := pu_ob h
  refine hCallU G hS (va_runV (As := [.int x5, .int x6]) (rest := []) ⟨hx, hb, hml, hown, hts⟩ (MetX.met (c_Co_putOver l htl D ca ad st _ x5 x6 q24.1 q24.2 e_q24) (fun _ _ _ _ q => ⟨_, q.1⟩)) (xCW (C := "MuseumHouse$Contexts") 2 hts wd_3_23 wd_1_5 wd_3_20 wd_3_21 wd_3_22 (by decide +kernel) ⟨Nat.le_of_ble_eq_true rfl, Nat.le_of_ble_eq_true rfl⟩) (G.preV hP hS 3 rfl rfl) rfl rfl hl.1 rfl (lv_room (Nat.le_of_ble_eq_true rfl)) d_H_above_150 ⟨Nat.zero_le _, Nat.zero_le _⟩) (fun H locs hP hS => ?_)
  refine lv_iload hx hb d_H_above_153 (lv_at hl 0 rfl) ?_
  obtain ⟨b25, e_b25, h⟩ := pu_ob h
  obtain ⟨e_b25, k_b25⟩ := pu_bo_inv e_b25
  cases h
  rw [e_b25]
  exact W.toX (W.zret (ty := .boolean) hx hb hr (by rcases k_b25 with e | e <;> rw [e] <;> rfl) (fun t ht _ => ⟨rfl, by rw [ht]; exact hP, hS.F ht⟩) hS.2.2 d_H_above_155)
set_option maxHeartbeats 4000000 in
set_option maxRecDepth 100000 in
theorem t_H_above_b101 {l : Launch} (htl : l.stackTraces = false) {p : Program} {e : Env} {s : State} {m : MethodId} {args : Array Value} {below : List Frame} {meth : Method} {c : Code} {D : va_G} {ca : Nat → ClassId} {ad : Nat → Nat} {st' : pu_St} {r : Int32 ⊕ Nat} (C : hC p s m meth c args b_H_above 8 (some .boolean) "MuseumHouse") (G : hX D ca ad (hA ad s.heap.size) s) :
    ∀ (_ : Unit) (st : pu_St) (x1 x2 x3 x4 x5 x6 z0 z1 : Int32), f_H_above_b101 st x1 x2 x3 x4 x5 x6 z0 z1 = some (r, st') → ∀ (H : Heap) (locs : List Loc), va_P D hcl (hW ca ad st) H → va_S (hA ad s.heap.size) s.heap H locs → ∀ ls : Array Slot, lv_has ls 8 [(0, .ref (ad 0)), (1, .int x1), (2, .int x2), (3, .int x3), (4, .int x4), (5, .int x5), (6, .int x6)] → W p l e { frames := 7, cells := xc r, slots := xs r, locals := 113 } s m args below meth c H locs 0 0 (MQX below (hQ D ca ad (fun v => some (.int v)) r st' s.heap.size) args s (xc r) (xs r) (hA ad s.heap.size)) (F0 m 101 ls [.int z0, .int z1, .ref (ad 0)]) := by
  obtain ⟨hx, hb, hml, hr, hlocks, hno, hown, hts⟩ := id C
  intro _ st x1 x2 x3 x4 x5 x6 z0 z1 h H locs hP hS ls hl
  unfold f_H_above_b101 at h
  rcases pu_xb_inv h with ⟨v17, st18, e_v17, h⟩ | ⟨v17, st18, e_v17, h⟩
  · refine hCallU G hS (va_runV (As := [.int z1, .int z0]) (rest := []) ⟨hx, hb, hml, hown, hts⟩ (MetX.met (c_H_ask l htl D ca ad st _ z1 z0 _ _ e_v17) (fun _ _ _ _ q => ⟨_, q.1⟩)) (xCW (C := "MuseumHouse") 2 hts wd_2_139 wd_1_1 wd_2_136 wd_2_138 wd_0_4 (by decide +kernel) ⟨Nat.le_of_ble_eq_true rfl, Nat.le_of_ble_eq_true rfl⟩) (G.preV hP hS 0 rfl rfl) rfl rfl hl.1 rfl (lv_room (Nat.le_of_ble_eq_true rfl)) d_H_above_101 ⟨Nat.zero_le _, Nat.zero_le _⟩) (fun H locs hP hS => ?_)
    refine lv_aload_n hx hb d_H_above_104 rfl (lv_at hl 0 rfl) ?_
    refine lv_bipush (v := 8) hx hb d_H_above_105 (by decide) ?_
    refine lv_aload_n hx hb d_H_above_107 rfl (lv_at hl 0 rfl) ?_
    refine va_get (D := D) (ci := 0) (v := .ref (ad 3)) (C := R_H) (T := T_H) (N := 12) hx hb hts iw_H hown G.1 hP 0 rfl rfl 2 (by decide) (hts _ wd_1_214) (fun _ h9 => h9) rfl d_H_above_108 ?_
    refine lv_iload hx hb d_H_above_111 (lv_at hl 5 rfl) ?_
    refine lv_iload hx hb d_H_above_113 (lv_at hl 6 rfl) ?_
    obtain ⟨v19, e_v19, h⟩ := pu_ob h
    refine pu_callR (va_runV (As := [.int x5, .int x6]) (rest := [.int 8, .ref (ad 0)]) ⟨hx, hb, hml, hown, hts⟩ (c_Co_yearsLetOver l D ca ad st18 _ x5 x6 v19 e_v19) (xCW (C := "MuseumHouse$Contexts") 2 hts wd_2_230 wd_1_5 wd_2_227 wd_2_228 wd_2_229 (by decide +kernel) ⟨Nat.le_of_ble_eq_true rfl, Nat.le_of_ble_eq_true rfl⟩) (G.preV hP hS 3 rfl rfl) rfl rfl hl.1 rfl (lv_room (Nat.le_of_ble_eq_true rfl)) d_H_above_115 ⟨Nat.zero_le _, Nat.zero_le _⟩) ?_
    rcases pu_xb_inv h with ⟨v20, st21, e_v20, h⟩ | ⟨v20, st21, e_v20, h⟩
    · refine hCallU G hS (va_runV (As := [.int 8, .int v19]) (rest := []) ⟨hx, hb, hml, hown, hts⟩ (MetX.met (c_H_ask l htl D ca ad st18 _ 8 v19 _ _ e_v20) (fun _ _ _ _ q => ⟨_, q.1⟩)) (xCW (C := "MuseumHouse") 2 hts wd_2_139 wd_1_1 wd_2_136 wd_2_138 wd_0_4 (by decide +kernel) ⟨Nat.le_of_ble_eq_true rfl, Nat.le_of_ble_eq_true rfl⟩) (G.preV hP hS 0 rfl rfl) rfl rfl hl.1 rfl (lv_room (Nat.le_of_ble_eq_true rfl)) d_H_above_118 ⟨Nat.zero_le _, Nat.zero_le _⟩) (fun H locs hP hS => ?_)
      refine lv_aload_n hx hb d_H_above_121 rfl (lv_at hl 0 rfl) ?_
      refine va_get (D := D) (ci := 0) (v := .ref (ad 3)) (C := R_H) (T := T_H) (N := 12) hx hb hts iw_H hown G.1 hP 0 rfl rfl 2 (by decide) (hts _ wd_1_214) (fun _ h9 => h9) rfl d_H_above_122 ?_
      refine lv_iload hx hb d_H_above_125 (lv_at hl 5 rfl) ?_
      refine lv_iload hx hb d_H_above_127 (lv_at hl 6 rfl) ?_
      obtain ⟨v22, e_v22, h⟩ := pu_ob h
      refine pu_callR (va_runV (As := [.int x5, .int x6]) (rest := []) ⟨hx, hb, hml, hown, hts⟩ (c_Co_isOver l D ca ad st21 _ x5 x6 v22 e_v22) (xCW (C := "MuseumHouse$Contexts") 2 hts wd_2_226 wd_1_5 wd_2_223 wd_2_224 wd_2_225 (by decide +kernel) ⟨Nat.le_of_ble_eq_true rfl, Nat.le_of_ble_eq_true rfl⟩) (G.preV hP hS 3 rfl rfl) rfl rfl hl.1 rfl (lv_room (Nat.le_of_ble_eq_true rfl)) d_H_above_129 ⟨Nat.zero_le _, Nat.zero_le _⟩) ?_
      refine lv_if_ne (tgt := 139) hx hb d_H_above_132 (by decide) (fun c23 => ?_) (fun c23 => ?_)
      · rw [if_neg c23] at h
        refine lv_iconst (v := 0) hx hb d_H_above_139 (by decide) ?_
        exact t_H_above_b140 htl C G () st21 x1 x2 x3 x4 x5 x6 0 h _ _ hP hS ls (lv_sub hl [0, 1, 2, 3, 4, 5, 6] rfl)
      · rw [if_pos c23] at h
        refine lv_iconst (v := 1) hx hb d_H_above_135 (by decide) ?_
        refine lv_goto (tgt := 140) hx hb d_H_above_136 (by decide) ?_
        exact t_H_above_b140 htl C G () st21 x1 x2 x3 x4 x5 x6 1 h _ _ hP hS ls (lv_sub hl [0, 1, 2, 3, 4, 5, 6] rfl)
    · cases h
      exact hThrV G hS hno hlocks ⟨hx, hb, hml, hown, hts⟩ (As := [.int 8, .int v19]) (rest := []) (c_H_ask l htl D ca ad st18 _ 8 v19 _ _ e_v20) (xCW (C := "MuseumHouse") 2 hts wd_2_139 wd_1_1 wd_2_136 wd_2_138 wd_0_4 (by decide +kernel) ⟨Nat.le_of_ble_eq_true rfl, Nat.le_of_ble_eq_true rfl⟩) (G.preV hP hS 0 rfl rfl) rfl rfl hl.1 rfl (lv_room (Nat.le_of_ble_eq_true rfl)) d_H_above_118 ⟨Nat.le_of_ble_eq_true rfl, Nat.le_of_ble_eq_true rfl⟩
  · cases h
    exact hThrV G hS hno hlocks ⟨hx, hb, hml, hown, hts⟩ (As := [.int z1, .int z0]) (rest := []) (c_H_ask l htl D ca ad st _ z1 z0 _ _ e_v17) (xCW (C := "MuseumHouse") 2 hts wd_2_139 wd_1_1 wd_2_136 wd_2_138 wd_0_4 (by decide +kernel) ⟨Nat.le_of_ble_eq_true rfl, Nat.le_of_ble_eq_true rfl⟩) (G.preV hP hS 0 rfl rfl) rfl rfl hl.1 rfl (lv_room (Nat.le_of_ble_eq_true rfl)) d_H_above_101 ⟨Nat.le_of_ble_eq_true rfl, Nat.le_of_ble_eq_true rfl⟩
set_option maxHeartbeats 4000000 in
set_option maxRecDepth 100000 in
theorem t_H_above_b100 {l : Launch} (htl : l.stackTraces = false) {p : Program} {e : Env} {s : State} {m : MethodId} {args : Array Value} {below : List Frame} {meth : Method} {c : Code} {D : va_G} {ca : Nat → ClassId} {ad : Nat → Nat} {st' : pu_St} {r : Int32 ⊕ Nat} (C : hC p s m meth c args b_H_above 8 (some .boolean) "MuseumHouse") (G : hX D ca ad (hA ad s.heap.size) s) :
    ∀ (_ : Unit) (st : pu_St) (x1 x2 x3 x4 x5 x6 z0 : Int32), f_H_above_b100 st x1 x2 x3 x4 x5 x6 z0 = some (r, st') → ∀ (H : Heap) (locs : List Loc), va_P D hcl (hW ca ad st) H → va_S (hA ad s.heap.size) s.heap H locs → ∀ ls : Array Slot, lv_has ls 8 [(0, .ref (ad 0)), (1, .int x1), (2, .int x2), (3, .int x3), (4, .int x4), (5, .int x5), (6, .int x6)] → W p l e { frames := 7, cells := xc r, slots := xs r, locals := 113 } s m args below meth c H locs 0 0 (MQX below (hQ D ca ad (fun v => some (.int v)) r st' s.heap.size) args s (xc r) (xs r) (hA ad s.heap.size)) (F0 m 100 ls [.int z0, .ref (ad 0)]) := by
  obtain ⟨hx, hb, hml, hr, hlocks, hno, hown, hts⟩ := id C
  intro _ st x1 x2 x3 x4 x5 x6 z0 h H locs hP hS ls hl
  unfold f_H_above_b100 at h
  refine lv_iconst (v := 0) hx hb d_H_above_100 (by decide) ?_
  exact t_H_above_b101 htl C G () st x1 x2 x3 x4 x5 x6 0 z0 h _ _ hP hS ls (lv_sub hl [0, 1, 2, 3, 4, 5, 6] rfl)
set_option maxHeartbeats 4000000 in
set_option maxRecDepth 100000 in
theorem t_H_above_b69 {l : Launch} (htl : l.stackTraces = false) {p : Program} {e : Env} {s : State} {m : MethodId} {args : Array Value} {below : List Frame} {meth : Method} {c : Code} {D : va_G} {ca : Nat → ClassId} {ad : Nat → Nat} {st' : pu_St} {r : Int32 ⊕ Nat} (C : hC p s m meth c args b_H_above 8 (some .boolean) "MuseumHouse") (G : hX D ca ad (hA ad s.heap.size) s) :
    ∀ (_ : Unit) (st : pu_St) (x1 x2 x3 x4 x5 x6 z0 z1 : Int32), f_H_above_b69 st x1 x2 x3 x4 x5 x6 z0 z1 = some (r, st') → ∀ (H : Heap) (locs : List Loc), va_P D hcl (hW ca ad st) H → va_S (hA ad s.heap.size) s.heap H locs → ∀ ls : Array Slot, lv_has ls 8 [(0, .ref (ad 0)), (1, .int x1), (2, .int x2), (3, .int x3), (4, .int x4), (5, .int x5), (6, .int x6)] → W p l e { frames := 7, cells := xc r, slots := xs r, locals := 113 } s m args below meth c H locs 0 0 (MQX below (hQ D ca ad (fun v => some (.int v)) r st' s.heap.size) args s (xc r) (xs r) (hA ad s.heap.size)) (F0 m 69 ls [.int z0, .int z1, .ref (ad 0)]) := by
  obtain ⟨hx, hb, hml, hr, hlocks, hno, hown, hts⟩ := id C
  intro _ st x1 x2 x3 x4 x5 x6 z0 z1 h H locs hP hS ls hl
  unfold f_H_above_b69 at h
  rcases pu_xb_inv h with ⟨v12, st13, e_v12, h⟩ | ⟨v12, st13, e_v12, h⟩
  · refine hCallU G hS (va_runV (As := [.int z1, .int z0]) (rest := []) ⟨hx, hb, hml, hown, hts⟩ (MetX.met (c_H_ask l htl D ca ad st _ z1 z0 _ _ e_v12) (fun _ _ _ _ q => ⟨_, q.1⟩)) (xCW (C := "MuseumHouse") 2 hts wd_2_139 wd_1_1 wd_2_136 wd_2_138 wd_0_4 (by decide +kernel) ⟨Nat.le_of_ble_eq_true rfl, Nat.le_of_ble_eq_true rfl⟩) (G.preV hP hS 0 rfl rfl) rfl rfl hl.1 rfl (lv_room (Nat.le_of_ble_eq_true rfl)) d_H_above_69 ⟨Nat.zero_le _, Nat.zero_le _⟩) (fun H locs hP hS => ?_)
    refine lv_aload_n hx hb d_H_above_72 rfl (lv_at hl 0 rfl) ?_
    refine lv_bipush (v := 7) hx hb d_H_above_73 (by decide) ?_
    refine lv_iload hx hb d_H_above_75 (lv_at hl 5 rfl) ?_
    refine lv_iload hx hb d_H_above_77 (lv_at hl 6 rfl) ?_
    refine lv_icmp_eq (tgt := 100) hx hb d_H_above_79 (by decide) (fun c14 => ?_) (fun c14 => ?_)
    · rw [if_pos c14] at h
      exact t_H_above_b100 htl C G () st13 x1 x2 x3 x4 x5 x6 7 h _ _ hP hS ls (lv_sub hl [0, 1, 2, 3, 4, 5, 6] rfl)
    · rw [if_neg c14] at h
      refine lv_aload_n hx hb d_H_above_82 rfl (lv_at hl 0 rfl) ?_
      refine va_get (D := D) (ci := 0) (v := .ref (ad 3)) (C := R_H) (T := T_H) (N := 12) hx hb hts iw_H hown G.1 hP 0 rfl rfl 2 (by decide) (hts _ wd_1_214) (fun _ h9 => h9) rfl d_H_above_83 ?_
      refine lv_iload hx hb d_H_above_86 (lv_at hl 6 rfl) ?_
      refine lv_iload hx hb d_H_above_88 (lv_at hl 5 rfl) ?_
      obtain ⟨v15, e_v15, h⟩ := pu_ob h
      refine pu_callR (va_runV (As := [.int x6, .int x5]) (rest := [.int 7, .ref (ad 0)]) ⟨hx, hb, hml, hown, hts⟩ (c_Co_isOver l D ca ad st13 _ x6 x5 v15 e_v15) (xCW (C := "MuseumHouse$Contexts") 2 hts wd_2_226 wd_1_5 wd_2_223 wd_2_224 wd_2_225 (by decide +kernel) ⟨Nat.le_of_ble_eq_true rfl, Nat.le_of_ble_eq_true rfl⟩) (G.preV hP hS 3 rfl rfl) rfl rfl hl.1 rfl (lv_room (Nat.le_of_ble_eq_true rfl)) d_H_above_90 ⟨Nat.zero_le _, Nat.zero_le _⟩) ?_
      refine lv_if_ne (tgt := 100) hx hb d_H_above_93 (by decide) (fun c16 => ?_) (fun c16 => ?_)
      · rw [if_neg c16] at h
        exact t_H_above_b100 htl C G () st13 x1 x2 x3 x4 x5 x6 7 h _ _ hP hS ls (lv_sub hl [0, 1, 2, 3, 4, 5, 6] rfl)
      · rw [if_pos c16] at h
        refine lv_iconst (v := 1) hx hb d_H_above_96 (by decide) ?_
        refine lv_goto (tgt := 101) hx hb d_H_above_97 (by decide) ?_
        exact t_H_above_b101 htl C G () st13 x1 x2 x3 x4 x5 x6 1 7 h _ _ hP hS ls (lv_sub hl [0, 1, 2, 3, 4, 5, 6] rfl)
  · cases h
    exact hThrV G hS hno hlocks ⟨hx, hb, hml, hown, hts⟩ (As := [.int z1, .int z0]) (rest := []) (c_H_ask l htl D ca ad st _ z1 z0 _ _ e_v12) (xCW (C := "MuseumHouse") 2 hts wd_2_139 wd_1_1 wd_2_136 wd_2_138 wd_0_4 (by decide +kernel) ⟨Nat.le_of_ble_eq_true rfl, Nat.le_of_ble_eq_true rfl⟩) (G.preV hP hS 0 rfl rfl) rfl rfl hl.1 rfl (lv_room (Nat.le_of_ble_eq_true rfl)) d_H_above_69 ⟨Nat.le_of_ble_eq_true rfl, Nat.le_of_ble_eq_true rfl⟩
set_option maxHeartbeats 4000000 in
set_option maxRecDepth 100000 in
theorem c_H_above (l : Launch) (htl : l.stackTraces = false) (D : va_G) (ca : Nat → ClassId) (ad : Nat → Nat) (st : pu_St) (sz : Nat) (x1 x2 x3 : Int32) (r : Int32 ⊕ Nat) (st' : pu_St) (h : f_H_above st x1 x2 x3 = some (r, st')) : MetX l y_H_above (.code y_H_above b_H_above 8 (some .boolean) :: tG) { frames := 7, cells := xc r, slots := xs r, locals := 113 } (va_Pc [.ref (ad 0), .int x1, .int x2, .int x3] (hPc D ca ad st sz)) (hQ D ca ad (fun v => some (.int v)) r st' sz) (xc r) (xs r) (hA ad sz) := by
  refine hMet (by decide +kernel) ?_
  intro p e s m below meth c hsz C G hP
  obtain ⟨hx, hb, hml, hr, hlocks, hno, hown, hts⟩ := id C
  have hown : s.vm.findClass "MuseumHouse" = some m.cls := hown
  have hS : va_S (hA ad s.heap.size) s.heap s.heap [] := va_S.rf
  have hl := lv_entry ([.ref (ad 0), .int x1, .int x2, .int x3]) (n := 8) (Nat.le_of_ble_eq_true rfl)
  rw [lg_entry_eq]
  generalize (lg_sl ([.ref (ad 0), .int x1, .int x2, .int x3]) ++ List.replicate (8 - (lg_sl ([.ref (ad 0), .int x1, .int x2, .int x3])).length) Slot.unset).toArray = ls at hl ⊢
  have hl : lv_has ls 8 [(0, .ref (ad 0)), (1, .int x1), (2, .int x2), (3, .int x3)] := hl
  unfold f_H_above at h
  refine lv_aload_n hx hb d_H_above_0 rfl (lv_at hl 0 rfl) ?_
  refine lv_aload_n hx hb d_H_above_1 rfl (lv_at hl 0 rfl) ?_
  refine va_get (D := D) (ci := 0) (v := .ref (ad 1)) (C := R_H) (T := T_H) (N := 12) hx hb hts iw_H hown G.1 hP 0 rfl rfl 0 (by decide) (hts _ wd_1_212) (fun _ h9 => h9) rfl d_H_above_2 ?_
  refine lv_iload_n hx hb d_H_above_5 rfl (lv_at hl 1 rfl) ?_
  rcases pu_xb_inv h with ⟨v1, st2, e_v1, h⟩ | ⟨v1, st2, e_v1, h⟩
  · refine hCallI G hS (va_runV (As := [.ref (ad 1), .int x1]) (rest := []) ⟨hx, hb, hml, hown, hts⟩ (MetX.met (c_H_numberOf_De l htl D ca ad st _ x1 _ _ e_v1) (fun _ _ _ _ q => ⟨_, q.1⟩)) (xCW (C := "MuseumHouse") 2 hts wd_2_26 wd_1_1 wd_2_23 wd_2_25 wd_0_0 (by decide +kernel) ⟨Nat.le_of_ble_eq_true rfl, Nat.le_of_ble_eq_true rfl⟩) (G.preV hP hS 0 rfl rfl) rfl rfl hl.1 rfl (lv_room (Nat.le_of_ble_eq_true rfl)) d_H_above_6 ⟨Nat.zero_le _, Nat.zero_le _⟩) (fun H locs hP hS => ?_)
    refine lv_istore (lv' := [(4, .int v1), (0, .ref (ad 0)), (1, .int x1), (2, .int x2), (3, .int x3)]) hx hb d_H_above_9 hl (by decide) rfl (fun ls hl => ?_)
    refine lv_aload_n hx hb d_H_above_11 rfl (lv_at hl 1 rfl) ?_
    refine lv_aload_n hx hb d_H_above_12 rfl (lv_at hl 1 rfl) ?_
    refine va_get (D := D) (ci := 0) (v := .ref (ad 3)) (C := R_H) (T := T_H) (N := 12) hx hb hts iw_H hown G.1 hP 0 rfl rfl 2 (by decide) (hts _ wd_1_214) (fun _ h9 => h9) rfl d_H_above_13 ?_
    refine lv_iload_n hx hb d_H_above_16 rfl (lv_at hl 3 rfl) ?_
    rcases pu_xb_inv h with ⟨v3, st4, e_v3, h⟩ | ⟨v3, st4, e_v3, h⟩
    · refine hCallI G hS (va_runV (As := [.ref (ad 3), .int x2]) (rest := []) ⟨hx, hb, hml, hown, hts⟩ (MetX.met (c_H_numberOf_Co l htl D ca ad st2 _ x2 _ _ e_v3) (fun _ _ _ _ q => ⟨_, q.1⟩)) (xCW (C := "MuseumHouse") 2 hts wd_2_26 wd_1_1 wd_2_23 wd_2_25 wd_0_0 (by decide +kernel) ⟨Nat.le_of_ble_eq_true rfl, Nat.le_of_ble_eq_true rfl⟩) (G.preV hP hS 0 rfl rfl) rfl rfl hl.1 rfl (lv_room (Nat.le_of_ble_eq_true rfl)) d_H_above_17 ⟨Nat.zero_le _, Nat.zero_le _⟩) (fun H locs hP hS => ?_)
      refine lv_istore (lv' := [(5, .int v3), (4, .int v1), (0, .ref (ad 0)), (1, .int x1), (2, .int x2), (3, .int x3)]) hx hb d_H_above_20 hl (by decide) rfl (fun ls hl => ?_)
      refine lv_aload_n hx hb d_H_above_22 rfl (lv_at hl 2 rfl) ?_
      refine lv_aload_n hx hb d_H_above_23 rfl (lv_at hl 2 rfl) ?_
      refine va_get (D := D) (ci := 0) (v := .ref (ad 3)) (C := R_H) (T := T_H) (N := 12) hx hb hts iw_H hown G.1 hP 0 rfl rfl 2 (by decide) (hts _ wd_1_214) (fun _ h9 => h9) rfl d_H_above_24 ?_
      refine lv_iload_n hx hb d_H_above_27 rfl (lv_at hl 5 rfl) ?_
      rcases pu_xb_inv h with ⟨v5, st6, e_v5, h⟩ | ⟨v5, st6, e_v5, h⟩
      · refine hCallI G hS (va_runV (As := [.ref (ad 3), .int x3]) (rest := []) ⟨hx, hb, hml, hown, hts⟩ (MetX.met (c_H_numberOf_Co l htl D ca ad st4 _ x3 _ _ e_v5) (fun _ _ _ _ q => ⟨_, q.1⟩)) (xCW (C := "MuseumHouse") 2 hts wd_2_26 wd_1_1 wd_2_23 wd_2_25 wd_0_0 (by decide +kernel) ⟨Nat.le_of_ble_eq_true rfl, Nat.le_of_ble_eq_true rfl⟩) (G.preV hP hS 0 rfl rfl) rfl rfl hl.1 rfl (lv_room (Nat.le_of_ble_eq_true rfl)) d_H_above_28 ⟨Nat.zero_le _, Nat.zero_le _⟩) (fun H locs hP hS => ?_)
        refine lv_istore (lv' := [(6, .int v5), (5, .int v3), (4, .int v1), (0, .ref (ad 0)), (1, .int x1), (2, .int x2), (3, .int x3)]) hx hb d_H_above_31 hl (by decide) rfl (fun ls hl => ?_)
        refine lv_aload_n hx hb d_H_above_33 rfl (lv_at hl 3 rfl) ?_
        refine lv_iload hx hb d_H_above_34 (lv_at hl 2 rfl) ?_
        refine lv_iconst (v := 2) hx hb d_H_above_36 (by decide) ?_
        rcases pu_xb_inv h with ⟨v7, st8, e_v7, h⟩ | ⟨v7, st8, e_v7, h⟩
        · refine hCallU G hS (va_runV (As := [.int v1, .int 2]) (rest := []) ⟨hx, hb, hml, hown, hts⟩ (MetX.met (c_H_askRight l htl D ca ad st6 _ v1 2 _ _ e_v7) (fun _ _ _ _ q => ⟨_, q.1⟩)) (xCW (C := "MuseumHouse") 2 hts wd_2_106 wd_1_1 wd_2_103 wd_2_105 wd_0_2 (by decide +kernel) ⟨Nat.le_of_ble_eq_true rfl, Nat.le_of_ble_eq_true rfl⟩) (G.preV hP hS 0 rfl rfl) rfl rfl hl.1 rfl (lv_room (Nat.le_of_ble_eq_true rfl)) d_H_above_37 ⟨Nat.zero_le _, Nat.zero_le _⟩) (fun H locs hP hS => ?_)
          refine lv_aload_n hx hb d_H_above_40 rfl (lv_at hl 3 rfl) ?_
          refine lv_bipush (v := 6) hx hb d_H_above_41 (by decide) ?_
          refine lv_aload_n hx hb d_H_above_43 rfl (lv_at hl 3 rfl) ?_
          refine va_get (D := D) (ci := 0) (v := .ref (ad 3)) (C := R_H) (T := T_H) (N := 12) hx hb hts iw_H hown G.1 hP 0 rfl rfl 2 (by decide) (hts _ wd_1_214) (fun _ h9 => h9) rfl d_H_above_44 ?_
          refine lv_iload hx hb d_H_above_47 (lv_at hl 1 rfl) ?_
          obtain ⟨v9, e_v9, h⟩ := pu_ob h
          refine pu_callR (va_runV (As := [.int v3]) (rest := [.int 6, .ref (ad 0)]) ⟨hx, hb, hml, hown, hts⟩ (c_Co_siteOf l D ca ad st8 _ v3 v9 e_v9) (xCW (C := "MuseumHouse$Contexts") 1 hts wd_2_222 wd_1_5 wd_2_219 wd_2_220 wd_2_221 (by decide +kernel) ⟨Nat.le_of_ble_eq_true rfl, Nat.le_of_ble_eq_true rfl⟩) (G.preV hP hS 3 rfl rfl) rfl rfl hl.1 rfl (lv_room (Nat.le_of_ble_eq_true rfl)) d_H_above_49 ⟨Nat.zero_le _, Nat.zero_le _⟩) ?_
          refine lv_aload_n hx hb d_H_above_52 rfl (lv_at hl 3 rfl) ?_
          refine va_get (D := D) (ci := 0) (v := .ref (ad 3)) (C := R_H) (T := T_H) (N := 12) hx hb hts iw_H hown G.1 hP 0 rfl rfl 2 (by decide) (hts _ wd_1_214) (fun _ h9 => h9) rfl d_H_above_53 ?_
          refine lv_iload hx hb d_H_above_56 (lv_at hl 0 rfl) ?_
          obtain ⟨v10, e_v10, h⟩ := pu_ob h
          refine pu_callR (va_runV (As := [.int v5]) (rest := [.int v9, .int 6, .ref (ad 0)]) ⟨hx, hb, hml, hown, hts⟩ (c_Co_siteOf l D ca ad st8 _ v5 v10 e_v10) (xCW (C := "MuseumHouse$Contexts") 1 hts wd_2_222 wd_1_5 wd_2_219 wd_2_220 wd_2_221 (by decide +kernel) ⟨Nat.le_of_ble_eq_true rfl, Nat.le_of_ble_eq_true rfl⟩) (G.preV hP hS 3 rfl rfl) rfl rfl hl.1 rfl (lv_room (Nat.le_of_ble_eq_true rfl)) d_H_above_58 ⟨Nat.zero_le _, Nat.zero_le _⟩) ?_
          refine lv_icmp_ne (tgt := 68) hx hb d_H_above_61 (by decide) (fun c11 => ?_) (fun c11 => ?_)
          · rw [if_neg c11] at h
            refine lv_iconst (v := 0) hx hb d_H_above_68 (by decide) ?_
            exact t_H_above_b69 htl C G () st8 x1 x2 x3 v1 v3 v5 0 6 h _ _ hP hS ls (lv_sub hl [3, 4, 5, 6, 2, 1, 0] rfl)
          · rw [if_pos c11] at h
            refine lv_iconst (v := 1) hx hb d_H_above_64 (by decide) ?_
            refine lv_goto (tgt := 69) hx hb d_H_above_65 (by decide) ?_
            exact t_H_above_b69 htl C G () st8 x1 x2 x3 v1 v3 v5 1 6 h _ _ hP hS ls (lv_sub hl [3, 4, 5, 6, 2, 1, 0] rfl)
        · cases h
          exact hThrV G hS hno hlocks ⟨hx, hb, hml, hown, hts⟩ (As := [.int v1, .int 2]) (rest := []) (c_H_askRight l htl D ca ad st6 _ v1 2 _ _ e_v7) (xCW (C := "MuseumHouse") 2 hts wd_2_106 wd_1_1 wd_2_103 wd_2_105 wd_0_2 (by decide +kernel) ⟨Nat.le_of_ble_eq_true rfl, Nat.le_of_ble_eq_true rfl⟩) (G.preV hP hS 0 rfl rfl) rfl rfl hl.1 rfl (lv_room (Nat.le_of_ble_eq_true rfl)) d_H_above_37 ⟨Nat.le_of_ble_eq_true rfl, Nat.le_of_ble_eq_true rfl⟩
      · cases h
        exact hThrV G hS hno hlocks ⟨hx, hb, hml, hown, hts⟩ (As := [.ref (ad 3), .int x3]) (rest := []) (c_H_numberOf_Co l htl D ca ad st4 _ x3 _ _ e_v5) (xCW (C := "MuseumHouse") 2 hts wd_2_26 wd_1_1 wd_2_23 wd_2_25 wd_0_0 (by decide +kernel) ⟨Nat.le_of_ble_eq_true rfl, Nat.le_of_ble_eq_true rfl⟩) (G.preV hP hS 0 rfl rfl) rfl rfl hl.1 rfl (lv_room (Nat.le_of_ble_eq_true rfl)) d_H_above_28 ⟨Nat.le_of_ble_eq_true rfl, Nat.le_of_ble_eq_true rfl⟩
    · cases h
      exact hThrV G hS hno hlocks ⟨hx, hb, hml, hown, hts⟩ (As := [.ref (ad 3), .int x2]) (rest := []) (c_H_numberOf_Co l htl D ca ad st2 _ x2 _ _ e_v3) (xCW (C := "MuseumHouse") 2 hts wd_2_26 wd_1_1 wd_2_23 wd_2_25 wd_0_0 (by decide +kernel) ⟨Nat.le_of_ble_eq_true rfl, Nat.le_of_ble_eq_true rfl⟩) (G.preV hP hS 0 rfl rfl) rfl rfl hl.1 rfl (lv_room (Nat.le_of_ble_eq_true rfl)) d_H_above_17 ⟨Nat.le_of_ble_eq_true rfl, Nat.le_of_ble_eq_true rfl⟩
  · cases h
    exact hThrV G hS hno hlocks ⟨hx, hb, hml, hown, hts⟩ (As := [.ref (ad 1), .int x1]) (rest := []) (c_H_numberOf_De l htl D ca ad st _ x1 _ _ e_v1) (xCW (C := "MuseumHouse") 2 hts wd_2_26 wd_1_1 wd_2_23 wd_2_25 wd_0_0 (by decide +kernel) ⟨Nat.le_of_ble_eq_true rfl, Nat.le_of_ble_eq_true rfl⟩) (G.preV hP hS 0 rfl rfl) rfl rfl hl.1 rfl (lv_room (Nat.le_of_ble_eq_true rfl)) d_H_above_6 ⟨Nat.le_of_ble_eq_true rfl, Nat.le_of_ble_eq_true rfl⟩
set_option maxHeartbeats 4000000 in
set_option maxRecDepth 100000 in
theorem c_Co_yearsLetSpan (l : Launch) (D : va_G) (ca : Nat → ClassId) (ad : Nat → Nat) (st : pu_St) (sz : Nat) (x1 x2 x3 : Int32) (r : Int32) (h : f_Co_yearsLetSpan st x1 x2 x3 = some r) : Met l y_Co_yearsLetSpan (.code y_Co_yearsLetSpan b_Co_yearsLetSpan 4 (some .boolean) :: tG) { frames := 2, cells := 0, slots := 0, locals := 52 } (va_Pc [.ref (ad 3), .int x1, .int x2, .int x3] (hPc D ca ad st sz)) (QcRead r) 0 0 (fun _ => False) := by
  refine hRead (by decide +kernel) ?_
  intro p e s m below meth c C G hP
  obtain ⟨hx, hb, hml, hr, hlocks, hno, hown, hts⟩ := id C
  have hown : s.vm.findClass "MuseumHouse$Contexts" = some m.cls := hown
  have hS : va_S (hA ad s.heap.size) s.heap s.heap [] := va_S.rf
  have hl := lv_entry ([.ref (ad 3), .int x1, .int x2, .int x3]) (n := 4) (Nat.le_of_ble_eq_true rfl)
  rw [lg_entry_eq]
  generalize (lg_sl ([.ref (ad 3), .int x1, .int x2, .int x3]) ++ List.replicate (4 - (lg_sl ([.ref (ad 3), .int x1, .int x2, .int x3])).length) Slot.unset).toArray = ls at hl ⊢
  have hl : lv_has ls 4 [(0, .ref (ad 3)), (1, .int x1), (2, .int x2), (3, .int x3)] := hl
  unfold f_Co_yearsLetSpan at h
  refine lv_aload_n hx hb d_Co_yearsLetSpan_0 rfl (lv_at hl 0 rfl) ?_
  refine lv_iload_n hx hb d_Co_yearsLetSpan_1 rfl (lv_at hl 1 rfl) ?_
  obtain ⟨v1, e_v1, h⟩ := pu_ob h
  refine pu_callR (va_runV (As := [.int x1]) (rest := []) ⟨hx, hb, hml, hown, hts⟩ (c_Co_greatestFirstBelow l D ca ad st _ x1 v1 e_v1) (xCW (C := "MuseumHouse$Contexts") 1 hts wd_2_238 wd_1_5 wd_2_235 wd_2_237 wd_0_5 (by decide +kernel) ⟨Nat.le_of_ble_eq_true rfl, Nat.le_of_ble_eq_true rfl⟩) (G.preV hP hS 3 rfl rfl) rfl rfl hl.1 rfl (lv_room (Nat.le_of_ble_eq_true rfl)) d_Co_yearsLetSpan_2 ⟨Nat.zero_le _, Nat.zero_le _⟩) ?_
  refine lv_iload_n hx hb d_Co_yearsLetSpan_5 rfl (lv_at hl 3 rfl) ?_
  refine lv_icmp_gt (tgt := 22) hx hb d_Co_yearsLetSpan_6 (by decide) (fun c2 => ?_) (fun c2 => ?_)
  · rw [if_pos c2] at h
    refine lv_iconst (v := 0) hx hb d_Co_yearsLetSpan_22 (by decide) ?_
    have h := Option.some.inj h
    exact W.zret (v := 0) (ty := .boolean) hx hb hr rfl (fun t ht _ => ⟨by rw [h], ht⟩) (fun _ q => by cases q) d_Co_yearsLetSpan_23
  · rw [if_neg c2] at h
    refine lv_iload_n hx hb d_Co_yearsLetSpan_9 rfl (lv_at hl 2 rfl) ?_
    refine lv_aload_n hx hb d_Co_yearsLetSpan_10 rfl (lv_at hl 0 rfl) ?_
    refine lv_iload_n hx hb d_Co_yearsLetSpan_11 rfl (lv_at hl 1 rfl) ?_
    obtain ⟨v3, e_v3, h⟩ := pu_ob h
    refine pu_callR (va_runV (As := [.int x1]) (rest := [.int x2]) ⟨hx, hb, hml, hown, hts⟩ (c_Co_leastLastAbove l D ca ad st _ x1 v3 e_v3) (xCW (C := "MuseumHouse$Contexts") 1 hts wd_3_16 wd_1_5 wd_3_13 wd_3_15 wd_0_6 (by decide +kernel) ⟨Nat.le_of_ble_eq_true rfl, Nat.le_of_ble_eq_true rfl⟩) (G.preV hP hS 3 rfl rfl) rfl rfl hl.1 rfl (lv_room (Nat.le_of_ble_eq_true rfl)) d_Co_yearsLetSpan_12 ⟨Nat.zero_le _, Nat.zero_le _⟩) ?_
    refine lv_icmp_gt (tgt := 22) hx hb d_Co_yearsLetSpan_15 (by decide) (fun c4 => ?_) (fun c4 => ?_)
    · rw [if_pos c4] at h
      refine lv_iconst (v := 0) hx hb d_Co_yearsLetSpan_22 (by decide) ?_
      have h := Option.some.inj h
      exact W.zret (v := 0) (ty := .boolean) hx hb hr rfl (fun t ht _ => ⟨by rw [h], ht⟩) (fun _ q => by cases q) d_Co_yearsLetSpan_23
    · rw [if_neg c4] at h
      refine lv_iconst (v := 1) hx hb d_Co_yearsLetSpan_18 (by decide) ?_
      refine lv_goto (tgt := 23) hx hb d_Co_yearsLetSpan_19 (by decide) ?_
      have h := Option.some.inj h
      exact W.zret (v := 1) (ty := .boolean) hx hb hr rfl (fun t ht _ => ⟨by rw [h], ht⟩) (fun _ q => by cases q) d_Co_yearsLetSpan_23
set_option maxHeartbeats 4000000 in
set_option maxRecDepth 100000 in
theorem c_Co_setSpan (l : Launch) (htl : l.stackTraces = false) (D : va_G) (ca : Nat → ClassId) (ad : Nat → Nat) (st : pu_St) (sz : Nat) (x1 x2 x3 : Int32) (v : Int32) (st' : pu_St) (h : f_Co_setSpan st x1 x2 x3 = some (v, st')) : MetX l y_Co_setSpan (.code y_Co_setSpan b_Co_setSpan 4 none :: tG) { frames := 0, cells := 0, slots := 0, locals := 0 } (va_Pc [.ref (ad 3), .int x1, .int x2, .int x3] (hPc D ca ad st sz)) (hQ D ca ad (fun _ => none) (.inl v) st' sz) 0 0 (hA ad sz) := by
  refine hMet (by decide +kernel) ?_
  intro p e s m below meth c hsz C G hP
  obtain ⟨hx, hb, hml, hr, hlocks, hno, hown, hts⟩ := id C
  have hown : s.vm.findClass "MuseumHouse$Contexts" = some m.cls := hown
  have hS : va_S (hA ad s.heap.size) s.heap s.heap [] := va_S.rf
  have hl := lv_entry ([.ref (ad 3), .int x1, .int x2, .int x3]) (n := 4) (Nat.le_of_ble_eq_true rfl)
  rw [lg_entry_eq]
  generalize (lg_sl ([.ref (ad 3), .int x1, .int x2, .int x3]) ++ List.replicate (4 - (lg_sl ([.ref (ad 3), .int x1, .int x2, .int x3])).length) Slot.unset).toArray = ls at hl ⊢
  have hl : lv_has ls 4 [(0, .ref (ad 3)), (1, .int x1), (2, .int x2), (3, .int x3)] := hl
  unfold f_Co_setSpan at h
  refine lv_aload_n hx hb d_Co_setSpan_0 rfl (lv_at hl 0 rfl) ?_
  refine va_get (D := D) (ci := 3) (v := .ref (ad 13)) (C := R_Co) (T := T_Co) (N := 7) hx hb hts iw_Co hown G.1 hP 3 rfl rfl 4 (by decide) (hts _ wd_1_75) (fun _ h9 => h9) rfl d_Co_setSpan_1 ?_
  refine lv_iload_n hx hb d_Co_setSpan_4 rfl (lv_at hl 1 rfl) ?_
  refine lv_iload_n hx hb d_Co_setSpan_5 rfl (lv_at hl 2 rfl) ?_
  obtain ⟨g1, e_g1, h⟩ := pu_ob h
  refine pu_iast hx hb G.1 hP (G.D) hS 13 2 rfl rfl e_g1 d_Co_setSpan_6 (fun H locs hP hS => ?_)
  have hP : va_P D hcl (hW ca ad (st.1, va_up st.2 2 g1)) H := hP
  refine lv_aload_n hx hb d_Co_setSpan_7 rfl (lv_at hl 0 rfl) ?_
  refine va_get (D := D) (ci := 3) (v := .ref (ad 14)) (C := R_Co) (T := T_Co) (N := 7) hx hb hts iw_Co hown G.1 hP 3 rfl rfl 5 (by decide) (hts _ wd_1_76) (fun _ h9 => h9) rfl d_Co_setSpan_8 ?_
  refine lv_iload_n hx hb d_Co_setSpan_11 rfl (lv_at hl 1 rfl) ?_
  refine lv_iload_n hx hb d_Co_setSpan_12 rfl (lv_at hl 3 rfl) ?_
  obtain ⟨g2, e_g2, h⟩ := pu_ob h
  refine pu_iast hx hb G.1 hP (G.D) hS 14 3 rfl rfl e_g2 d_Co_setSpan_13 (fun H locs hP hS => ?_)
  have hP : va_P D hcl (hW ca ad ((st.1, va_up st.2 2 g1).1, va_up (st.1, va_up st.2 2 g1).2 3 g2)) H := hP
  cases h
  exact W.toX (W.vret hx hb hr (fun t ht _ => ⟨rfl, by rw [ht]; exact hP, hS.F ht⟩) hS.2.2 d_Co_setSpan_14)
set_option maxHeartbeats 4000000 in
set_option maxRecDepth 100000 in
theorem t_H_span_b54 {l : Launch} (htl : l.stackTraces = false) {p : Program} {e : Env} {s : State} {m : MethodId} {args : Array Value} {below : List Frame} {meth : Method} {c : Code} {D : va_G} {ca : Nat → ClassId} {ad : Nat → Nat} {st' : pu_St} {r : Int32 ⊕ Nat} (C : hC p s m meth c args b_H_span 7 (some .int) "MuseumHouse") (G : hX D ca ad (hA ad s.heap.size) s) :
    ∀ (_ : Unit) (st : pu_St) (x1 x2 x3 x4 x5 x6 z0 z1 : Int32), f_H_span_b54 st x1 x2 x3 x4 x5 x6 z0 z1 = some (r, st') → ∀ (H : Heap) (locs : List Loc), va_P D hcl (hW ca ad st) H → va_S (hA ad s.heap.size) s.heap H locs → ∀ ls : Array Slot, lv_has ls 7 [(0, .ref (ad 0)), (1, .int x1), (2, .int x2), (3, .int x3), (4, .int x4), (5, .int x5), (6, .int x6)] → W p l e { frames := 7, cells := xc r, slots := xs r, locals := 113 } s m args below meth c H locs 0 0 (MQX below (hQ D ca ad (fun v => some (.int v)) r st' s.heap.size) args s (xc r) (xs r) (hA ad s.heap.size)) (F0 m 54 ls [.int z0, .int z1, .ref (ad 0)]) := by
  obtain ⟨hx, hb, hml, hr, hlocks, hno, hown, hts⟩ := id C
  intro _ st x1 x2 x3 x4 x5 x6 z0 z1 h H locs hP hS ls hl
  unfold f_H_span_b54 at h
  rcases pu_xb_inv h with ⟨v10, st11, e_v10, h⟩ | ⟨v10, st11, e_v10, h⟩
  · refine hCallU G hS (va_runV (As := [.int z1, .int z0]) (rest := []) ⟨hx, hb, hml, hown, hts⟩ (MetX.met (c_H_ask l htl D ca ad st _ z1 z0 _ _ e_v10) (fun _ _ _ _ q => ⟨_, q.1⟩)) (xCW (C := "MuseumHouse") 2 hts wd_2_139 wd_1_1 wd_2_136 wd_2_138 wd_0_4 (by decide +kernel) ⟨Nat.le_of_ble_eq_true rfl, Nat.le_of_ble_eq_true rfl⟩) (G.preV hP hS 0 rfl rfl) rfl rfl hl.1 rfl (lv_room (Nat.le_of_ble_eq_true rfl)) d_H_span_54 ⟨Nat.zero_le _, Nat.zero_le _⟩) (fun H locs hP hS => ?_)
    refine lv_aload_n hx hb d_H_span_57 rfl (lv_at hl 0 rfl) ?_
    refine lv_bipush (v := 8) hx hb d_H_span_58 (by decide) ?_
    refine lv_aload_n hx hb d_H_span_60 rfl (lv_at hl 0 rfl) ?_
    refine va_get (D := D) (ci := 0) (v := .ref (ad 3)) (C := R_H) (T := T_H) (N := 12) hx hb hts iw_H hown G.1 hP 0 rfl rfl 2 (by decide) (hts _ wd_1_214) (fun _ h9 => h9) rfl d_H_span_61 ?_
    refine lv_iload hx hb d_H_span_64 (lv_at hl 6 rfl) ?_
    refine lv_iload_n hx hb d_H_span_66 rfl (lv_at hl 3 rfl) ?_
    refine lv_iload hx hb d_H_span_67 (lv_at hl 4 rfl) ?_
    obtain ⟨v12, e_v12, h⟩ := pu_ob h
    refine pu_callR (va_runV (As := [.int x6, .int x3, .int x4]) (rest := [.int 8, .ref (ad 0)]) ⟨hx, hb, hml, hown, hts⟩ (c_Co_yearsLetSpan l D ca ad st11 _ x6 x3 x4 v12 e_v12) (xCW (C := "MuseumHouse$Contexts") 3 hts wd_3_34 wd_1_5 wd_3_31 wd_3_32 wd_3_33 (by decide +kernel) ⟨Nat.le_of_ble_eq_true rfl, Nat.le_of_ble_eq_true rfl⟩) (G.preV hP hS 3 rfl rfl) rfl rfl hl.1 rfl (lv_room (Nat.le_of_ble_eq_true rfl)) d_H_span_69 ⟨Nat.zero_le _, Nat.zero_le _⟩) ?_
    rcases pu_xb_inv h with ⟨v13, st14, e_v13, h⟩ | ⟨v13, st14, e_v13, h⟩
    · refine hCallU G hS (va_runV (As := [.int 8, .int v12]) (rest := []) ⟨hx, hb, hml, hown, hts⟩ (MetX.met (c_H_ask l htl D ca ad st11 _ 8 v12 _ _ e_v13) (fun _ _ _ _ q => ⟨_, q.1⟩)) (xCW (C := "MuseumHouse") 2 hts wd_2_139 wd_1_1 wd_2_136 wd_2_138 wd_0_4 (by decide +kernel) ⟨Nat.le_of_ble_eq_true rfl, Nat.le_of_ble_eq_true rfl⟩) (G.preV hP hS 0 rfl rfl) rfl rfl hl.1 rfl (lv_room (Nat.le_of_ble_eq_true rfl)) d_H_span_72 ⟨Nat.zero_le _, Nat.zero_le _⟩) (fun H locs hP hS => ?_)
      refine lv_aload_n hx hb d_H_span_75 rfl (lv_at hl 0 rfl) ?_
      refine va_get (D := D) (ci := 0) (v := .ref (ad 3)) (C := R_H) (T := T_H) (N := 12) hx hb hts iw_H hown G.1 hP 0 rfl rfl 2 (by decide) (hts _ wd_1_214) (fun _ h9 => h9) rfl d_H_span_76 ?_
      refine lv_iload hx hb d_H_span_79 (lv_at hl 6 rfl) ?_
      refine lv_iload_n hx hb d_H_span_81 rfl (lv_at hl 3 rfl) ?_
      refine lv_iload hx hb d_H_span_82 (lv_at hl 4 rfl) ?_
      obtain ⟨q15, e_q15, h⟩ := pu_ob h
      refine hCallU G hS (va_runV (As := [.int x6, .int x3, .int x4]) (rest := []) ⟨hx, hb, hml, hown, hts⟩ (MetX.met (c_Co_setSpan l htl D ca ad st14 _ x6 x3 x4 q15.1 q15.2 e_q15) (fun _ _ _ _ q => ⟨_, q.1⟩)) (xCW (C := "MuseumHouse$Contexts") 3 hts wd_3_38 wd_1_5 wd_3_35 wd_3_36 wd_3_37 (by decide +kernel) ⟨Nat.le_of_ble_eq_true rfl, Nat.le_of_ble_eq_true rfl⟩) (G.preV hP hS 3 rfl rfl) rfl rfl hl.1 rfl (lv_room (Nat.le_of_ble_eq_true rfl)) d_H_span_84 ⟨Nat.zero_le _, Nat.zero_le _⟩) (fun H locs hP hS => ?_)
      refine lv_aload_n hx hb d_H_span_87 rfl (lv_at hl 0 rfl) ?_
      refine va_get (D := D) (ci := 0) (v := .ref (ad 3)) (C := R_H) (T := T_H) (N := 12) hx hb hts iw_H hown G.1 hP 0 rfl rfl 2 (by decide) (hts _ wd_1_214) (fun _ h9 => h9) rfl d_H_span_88 ?_
      refine lv_iload hx hb d_H_span_91 (lv_at hl 6 rfl) ?_
      obtain ⟨v16, e_v16, h⟩ := pu_ob h
      refine pu_callR (va_runV (As := [.int x6]) (rest := []) ⟨hx, hb, hml, hown, hts⟩ (c_Co_earliest l D ca ad q15.2 _ x6 v16 e_v16) (xCW (C := "MuseumHouse$Contexts") 1 hts wd_2_234 wd_1_5 wd_3_39 wd_2_232 wd_2_233 (by decide +kernel) ⟨Nat.le_of_ble_eq_true rfl, Nat.le_of_ble_eq_true rfl⟩) (G.preV hP hS 3 rfl rfl) rfl rfl hl.1 rfl (lv_room (Nat.le_of_ble_eq_true rfl)) d_H_span_93 ⟨Nat.zero_le _, Nat.zero_le _⟩) ?_
      cases h
      exact W.toX (W.iret hx hb hr (fun t ht _ => ⟨rfl, by rw [ht]; exact hP, hS.F ht⟩) hS.2.2 d_H_span_96)
    · cases h
      exact hThrV G hS hno hlocks ⟨hx, hb, hml, hown, hts⟩ (As := [.int 8, .int v12]) (rest := []) (c_H_ask l htl D ca ad st11 _ 8 v12 _ _ e_v13) (xCW (C := "MuseumHouse") 2 hts wd_2_139 wd_1_1 wd_2_136 wd_2_138 wd_0_4 (by decide +kernel) ⟨Nat.le_of_ble_eq_true rfl, Nat.le_of_ble_eq_true rfl⟩) (G.preV hP hS 0 rfl rfl) rfl rfl hl.1 rfl (lv_room (Nat.le_of_ble_eq_true rfl)) d_H_span_72 ⟨Nat.le_of_ble_eq_true rfl, Nat.le_of_ble_eq_true rfl⟩
  · cases h
    exact hThrV G hS hno hlocks ⟨hx, hb, hml, hown, hts⟩ (As := [.int z1, .int z0]) (rest := []) (c_H_ask l htl D ca ad st _ z1 z0 _ _ e_v10) (xCW (C := "MuseumHouse") 2 hts wd_2_139 wd_1_1 wd_2_136 wd_2_138 wd_0_4 (by decide +kernel) ⟨Nat.le_of_ble_eq_true rfl, Nat.le_of_ble_eq_true rfl⟩) (G.preV hP hS 0 rfl rfl) rfl rfl hl.1 rfl (lv_room (Nat.le_of_ble_eq_true rfl)) d_H_span_54 ⟨Nat.le_of_ble_eq_true rfl, Nat.le_of_ble_eq_true rfl⟩
set_option maxHeartbeats 4000000 in
set_option maxRecDepth 100000 in
theorem t_H_span_b53 {l : Launch} (htl : l.stackTraces = false) {p : Program} {e : Env} {s : State} {m : MethodId} {args : Array Value} {below : List Frame} {meth : Method} {c : Code} {D : va_G} {ca : Nat → ClassId} {ad : Nat → Nat} {st' : pu_St} {r : Int32 ⊕ Nat} (C : hC p s m meth c args b_H_span 7 (some .int) "MuseumHouse") (G : hX D ca ad (hA ad s.heap.size) s) :
    ∀ (_ : Unit) (st : pu_St) (x1 x2 x3 x4 x5 x6 z0 : Int32), f_H_span_b53 st x1 x2 x3 x4 x5 x6 z0 = some (r, st') → ∀ (H : Heap) (locs : List Loc), va_P D hcl (hW ca ad st) H → va_S (hA ad s.heap.size) s.heap H locs → ∀ ls : Array Slot, lv_has ls 7 [(0, .ref (ad 0)), (1, .int x1), (2, .int x2), (3, .int x3), (4, .int x4), (5, .int x5), (6, .int x6)] → W p l e { frames := 7, cells := xc r, slots := xs r, locals := 113 } s m args below meth c H locs 0 0 (MQX below (hQ D ca ad (fun v => some (.int v)) r st' s.heap.size) args s (xc r) (xs r) (hA ad s.heap.size)) (F0 m 53 ls [.int z0, .ref (ad 0)]) := by
  obtain ⟨hx, hb, hml, hr, hlocks, hno, hown, hts⟩ := id C
  intro _ st x1 x2 x3 x4 x5 x6 z0 h H locs hP hS ls hl
  unfold f_H_span_b53 at h
  refine lv_iconst (v := 0) hx hb d_H_span_53 (by decide) ?_
  exact t_H_span_b54 htl C G () st x1 x2 x3 x4 x5 x6 0 z0 h _ _ hP hS ls (lv_sub hl [0, 1, 2, 3, 4, 5, 6] rfl)
set_option maxHeartbeats 4000000 in
set_option maxRecDepth 100000 in
theorem c_H_span (l : Launch) (htl : l.stackTraces = false) (D : va_G) (ca : Nat → ClassId) (ad : Nat → Nat) (st : pu_St) (sz : Nat) (x1 x2 x3 x4 : Int32) (r : Int32 ⊕ Nat) (st' : pu_St) (h : f_H_span st x1 x2 x3 x4 = some (r, st')) : MetX l y_H_span (.code y_H_span b_H_span 7 (some .int) :: tG) { frames := 7, cells := xc r, slots := xs r, locals := 113 } (va_Pc [.ref (ad 0), .int x1, .int x2, .int x3, .int x4] (hPc D ca ad st sz)) (hQ D ca ad (fun v => some (.int v)) r st' sz) (xc r) (xs r) (hA ad sz) := by
  refine hMet (by decide +kernel) ?_
  intro p e s m below meth c hsz C G hP
  obtain ⟨hx, hb, hml, hr, hlocks, hno, hown, hts⟩ := id C
  have hown : s.vm.findClass "MuseumHouse" = some m.cls := hown
  have hS : va_S (hA ad s.heap.size) s.heap s.heap [] := va_S.rf
  have hl := lv_entry ([.ref (ad 0), .int x1, .int x2, .int x3, .int x4]) (n := 7) (Nat.le_of_ble_eq_true rfl)
  rw [lg_entry_eq]
  generalize (lg_sl ([.ref (ad 0), .int x1, .int x2, .int x3, .int x4]) ++ List.replicate (7 - (lg_sl ([.ref (ad 0), .int x1, .int x2, .int x3, .int x4])).length) Slot.unset).toArray = ls at hl ⊢
  have hl : lv_has ls 7 [(0, .ref (ad 0)), (1, .int x1), (2, .int x2), (3, .int x3), (4, .int x4)] := hl
  unfold f_H_span at h
  refine lv_aload_n hx hb d_H_span_0 rfl (lv_at hl 0 rfl) ?_
  refine lv_aload_n hx hb d_H_span_1 rfl (lv_at hl 0 rfl) ?_
  refine va_get (D := D) (ci := 0) (v := .ref (ad 1)) (C := R_H) (T := T_H) (N := 12) hx hb hts iw_H hown G.1 hP 0 rfl rfl 0 (by decide) (hts _ wd_1_212) (fun _ h9 => h9) rfl d_H_span_2 ?_
  refine lv_iload_n hx hb d_H_span_5 rfl (lv_at hl 1 rfl) ?_
  rcases pu_xb_inv h with ⟨v1, st2, e_v1, h⟩ | ⟨v1, st2, e_v1, h⟩
  · refine hCallI G hS (va_runV (As := [.ref (ad 1), .int x1]) (rest := []) ⟨hx, hb, hml, hown, hts⟩ (MetX.met (c_H_numberOf_De l htl D ca ad st _ x1 _ _ e_v1) (fun _ _ _ _ q => ⟨_, q.1⟩)) (xCW (C := "MuseumHouse") 2 hts wd_2_26 wd_1_1 wd_2_23 wd_2_25 wd_0_0 (by decide +kernel) ⟨Nat.le_of_ble_eq_true rfl, Nat.le_of_ble_eq_true rfl⟩) (G.preV hP hS 0 rfl rfl) rfl rfl hl.1 rfl (lv_room (Nat.le_of_ble_eq_true rfl)) d_H_span_6 ⟨Nat.zero_le _, Nat.zero_le _⟩) (fun H locs hP hS => ?_)
    refine lv_istore (lv' := [(5, .int v1), (0, .ref (ad 0)), (1, .int x1), (2, .int x2), (3, .int x3), (4, .int x4)]) hx hb d_H_span_9 hl (by decide) rfl (fun ls hl => ?_)
    refine lv_aload_n hx hb d_H_span_11 rfl (lv_at hl 1 rfl) ?_
    refine lv_aload_n hx hb d_H_span_12 rfl (lv_at hl 1 rfl) ?_
    refine va_get (D := D) (ci := 0) (v := .ref (ad 3)) (C := R_H) (T := T_H) (N := 12) hx hb hts iw_H hown G.1 hP 0 rfl rfl 2 (by decide) (hts _ wd_1_214) (fun _ h9 => h9) rfl d_H_span_13 ?_
    refine lv_iload_n hx hb d_H_span_16 rfl (lv_at hl 3 rfl) ?_
    rcases pu_xb_inv h with ⟨v3, st4, e_v3, h⟩ | ⟨v3, st4, e_v3, h⟩
    · refine hCallI G hS (va_runV (As := [.ref (ad 3), .int x2]) (rest := []) ⟨hx, hb, hml, hown, hts⟩ (MetX.met (c_H_numberOf_Co l htl D ca ad st2 _ x2 _ _ e_v3) (fun _ _ _ _ q => ⟨_, q.1⟩)) (xCW (C := "MuseumHouse") 2 hts wd_2_26 wd_1_1 wd_2_23 wd_2_25 wd_0_0 (by decide +kernel) ⟨Nat.le_of_ble_eq_true rfl, Nat.le_of_ble_eq_true rfl⟩) (G.preV hP hS 0 rfl rfl) rfl rfl hl.1 rfl (lv_room (Nat.le_of_ble_eq_true rfl)) d_H_span_17 ⟨Nat.zero_le _, Nat.zero_le _⟩) (fun H locs hP hS => ?_)
      refine lv_istore (lv' := [(6, .int v3), (5, .int v1), (0, .ref (ad 0)), (1, .int x1), (2, .int x2), (3, .int x3), (4, .int x4)]) hx hb d_H_span_20 hl (by decide) rfl (fun ls hl => ?_)
      refine lv_aload_n hx hb d_H_span_22 rfl (lv_at hl 2 rfl) ?_
      refine lv_iload hx hb d_H_span_23 (lv_at hl 1 rfl) ?_
      refine lv_iconst (v := 2) hx hb d_H_span_25 (by decide) ?_
      rcases pu_xb_inv h with ⟨v5, st6, e_v5, h⟩ | ⟨v5, st6, e_v5, h⟩
      · refine hCallU G hS (va_runV (As := [.int v1, .int 2]) (rest := []) ⟨hx, hb, hml, hown, hts⟩ (MetX.met (c_H_askRight l htl D ca ad st4 _ v1 2 _ _ e_v5) (fun _ _ _ _ q => ⟨_, q.1⟩)) (xCW (C := "MuseumHouse") 2 hts wd_2_106 wd_1_1 wd_2_103 wd_2_105 wd_0_2 (by decide +kernel) ⟨Nat.le_of_ble_eq_true rfl, Nat.le_of_ble_eq_true rfl⟩) (G.preV hP hS 0 rfl rfl) rfl rfl hl.1 rfl (lv_room (Nat.le_of_ble_eq_true rfl)) d_H_span_26 ⟨Nat.zero_le _, Nat.zero_le _⟩) (fun H locs hP hS => ?_)
        refine lv_aload_n hx hb d_H_span_29 rfl (lv_at hl 2 rfl) ?_
        refine lv_iconst (v := 4) hx hb d_H_span_30 (by decide) ?_
        refine lv_iload_n hx hb d_H_span_31 rfl (lv_at hl 5 rfl) ?_
        refine lv_if_lt (tgt := 53) hx hb d_H_span_32 (by decide) (fun c7 => ?_) (fun c7 => ?_)
        · rw [if_pos c7] at h
          exact t_H_span_b53 htl C G () st6 x1 x2 x3 x4 v1 v3 4 h _ _ hP hS ls (lv_sub hl [2, 3, 4, 5, 6, 1, 0] rfl)
        · rw [if_neg c7] at h
          refine lv_iload_n hx hb d_H_span_35 rfl (lv_at hl 5 rfl) ?_
          refine lv_iload hx hb d_H_span_36 (lv_at hl 6 rfl) ?_
          refine lv_icmp_gt (tgt := 53) hx hb d_H_span_38 (by decide) (fun c8 => ?_) (fun c8 => ?_)
          · rw [if_pos c8] at h
            exact t_H_span_b53 htl C G () st6 x1 x2 x3 x4 v1 v3 4 h _ _ hP hS ls (lv_sub hl [2, 3, 4, 5, 6, 1, 0] rfl)
          · rw [if_neg c8] at h
            refine lv_iload hx hb d_H_span_41 (lv_at hl 6 rfl) ?_
            refine lv_sipush (v := 999) hx hb d_H_span_43 (by decide) ?_
            refine lv_icmp_gt (tgt := 53) hx hb d_H_span_46 (by decide) (fun c9 => ?_) (fun c9 => ?_)
            · rw [if_pos c9] at h
              exact t_H_span_b53 htl C G () st6 x1 x2 x3 x4 v1 v3 4 h _ _ hP hS ls (lv_sub hl [2, 3, 4, 5, 6, 1, 0] rfl)
            · rw [if_neg c9] at h
              refine lv_iconst (v := 1) hx hb d_H_span_49 (by decide) ?_
              refine lv_goto (tgt := 54) hx hb d_H_span_50 (by decide) ?_
              exact t_H_span_b54 htl C G () st6 x1 x2 x3 x4 v1 v3 1 4 h _ _ hP hS ls (lv_sub hl [2, 3, 4, 5, 6, 1, 0] rfl)
      · cases h
        exact hThrV G hS hno hlocks ⟨hx, hb, hml, hown, hts⟩ (As := [.int v1, .int 2]) (rest := []) (c_H_askRight l htl D ca ad st4 _ v1 2 _ _ e_v5) (xCW (C := "MuseumHouse") 2 hts wd_2_106 wd_1_1 wd_2_103 wd_2_105 wd_0_2 (by decide +kernel) ⟨Nat.le_of_ble_eq_true rfl, Nat.le_of_ble_eq_true rfl⟩) (G.preV hP hS 0 rfl rfl) rfl rfl hl.1 rfl (lv_room (Nat.le_of_ble_eq_true rfl)) d_H_span_26 ⟨Nat.le_of_ble_eq_true rfl, Nat.le_of_ble_eq_true rfl⟩
    · cases h
      exact hThrV G hS hno hlocks ⟨hx, hb, hml, hown, hts⟩ (As := [.ref (ad 3), .int x2]) (rest := []) (c_H_numberOf_Co l htl D ca ad st2 _ x2 _ _ e_v3) (xCW (C := "MuseumHouse") 2 hts wd_2_26 wd_1_1 wd_2_23 wd_2_25 wd_0_0 (by decide +kernel) ⟨Nat.le_of_ble_eq_true rfl, Nat.le_of_ble_eq_true rfl⟩) (G.preV hP hS 0 rfl rfl) rfl rfl hl.1 rfl (lv_room (Nat.le_of_ble_eq_true rfl)) d_H_span_17 ⟨Nat.le_of_ble_eq_true rfl, Nat.le_of_ble_eq_true rfl⟩
  · cases h
    exact hThrV G hS hno hlocks ⟨hx, hb, hml, hown, hts⟩ (As := [.ref (ad 1), .int x1]) (rest := []) (c_H_numberOf_De l htl D ca ad st _ x1 _ _ e_v1) (xCW (C := "MuseumHouse") 2 hts wd_2_26 wd_1_1 wd_2_23 wd_2_25 wd_0_0 (by decide +kernel) ⟨Nat.le_of_ble_eq_true rfl, Nat.le_of_ble_eq_true rfl⟩) (G.preV hP hS 0 rfl rfl) rfl rfl hl.1 rfl (lv_room (Nat.le_of_ble_eq_true rfl)) d_H_span_6 ⟨Nat.le_of_ble_eq_true rfl, Nat.le_of_ble_eq_true rfl⟩
set_option maxHeartbeats 4000000 in
set_option maxRecDepth 100000 in
theorem c_H_isAbove (l : Launch) (htl : l.stackTraces = false) (D : va_G) (ca : Nat → ClassId) (ad : Nat → Nat) (st : pu_St) (sz : Nat) (x1 x2 : Int32) (r : Int32 ⊕ Nat) (st' : pu_St) (h : f_H_isAbove st x1 x2 = some (r, st')) : MetX l y_H_isAbove (.code y_H_isAbove b_H_isAbove 5 (some .boolean) :: tG) { frames := 7, cells := xc r, slots := xs r, locals := 113 } (va_Pc [.ref (ad 0), .int x1, .int x2] (hPc D ca ad st sz)) (hQ D ca ad (fun v => some (.int v)) r st' sz) (xc r) (xs r) (hA ad sz) := by
  refine hMet (by decide +kernel) ?_
  intro p e s m below meth c hsz C G hP
  obtain ⟨hx, hb, hml, hr, hlocks, hno, hown, hts⟩ := id C
  have hown : s.vm.findClass "MuseumHouse" = some m.cls := hown
  have hS : va_S (hA ad s.heap.size) s.heap s.heap [] := va_S.rf
  have hl := lv_entry ([.ref (ad 0), .int x1, .int x2]) (n := 5) (Nat.le_of_ble_eq_true rfl)
  rw [lg_entry_eq]
  generalize (lg_sl ([.ref (ad 0), .int x1, .int x2]) ++ List.replicate (5 - (lg_sl ([.ref (ad 0), .int x1, .int x2])).length) Slot.unset).toArray = ls at hl ⊢
  have hl : lv_has ls 5 [(0, .ref (ad 0)), (1, .int x1), (2, .int x2)] := hl
  unfold f_H_isAbove at h
  refine lv_aload_n hx hb d_H_isAbove_0 rfl (lv_at hl 0 rfl) ?_
  refine lv_aload_n hx hb d_H_isAbove_1 rfl (lv_at hl 0 rfl) ?_
  refine va_get (D := D) (ci := 0) (v := .ref (ad 3)) (C := R_H) (T := T_H) (N := 12) hx hb hts iw_H hown G.1 hP 0 rfl rfl 2 (by decide) (hts _ wd_1_214) (fun _ h9 => h9) rfl d_H_isAbove_2 ?_
  refine lv_iload_n hx hb d_H_isAbove_5 rfl (lv_at hl 1 rfl) ?_
  rcases pu_xb_inv h with ⟨v1, st2, e_v1, h⟩ | ⟨v1, st2, e_v1, h⟩
  · refine hCallI G hS (va_runV (As := [.ref (ad 3), .int x1]) (rest := []) ⟨hx, hb, hml, hown, hts⟩ (MetX.met (c_H_numberOf_Co l htl D ca ad st _ x1 _ _ e_v1) (fun _ _ _ _ q => ⟨_, q.1⟩)) (xCW (C := "MuseumHouse") 2 hts wd_2_26 wd_1_1 wd_2_23 wd_2_25 wd_0_0 (by decide +kernel) ⟨Nat.le_of_ble_eq_true rfl, Nat.le_of_ble_eq_true rfl⟩) (G.preV hP hS 0 rfl rfl) rfl rfl hl.1 rfl (lv_room (Nat.le_of_ble_eq_true rfl)) d_H_isAbove_6 ⟨Nat.zero_le _, Nat.zero_le _⟩) (fun H locs hP hS => ?_)
    refine lv_istore_n (lv' := [(3, .int v1), (0, .ref (ad 0)), (1, .int x1), (2, .int x2)]) hx hb d_H_isAbove_9 rfl hl (by decide) rfl (fun ls hl => ?_)
    refine lv_aload_n hx hb d_H_isAbove_10 rfl (lv_at hl 1 rfl) ?_
    refine lv_aload_n hx hb d_H_isAbove_11 rfl (lv_at hl 1 rfl) ?_
    refine va_get (D := D) (ci := 0) (v := .ref (ad 3)) (C := R_H) (T := T_H) (N := 12) hx hb hts iw_H hown G.1 hP 0 rfl rfl 2 (by decide) (hts _ wd_1_214) (fun _ h9 => h9) rfl d_H_isAbove_12 ?_
    refine lv_iload_n hx hb d_H_isAbove_15 rfl (lv_at hl 3 rfl) ?_
    rcases pu_xb_inv h with ⟨v3, st4, e_v3, h⟩ | ⟨v3, st4, e_v3, h⟩
    · refine hCallI G hS (va_runV (As := [.ref (ad 3), .int x2]) (rest := []) ⟨hx, hb, hml, hown, hts⟩ (MetX.met (c_H_numberOf_Co l htl D ca ad st2 _ x2 _ _ e_v3) (fun _ _ _ _ q => ⟨_, q.1⟩)) (xCW (C := "MuseumHouse") 2 hts wd_2_26 wd_1_1 wd_2_23 wd_2_25 wd_0_0 (by decide +kernel) ⟨Nat.le_of_ble_eq_true rfl, Nat.le_of_ble_eq_true rfl⟩) (G.preV hP hS 0 rfl rfl) rfl rfl hl.1 rfl (lv_room (Nat.le_of_ble_eq_true rfl)) d_H_isAbove_16 ⟨Nat.zero_le _, Nat.zero_le _⟩) (fun H locs hP hS => ?_)
      refine lv_istore (lv' := [(4, .int v3), (3, .int v1), (0, .ref (ad 0)), (1, .int x1), (2, .int x2)]) hx hb d_H_isAbove_19 hl (by decide) rfl (fun ls hl => ?_)
      refine lv_aload_n hx hb d_H_isAbove_21 rfl (lv_at hl 2 rfl) ?_
      refine va_get (D := D) (ci := 0) (v := .ref (ad 3)) (C := R_H) (T := T_H) (N := 12) hx hb hts iw_H hown G.1 hP 0 rfl rfl 2 (by decide) (hts _ wd_1_214) (fun _ h9 => h9) rfl d_H_isAbove_22 ?_
      refine lv_iload_n hx hb d_H_isAbove_25 rfl (lv_at hl 1 rfl) ?_
      refine lv_iload hx hb d_H_isAbove_26 (lv_at hl 0 rfl) ?_
      obtain ⟨v5, e_v5, h⟩ := pu_ob h
      refine pu_callR (va_runV (As := [.int v1, .int v3]) (rest := []) ⟨hx, hb, hml, hown, hts⟩ (c_Co_isOver l D ca ad st4 _ v1 v3 v5 e_v5) (xCW (C := "MuseumHouse$Contexts") 2 hts wd_2_226 wd_1_5 wd_2_223 wd_2_224 wd_2_225 (by decide +kernel) ⟨Nat.le_of_ble_eq_true rfl, Nat.le_of_ble_eq_true rfl⟩) (G.preV hP hS 3 rfl rfl) rfl rfl hl.1 rfl (lv_room (Nat.le_of_ble_eq_true rfl)) d_H_isAbove_28 ⟨Nat.zero_le _, Nat.zero_le _⟩) ?_
      obtain ⟨b6, e_b6, h⟩ := pu_ob h
      obtain ⟨e_b6, k_b6⟩ := pu_bo_inv e_b6
      cases h
      rw [e_b6]
      exact W.toX (W.zret (ty := .boolean) hx hb hr (by rcases k_b6 with e | e <;> rw [e] <;> rfl) (fun t ht _ => ⟨rfl, by rw [ht]; exact hP, hS.F ht⟩) hS.2.2 d_H_isAbove_31)
    · cases h
      exact hThrV G hS hno hlocks ⟨hx, hb, hml, hown, hts⟩ (As := [.ref (ad 3), .int x2]) (rest := []) (c_H_numberOf_Co l htl D ca ad st2 _ x2 _ _ e_v3) (xCW (C := "MuseumHouse") 2 hts wd_2_26 wd_1_1 wd_2_23 wd_2_25 wd_0_0 (by decide +kernel) ⟨Nat.le_of_ble_eq_true rfl, Nat.le_of_ble_eq_true rfl⟩) (G.preV hP hS 0 rfl rfl) rfl rfl hl.1 rfl (lv_room (Nat.le_of_ble_eq_true rfl)) d_H_isAbove_16 ⟨Nat.le_of_ble_eq_true rfl, Nat.le_of_ble_eq_true rfl⟩
  · cases h
    exact hThrV G hS hno hlocks ⟨hx, hb, hml, hown, hts⟩ (As := [.ref (ad 3), .int x1]) (rest := []) (c_H_numberOf_Co l htl D ca ad st _ x1 _ _ e_v1) (xCW (C := "MuseumHouse") 2 hts wd_2_26 wd_1_1 wd_2_23 wd_2_25 wd_0_0 (by decide +kernel) ⟨Nat.le_of_ble_eq_true rfl, Nat.le_of_ble_eq_true rfl⟩) (G.preV hP hS 0 rfl rfl) rfl rfl hl.1 rfl (lv_room (Nat.le_of_ble_eq_true rfl)) d_H_isAbove_6 ⟨Nat.le_of_ble_eq_true rfl, Nat.le_of_ble_eq_true rfl⟩
set_option maxHeartbeats 4000000 in
set_option maxRecDepth 100000 in
theorem t_H_year_b26 {l : Launch} (htl : l.stackTraces = false) {p : Program} {e : Env} {s : State} {m : MethodId} {args : Array Value} {below : List Frame} {meth : Method} {c : Code} {D : va_G} {ca : Nat → ClassId} {ad : Nat → Nat} {st' : pu_St} {r : Int32 ⊕ Nat} (C : hC p s m meth c args b_H_year 4 (some .int) "MuseumHouse") (G : hX D ca ad (hA ad s.heap.size) s) :
    ∀ (_ : Unit) (st : pu_St) (x1 x2 x3 z0 z1 : Int32), f_H_year_b26 st x1 x2 x3 z0 z1 = some (r, st') → ∀ (H : Heap) (locs : List Loc), va_P D hcl (hW ca ad st) H → va_S (hA ad s.heap.size) s.heap H locs → ∀ ls : Array Slot, lv_has ls 4 [(0, .ref (ad 0)), (1, .int x1), (2, .int x2), (3, .int x3)] → W p l e { frames := 7, cells := xc r, slots := xs r, locals := 113 } s m args below meth c H locs 0 0 (MQX below (hQ D ca ad (fun v => some (.int v)) r st' s.heap.size) args s (xc r) (xs r) (hA ad s.heap.size)) (F0 m 26 ls [.int z0, .int z1, .ref (ad 0)]) := by
  obtain ⟨hx, hb, hml, hr, hlocks, hno, hown, hts⟩ := id C
  intro _ st x1 x2 x3 z0 z1 h H locs hP hS ls hl
  unfold f_H_year_b26 at h
  rcases pu_xb_inv h with ⟨v5, st6, e_v5, h⟩ | ⟨v5, st6, e_v5, h⟩
  · refine hCallU G hS (va_runV (As := [.int z1, .int z0]) (rest := []) ⟨hx, hb, hml, hown, hts⟩ (MetX.met (c_H_ask l htl D ca ad st _ z1 z0 _ _ e_v5) (fun _ _ _ _ q => ⟨_, q.1⟩)) (xCW (C := "MuseumHouse") 2 hts wd_2_139 wd_1_1 wd_2_136 wd_2_138 wd_0_4 (by decide +kernel) ⟨Nat.le_of_ble_eq_true rfl, Nat.le_of_ble_eq_true rfl⟩) (G.preV hP hS 0 rfl rfl) rfl rfl hl.1 rfl (lv_room (Nat.le_of_ble_eq_true rfl)) d_H_year_26 ⟨Nat.zero_le _, Nat.zero_le _⟩) (fun H locs hP hS => ?_)
    refine lv_iload_n hx hb d_H_year_29 rfl (lv_at hl 2 rfl) ?_
    refine lv_if_ne (tgt := 44) hx hb d_H_year_30 (by decide) (fun c7 => ?_) (fun c7 => ?_)
    · rw [if_neg c7] at h
      refine lv_aload_n hx hb d_H_year_44 rfl (lv_at hl 0 rfl) ?_
      refine va_get (D := D) (ci := 0) (v := .ref (ad 3)) (C := R_H) (T := T_H) (N := 12) hx hb hts iw_H hown G.1 hP 0 rfl rfl 2 (by decide) (hts _ wd_1_214) (fun _ h9 => h9) rfl d_H_year_45 ?_
      refine lv_iload_n hx hb d_H_year_48 rfl (lv_at hl 3 rfl) ?_
      obtain ⟨v8, e_v8, h⟩ := pu_ob h
      refine pu_callR (va_runV (As := [.int x3]) (rest := []) ⟨hx, hb, hml, hown, hts⟩ (c_Co_latest l D ca ad st6 _ x3 v8 e_v8) (xCW (C := "MuseumHouse$Contexts") 1 hts wd_3_12 wd_1_5 wd_3_54 wd_3_10 wd_3_11 (by decide +kernel) ⟨Nat.le_of_ble_eq_true rfl, Nat.le_of_ble_eq_true rfl⟩) (G.preV hP hS 3 rfl rfl) rfl rfl hl.1 rfl (lv_room (Nat.le_of_ble_eq_true rfl)) d_H_year_49 ⟨Nat.zero_le _, Nat.zero_le _⟩) ?_
      cases h
      exact W.toX (W.iret hx hb hr (fun t ht _ => ⟨rfl, by rw [ht]; exact hP, hS.F ht⟩) hS.2.2 d_H_year_52)
    · rw [if_pos c7] at h
      refine lv_aload_n hx hb d_H_year_33 rfl (lv_at hl 0 rfl) ?_
      refine va_get (D := D) (ci := 0) (v := .ref (ad 3)) (C := R_H) (T := T_H) (N := 12) hx hb hts iw_H hown G.1 hP 0 rfl rfl 2 (by decide) (hts _ wd_1_214) (fun _ h9 => h9) rfl d_H_year_34 ?_
      refine lv_iload_n hx hb d_H_year_37 rfl (lv_at hl 3 rfl) ?_
      obtain ⟨v9, e_v9, h⟩ := pu_ob h
      refine pu_callR (va_runV (As := [.int x3]) (rest := []) ⟨hx, hb, hml, hown, hts⟩ (c_Co_earliest l D ca ad st6 _ x3 v9 e_v9) (xCW (C := "MuseumHouse$Contexts") 1 hts wd_2_234 wd_1_5 wd_3_39 wd_2_232 wd_2_233 (by decide +kernel) ⟨Nat.le_of_ble_eq_true rfl, Nat.le_of_ble_eq_true rfl⟩) (G.preV hP hS 3 rfl rfl) rfl rfl hl.1 rfl (lv_room (Nat.le_of_ble_eq_true rfl)) d_H_year_38 ⟨Nat.zero_le _, Nat.zero_le _⟩) ?_
      refine lv_goto (tgt := 52) hx hb d_H_year_41 (by decide) ?_
      cases h
      exact W.toX (W.iret hx hb hr (fun t ht _ => ⟨rfl, by rw [ht]; exact hP, hS.F ht⟩) hS.2.2 d_H_year_52)
  · cases h
    exact hThrV G hS hno hlocks ⟨hx, hb, hml, hown, hts⟩ (As := [.int z1, .int z0]) (rest := []) (c_H_ask l htl D ca ad st _ z1 z0 _ _ e_v5) (xCW (C := "MuseumHouse") 2 hts wd_2_139 wd_1_1 wd_2_136 wd_2_138 wd_0_4 (by decide +kernel) ⟨Nat.le_of_ble_eq_true rfl, Nat.le_of_ble_eq_true rfl⟩) (G.preV hP hS 0 rfl rfl) rfl rfl hl.1 rfl (lv_room (Nat.le_of_ble_eq_true rfl)) d_H_year_26 ⟨Nat.le_of_ble_eq_true rfl, Nat.le_of_ble_eq_true rfl⟩
set_option maxHeartbeats 4000000 in
set_option maxRecDepth 100000 in
theorem t_H_year_b21 {l : Launch} (htl : l.stackTraces = false) {p : Program} {e : Env} {s : State} {m : MethodId} {args : Array Value} {below : List Frame} {meth : Method} {c : Code} {D : va_G} {ca : Nat → ClassId} {ad : Nat → Nat} {st' : pu_St} {r : Int32 ⊕ Nat} (C : hC p s m meth c args b_H_year 4 (some .int) "MuseumHouse") (G : hX D ca ad (hA ad s.heap.size) s) :
    ∀ (_ : Unit) (st : pu_St) (x1 x2 x3 z0 : Int32), f_H_year_b21 st x1 x2 x3 z0 = some (r, st') → ∀ (H : Heap) (locs : List Loc), va_P D hcl (hW ca ad st) H → va_S (hA ad s.heap.size) s.heap H locs → ∀ ls : Array Slot, lv_has ls 4 [(0, .ref (ad 0)), (1, .int x1), (2, .int x2), (3, .int x3)] → W p l e { frames := 7, cells := xc r, slots := xs r, locals := 113 } s m args below meth c H locs 0 0 (MQX below (hQ D ca ad (fun v => some (.int v)) r st' s.heap.size) args s (xc r) (xs r) (hA ad s.heap.size)) (F0 m 21 ls [.int z0, .ref (ad 0)]) := by
  obtain ⟨hx, hb, hml, hr, hlocks, hno, hown, hts⟩ := id C
  intro _ st x1 x2 x3 z0 h H locs hP hS ls hl
  unfold f_H_year_b21 at h
  refine lv_iconst (v := 1) hx hb d_H_year_21 (by decide) ?_
  refine lv_goto (tgt := 26) hx hb d_H_year_22 (by decide) ?_
  exact t_H_year_b26 htl C G () st x1 x2 x3 1 z0 h _ _ hP hS ls (lv_sub hl [0, 1, 2, 3] rfl)
set_option maxHeartbeats 4000000 in
set_option maxRecDepth 100000 in
theorem c_H_year (l : Launch) (htl : l.stackTraces = false) (D : va_G) (ca : Nat → ClassId) (ad : Nat → Nat) (st : pu_St) (sz : Nat) (x1 x2 : Int32) (r : Int32 ⊕ Nat) (st' : pu_St) (h : f_H_year st x1 x2 = some (r, st')) : MetX l y_H_year (.code y_H_year b_H_year 4 (some .int) :: tG) { frames := 7, cells := xc r, slots := xs r, locals := 113 } (va_Pc [.ref (ad 0), .int x1, .int x2] (hPc D ca ad st sz)) (hQ D ca ad (fun v => some (.int v)) r st' sz) (xc r) (xs r) (hA ad sz) := by
  refine hMet (by decide +kernel) ?_
  intro p e s m below meth c hsz C G hP
  obtain ⟨hx, hb, hml, hr, hlocks, hno, hown, hts⟩ := id C
  have hown : s.vm.findClass "MuseumHouse" = some m.cls := hown
  have hS : va_S (hA ad s.heap.size) s.heap s.heap [] := va_S.rf
  have hl := lv_entry ([.ref (ad 0), .int x1, .int x2]) (n := 4) (Nat.le_of_ble_eq_true rfl)
  rw [lg_entry_eq]
  generalize (lg_sl ([.ref (ad 0), .int x1, .int x2]) ++ List.replicate (4 - (lg_sl ([.ref (ad 0), .int x1, .int x2])).length) Slot.unset).toArray = ls at hl ⊢
  have hl : lv_has ls 4 [(0, .ref (ad 0)), (1, .int x1), (2, .int x2)] := hl
  unfold f_H_year at h
  refine lv_aload_n hx hb d_H_year_0 rfl (lv_at hl 0 rfl) ?_
  refine lv_aload_n hx hb d_H_year_1 rfl (lv_at hl 0 rfl) ?_
  refine va_get (D := D) (ci := 0) (v := .ref (ad 3)) (C := R_H) (T := T_H) (N := 12) hx hb hts iw_H hown G.1 hP 0 rfl rfl 2 (by decide) (hts _ wd_1_214) (fun _ h9 => h9) rfl d_H_year_2 ?_
  refine lv_iload_n hx hb d_H_year_5 rfl (lv_at hl 1 rfl) ?_
  rcases pu_xb_inv h with ⟨v1, st2, e_v1, h⟩ | ⟨v1, st2, e_v1, h⟩
  · refine hCallI G hS (va_runV (As := [.ref (ad 3), .int x1]) (rest := []) ⟨hx, hb, hml, hown, hts⟩ (MetX.met (c_H_numberOf_Co l htl D ca ad st _ x1 _ _ e_v1) (fun _ _ _ _ q => ⟨_, q.1⟩)) (xCW (C := "MuseumHouse") 2 hts wd_2_26 wd_1_1 wd_2_23 wd_2_25 wd_0_0 (by decide +kernel) ⟨Nat.le_of_ble_eq_true rfl, Nat.le_of_ble_eq_true rfl⟩) (G.preV hP hS 0 rfl rfl) rfl rfl hl.1 rfl (lv_room (Nat.le_of_ble_eq_true rfl)) d_H_year_6 ⟨Nat.zero_le _, Nat.zero_le _⟩) (fun H locs hP hS => ?_)
    refine lv_istore_n (lv' := [(3, .int v1), (0, .ref (ad 0)), (1, .int x1), (2, .int x2)]) hx hb d_H_year_9 rfl hl (by decide) rfl (fun ls hl => ?_)
    refine lv_aload_n hx hb d_H_year_10 rfl (lv_at hl 1 rfl) ?_
    refine lv_iconst (v := 4) hx hb d_H_year_11 (by decide) ?_
    refine lv_iload_n hx hb d_H_year_12 rfl (lv_at hl 3 rfl) ?_
    refine lv_if_eq (tgt := 21) hx hb d_H_year_13 (by decide) (fun c3 => ?_) (fun c3 => ?_)
    · rw [if_pos c3] at h
      exact t_H_year_b21 htl C G () st2 x1 x2 v1 4 h _ _ hP hS ls (lv_sub hl [1, 2, 3, 0] rfl)
    · rw [if_neg c3] at h
      refine lv_iload_n hx hb d_H_year_16 rfl (lv_at hl 3 rfl) ?_
      refine lv_iconst (v := 1) hx hb d_H_year_17 (by decide) ?_
      refine lv_icmp_ne (tgt := 25) hx hb d_H_year_18 (by decide) (fun c4 => ?_) (fun c4 => ?_)
      · rw [if_neg c4] at h
        refine lv_iconst (v := 0) hx hb d_H_year_25 (by decide) ?_
        exact t_H_year_b26 htl C G () st2 x1 x2 v1 0 4 h _ _ hP hS ls (lv_sub hl [1, 2, 3, 0] rfl)
      · rw [if_pos c4] at h
        exact t_H_year_b21 htl C G () st2 x1 x2 v1 4 h _ _ hP hS ls (lv_sub hl [1, 2, 3, 0] rfl)
  · cases h
    exact hThrV G hS hno hlocks ⟨hx, hb, hml, hown, hts⟩ (As := [.ref (ad 3), .int x1]) (rest := []) (c_H_numberOf_Co l htl D ca ad st _ x1 _ _ e_v1) (xCW (C := "MuseumHouse") 2 hts wd_2_26 wd_1_1 wd_2_23 wd_2_25 wd_0_0 (by decide +kernel) ⟨Nat.le_of_ble_eq_true rfl, Nat.le_of_ble_eq_true rfl⟩) (G.preV hP hS 0 rfl rfl) rfl rfl hl.1 rfl (lv_room (Nat.le_of_ble_eq_true rfl)) d_H_year_6 ⟨Nat.le_of_ble_eq_true rfl, Nat.le_of_ble_eq_true rfl⟩

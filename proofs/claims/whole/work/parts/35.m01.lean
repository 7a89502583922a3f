set_option maxHeartbeats 4000000 in
set_option maxRecDepth 100000 in
theorem t_Md_earliest_b9 {l : Launch} {p : Program} {e : Env} {s : State} {m : MethodId} {args : Array Value} {below : List Frame} {meth : Method} {c : Code} {D : va_G} {ca : Nat → ClassId} {ad : Nat → Nat} {A : Nat → Prop} {st : pu_St} {r : Int32} (C : hC p s m meth c args b_Md_earliest 4 (some .int) "MuseumHouseModel") (G : mX D ca ad A s) (hP : va_P D hcl (mW ca ad st) s.heap) (hS : va_S A s.heap s.heap []) :
    ∀ (n : Nat) (x1 x2 x3 : Int32), f_Md_earliest_b9 n st x1 x2 x3 = some r → ∀ ls : Array Slot, lv_has ls 4 [(0, .ref (ad 0)), (1, .int x1), (2, .int x2), (3, .int x3)] → W p l e { frames := 0, cells := 0, slots := 0, locals := 0 } s m args below meth c s.heap [] 0 0 (MQ below (QcRead r) args s 0 0 (fun _ => False)) (F0 m 9 ls []) := by
  obtain ⟨hx, hb, hml, hr, hlocks, hno, hown, hts⟩ := id C
  intro n
  induction n with
  | zero => intro x1 x2 x3 h; cases h
  | succ n ih =>
    intro x1 x2 x3 h ls hl
    unfold f_Md_earliest_b9 at h
    refine lv_iload_n hx hb d_Md_earliest_9 rfl (lv_at hl 3 rfl) ?_
    refine lv_aload_n hx hb d_Md_earliest_10 rfl (lv_at hl 0 rfl) ?_
    refine va_get (D := D) (ci := 11) (v := .ref (ad 1)) (C := R_Md) (T := T_Md) (N := 27) hx hb hts iw_Md hown G.1 hP 0 rfl rfl 3 (by decide) (hts _ wd_4_226) (fun _ h9 => h9) rfl d_Md_earliest_11 ?_
    refine lv_iconst (v := 3) hx hb d_Md_earliest_14 (by decide) ?_
    obtain ⟨v2, e_v2, h⟩ := pu_ob h
    refine pu_iald hx hb G.1 hP 1 0 rfl rfl e_v2 d_Md_earliest_15 ?_
    refine lv_icmp_ge (tgt := 60) hx hb d_Md_earliest_16 (by decide) (fun c3 => ?_) (fun c3 => ?_)
    · rw [if_pos c3] at h
      refine lv_iload_n hx hb d_Md_earliest_60 rfl (lv_at hl 2 rfl) ?_
      have h := Option.some.inj h
      exact W.iret (v := x2) hx hb hr (fun t ht _ => ⟨by rw [h], ht⟩) (fun _ q => by cases q) d_Md_earliest_61
    · rw [if_neg c3] at h
      refine lv_aload_n hx hb d_Md_earliest_19 rfl (lv_at hl 0 rfl) ?_
      refine va_get (D := D) (ci := 11) (v := .ref (ad 7)) (C := R_Md) (T := T_Md) (N := 27) hx hb hts iw_Md hown G.1 hP 0 rfl rfl 9 (by decide) (hts _ wd_4_232) (fun _ h9 => h9) rfl d_Md_earliest_20 ?_
      refine lv_bipush (v := 20) hx hb d_Md_earliest_23 (by decide) ?_
      refine lv_iload_n hx hb d_Md_earliest_25 rfl (lv_at hl 1 rfl) ?_
      refine lv_imul hx hb d_Md_earliest_26 ?_
      refine lv_iload_n hx hb d_Md_earliest_27 rfl (lv_at hl 3 rfl) ?_
      refine lv_iadd hx hb d_Md_earliest_28 ?_
      obtain ⟨v4, e_v4, h⟩ := pu_ob h
      refine pu_zald hx hb G.1 hP 7 6 rfl rfl e_v4 d_Md_earliest_29 ?_
      refine lv_if_eq (tgt := 52) hx hb d_Md_earliest_30 (by decide) (fun c5 => ?_) (fun c5 => ?_)
      · rw [if_pos c5] at h
        refine lv_iload_n hx hb d_Md_earliest_52 rfl (lv_at hl 2 rfl) ?_
        refine lv_istore_n (lv' := [(2, .int x2), (0, .ref (ad 0)), (1, .int x1), (3, .int x3)]) hx hb d_Md_earliest_53 rfl hl (by decide) rfl (fun ls hl => ?_)
        refine lv_iinc (v := (x3 + 1)) (lv' := [(3, .int (x3 + 1)), (2, .int x2), (0, .ref (ad 0)), (1, .int x1)]) hx hb d_Md_earliest_54 hl (k := 3) rfl rfl (by decide) rfl (fun ls hl => ?_)
        refine lv_goto (tgt := 9) hx hb d_Md_earliest_57 (by decide) ?_
        exact ih x1 x2 (x3 + 1) h ls (lv_sub hl [2, 3, 1, 0] rfl)
      · rw [if_neg c5] at h
        refine lv_aload_n hx hb d_Md_earliest_33 rfl (lv_at hl 0 rfl) ?_
        refine va_get (D := D) (ci := 11) (v := .ref (ad 4)) (C := R_Md) (T := T_Md) (N := 27) hx hb hts iw_Md hown G.1 hP 0 rfl rfl 6 (by decide) (hts _ wd_4_229) (fun _ h9 => h9) rfl d_Md_earliest_34 ?_
        refine lv_iload_n hx hb d_Md_earliest_37 rfl (lv_at hl 3 rfl) ?_
        obtain ⟨v6, e_v6, h⟩ := pu_ob h
        refine pu_iald hx hb G.1 hP 4 3 rfl rfl e_v6 d_Md_earliest_38 ?_
        refine lv_iload_n hx hb d_Md_earliest_39 rfl (lv_at hl 2 rfl) ?_
        refine lv_icmp_le (tgt := 52) hx hb d_Md_earliest_40 (by decide) (fun c7 => ?_) (fun c7 => ?_)
        · rw [if_pos c7] at h
          refine lv_iload_n hx hb d_Md_earliest_52 rfl (lv_at hl 2 rfl) ?_
          refine lv_istore_n (lv' := [(2, .int x2), (0, .ref (ad 0)), (1, .int x1), (3, .int x3)]) hx hb d_Md_earliest_53 rfl hl (by decide) rfl (fun ls hl => ?_)
          refine lv_iinc (v := (x3 + 1)) (lv' := [(3, .int (x3 + 1)), (2, .int x2), (0, .ref (ad 0)), (1, .int x1)]) hx hb d_Md_earliest_54 hl (k := 3) rfl rfl (by decide) rfl (fun ls hl => ?_)
          refine lv_goto (tgt := 9) hx hb d_Md_earliest_57 (by decide) ?_
          exact ih x1 x2 (x3 + 1) h ls (lv_sub hl [2, 3, 1, 0] rfl)
        · rw [if_neg c7] at h
          refine lv_aload_n hx hb d_Md_earliest_43 rfl (lv_at hl 0 rfl) ?_
          refine va_get (D := D) (ci := 11) (v := .ref (ad 4)) (C := R_Md) (T := T_Md) (N := 27) hx hb hts iw_Md hown G.1 hP 0 rfl rfl 6 (by decide) (hts _ wd_4_229) (fun _ h9 => h9) rfl d_Md_earliest_44 ?_
          refine lv_iload_n hx hb d_Md_earliest_47 rfl (lv_at hl 3 rfl) ?_
          obtain ⟨v8, e_v8, h⟩ := pu_ob h
          refine pu_iald hx hb G.1 hP 4 3 rfl rfl e_v8 d_Md_earliest_48 ?_
          refine lv_goto (tgt := 53) hx hb d_Md_earliest_49 (by decide) ?_
          refine lv_istore_n (lv' := [(2, .int v8), (0, .ref (ad 0)), (1, .int x1), (3, .int x3)]) hx hb d_Md_earliest_53 rfl hl (by decide) rfl (fun ls hl => ?_)
          refine lv_iinc (v := (x3 + 1)) (lv' := [(3, .int (x3 + 1)), (2, .int v8), (0, .ref (ad 0)), (1, .int x1)]) hx hb d_Md_earliest_54 hl (k := 3) rfl rfl (by decide) rfl (fun ls hl => ?_)
          refine lv_goto (tgt := 9) hx hb d_Md_earliest_57 (by decide) ?_
          exact ih x1 v8 (x3 + 1) h ls (lv_sub hl [2, 3, 1, 0] rfl)
set_option maxHeartbeats 4000000 in
set_option maxRecDepth 100000 in
theorem c_Md_earliest (l : Launch) (D : va_G) (ca : Nat → ClassId) (ad : Nat → Nat) (st : pu_St) (sz : Nat) (x1 : Int32) (r : Int32) (h : f_Md_earliest st x1 = some r) : Met l y_Md_earliest (.code y_Md_earliest b_Md_earliest 4 (some .int) :: tG) { frames := 0, cells := 0, slots := 0, locals := 0 } (va_Pc [.ref (ad 0), .int x1] (mPc D ca ad st sz)) (QcRead r) 0 0 (fun _ => False) := by
  refine mRead (by decide +kernel) ?_
  intro p e s m below meth c C G hP
  obtain ⟨hx, hb, hml, hr, hlocks, hno, hown, hts⟩ := id C
  have hown : s.vm.findClass "MuseumHouseModel" = some m.cls := hown
  have hS : va_S (mA ad s.heap.size) s.heap s.heap [] := va_S.rf
  have hl := lv_entry ([.ref (ad 0), .int x1]) (n := 4) (Nat.le_of_ble_eq_true rfl)
  rw [lg_entry_eq]
  generalize (lg_sl ([.ref (ad 0), .int x1]) ++ List.replicate (4 - (lg_sl ([.ref (ad 0), .int x1])).length) Slot.unset).toArray = ls at hl ⊢
  have hl : lv_has ls 4 [(0, .ref (ad 0)), (1, .int x1)] := hl
  unfold f_Md_earliest at h
  refine lv_aload_n hx hb d_Md_earliest_0 rfl (lv_at hl 0 rfl) ?_
  refine va_get (D := D) (ci := 11) (v := .ref (ad 4)) (C := R_Md) (T := T_Md) (N := 27) hx hb hts iw_Md hown G.1 hP 0 rfl rfl 6 (by decide) (hts _ wd_4_229) (fun _ h9 => h9) rfl d_Md_earliest_1 ?_
  refine lv_iload_n hx hb d_Md_earliest_4 rfl (lv_at hl 1 rfl) ?_
  obtain ⟨v1, e_v1, h⟩ := pu_ob h
  refine pu_iald hx hb G.1 hP 4 3 rfl rfl e_v1 d_Md_earliest_5 ?_
  refine lv_istore_n (lv' := [(2, .int v1), (0, .ref (ad 0)), (1, .int x1)]) hx hb d_Md_earliest_6 rfl hl (by decide) rfl (fun ls hl => ?_)
  refine lv_iconst (v := 0) hx hb d_Md_earliest_7 (by decide) ?_
  refine lv_istore_n (lv' := [(3, .int 0), (2, .int v1), (0, .ref (ad 0)), (1, .int x1)]) hx hb d_Md_earliest_8 rfl hl (by decide) rfl (fun ls hl => ?_)
  exact t_Md_earliest_b9 C G hP hS pu_fu x1 v1 0 h ls (lv_sub hl [2, 3, 1, 0] rfl)
set_option maxHeartbeats 4000000 in
set_option maxRecDepth 100000 in
theorem t_Md_latest_b9 {l : Launch} {p : Program} {e : Env} {s : State} {m : MethodId} {args : Array Value} {below : List Frame} {meth : Method} {c : Code} {D : va_G} {ca : Nat → ClassId} {ad : Nat → Nat} {A : Nat → Prop} {st : pu_St} {r : Int32} (C : hC p s m meth c args b_Md_latest 4 (some .int) "MuseumHouseModel") (G : mX D ca ad A s) (hP : va_P D hcl (mW ca ad st) s.heap) (hS : va_S A s.heap s.heap []) :
    ∀ (n : Nat) (x1 x2 x3 : Int32), f_Md_latest_b9 n st x1 x2 x3 = some r → ∀ ls : Array Slot, lv_has ls 4 [(0, .ref (ad 0)), (1, .int x1), (2, .int x2), (3, .int x3)] → W p l e { frames := 0, cells := 0, slots := 0, locals := 0 } s m args below meth c s.heap [] 0 0 (MQ below (QcRead r) args s 0 0 (fun _ => False)) (F0 m 9 ls []) := by
  obtain ⟨hx, hb, hml, hr, hlocks, hno, hown, hts⟩ := id C
  intro n
  induction n with
  | zero => intro x1 x2 x3 h; cases h
  | succ n ih =>
    intro x1 x2 x3 h ls hl
    unfold f_Md_latest_b9 at h
    refine lv_iload_n hx hb d_Md_latest_9 rfl (lv_at hl 3 rfl) ?_
    refine lv_aload_n hx hb d_Md_latest_10 rfl (lv_at hl 0 rfl) ?_
    refine va_get (D := D) (ci := 11) (v := .ref (ad 1)) (C := R_Md) (T := T_Md) (N := 27) hx hb hts iw_Md hown G.1 hP 0 rfl rfl 3 (by decide) (hts _ wd_4_226) (fun _ h9 => h9) rfl d_Md_latest_11 ?_
    refine lv_iconst (v := 3) hx hb d_Md_latest_14 (by decide) ?_
    obtain ⟨v2, e_v2, h⟩ := pu_ob h
    refine pu_iald hx hb G.1 hP 1 0 rfl rfl e_v2 d_Md_latest_15 ?_
    refine lv_icmp_ge (tgt := 60) hx hb d_Md_latest_16 (by decide) (fun c3 => ?_) (fun c3 => ?_)
    · rw [if_pos c3] at h
      refine lv_iload_n hx hb d_Md_latest_60 rfl (lv_at hl 2 rfl) ?_
      have h := Option.some.inj h
      exact W.iret (v := x2) hx hb hr (fun t ht _ => ⟨by rw [h], ht⟩) (fun _ q => by cases q) d_Md_latest_61
    · rw [if_neg c3] at h
      refine lv_aload_n hx hb d_Md_latest_19 rfl (lv_at hl 0 rfl) ?_
      refine va_get (D := D) (ci := 11) (v := .ref (ad 7)) (C := R_Md) (T := T_Md) (N := 27) hx hb hts iw_Md hown G.1 hP 0 rfl rfl 9 (by decide) (hts _ wd_4_232) (fun _ h9 => h9) rfl d_Md_latest_20 ?_
      refine lv_bipush (v := 20) hx hb d_Md_latest_23 (by decide) ?_
      refine lv_iload_n hx hb d_Md_latest_25 rfl (lv_at hl 3 rfl) ?_
      refine lv_imul hx hb d_Md_latest_26 ?_
      refine lv_iload_n hx hb d_Md_latest_27 rfl (lv_at hl 1 rfl) ?_
      refine lv_iadd hx hb d_Md_latest_28 ?_
      obtain ⟨v4, e_v4, h⟩ := pu_ob h
      refine pu_zald hx hb G.1 hP 7 6 rfl rfl e_v4 d_Md_latest_29 ?_
      refine lv_if_eq (tgt := 52) hx hb d_Md_latest_30 (by decide) (fun c5 => ?_) (fun c5 => ?_)
      · rw [if_pos c5] at h
        refine lv_iload_n hx hb d_Md_latest_52 rfl (lv_at hl 2 rfl) ?_
        refine lv_istore_n (lv' := [(2, .int x2), (0, .ref (ad 0)), (1, .int x1), (3, .int x3)]) hx hb d_Md_latest_53 rfl hl (by decide) rfl (fun ls hl => ?_)
        refine lv_iinc (v := (x3 + 1)) (lv' := [(3, .int (x3 + 1)), (2, .int x2), (0, .ref (ad 0)), (1, .int x1)]) hx hb d_Md_latest_54 hl (k := 3) rfl rfl (by decide) rfl (fun ls hl => ?_)
        refine lv_goto (tgt := 9) hx hb d_Md_latest_57 (by decide) ?_
        exact ih x1 x2 (x3 + 1) h ls (lv_sub hl [2, 3, 1, 0] rfl)
      · rw [if_neg c5] at h
        refine lv_aload_n hx hb d_Md_latest_33 rfl (lv_at hl 0 rfl) ?_
        refine va_get (D := D) (ci := 11) (v := .ref (ad 5)) (C := R_Md) (T := T_Md) (N := 27) hx hb hts iw_Md hown G.1 hP 0 rfl rfl 7 (by decide) (hts _ wd_4_230) (fun _ h9 => h9) rfl d_Md_latest_34 ?_
        refine lv_iload_n hx hb d_Md_latest_37 rfl (lv_at hl 3 rfl) ?_
        obtain ⟨v6, e_v6, h⟩ := pu_ob h
        refine pu_iald hx hb G.1 hP 5 4 rfl rfl e_v6 d_Md_latest_38 ?_
        refine lv_iload_n hx hb d_Md_latest_39 rfl (lv_at hl 2 rfl) ?_
        refine lv_icmp_ge (tgt := 52) hx hb d_Md_latest_40 (by decide) (fun c7 => ?_) (fun c7 => ?_)
        · rw [if_pos c7] at h
          refine lv_iload_n hx hb d_Md_latest_52 rfl (lv_at hl 2 rfl) ?_
          refine lv_istore_n (lv' := [(2, .int x2), (0, .ref (ad 0)), (1, .int x1), (3, .int x3)]) hx hb d_Md_latest_53 rfl hl (by decide) rfl (fun ls hl => ?_)
          refine lv_iinc (v := (x3 + 1)) (lv' := [(3, .int (x3 + 1)), (2, .int x2), (0, .ref (ad 0)), (1, .int x1)]) hx hb d_Md_latest_54 hl (k := 3) rfl rfl (by decide) rfl (fun ls hl => ?_)
          refine lv_goto (tgt := 9) hx hb d_Md_latest_57 (by decide) ?_
          exact ih x1 x2 (x3 + 1) h ls (lv_sub hl [2, 3, 1, 0] rfl)
        · rw [if_neg c7] at h
          refine lv_aload_n hx hb d_Md_latest_43 rfl (lv_at hl 0 rfl) ?_
          refine va_get (D := D) (ci := 11) (v := .ref (ad 5)) (C := R_Md) (T := T_Md) (N := 27) hx hb hts iw_Md hown G.1 hP 0 rfl rfl 7 (by decide) (hts _ wd_4_230) (fun _ h9 => h9) rfl d_Md_latest_44 ?_
          refine lv_iload_n hx hb d_Md_latest_47 rfl (lv_at hl 3 rfl) ?_
          obtain ⟨v8, e_v8, h⟩ := pu_ob h
          refine pu_iald hx hb G.1 hP 5 4 rfl rfl e_v8 d_Md_latest_48 ?_
          refine lv_goto (tgt := 53) hx hb d_Md_latest_49 (by decide) ?_
          refine lv_istore_n (lv' := [(2, .int v8), (0, .ref (ad 0)), (1, .int x1), (3, .int x3)]) hx hb d_Md_latest_53 rfl hl (by decide) rfl (fun ls hl => ?_)
          refine lv_iinc (v := (x3 + 1)) (lv' := [(3, .int (x3 + 1)), (2, .int v8), (0, .ref (ad 0)), (1, .int x1)]) hx hb d_Md_latest_54 hl (k := 3) rfl rfl (by decide) rfl (fun ls hl => ?_)
          refine lv_goto (tgt := 9) hx hb d_Md_latest_57 (by decide) ?_
          exact ih x1 v8 (x3 + 1) h ls (lv_sub hl [2, 3, 1, 0] rfl)
set_option maxHeartbeats 4000000 in
set_option maxRecDepth 100000 in
theorem c_Md_latest (l : Launch) (D : va_G) (ca : Nat → ClassId) (ad : Nat → Nat) (st : pu_St) (sz : Nat) (x1 : Int32) (r : Int32) (h : f_Md_latest st x1 = some r) : Met l y_Md_latest (.code y_Md_latest b_Md_latest 4 (some .int) :: tG) { frames := 0, cells := 0, slots := 0, locals := 0 } (va_Pc [.ref (ad 0), .int x1] (mPc D ca ad st sz)) (QcRead r) 0 0 (fun _ => False) := by
  refine mRead (by decide +kernel) ?_
  intro p e s m below meth c C G hP
  obtain ⟨hx, hb, hml, hr, hlocks, hno, hown, hts⟩ := id C
  have hown : s.vm.findClass "MuseumHouseModel" = some m.cls := hown
  have hS : va_S (mA ad s.heap.size) s.heap s.heap [] := va_S.rf
  have hl := lv_entry ([.ref (ad 0), .int x1]) (n := 4) (Nat.le_of_ble_eq_true rfl)
  rw [lg_entry_eq]
  generalize (lg_sl ([.ref (ad 0), .int x1]) ++ List.replicate (4 - (lg_sl ([.ref (ad 0), .int x1])).length) Slot.unset).toArray = ls at hl ⊢
  have hl : lv_has ls 4 [(0, .ref (ad 0)), (1, .int x1)] := hl
  unfold f_Md_latest at h
  refine lv_aload_n hx hb d_Md_latest_0 rfl (lv_at hl 0 rfl) ?_
  refine va_get (D := D) (ci := 11) (v := .ref (ad 5)) (C := R_Md) (T := T_Md) (N := 27) hx hb hts iw_Md hown G.1 hP 0 rfl rfl 7 (by decide) (hts _ wd_4_230) (fun _ h9 => h9) rfl d_Md_latest_1 ?_
  refine lv_iload_n hx hb d_Md_latest_4 rfl (lv_at hl 1 rfl) ?_
  obtain ⟨v1, e_v1, h⟩ := pu_ob h
  refine pu_iald hx hb G.1 hP 5 4 rfl rfl e_v1 d_Md_latest_5 ?_
  refine lv_istore_n (lv' := [(2, .int v1), (0, .ref (ad 0)), (1, .int x1)]) hx hb d_Md_latest_6 rfl hl (by decide) rfl (fun ls hl => ?_)
  refine lv_iconst (v := 0) hx hb d_Md_latest_7 (by decide) ?_
  refine lv_istore_n (lv' := [(3, .int 0), (2, .int v1), (0, .ref (ad 0)), (1, .int x1)]) hx hb d_Md_latest_8 rfl hl (by decide) rfl (fun ls hl => ?_)
  exact t_Md_latest_b9 C G hP hS pu_fu x1 v1 0 h ls (lv_sub hl [2, 3, 1, 0] rfl)
set_option maxHeartbeats 4000000 in
set_option maxRecDepth 100000 in
theorem t_Md_fits_b8 {l : Launch} (htl : l.stackTraces = false) {p : Program} {e : Env} {s : State} {m : MethodId} {args : Array Value} {below : List Frame} {meth : Method} {c : Code} {D : va_G} {ca : Nat → ClassId} {ad : Nat → Nat} {st' : pu_St} {v : Int32} (C : hC p s m meth c args b_Md_fits 3 (some .boolean) "MuseumHouseModel") (G : mX D ca ad (mA ad s.heap.size) s) :
    ∀ (n : Nat) (st : pu_St) (x1 x2 : Int32), f_Md_fits_b8 n st x1 x2 = some (v, st') → ∀ (H : Heap) (locs : List Loc), va_P D hcl (mW ca ad st) H → va_S (mA ad s.heap.size) s.heap H locs → ∀ ls : Array Slot, lv_has ls 3 [(0, .ref (ad 0)), (1, .int x1), (2, .int x2)] → W p l e { frames := 1, cells := 0, slots := 0, locals := 25 } s m args below meth c H locs 0 0 (MQX below (mQ D ca ad (fun v => some (.int v)) (.inl v) st' s.heap.size) args s 0 0 (mA ad s.heap.size)) (F0 m 8 ls []) := by
  obtain ⟨hx, hb, hml, hr, hlocks, hno, hown, hts⟩ := id C
  intro n
  induction n with
  | zero => intro st x1 x2 h; cases h
  | succ n ih =>
    intro st x1 x2 h H locs hP hS ls hl
    unfold f_Md_fits_b8 at h
    refine lv_iload_n hx hb d_Md_fits_8 rfl (lv_at hl 2 rfl) ?_
    refine lv_aload_n hx hb d_Md_fits_9 rfl (lv_at hl 0 rfl) ?_
    refine va_get (D := D) (ci := 11) (v := .ref (ad 1)) (C := R_Md) (T := T_Md) (N := 27) hx hb hts iw_Md hown G.1 hP 0 rfl rfl 3 (by decide) (hts _ wd_4_226) (fun _ h9 => h9) rfl d_Md_fits_10 ?_
    refine lv_iconst (v := 3) hx hb d_Md_fits_13 (by decide) ?_
    obtain ⟨v2, e_v2, h⟩ := pu_ob h
    refine pu_iald hx hb G.1 hP 1 0 rfl rfl e_v2 d_Md_fits_14 ?_
    refine lv_icmp_ge (tgt := 47) hx hb d_Md_fits_15 (by decide) (fun c3 => ?_) (fun c3 => ?_)
    · rw [if_pos c3] at h
      refine lv_iload_n hx hb d_Md_fits_47 rfl (lv_at hl 1 rfl) ?_
      obtain ⟨b4, e_b4, h⟩ := pu_ob h
      obtain ⟨e_b4, k_b4⟩ := pu_bo_inv e_b4
      cases h
      rw [e_b4]
      exact W.toX (W.zret (ty := .boolean) hx hb hr (by rcases k_b4 with e | e <;> rw [e] <;> rfl) (fun t ht _ => ⟨rfl, by rw [ht]; exact hP, hS.F ht⟩) hS.2.2 d_Md_fits_48)
    · rw [if_neg c3] at h
      refine lv_iload_n hx hb d_Md_fits_18 rfl (lv_at hl 1 rfl) ?_
      refine lv_if_eq (tgt := 39) hx hb d_Md_fits_19 (by decide) (fun c5 => ?_) (fun c5 => ?_)
      · rw [if_pos c5] at h
        refine lv_iconst (v := 0) hx hb d_Md_fits_39 (by decide) ?_
        refine lv_istore_n (lv' := [(1, .int 0), (0, .ref (ad 0)), (2, .int x2)]) hx hb d_Md_fits_40 rfl hl (by decide) rfl (fun ls hl => ?_)
        refine lv_iinc (v := (x2 + 1)) (lv' := [(2, .int (x2 + 1)), (1, .int 0), (0, .ref (ad 0))]) hx hb d_Md_fits_41 hl (k := 2) rfl rfl (by decide) rfl (fun ls hl => ?_)
        refine lv_goto (tgt := 8) hx hb d_Md_fits_44 (by decide) ?_
        exact ih st 0 (x2 + 1) h _ _ hP hS ls (lv_sub hl [2, 1, 0] rfl)
      · rw [if_neg c5] at h
        refine lv_aload_n hx hb d_Md_fits_22 rfl (lv_at hl 0 rfl) ?_
        refine lv_iload_n hx hb d_Md_fits_23 rfl (lv_at hl 2 rfl) ?_
        obtain ⟨v6, e_v6, h⟩ := pu_ob h
        refine pu_callR (va_runV (As := [.int x2]) (rest := []) ⟨hx, hb, hml, hown, hts⟩ (c_Md_earliest l D ca ad st _ x2 v6 e_v6) (xCW (C := "MuseumHouseModel") 1 hts wd_5_126 wd_1_13 wd_5_123 wd_5_125 wd_0_20 (by decide +kernel) ⟨Nat.le_of_ble_eq_true rfl, Nat.le_of_ble_eq_true rfl⟩) (G.preV hP hS 0 rfl rfl) rfl rfl hl.1 rfl (lv_room (Nat.le_of_ble_eq_true rfl)) d_Md_fits_24 ⟨Nat.zero_le _, Nat.zero_le _⟩) ?_
        refine lv_aload_n hx hb d_Md_fits_27 rfl (lv_at hl 0 rfl) ?_
        refine lv_iload_n hx hb d_Md_fits_28 rfl (lv_at hl 2 rfl) ?_
        obtain ⟨v7, e_v7, h⟩ := pu_ob h
        refine pu_callR (va_runV (As := [.int x2]) (rest := [.int v6]) ⟨hx, hb, hml, hown, hts⟩ (c_Md_latest l D ca ad st _ x2 v7 e_v7) (xCW (C := "MuseumHouseModel") 1 hts wd_5_130 wd_1_13 wd_5_127 wd_5_129 wd_0_21 (by decide +kernel) ⟨Nat.le_of_ble_eq_true rfl, Nat.le_of_ble_eq_true rfl⟩) (G.preV hP hS 0 rfl rfl) rfl rfl hl.1 rfl (lv_room (Nat.le_of_ble_eq_true rfl)) d_Md_fits_29 ⟨Nat.zero_le _, Nat.zero_le _⟩) ?_
        refine lv_icmp_gt (tgt := 39) hx hb d_Md_fits_32 (by decide) (fun c8 => ?_) (fun c8 => ?_)
        · rw [if_pos c8] at h
          refine lv_iconst (v := 0) hx hb d_Md_fits_39 (by decide) ?_
          refine lv_istore_n (lv' := [(1, .int 0), (0, .ref (ad 0)), (2, .int x2)]) hx hb d_Md_fits_40 rfl hl (by decide) rfl (fun ls hl => ?_)
          refine lv_iinc (v := (x2 + 1)) (lv' := [(2, .int (x2 + 1)), (1, .int 0), (0, .ref (ad 0))]) hx hb d_Md_fits_41 hl (k := 2) rfl rfl (by decide) rfl (fun ls hl => ?_)
          refine lv_goto (tgt := 8) hx hb d_Md_fits_44 (by decide) ?_
          exact ih st 0 (x2 + 1) h _ _ hP hS ls (lv_sub hl [2, 1, 0] rfl)
        · rw [if_neg c8] at h
          refine lv_iconst (v := 1) hx hb d_Md_fits_35 (by decide) ?_
          refine lv_goto (tgt := 40) hx hb d_Md_fits_36 (by decide) ?_
          refine lv_istore_n (lv' := [(1, .int 1), (0, .ref (ad 0)), (2, .int x2)]) hx hb d_Md_fits_40 rfl hl (by decide) rfl (fun ls hl => ?_)
          refine lv_iinc (v := (x2 + 1)) (lv' := [(2, .int (x2 + 1)), (1, .int 1), (0, .ref (ad 0))]) hx hb d_Md_fits_41 hl (k := 2) rfl rfl (by decide) rfl (fun ls hl => ?_)
          refine lv_goto (tgt := 8) hx hb d_Md_fits_44 (by decide) ?_
          exact ih st 1 (x2 + 1) h _ _ hP hS ls (lv_sub hl [2, 1, 0] rfl)
set_option maxHeartbeats 4000000 in
set_option maxRecDepth 100000 in
theorem c_Md_fits (l : Launch) (htl : l.stackTraces = false) (D : va_G) (ca : Nat → ClassId) (ad : Nat → Nat) (st : pu_St) (sz : Nat) (v : Int32) (st' : pu_St) (h : f_Md_fits st = some (v, st')) : MetX l y_Md_fits (.code y_Md_fits b_Md_fits 3 (some .boolean) :: tG) { frames := 1, cells := 0, slots := 0, locals := 25 } (va_Pc [.ref (ad 0)] (mPc D ca ad st sz)) (mQ D ca ad (fun v => some (.int v)) (.inl v) st' sz) 0 0 (mA ad sz) := by
  refine mMet (by decide +kernel) ?_
  intro p e s m below meth c hsz C G hP
  obtain ⟨hx, hb, hml, hr, hlocks, hno, hown, hts⟩ := id C
  have hown : s.vm.findClass "MuseumHouseModel" = some m.cls := hown
  have hS : va_S (mA ad s.heap.size) s.heap s.heap [] := va_S.rf
  have hl := lv_entry ([.ref (ad 0)]) (n := 3) (Nat.le_of_ble_eq_true rfl)
  rw [lg_entry_eq]
  generalize (lg_sl ([.ref (ad 0)]) ++ List.replicate (3 - (lg_sl ([.ref (ad 0)])).length) Slot.unset).toArray = ls at hl ⊢
  have hl : lv_has ls 3 [(0, .ref (ad 0))] := hl
  unfold f_Md_fits at h
  refine lv_aload_n hx hb d_Md_fits_0 rfl (lv_at hl 0 rfl) ?_
  obtain ⟨q1, e_q1, h⟩ := pu_ob h
  refine mCallU G hS (va_runV (As := []) (rest := []) ⟨hx, hb, hml, hown, hts⟩ (MetX.met (c_Md_follow l htl D ca ad st _ q1.1 q1.2 e_q1) (fun _ _ _ _ q => ⟨_, q.1⟩)) (xCW (C := "MuseumHouseModel") 0 hts wd_5_118 wd_1_13 wd_5_115 wd_5_117 wd_0_18 (by decide +kernel) ⟨Nat.le_of_ble_eq_true rfl, Nat.le_of_ble_eq_true rfl⟩) (G.preV hP hS 0 rfl rfl) rfl rfl hl.1 rfl (lv_room (Nat.le_of_ble_eq_true rfl)) d_Md_fits_1 ⟨Nat.zero_le _, Nat.zero_le _⟩) (fun H locs hP hS => ?_)
  refine lv_iconst (v := 1) hx hb d_Md_fits_4 (by decide) ?_
  refine lv_istore_n (lv' := [(1, .int 1), (0, .ref (ad 0))]) hx hb d_Md_fits_5 rfl hl (by decide) rfl (fun ls hl => ?_)
  refine lv_iconst (v := 0) hx hb d_Md_fits_6 (by decide) ?_
  refine lv_istore_n (lv' := [(2, .int 0), (1, .int 1), (0, .ref (ad 0))]) hx hb d_Md_fits_7 rfl hl (by decide) rfl (fun ls hl => ?_)
  exact t_Md_fits_b8 htl C G pu_fu q1.2 1 0 h _ _ hP hS ls (lv_sub hl [2, 1, 0] rfl)
set_option maxHeartbeats 4000000 in
set_option maxRecDepth 100000 in
theorem t_Md_above_b224 {l : Launch} (htl : l.stackTraces = false) {p : Program} {e : Env} {s : State} {m : MethodId} {args : Array Value} {below : List Frame} {meth : Method} {c : Code} {D : va_G} {ca : Nat → ClassId} {ad : Nat → Nat} {st' : pu_St} {v : Int32} (C : hC p s m meth c args b_Md_above 9 (some .boolean) "MuseumHouseModel") (G : mX D ca ad (mA ad s.heap.size) s) :
    ∀ (_ : Unit) (st : pu_St) (x1 x2 x3 x4 x5 x6 x7 : Int32), f_Md_above_b224 st x1 x2 x3 x4 x5 x6 x7 = some (v, st') → ∀ (H : Heap) (locs : List Loc), va_P D hcl (mW ca ad st) H → va_S (mA ad s.heap.size) s.heap H locs → ∀ ls : Array Slot, lv_has ls 9 [(0, .ref (ad 0)), (1, .int x1), (2, .int x2), (3, .int x3), (4, .int x4), (5, .int x5), (6, .int x6), (7, .int x7)] → W p l e { frames := 2, cells := 0, slots := 0, locals := 47 } s m args below meth c H locs 0 0 (MQX below (mQ D ca ad (fun v => some (.int v)) (.inl v) st' s.heap.size) args s 0 0 (mA ad s.heap.size)) (F0 m 224 ls []) := by
  obtain ⟨hx, hb, hml, hr, hlocks, hno, hown, hts⟩ := id C
  intro _ st x1 x2 x3 x4 x5 x6 x7 h H locs hP hS ls hl
  unfold f_Md_above_b224 at h
  refine lv_aload_n hx hb d_Md_above_224 rfl (lv_at hl 0 rfl) ?_
  refine lv_iload hx hb d_Md_above_225 (lv_at hl 4 rfl) ?_
  obtain ⟨q23, e_q23, h⟩ := pu_ob h
  refine mCallI G hS (va_runV (As := [.int x4]) (rest := []) ⟨hx, hb, hml, hown, hts⟩ (MetX.met (c_Md_holds l htl D ca ad st _ x4 q23.1 q23.2 e_q23) (fun _ _ _ _ q => ⟨_, q.1⟩)) (xCW (C := "MuseumHouseModel") 1 hts wd_5_94 wd_1_13 wd_5_91 wd_5_93 wd_0_16 (by decide +kernel) ⟨Nat.le_of_ble_eq_true rfl, Nat.le_of_ble_eq_true rfl⟩) (G.preV hP hS 0 rfl rfl) rfl rfl hl.1 rfl (lv_room (Nat.le_of_ble_eq_true rfl)) d_Md_above_227 ⟨Nat.zero_le _, Nat.zero_le _⟩) (fun H locs hP hS => ?_)
  refine lv_if_eq (tgt := 242) hx hb d_Md_above_230 (by decide) (fun c24 => ?_) (fun c24 => ?_)
  · rw [if_pos c24] at h
    refine lv_iconst (v := 0) hx hb d_Md_above_242 (by decide) ?_
    cases h
    exact W.toX (W.zret (ty := .boolean) hx hb hr rfl (fun t ht _ => ⟨rfl, by rw [ht]; exact hP, hS.F ht⟩) hS.2.2 d_Md_above_243)
  · rw [if_neg c24] at h
    refine lv_iload hx hb d_Md_above_233 (lv_at hl 7 rfl) ?_
    refine lv_if_ne (tgt := 242) hx hb d_Md_above_235 (by decide) (fun c25 => ?_) (fun c25 => ?_)
    · rw [if_neg c25] at h
      refine lv_iconst (v := 0) hx hb d_Md_above_242 (by decide) ?_
      cases h
      exact W.toX (W.zret (ty := .boolean) hx hb hr rfl (fun t ht _ => ⟨rfl, by rw [ht]; exact hP, hS.F ht⟩) hS.2.2 d_Md_above_243)
    · rw [if_pos c25] at h
      refine lv_iconst (v := 1) hx hb d_Md_above_238 (by decide) ?_
      refine lv_goto (tgt := 243) hx hb d_Md_above_239 (by decide) ?_
      cases h
      exact W.toX (W.zret (ty := .boolean) hx hb hr rfl (fun t ht _ => ⟨rfl, by rw [ht]; exact hP, hS.F ht⟩) hS.2.2 d_Md_above_243)
set_option maxHeartbeats 4000000 in
set_option maxRecDepth 100000 in
theorem t_Md_above_b223 {l : Launch} (htl : l.stackTraces = false) {p : Program} {e : Env} {s : State} {m : MethodId} {args : Array Value} {below : List Frame} {meth : Method} {c : Code} {D : va_G} {ca : Nat → ClassId} {ad : Nat → Nat} {st' : pu_St} {v : Int32} (C : hC p s m meth c args b_Md_above 9 (some .boolean) "MuseumHouseModel") (G : mX D ca ad (mA ad s.heap.size) s) :
    ∀ (_ : Unit) (st : pu_St) (x1 x2 x3 x4 x5 x6 x7 x8 z0 z1 : Int32), f_Md_above_b223 st x1 x2 x3 x4 x5 x6 x7 x8 z0 z1 = some (v, st') → ∀ (H : Heap) (locs : List Loc), va_P D hcl (mW ca ad st) H → va_S (mA ad s.heap.size) s.heap H locs → ∀ ls : Array Slot, lv_has ls 9 [(0, .ref (ad 0)), (1, .int x1), (2, .int x2), (3, .int x3), (4, .int x4), (5, .int x5), (6, .int x6), (7, .int x7), (8, .int x8)] → W p l e { frames := 2, cells := 0, slots := 0, locals := 47 } s m args below meth c H locs 0 0 (MQX below (mQ D ca ad (fun v => some (.int v)) (.inl v) st' s.heap.size) args s 0 0 (mA ad s.heap.size)) (F0 m 223 ls [.int z0, .int z1, .ref (ad 6)]) := by
  obtain ⟨hx, hb, hml, hr, hlocks, hno, hown, hts⟩ := id C
  intro _ st x1 x2 x3 x4 x5 x6 x7 x8 z0 z1 h H locs hP hS ls hl
  unfold f_Md_above_b223 at h
  obtain ⟨b28, e_b28, h⟩ := pu_ob h
  obtain ⟨e_b28, k_b28⟩ := pu_bo_inv e_b28
  rw [e_b28]
  obtain ⟨g29, e_g29, h⟩ := pu_ob h
  refine pu_zast hx hb G.1 hP (G.D) hS 6 5 rfl rfl e_g29 (by rcases k_b28 with e | e <;> rw [e] <;> rfl) d_Md_above_223 (fun H locs hP hS => ?_)
  have hP : va_P D hcl (mW ca ad (st.1, va_up st.2 5 g29)) H := hP
  exact t_Md_above_b224 htl C G () (st.1, va_up st.2 5 g29) x1 x2 x3 x4 x5 x6 x7 h _ _ hP hS ls (lv_sub hl [0, 1, 2, 3, 4, 5, 6, 7] rfl)
set_option maxHeartbeats 4000000 in
set_option maxRecDepth 100000 in
theorem t_Md_above_b218 {l : Launch} (htl : l.stackTraces = false) {p : Program} {e : Env} {s : State} {m : MethodId} {args : Array Value} {below : List Frame} {meth : Method} {c : Code} {D : va_G} {ca : Nat → ClassId} {ad : Nat → Nat} {st' : pu_St} {v : Int32} (C : hC p s m meth c args b_Md_above 9 (some .boolean) "MuseumHouseModel") (G : mX D ca ad (mA ad s.heap.size) s) :
    ∀ (_ : Unit) (st : pu_St) (x1 x2 x3 x4 x5 x6 x7 x8 z0 : Int32), f_Md_above_b218 st x1 x2 x3 x4 x5 x6 x7 x8 z0 = some (v, st') → ∀ (H : Heap) (locs : List Loc), va_P D hcl (mW ca ad st) H → va_S (mA ad s.heap.size) s.heap H locs → ∀ ls : Array Slot, lv_has ls 9 [(0, .ref (ad 0)), (1, .int x1), (2, .int x2), (3, .int x3), (4, .int x4), (5, .int x5), (6, .int x6), (7, .int x7), (8, .int x8)] → W p l e { frames := 2, cells := 0, slots := 0, locals := 47 } s m args below meth c H locs 0 0 (MQX below (mQ D ca ad (fun v => some (.int v)) (.inl v) st' s.heap.size) args s 0 0 (mA ad s.heap.size)) (F0 m 218 ls [.int z0, .ref (ad 6)]) := by
  obtain ⟨hx, hb, hml, hr, hlocks, hno, hown, hts⟩ := id C
  intro _ st x1 x2 x3 x4 x5 x6 x7 x8 z0 h H locs hP hS ls hl
  unfold f_Md_above_b218 at h
  refine lv_iconst (v := 1) hx hb d_Md_above_218 (by decide) ?_
  refine lv_goto (tgt := 223) hx hb d_Md_above_219 (by decide) ?_
  exact t_Md_above_b223 htl C G () st x1 x2 x3 x4 x5 x6 x7 x8 1 z0 h _ _ hP hS ls (lv_sub hl [0, 1, 2, 3, 4, 5, 6, 7, 8] rfl)
set_option maxHeartbeats 4000000 in
set_option maxRecDepth 100000 in
theorem t_Md_above_b194 {l : Launch} (htl : l.stackTraces = false) {p : Program} {e : Env} {s : State} {m : MethodId} {args : Array Value} {below : List Frame} {meth : Method} {c : Code} {D : va_G} {ca : Nat → ClassId} {ad : Nat → Nat} {st' : pu_St} {v : Int32} (C : hC p s m meth c args b_Md_above 9 (some .boolean) "MuseumHouseModel") (G : mX D ca ad (mA ad s.heap.size) s) :
    ∀ (_ : Unit) (st : pu_St) (x1 x2 x3 x4 x5 x6 x7 x8 z0 : Int32), f_Md_above_b194 st x1 x2 x3 x4 x5 x6 x7 x8 z0 = some (v, st') → ∀ (H : Heap) (locs : List Loc), va_P D hcl (mW ca ad st) H → va_S (mA ad s.heap.size) s.heap H locs → ∀ ls : Array Slot, lv_has ls 9 [(0, .ref (ad 0)), (1, .int x1), (2, .int x2), (3, .int x3), (4, .int x4), (5, .int x5), (6, .int x6), (7, .int x7), (8, .int x8)] → W p l e { frames := 2, cells := 0, slots := 0, locals := 47 } s m args below meth c H locs 0 0 (MQX below (mQ D ca ad (fun v => some (.int v)) (.inl v) st' s.heap.size) args s 0 0 (mA ad s.heap.size)) (F0 m 194 ls [.int z0]) := by
  obtain ⟨hx, hb, hml, hr, hlocks, hno, hown, hts⟩ := id C
  intro _ st x1 x2 x3 x4 x5 x6 x7 x8 z0 h H locs hP hS ls hl
  unfold f_Md_above_b194 at h
  refine lv_istore (lv' := [(4, .int z0), (0, .ref (ad 0)), (1, .int x1), (2, .int x2), (3, .int x3), (5, .int x5), (6, .int x6), (7, .int x7), (8, .int x8)]) hx hb d_Md_above_194 hl (by decide) rfl (fun ls hl => ?_)
  refine lv_aload_n hx hb d_Md_above_196 rfl (lv_at hl 1 rfl) ?_
  refine va_get (D := D) (ci := 11) (v := .ref (ad 6)) (C := R_Md) (T := T_Md) (N := 27) hx hb hts iw_Md hown G.1 hP 0 rfl rfl 8 (by decide) (hts _ wd_4_231) (fun _ h9 => h9) rfl d_Md_above_197 ?_
  refine lv_bipush (v := 20) hx hb d_Md_above_200 (by decide) ?_
  refine lv_iload hx hb d_Md_above_202 (lv_at hl 5 rfl) ?_
  refine lv_imul hx hb d_Md_above_204 ?_
  refine lv_iload hx hb d_Md_above_205 (lv_at hl 6 rfl) ?_
  refine lv_iadd hx hb d_Md_above_207 ?_
  refine lv_iload hx hb d_Md_above_208 (lv_at hl 0 rfl) ?_
  refine lv_if_eq (tgt := 218) hx hb d_Md_above_210 (by decide) (fun c26 => ?_) (fun c26 => ?_)
  · rw [if_pos c26] at h
    exact t_Md_above_b218 htl C G () st x1 x2 x3 z0 x5 x6 x7 x8 ((20 * x5) + x6) h _ _ hP hS ls (lv_sub hl [1, 2, 3, 4, 0, 5, 6, 7, 8] rfl)
  · rw [if_neg c26] at h
    refine lv_iload hx hb d_Md_above_213 (lv_at hl 8 rfl) ?_
    refine lv_if_eq (tgt := 222) hx hb d_Md_above_215 (by decide) (fun c27 => ?_) (fun c27 => ?_)
    · rw [if_pos c27] at h
      refine lv_iconst (v := 0) hx hb d_Md_above_222 (by decide) ?_
      exact t_Md_above_b223 htl C G () st x1 x2 x3 z0 x5 x6 x7 x8 0 ((20 * x5) + x6) h _ _ hP hS ls (lv_sub hl [1, 2, 3, 4, 0, 5, 6, 7, 8] rfl)
    · rw [if_neg c27] at h
      exact t_Md_above_b218 htl C G () st x1 x2 x3 z0 x5 x6 x7 x8 ((20 * x5) + x6) h _ _ hP hS ls (lv_sub hl [1, 2, 3, 4, 0, 5, 6, 7, 8] rfl)
set_option maxHeartbeats 4000000 in
set_option maxRecDepth 100000 in
theorem t_Md_above_b140 {l : Launch} (htl : l.stackTraces = false) {p : Program} {e : Env} {s : State} {m : MethodId} {args : Array Value} {below : List Frame} {meth : Method} {c : Code} {D : va_G} {ca : Nat → ClassId} {ad : Nat → Nat} {st' : pu_St} {v : Int32} (C : hC p s m meth c args b_Md_above 9 (some .boolean) "MuseumHouseModel") (G : mX D ca ad (mA ad s.heap.size) s) :
    ∀ (_ : Unit) (st : pu_St) (x1 x2 x3 x4 x5 x6 x7 z0 z1 : Int32), f_Md_above_b140 st x1 x2 x3 x4 x5 x6 x7 z0 z1 = some (v, st') → ∀ (H : Heap) (locs : List Loc), va_P D hcl (mW ca ad st) H → va_S (mA ad s.heap.size) s.heap H locs → ∀ ls : Array Slot, lv_has ls 9 [(0, .ref (ad 0)), (1, .int x1), (2, .int x2), (3, .int x3), (4, .int x4), (5, .int x5), (6, .int x6), (7, .int x7)] → W p l e { frames := 2, cells := 0, slots := 0, locals := 47 } s m args below meth c H locs 0 0 (MQX below (mQ D ca ad (fun v => some (.int v)) (.inl v) st' s.heap.size) args s 0 0 (mA ad s.heap.size)) (F0 m 140 ls [.int z0, .int z1]) := by
  obtain ⟨hx, hb, hml, hr, hlocks, hno, hown, hts⟩ := id C
  intro _ st x1 x2 x3 x4 x5 x6 x7 z0 z1 h H locs hP hS ls hl
  unfold f_Md_above_b140 at h
  refine lv_bipush (v := 7) hx hb d_Md_above_140 (by decide) ?_
  obtain ⟨v17, e_v17, h⟩ := pu_ob h
  refine pu_callR (va_runS (As := [.int z1, .int z0, .int 7]) (rest := []) ⟨hx, hb, hml, hown, hts⟩ (c_Md_then l D ca ad st _ z1 z0 7 v17 e_v17) (xCS 3 hts wd_5_90 wd_1_13 wd_5_88 wd_5_89 (by decide +kernel) ⟨Nat.le_of_ble_eq_true rfl, Nat.le_of_ble_eq_true rfl⟩) (G.preS hP hS) rfl rfl hl.1 rfl (lv_room (Nat.le_of_ble_eq_true rfl)) d_Md_above_142 ⟨Nat.zero_le _, Nat.zero_le _⟩) ?_
  refine lv_istore (lv' := [(4, .int v17), (0, .ref (ad 0)), (1, .int x1), (2, .int x2), (3, .int x3), (5, .int x5), (6, .int x6), (7, .int x7)]) hx hb d_Md_above_145 hl (by decide) rfl (fun ls hl => ?_)
  refine lv_iload hx hb d_Md_above_147 (lv_at hl 0 rfl) ?_
  refine lv_if_ne (tgt := 224) hx hb d_Md_above_149 (by decide) (fun c18 => ?_) (fun c18 => ?_)
  · rw [if_neg c18] at h
    exact t_Md_above_b224 htl C G () st x1 x2 x3 v17 x5 x6 x7 h _ _ hP hS ls (lv_sub hl [1, 2, 3, 4, 0, 5, 6, 7] rfl)
  · rw [if_pos c18] at h
    refine lv_aload_n hx hb d_Md_above_152 rfl (lv_at hl 1 rfl) ?_
    refine va_get (D := D) (ci := 11) (v := .ref (ad 6)) (C := R_Md) (T := T_Md) (N := 27) hx hb hts iw_Md hown G.1 hP 0 rfl rfl 8 (by decide) (hts _ wd_4_231) (fun _ h9 => h9) rfl d_Md_above_153 ?_
    refine lv_bipush (v := 20) hx hb d_Md_above_156 (by decide) ?_
    refine lv_iload hx hb d_Md_above_158 (lv_at hl 5 rfl) ?_
    refine lv_imul hx hb d_Md_above_160 ?_
    refine lv_iload hx hb d_Md_above_161 (lv_at hl 6 rfl) ?_
    refine lv_iadd hx hb d_Md_above_163 ?_
    obtain ⟨v19, e_v19, h⟩ := pu_ob h
    refine pu_zald hx hb G.1 hP 6 5 rfl rfl e_v19 d_Md_above_164 ?_
    refine lv_istore (lv' := [(8, .int v19), (4, .int v17), (0, .ref (ad 0)), (1, .int x1), (2, .int x2), (3, .int x3), (5, .int x5), (6, .int x6), (7, .int x7)]) hx hb d_Md_above_165 hl (by decide) rfl (fun ls hl => ?_)
    refine lv_aload_n hx hb d_Md_above_167 rfl (lv_at hl 2 rfl) ?_
    refine va_get (D := D) (ci := 11) (v := .ref (ad 6)) (C := R_Md) (T := T_Md) (N := 27) hx hb hts iw_Md hown G.1 hP 0 rfl rfl 8 (by decide) (hts _ wd_4_231) (fun _ h9 => h9) rfl d_Md_above_168 ?_
    refine lv_bipush (v := 20) hx hb d_Md_above_171 (by decide) ?_
    refine lv_iload hx hb d_Md_above_173 (lv_at hl 6 rfl) ?_
    refine lv_imul hx hb d_Md_above_175 ?_
    refine lv_iload hx hb d_Md_above_176 (lv_at hl 7 rfl) ?_
    refine lv_iadd hx hb d_Md_above_178 ?_
    refine lv_iconst (v := 1) hx hb d_Md_above_179 (by decide) ?_
    obtain ⟨g20, e_g20, h⟩ := pu_ob h
    refine pu_zast hx hb G.1 hP (G.D) hS 6 5 rfl rfl e_g20 rfl d_Md_above_180 (fun H locs hP hS => ?_)
    have hP : va_P D hcl (mW ca ad (st.1, va_up st.2 5 g20)) H := hP
    refine lv_aload_n hx hb d_Md_above_181 rfl (lv_at hl 2 rfl) ?_
    obtain ⟨q21, e_q21, h⟩ := pu_ob h
    refine mCallI G hS (va_runV (As := []) (rest := []) ⟨hx, hb, hml, hown, hts⟩ (MetX.met (c_Md_fits l htl D ca ad (st.1, va_up st.2 5 g20) _ q21.1 q21.2 e_q21) (fun _ _ _ _ q => ⟨_, q.1⟩)) (xCW (C := "MuseumHouseModel") 0 hts wd_5_122 wd_1_13 wd_5_119 wd_5_121 wd_0_19 (by decide +kernel) ⟨Nat.le_of_ble_eq_true rfl, Nat.le_of_ble_eq_true rfl⟩) (G.preV hP hS 0 rfl rfl) rfl rfl hl.1 rfl (lv_room (Nat.le_of_ble_eq_true rfl)) d_Md_above_182 ⟨Nat.zero_le _, Nat.zero_le _⟩) (fun H locs hP hS => ?_)
    refine lv_if_eq (tgt := 192) hx hb d_Md_above_185 (by decide) (fun c22 => ?_) (fun c22 => ?_)
    · rw [if_pos c22] at h
      refine lv_bipush (v := 8) hx hb d_Md_above_192 (by decide) ?_
      exact t_Md_above_b194 htl C G () q21.2 x1 x2 x3 v17 x5 x6 x7 v19 8 h _ _ hP hS ls (lv_sub hl [2, 3, 4, 5, 1, 6, 7, 8, 0] rfl)
    · rw [if_neg c22] at h
      refine lv_iconst (v := 0) hx hb d_Md_above_188 (by decide) ?_
      refine lv_goto (tgt := 194) hx hb d_Md_above_189 (by decide) ?_
      exact t_Md_above_b194 htl C G () q21.2 x1 x2 x3 v17 x5 x6 x7 v19 0 h _ _ hP hS ls (lv_sub hl [2, 3, 4, 5, 1, 6, 7, 8, 0] rfl)
set_option maxHeartbeats 4000000 in
set_option maxRecDepth 100000 in
theorem t_Md_above_b139 {l : Launch} (htl : l.stackTraces = false) {p : Program} {e : Env} {s : State} {m : MethodId} {args : Array Value} {below : List Frame} {meth : Method} {c : Code} {D : va_G} {ca : Nat → ClassId} {ad : Nat → Nat} {st' : pu_St} {v : Int32} (C : hC p s m meth c args b_Md_above 9 (some .boolean) "MuseumHouseModel") (G : mX D ca ad (mA ad s.heap.size) s) :
    ∀ (_ : Unit) (st : pu_St) (x1 x2 x3 x4 x5 x6 x7 z0 : Int32), f_Md_above_b139 st x1 x2 x3 x4 x5 x6 x7 z0 = some (v, st') → ∀ (H : Heap) (locs : List Loc), va_P D hcl (mW ca ad st) H → va_S (mA ad s.heap.size) s.heap H locs → ∀ ls : Array Slot, lv_has ls 9 [(0, .ref (ad 0)), (1, .int x1), (2, .int x2), (3, .int x3), (4, .int x4), (5, .int x5), (6, .int x6), (7, .int x7)] → W p l e { frames := 2, cells := 0, slots := 0, locals := 47 } s m args below meth c H locs 0 0 (MQX below (mQ D ca ad (fun v => some (.int v)) (.inl v) st' s.heap.size) args s 0 0 (mA ad s.heap.size)) (F0 m 139 ls [.int z0]) := by
  obtain ⟨hx, hb, hml, hr, hlocks, hno, hown, hts⟩ := id C
  intro _ st x1 x2 x3 x4 x5 x6 x7 z0 h H locs hP hS ls hl
  unfold f_Md_above_b139 at h
  refine lv_iconst (v := 0) hx hb d_Md_above_139 (by decide) ?_
  exact t_Md_above_b140 htl C G () st x1 x2 x3 x4 x5 x6 x7 0 z0 h _ _ hP hS ls (lv_sub hl [0, 1, 2, 3, 4, 5, 6, 7] rfl)
set_option maxHeartbeats 4000000 in
set_option maxRecDepth 100000 in
theorem t_Md_above_b103 {l : Launch} (htl : l.stackTraces = false) {p : Program} {e : Env} {s : State} {m : MethodId} {args : Array Value} {below : List Frame} {meth : Method} {c : Code} {D : va_G} {ca : Nat → ClassId} {ad : Nat → Nat} {st' : pu_St} {v : Int32} (C : hC p s m meth c args b_Md_above 9 (some .boolean) "MuseumHouseModel") (G : mX D ca ad (mA ad s.heap.size) s) :
    ∀ (_ : Unit) (st : pu_St) (x1 x2 x3 x4 x5 x6 x7 z0 z1 : Int32), f_Md_above_b103 st x1 x2 x3 x4 x5 x6 x7 z0 z1 = some (v, st') → ∀ (H : Heap) (locs : List Loc), va_P D hcl (mW ca ad st) H → va_S (mA ad s.heap.size) s.heap H locs → ∀ ls : Array Slot, lv_has ls 9 [(0, .ref (ad 0)), (1, .int x1), (2, .int x2), (3, .int x3), (4, .int x4), (5, .int x5), (6, .int x6), (7, .int x7)] → W p l e { frames := 2, cells := 0, slots := 0, locals := 47 } s m args below meth c H locs 0 0 (MQX below (mQ D ca ad (fun v => some (.int v)) (.inl v) st' s.heap.size) args s 0 0 (mA ad s.heap.size)) (F0 m 103 ls [.int z0, .int z1]) := by
  obtain ⟨hx, hb, hml, hr, hlocks, hno, hown, hts⟩ := id C
  intro _ st x1 x2 x3 x4 x5 x6 x7 z0 z1 h H locs hP hS ls hl
  unfold f_Md_above_b103 at h
  refine lv_bipush (v := 6) hx hb d_Md_above_103 (by decide) ?_
  obtain ⟨v13, e_v13, h⟩ := pu_ob h
  refine pu_callR (va_runS (As := [.int z1, .int z0, .int 6]) (rest := []) ⟨hx, hb, hml, hown, hts⟩ (c_Md_then l D ca ad st _ z1 z0 6 v13 e_v13) (xCS 3 hts wd_5_90 wd_1_13 wd_5_88 wd_5_89 (by decide +kernel) ⟨Nat.le_of_ble_eq_true rfl, Nat.le_of_ble_eq_true rfl⟩) (G.preS hP hS) rfl rfl hl.1 rfl (lv_room (Nat.le_of_ble_eq_true rfl)) d_Md_above_105 ⟨Nat.zero_le _, Nat.zero_le _⟩) ?_
  refine lv_istore (lv' := [(4, .int v13), (0, .ref (ad 0)), (1, .int x1), (2, .int x2), (3, .int x3), (5, .int x5), (6, .int x6), (7, .int x7)]) hx hb d_Md_above_108 hl (by decide) rfl (fun ls hl => ?_)
  refine lv_iload hx hb d_Md_above_110 (lv_at hl 0 rfl) ?_
  refine lv_iload hx hb d_Md_above_112 (lv_at hl 5 rfl) ?_
  refine lv_iload hx hb d_Md_above_114 (lv_at hl 6 rfl) ?_
  refine lv_icmp_eq (tgt := 139) hx hb d_Md_above_116 (by decide) (fun c14 => ?_) (fun c14 => ?_)
  · rw [if_pos c14] at h
    exact t_Md_above_b139 htl C G () st x1 x2 x3 v13 x5 x6 x7 v13 h _ _ hP hS ls (lv_sub hl [1, 2, 3, 4, 0, 5, 6, 7] rfl)
  · rw [if_neg c14] at h
    refine lv_aload_n hx hb d_Md_above_119 rfl (lv_at hl 1 rfl) ?_
    refine va_get (D := D) (ci := 11) (v := .ref (ad 7)) (C := R_Md) (T := T_Md) (N := 27) hx hb hts iw_Md hown G.1 hP 0 rfl rfl 9 (by decide) (hts _ wd_4_232) (fun _ h9 => h9) rfl d_Md_above_120 ?_
    refine lv_bipush (v := 20) hx hb d_Md_above_123 (by decide) ?_
    refine lv_iload hx hb d_Md_above_125 (lv_at hl 6 rfl) ?_
    refine lv_imul hx hb d_Md_above_127 ?_
    refine lv_iload hx hb d_Md_above_128 (lv_at hl 5 rfl) ?_
    refine lv_iadd hx hb d_Md_above_130 ?_
    obtain ⟨v15, e_v15, h⟩ := pu_ob h
    refine pu_zald hx hb G.1 hP 7 6 rfl rfl e_v15 d_Md_above_131 ?_
    refine lv_if_ne (tgt := 139) hx hb d_Md_above_132 (by decide) (fun c16 => ?_) (fun c16 => ?_)
    · rw [if_neg c16] at h
      exact t_Md_above_b139 htl C G () st x1 x2 x3 v13 x5 x6 x7 v13 h _ _ hP hS ls (lv_sub hl [1, 2, 3, 4, 0, 5, 6, 7] rfl)
    · rw [if_pos c16] at h
      refine lv_iconst (v := 1) hx hb d_Md_above_135 (by decide) ?_
      refine lv_goto (tgt := 140) hx hb d_Md_above_136 (by decide) ?_
      exact t_Md_above_b140 htl C G () st x1 x2 x3 v13 x5 x6 x7 1 v13 h _ _ hP hS ls (lv_sub hl [1, 2, 3, 4, 0, 5, 6, 7] rfl)
set_option maxHeartbeats 4000000 in
set_option maxRecDepth 100000 in
theorem t_Md_above_b24 {l : Launch} (htl : l.stackTraces = false) {p : Program} {e : Env} {s : State} {m : MethodId} {args : Array Value} {below : List Frame} {meth : Method} {c : Code} {D : va_G} {ca : Nat → ClassId} {ad : Nat → Nat} {st' : pu_St} {v : Int32} (C : hC p s m meth c args b_Md_above 9 (some .boolean) "MuseumHouseModel") (G : mX D ca ad (mA ad s.heap.size) s) :
    ∀ (_ : Unit) (st : pu_St) (x1 x2 x3 z0 : Int32), f_Md_above_b24 st x1 x2 x3 z0 = some (v, st') → ∀ (H : Heap) (locs : List Loc), va_P D hcl (mW ca ad st) H → va_S (mA ad s.heap.size) s.heap H locs → ∀ ls : Array Slot, lv_has ls 9 [(0, .ref (ad 0)), (1, .int x1), (2, .int x2), (3, .int x3)] → W p l e { frames := 2, cells := 0, slots := 0, locals := 47 } s m args below meth c H locs 0 0 (MQX below (mQ D ca ad (fun v => some (.int v)) (.inl v) st' s.heap.size) args s 0 0 (mA ad s.heap.size)) (F0 m 24 ls [.int z0, .ref (ad 0)]) := by
  obtain ⟨hx, hb, hml, hr, hlocks, hno, hown, hts⟩ := id C
  intro _ st x1 x2 x3 z0 h H locs hP hS ls hl
  unfold f_Md_above_b24 at h
  refine lv_iload_n hx hb d_Md_above_24 rfl (lv_at hl 1 rfl) ?_
  refine lv_iconst (v := 2) hx hb d_Md_above_25 (by decide) ?_
  refine lv_iconst (v := 1) hx hb d_Md_above_26 (by decide) ?_
  obtain ⟨v5, e_v5, h⟩ := pu_ob h
  refine pu_callR (va_runV (As := [.int z0, .int x1, .int 2, .int 1]) (rest := []) ⟨hx, hb, hml, hown, hts⟩ (c_Md_first l D ca ad st _ z0 x1 2 1 v5 e_v5) (xCW (C := "MuseumHouseModel") 4 hts wd_5_76 wd_1_13 wd_5_73 wd_5_75 wd_0_13 (by decide +kernel) ⟨Nat.le_of_ble_eq_true rfl, Nat.le_of_ble_eq_true rfl⟩) (G.preV hP hS 0 rfl rfl) rfl rfl hl.1 rfl (lv_room (Nat.le_of_ble_eq_true rfl)) d_Md_above_27 ⟨Nat.zero_le _, Nat.zero_le _⟩) ?_
  refine lv_istore (lv' := [(4, .int v5), (0, .ref (ad 0)), (1, .int x1), (2, .int x2), (3, .int x3)]) hx hb d_Md_above_30 hl (by decide) rfl (fun ls hl => ?_)
  refine lv_iload hx hb d_Md_above_32 (lv_at hl 0 rfl) ?_
  refine lv_if_le (tgt := 46) hx hb d_Md_above_34 (by decide) (fun c6 => ?_) (fun c6 => ?_)
  · rw [if_pos c6] at h
    refine lv_iload_n hx hb d_Md_above_46 rfl (lv_at hl 3 rfl) ?_
    refine lv_sipush (v := 300) hx hb d_Md_above_47 (by decide) ?_
    refine lv_isub hx hb d_Md_above_50 ?_
    refine lv_istore (lv' := [(5, .int (x2 - 300)), (4, .int v5), (0, .ref (ad 0)), (1, .int x1), (2, .int x2), (3, .int x3)]) hx hb d_Md_above_51 hl (by decide) rfl (fun ls hl => ?_)
    refine lv_iload_n hx hb d_Md_above_53 rfl (lv_at hl 5 rfl) ?_
    refine lv_sipush (v := 300) hx hb d_Md_above_54 (by decide) ?_
    refine lv_isub hx hb d_Md_above_57 ?_
    refine lv_istore (lv' := [(6, .int (x3 - 300)), (5, .int (x2 - 300)), (4, .int v5), (0, .ref (ad 0)), (1, .int x1), (2, .int x2), (3, .int x3)]) hx hb d_Md_above_58 hl (by decide) rfl (fun ls hl => ?_)
    refine lv_aload_n hx hb d_Md_above_60 rfl (lv_at hl 3 rfl) ?_
    obtain ⟨q7, e_q7, h⟩ := pu_ob h
    refine mCallU G hS (va_runV (As := []) (rest := []) ⟨hx, hb, hml, hown, hts⟩ (MetX.met (c_Md_follow l htl D ca ad st _ q7.1 q7.2 e_q7) (fun _ _ _ _ q => ⟨_, q.1⟩)) (xCW (C := "MuseumHouseModel") 0 hts wd_5_118 wd_1_13 wd_5_115 wd_5_117 wd_0_18 (by decide +kernel) ⟨Nat.le_of_ble_eq_true rfl, Nat.le_of_ble_eq_true rfl⟩) (G.preV hP hS 0 rfl rfl) rfl rfl hl.1 rfl (lv_room (Nat.le_of_ble_eq_true rfl)) d_Md_above_61 ⟨Nat.zero_le _, Nat.zero_le _⟩) (fun H locs hP hS => ?_)
    refine lv_aload_n hx hb d_Md_above_64 rfl (lv_at hl 3 rfl) ?_
    refine va_get (D := D) (ci := 11) (v := .ref (ad 7)) (C := R_Md) (T := T_Md) (N := 27) hx hb hts iw_Md hown G.1 hP 0 rfl rfl 9 (by decide) (hts _ wd_4_232) (fun _ h9 => h9) rfl d_Md_above_65 ?_
    refine lv_bipush (v := 20) hx hb d_Md_above_68 (by decide) ?_
    refine lv_iload hx hb d_Md_above_70 (lv_at hl 1 rfl) ?_
    refine lv_imul hx hb d_Md_above_72 ?_
    refine lv_iload hx hb d_Md_above_73 (lv_at hl 0 rfl) ?_
    refine lv_iadd hx hb d_Md_above_75 ?_
    obtain ⟨v8, e_v8, h⟩ := pu_ob h
    refine pu_zald hx hb G.1 hP 7 6 rfl rfl e_v8 d_Md_above_76 ?_
    refine lv_istore (lv' := [(7, .int v8), (6, .int (x3 - 300)), (5, .int (x2 - 300)), (4, .int v5), (0, .ref (ad 0)), (1, .int x1), (2, .int x2), (3, .int x3)]) hx hb d_Md_above_77 hl (by decide) rfl (fun ls hl => ?_)
    refine lv_iload hx hb d_Md_above_79 (lv_at hl 3 rfl) ?_
    refine lv_aload_n hx hb d_Md_above_81 rfl (lv_at hl 4 rfl) ?_
    refine va_get (D := D) (ci := 11) (v := .ref (ad 3)) (C := R_Md) (T := T_Md) (N := 27) hx hb hts iw_Md hown G.1 hP 0 rfl rfl 5 (by decide) (hts _ wd_4_228) (fun _ h9 => h9) rfl d_Md_above_82 ?_
    refine lv_iload hx hb d_Md_above_85 (lv_at hl 2 rfl) ?_
    obtain ⟨v9, e_v9, h⟩ := pu_ob h
    refine pu_iald hx hb G.1 hP 3 2 rfl rfl e_v9 d_Md_above_87 ?_
    refine lv_aload_n hx hb d_Md_above_88 rfl (lv_at hl 4 rfl) ?_
    refine va_get (D := D) (ci := 11) (v := .ref (ad 3)) (C := R_Md) (T := T_Md) (N := 27) hx hb hts iw_Md hown G.1 hP 0 rfl rfl 5 (by decide) (hts _ wd_4_228) (fun _ h9 => h9) rfl d_Md_above_89 ?_
    refine lv_iload hx hb d_Md_above_92 (lv_at hl 1 rfl) ?_
    obtain ⟨v10, e_v10, h⟩ := pu_ob h
    refine pu_iald hx hb G.1 hP 3 2 rfl rfl e_v10 d_Md_above_94 ?_
    refine lv_icmp_ne (tgt := 102) hx hb d_Md_above_95 (by decide) (fun c11 => ?_) (fun c11 => ?_)
    · rw [if_neg c11] at h
      refine lv_iconst (v := 0) hx hb d_Md_above_102 (by decide) ?_
      exact t_Md_above_b103 htl C G () q7.2 x1 x2 x3 v5 (x2 - 300) (x3 - 300) v8 0 v5 h _ _ hP hS ls (lv_sub hl [4, 5, 6, 7, 3, 2, 1, 0] rfl)
    · rw [if_pos c11] at h
      refine lv_iconst (v := 1) hx hb d_Md_above_98 (by decide) ?_
      refine lv_goto (tgt := 103) hx hb d_Md_above_99 (by decide) ?_
      exact t_Md_above_b103 htl C G () q7.2 x1 x2 x3 v5 (x2 - 300) (x3 - 300) v8 1 v5 h _ _ hP hS ls (lv_sub hl [4, 5, 6, 7, 3, 2, 1, 0] rfl)
  · rw [if_neg c6] at h
    refine lv_aload_n hx hb d_Md_above_37 rfl (lv_at hl 1 rfl) ?_
    refine lv_iload hx hb d_Md_above_38 (lv_at hl 0 rfl) ?_
    obtain ⟨q12, e_q12, h⟩ := pu_ob h
    refine mCallI G hS (va_runV (As := [.int v5]) (rest := []) ⟨hx, hb, hml, hown, hts⟩ (MetX.met (c_Md_holds l htl D ca ad st _ v5 q12.1 q12.2 e_q12) (fun _ _ _ _ q => ⟨_, q.1⟩)) (xCW (C := "MuseumHouseModel") 1 hts wd_5_94 wd_1_13 wd_5_91 wd_5_93 wd_0_16 (by decide +kernel) ⟨Nat.le_of_ble_eq_true rfl, Nat.le_of_ble_eq_true rfl⟩) (G.preV hP hS 0 rfl rfl) rfl rfl hl.1 rfl (lv_room (Nat.le_of_ble_eq_true rfl)) d_Md_above_40 ⟨Nat.zero_le _, Nat.zero_le _⟩) (fun H locs hP hS => ?_)
    refine lv_pop hx hb d_Md_above_43 rfl ?_
    refine lv_iconst (v := 0) hx hb d_Md_above_44 (by decide) ?_
    cases h
    exact W.toX (W.zret (ty := .boolean) hx hb hr rfl (fun t ht _ => ⟨rfl, by rw [ht]; exact hP, hS.F ht⟩) hS.2.2 d_Md_above_45)
set_option maxHeartbeats 4000000 in
set_option maxRecDepth 100000 in
theorem t_Md_above_b23 {l : Launch} (htl : l.stackTraces = false) {p : Program} {e : Env} {s : State} {m : MethodId} {args : Array Value} {below : List Frame} {meth : Method} {c : Code} {D : va_G} {ca : Nat → ClassId} {ad : Nat → Nat} {st' : pu_St} {v : Int32} (C : hC p s m meth c args b_Md_above 9 (some .boolean) "MuseumHouseModel") (G : mX D ca ad (mA ad s.heap.size) s) :
    ∀ (_ : Unit) (st : pu_St) (x1 x2 x3 : Int32), f_Md_above_b23 st x1 x2 x3 = some (v, st') → ∀ (H : Heap) (locs : List Loc), va_P D hcl (mW ca ad st) H → va_S (mA ad s.heap.size) s.heap H locs → ∀ ls : Array Slot, lv_has ls 9 [(0, .ref (ad 0)), (1, .int x1), (2, .int x2), (3, .int x3)] → W p l e { frames := 2, cells := 0, slots := 0, locals := 47 } s m args below meth c H locs 0 0 (MQX below (mQ D ca ad (fun v => some (.int v)) (.inl v) st' s.heap.size) args s 0 0 (mA ad s.heap.size)) (F0 m 23 ls [.ref (ad 0)]) := by
  obtain ⟨hx, hb, hml, hr, hlocks, hno, hown, hts⟩ := id C
  intro _ st x1 x2 x3 h H locs hP hS ls hl
  unfold f_Md_above_b23 at h
  refine lv_iconst (v := 0) hx hb d_Md_above_23 (by decide) ?_
  exact t_Md_above_b24 htl C G () st x1 x2 x3 0 h _ _ hP hS ls (lv_sub hl [0, 1, 2, 3] rfl)
set_option maxHeartbeats 4000000 in
set_option maxRecDepth 100000 in
theorem c_Md_above (l : Launch) (htl : l.stackTraces = false) (D : va_G) (ca : Nat → ClassId) (ad : Nat → Nat) (st : pu_St) (sz : Nat) (x1 x2 x3 : Int32) (v : Int32) (st' : pu_St) (h : f_Md_above st x1 x2 x3 = some (v, st')) : MetX l y_Md_above (.code y_Md_above b_Md_above 9 (some .boolean) :: tG) { frames := 2, cells := 0, slots := 0, locals := 47 } (va_Pc [.ref (ad 0), .int x1, .int x2, .int x3] (mPc D ca ad st sz)) (mQ D ca ad (fun v => some (.int v)) (.inl v) st' sz) 0 0 (mA ad sz) := by
  refine mMet (by decide +kernel) ?_
  intro p e s m below meth c hsz C G hP
  obtain ⟨hx, hb, hml, hr, hlocks, hno, hown, hts⟩ := id C
  have hown : s.vm.findClass "MuseumHouseModel" = some m.cls := hown
  have hS : va_S (mA ad s.heap.size) s.heap s.heap [] := va_S.rf
  have hl := lv_entry ([.ref (ad 0), .int x1, .int x2, .int x3]) (n := 9) (Nat.le_of_ble_eq_true rfl)
  rw [lg_entry_eq]
  generalize (lg_sl ([.ref (ad 0), .int x1, .int x2, .int x3]) ++ List.replicate (9 - (lg_sl ([.ref (ad 0), .int x1, .int x2, .int x3])).length) Slot.unset).toArray = ls at hl ⊢
  have hl : lv_has ls 9 [(0, .ref (ad 0)), (1, .int x1), (2, .int x2), (3, .int x3)] := hl
  unfold f_Md_above at h
  refine lv_aload_n hx hb d_Md_above_0 rfl (lv_at hl 0 rfl) ?_
  refine lv_aload_n hx hb d_Md_above_1 rfl (lv_at hl 0 rfl) ?_
  refine lv_iload_n hx hb d_Md_above_2 rfl (lv_at hl 2 rfl) ?_
  refine lv_iconst (v := 3) hx hb d_Md_above_3 (by decide) ?_
  obtain ⟨v1, e_v1, h⟩ := pu_ob h
  refine pu_callR (va_runV (As := [.int x2, .int 3]) (rest := [.ref (ad 0)]) ⟨hx, hb, hml, hown, hts⟩ (c_Md_is l D ca ad st _ x2 3 v1 e_v1) (xCW (C := "MuseumHouseModel") 2 hts wd_5_80 wd_1_13 wd_5_77 wd_5_79 wd_0_14 (by decide +kernel) ⟨Nat.le_of_ble_eq_true rfl, Nat.le_of_ble_eq_true rfl⟩) (G.preV hP hS 0 rfl rfl) rfl rfl hl.1 rfl (lv_room (Nat.le_of_ble_eq_true rfl)) d_Md_above_4 ⟨Nat.zero_le _, Nat.zero_le _⟩) ?_
  refine lv_if_eq (tgt := 23) hx hb d_Md_above_7 (by decide) (fun c2 => ?_) (fun c2 => ?_)
  · rw [if_pos c2] at h
    exact t_Md_above_b23 htl C G () st x1 x2 x3 h _ _ hP hS ls (lv_sub hl [0, 1, 2, 3] rfl)
  · rw [if_neg c2] at h
    refine lv_aload_n hx hb d_Md_above_10 rfl (lv_at hl 0 rfl) ?_
    refine lv_iload_n hx hb d_Md_above_11 rfl (lv_at hl 3 rfl) ?_
    refine lv_iconst (v := 3) hx hb d_Md_above_12 (by decide) ?_
    obtain ⟨v3, e_v3, h⟩ := pu_ob h
    refine pu_callR (va_runV (As := [.int x3, .int 3]) (rest := [.ref (ad 0)]) ⟨hx, hb, hml, hown, hts⟩ (c_Md_is l D ca ad st _ x3 3 v3 e_v3) (xCW (C := "MuseumHouseModel") 2 hts wd_5_80 wd_1_13 wd_5_77 wd_5_79 wd_0_14 (by decide +kernel) ⟨Nat.le_of_ble_eq_true rfl, Nat.le_of_ble_eq_true rfl⟩) (G.preV hP hS 0 rfl rfl) rfl rfl hl.1 rfl (lv_room (Nat.le_of_ble_eq_true rfl)) d_Md_above_13 ⟨Nat.zero_le _, Nat.zero_le _⟩) ?_
    refine lv_if_eq (tgt := 23) hx hb d_Md_above_16 (by decide) (fun c4 => ?_) (fun c4 => ?_)
    · rw [if_pos c4] at h
      exact t_Md_above_b23 htl C G () st x1 x2 x3 h _ _ hP hS ls (lv_sub hl [0, 1, 2, 3] rfl)
    · rw [if_neg c4] at h
      refine lv_iconst (v := 1) hx hb d_Md_above_19 (by decide) ?_
      refine lv_goto (tgt := 24) hx hb d_Md_above_20 (by decide) ?_
      exact t_Md_above_b24 htl C G () st x1 x2 x3 1 h _ _ hP hS ls (lv_sub hl [0, 1, 2, 3] rfl)
set_option maxHeartbeats 4000000 in
set_option maxRecDepth 100000 in
theorem t_Md_span_b153 {l : Launch} (htl : l.stackTraces = false) {p : Program} {e : Env} {s : State} {m : MethodId} {args : Array Value} {below : List Frame} {meth : Method} {c : Code} {D : va_G} {ca : Nat → ClassId} {ad : Nat → Nat} {st' : pu_St} {v : Int32} (C : hC p s m meth c args b_Md_span 9 (some .int) "MuseumHouseModel") (G : mX D ca ad (mA ad s.heap.size) s) :
    ∀ (_ : Unit) (st : pu_St) (x1 x2 x3 x4 x5 x6 x7 x8 z0 z1 : Int32), f_Md_span_b153 st x1 x2 x3 x4 x5 x6 x7 x8 z0 z1 = some (v, st') → ∀ (H : Heap) (locs : List Loc), va_P D hcl (mW ca ad st) H → va_S (mA ad s.heap.size) s.heap H locs → ∀ ls : Array Slot, lv_has ls 9 [(0, .ref (ad 0)), (1, .int x1), (2, .int x2), (3, .int x3), (4, .int x4), (5, .int x5), (6, .int x6), (7, .int x7), (8, .int x8)] → W p l e { frames := 2, cells := 0, slots := 0, locals := 47 } s m args below meth c H locs 0 0 (MQX below (mQ D ca ad (fun v => some (.int v)) (.inl v) st' s.heap.size) args s 0 0 (mA ad s.heap.size)) (F0 m 153 ls [.int z0, .int z1, .ref (ad 5)]) := by
  obtain ⟨hx, hb, hml, hr, hlocks, hno, hown, hts⟩ := id C
  intro _ st x1 x2 x3 x4 x5 x6 x7 x8 z0 z1 h H locs hP hS ls hl
  unfold f_Md_span_b153 at h
  obtain ⟨g18, e_g18, h⟩ := pu_ob h
  refine pu_iast hx hb G.1 hP (G.D) hS 5 4 rfl rfl e_g18 d_Md_span_153 (fun H locs hP hS => ?_)
  have hP : va_P D hcl (mW ca ad (st.1, va_up st.2 4 g18)) H := hP
  refine lv_aload_n hx hb d_Md_span_154 rfl (lv_at hl 0 rfl) ?_
  refine lv_iload hx hb d_Md_span_155 (lv_at hl 5 rfl) ?_
  obtain ⟨q19, e_q19, h⟩ := pu_ob h
  refine mCallI G hS (va_runV (As := [.int x5]) (rest := []) ⟨hx, hb, hml, hown, hts⟩ (MetX.met (c_Md_holds l htl D ca ad (st.1, va_up st.2 4 g18) _ x5 q19.1 q19.2 e_q19) (fun _ _ _ _ q => ⟨_, q.1⟩)) (xCW (C := "MuseumHouseModel") 1 hts wd_5_94 wd_1_13 wd_5_91 wd_5_93 wd_0_16 (by decide +kernel) ⟨Nat.le_of_ble_eq_true rfl, Nat.le_of_ble_eq_true rfl⟩) (G.preV hP hS 0 rfl rfl) rfl rfl hl.1 rfl (lv_room (Nat.le_of_ble_eq_true rfl)) d_Md_span_157 ⟨Nat.zero_le _, Nat.zero_le _⟩) (fun H locs hP hS => ?_)
  refine lv_if_eq (tgt := 172) hx hb d_Md_span_160 (by decide) (fun c20 => ?_) (fun c20 => ?_)
  · rw [if_pos c20] at h
    refine lv_iconst (v := 0) hx hb d_Md_span_172 (by decide) ?_
    cases h
    exact W.toX (W.iret hx hb hr (fun t ht _ => ⟨rfl, by rw [ht]; exact hP, hS.F ht⟩) hS.2.2 d_Md_span_173)
  · rw [if_neg c20] at h
    refine lv_aload_n hx hb d_Md_span_163 rfl (lv_at hl 0 rfl) ?_
    refine lv_iload hx hb d_Md_span_164 (lv_at hl 6 rfl) ?_
    obtain ⟨v21, e_v21, h⟩ := pu_ob h
    refine pu_callR (va_runV (As := [.int x6]) (rest := []) ⟨hx, hb, hml, hown, hts⟩ (c_Md_earliest l D ca ad q19.2 _ x6 v21 e_v21) (xCW (C := "MuseumHouseModel") 1 hts wd_5_126 wd_1_13 wd_5_123 wd_5_125 wd_0_20 (by decide +kernel) ⟨Nat.le_of_ble_eq_true rfl, Nat.le_of_ble_eq_true rfl⟩) (G.preV hP hS 0 rfl rfl) rfl rfl hl.1 rfl (lv_room (Nat.le_of_ble_eq_true rfl)) d_Md_span_166 ⟨Nat.zero_le _, Nat.zero_le _⟩) ?_
    refine lv_goto (tgt := 173) hx hb d_Md_span_169 (by decide) ?_
    cases h
    exact W.toX (W.iret hx hb hr (fun t ht _ => ⟨rfl, by rw [ht]; exact hP, hS.F ht⟩) hS.2.2 d_Md_span_173)
set_option maxHeartbeats 4000000 in
set_option maxRecDepth 100000 in
theorem t_Md_span_b134 {l : Launch} (htl : l.stackTraces = false) {p : Program} {e : Env} {s : State} {m : MethodId} {args : Array Value} {below : List Frame} {meth : Method} {c : Code} {D : va_G} {ca : Nat → ClassId} {ad : Nat → Nat} {st' : pu_St} {v : Int32} (C : hC p s m meth c args b_Md_span 9 (some .int) "MuseumHouseModel") (G : mX D ca ad (mA ad s.heap.size) s) :
    ∀ (_ : Unit) (st : pu_St) (x1 x2 x3 x4 x5 x6 x7 x8 z0 z1 : Int32), f_Md_span_b134 st x1 x2 x3 x4 x5 x6 x7 x8 z0 z1 = some (v, st') → ∀ (H : Heap) (locs : List Loc), va_P D hcl (mW ca ad st) H → va_S (mA ad s.heap.size) s.heap H locs → ∀ ls : Array Slot, lv_has ls 9 [(0, .ref (ad 0)), (1, .int x1), (2, .int x2), (3, .int x3), (4, .int x4), (5, .int x5), (6, .int x6), (7, .int x7), (8, .int x8)] → W p l e { frames := 2, cells := 0, slots := 0, locals := 47 } s m args below meth c H locs 0 0 (MQX below (mQ D ca ad (fun v => some (.int v)) (.inl v) st' s.heap.size) args s 0 0 (mA ad s.heap.size)) (F0 m 134 ls [.int z0, .int z1, .ref (ad 4)]) := by
  obtain ⟨hx, hb, hml, hr, hlocks, hno, hown, hts⟩ := id C
  intro _ st x1 x2 x3 x4 x5 x6 x7 x8 z0 z1 h H locs hP hS ls hl
  unfold f_Md_span_b134 at h
  obtain ⟨g16, e_g16, h⟩ := pu_ob h
  refine pu_iast hx hb G.1 hP (G.D) hS 4 3 rfl rfl e_g16 d_Md_span_134 (fun H locs hP hS => ?_)
  have hP : va_P D hcl (mW ca ad (st.1, va_up st.2 3 g16)) H := hP
  refine lv_aload_n hx hb d_Md_span_135 rfl (lv_at hl 0 rfl) ?_
  refine va_get (D := D) (ci := 11) (v := .ref (ad 5)) (C := R_Md) (T := T_Md) (N := 27) hx hb hts iw_Md hown G.1 hP 0 rfl rfl 7 (by decide) (hts _ wd_4_230) (fun _ h9 => h9) rfl d_Md_span_136 ?_
  refine lv_iload hx hb d_Md_span_139 (lv_at hl 6 rfl) ?_
  refine lv_iload hx hb d_Md_span_141 (lv_at hl 5 rfl) ?_
  refine lv_if_ne (tgt := 151) hx hb d_Md_span_143 (by decide) (fun c17 => ?_) (fun c17 => ?_)
  · rw [if_neg c17] at h
    refine lv_iload hx hb d_Md_span_151 (lv_at hl 8 rfl) ?_
    exact t_Md_span_b153 htl C G () (st.1, va_up st.2 3 g16) x1 x2 x3 x4 x5 x6 x7 x8 x8 x6 h _ _ hP hS ls (lv_sub hl [0, 1, 2, 3, 4, 5, 6, 7, 8] rfl)
  · rw [if_pos c17] at h
    refine lv_iload hx hb d_Md_span_146 (lv_at hl 4 rfl) ?_
    refine lv_goto (tgt := 153) hx hb d_Md_span_148 (by decide) ?_
    exact t_Md_span_b153 htl C G () (st.1, va_up st.2 3 g16) x1 x2 x3 x4 x5 x6 x7 x8 x4 x6 h _ _ hP hS ls (lv_sub hl [0, 1, 2, 3, 4, 5, 6, 7, 8] rfl)
set_option maxHeartbeats 4000000 in
set_option maxRecDepth 100000 in
theorem t_Md_span_b115 {l : Launch} (htl : l.stackTraces = false) {p : Program} {e : Env} {s : State} {m : MethodId} {args : Array Value} {below : List Frame} {meth : Method} {c : Code} {D : va_G} {ca : Nat → ClassId} {ad : Nat → Nat} {st' : pu_St} {v : Int32} (C : hC p s m meth c args b_Md_span 9 (some .int) "MuseumHouseModel") (G : mX D ca ad (mA ad s.heap.size) s) :
    ∀ (_ : Unit) (st : pu_St) (x1 x2 x3 x4 x5 x6 x7 x8 z0 : Int32), f_Md_span_b115 st x1 x2 x3 x4 x5 x6 x7 x8 z0 = some (v, st') → ∀ (H : Heap) (locs : List Loc), va_P D hcl (mW ca ad st) H → va_S (mA ad s.heap.size) s.heap H locs → ∀ ls : Array Slot, lv_has ls 9 [(0, .ref (ad 0)), (1, .int x1), (2, .int x2), (3, .int x3), (4, .int x4), (5, .int x5), (6, .int x6), (7, .int x7), (8, .int x8)] → W p l e { frames := 2, cells := 0, slots := 0, locals := 47 } s m args below meth c H locs 0 0 (MQX below (mQ D ca ad (fun v => some (.int v)) (.inl v) st' s.heap.size) args s 0 0 (mA ad s.heap.size)) (F0 m 115 ls [.int z0]) := by
  obtain ⟨hx, hb, hml, hr, hlocks, hno, hown, hts⟩ := id C
  intro _ st x1 x2 x3 x4 x5 x6 x7 x8 z0 h H locs hP hS ls hl
  unfold f_Md_span_b115 at h
  refine lv_istore (lv' := [(5, .int z0), (0, .ref (ad 0)), (1, .int x1), (2, .int x2), (3, .int x3), (4, .int x4), (6, .int x6), (7, .int x7), (8, .int x8)]) hx hb d_Md_span_115 hl (by decide) rfl (fun ls hl => ?_)
  refine lv_aload_n hx hb d_Md_span_117 rfl (lv_at hl 1 rfl) ?_
  refine va_get (D := D) (ci := 11) (v := .ref (ad 4)) (C := R_Md) (T := T_Md) (N := 27) hx hb hts iw_Md hown G.1 hP 0 rfl rfl 6 (by decide) (hts _ wd_4_229) (fun _ h9 => h9) rfl d_Md_span_118 ?_
  refine lv_iload hx hb d_Md_span_121 (lv_at hl 6 rfl) ?_
  refine lv_iload hx hb d_Md_span_123 (lv_at hl 0 rfl) ?_
  refine lv_if_ne (tgt := 132) hx hb d_Md_span_125 (by decide) (fun c15 => ?_) (fun c15 => ?_)
  · rw [if_neg c15] at h
    refine lv_iload hx hb d_Md_span_132 (lv_at hl 7 rfl) ?_
    exact t_Md_span_b134 htl C G () st x1 x2 x3 x4 z0 x6 x7 x8 x7 x6 h _ _ hP hS ls (lv_sub hl [1, 2, 3, 4, 5, 0, 6, 7, 8] rfl)
  · rw [if_pos c15] at h
    refine lv_iload_n hx hb d_Md_span_128 rfl (lv_at hl 4 rfl) ?_
    refine lv_goto (tgt := 134) hx hb d_Md_span_129 (by decide) ?_
    exact t_Md_span_b134 htl C G () st x1 x2 x3 x4 z0 x6 x7 x8 x3 x6 h _ _ hP hS ls (lv_sub hl [1, 2, 3, 4, 5, 0, 6, 7, 8] rfl)
set_option maxHeartbeats 4000000 in
set_option maxRecDepth 100000 in
theorem t_Md_span_b40 {l : Launch} (htl : l.stackTraces = false) {p : Program} {e : Env} {s : State} {m : MethodId} {args : Array Value} {below : List Frame} {meth : Method} {c : Code} {D : va_G} {ca : Nat → ClassId} {ad : Nat → Nat} {st' : pu_St} {v : Int32} (C : hC p s m meth c args b_Md_span 9 (some .int) "MuseumHouseModel") (G : mX D ca ad (mA ad s.heap.size) s) :
    ∀ (_ : Unit) (st : pu_St) (x1 x2 x3 x4 x5 z0 z1 : Int32), f_Md_span_b40 st x1 x2 x3 x4 x5 z0 z1 = some (v, st') → ∀ (H : Heap) (locs : List Loc), va_P D hcl (mW ca ad st) H → va_S (mA ad s.heap.size) s.heap H locs → ∀ ls : Array Slot, lv_has ls 9 [(0, .ref (ad 0)), (1, .int x1), (2, .int x2), (3, .int x3), (4, .int x4), (5, .int x5)] → W p l e { frames := 2, cells := 0, slots := 0, locals := 47 } s m args below meth c H locs 0 0 (MQX below (mQ D ca ad (fun v => some (.int v)) (.inl v) st' s.heap.size) args s 0 0 (mA ad s.heap.size)) (F0 m 40 ls [.int z0, .int z1]) := by
  obtain ⟨hx, hb, hml, hr, hlocks, hno, hown, hts⟩ := id C
  intro _ st x1 x2 x3 x4 x5 z0 z1 h H locs hP hS ls hl
  unfold f_Md_span_b40 at h
  refine lv_iconst (v := 4) hx hb d_Md_span_40 (by decide) ?_
  obtain ⟨v6, e_v6, h⟩ := pu_ob h
  refine pu_callR (va_runS (As := [.int z1, .int z0, .int 4]) (rest := []) ⟨hx, hb, hml, hown, hts⟩ (c_Md_then l D ca ad st _ z1 z0 4 v6 e_v6) (xCS 3 hts wd_5_90 wd_1_13 wd_5_88 wd_5_89 (by decide +kernel) ⟨Nat.le_of_ble_eq_true rfl, Nat.le_of_ble_eq_true rfl⟩) (G.preS hP hS) rfl rfl hl.1 rfl (lv_room (Nat.le_of_ble_eq_true rfl)) d_Md_span_41 ⟨Nat.zero_le _, Nat.zero_le _⟩) ?_
  refine lv_istore (lv' := [(5, .int v6), (0, .ref (ad 0)), (1, .int x1), (2, .int x2), (3, .int x3), (4, .int x4)]) hx hb d_Md_span_44 hl (by decide) rfl (fun ls hl => ?_)
  refine lv_iload hx hb d_Md_span_46 (lv_at hl 0 rfl) ?_
  refine lv_if_le (tgt := 60) hx hb d_Md_span_48 (by decide) (fun c7 => ?_) (fun c7 => ?_)
  · rw [if_pos c7] at h
    refine lv_iload_n hx hb d_Md_span_60 rfl (lv_at hl 3 rfl) ?_
    refine lv_sipush (v := 300) hx hb d_Md_span_61 (by decide) ?_
    refine lv_isub hx hb d_Md_span_64 ?_
    refine lv_istore (lv' := [(6, .int (x2 - 300)), (5, .int v6), (0, .ref (ad 0)), (1, .int x1), (2, .int x2), (3, .int x3), (4, .int x4)]) hx hb d_Md_span_65 hl (by decide) rfl (fun ls hl => ?_)
    refine lv_aload_n hx hb d_Md_span_67 rfl (lv_at hl 2 rfl) ?_
    refine va_get (D := D) (ci := 11) (v := .ref (ad 4)) (C := R_Md) (T := T_Md) (N := 27) hx hb hts iw_Md hown G.1 hP 0 rfl rfl 6 (by decide) (hts _ wd_4_229) (fun _ h9 => h9) rfl d_Md_span_68 ?_
    refine lv_iload hx hb d_Md_span_71 (lv_at hl 0 rfl) ?_
    obtain ⟨v8, e_v8, h⟩ := pu_ob h
    refine pu_iald hx hb G.1 hP 4 3 rfl rfl e_v8 d_Md_span_73 ?_
    refine lv_istore (lv' := [(7, .int v8), (6, .int (x2 - 300)), (5, .int v6), (0, .ref (ad 0)), (1, .int x1), (2, .int x2), (3, .int x3), (4, .int x4)]) hx hb d_Md_span_74 hl (by decide) rfl (fun ls hl => ?_)
    refine lv_aload_n hx hb d_Md_span_76 rfl (lv_at hl 3 rfl) ?_
    refine va_get (D := D) (ci := 11) (v := .ref (ad 5)) (C := R_Md) (T := T_Md) (N := 27) hx hb hts iw_Md hown G.1 hP 0 rfl rfl 7 (by decide) (hts _ wd_4_230) (fun _ h9 => h9) rfl d_Md_span_77 ?_
    refine lv_iload hx hb d_Md_span_80 (lv_at hl 1 rfl) ?_
    obtain ⟨v9, e_v9, h⟩ := pu_ob h
    refine pu_iald hx hb G.1 hP 5 4 rfl rfl e_v9 d_Md_span_82 ?_
    refine lv_istore (lv' := [(8, .int v9), (7, .int v8), (6, .int (x2 - 300)), (5, .int v6), (0, .ref (ad 0)), (1, .int x1), (2, .int x2), (3, .int x3), (4, .int x4)]) hx hb d_Md_span_83 hl (by decide) rfl (fun ls hl => ?_)
    refine lv_aload_n hx hb d_Md_span_85 rfl (lv_at hl 4 rfl) ?_
    refine va_get (D := D) (ci := 11) (v := .ref (ad 4)) (C := R_Md) (T := T_Md) (N := 27) hx hb hts iw_Md hown G.1 hP 0 rfl rfl 6 (by decide) (hts _ wd_4_229) (fun _ h9 => h9) rfl d_Md_span_86 ?_
    refine lv_iload hx hb d_Md_span_89 (lv_at hl 2 rfl) ?_
    refine lv_iload_n hx hb d_Md_span_91 rfl (lv_at hl 7 rfl) ?_
    obtain ⟨g10, e_g10, h⟩ := pu_ob h
    refine pu_iast hx hb G.1 hP (G.D) hS 4 3 rfl rfl e_g10 d_Md_span_92 (fun H locs hP hS => ?_)
    have hP : va_P D hcl (mW ca ad (st.1, va_up st.2 3 g10)) H := hP
    refine lv_aload_n hx hb d_Md_span_93 rfl (lv_at hl 4 rfl) ?_
    refine va_get (D := D) (ci := 11) (v := .ref (ad 5)) (C := R_Md) (T := T_Md) (N := 27) hx hb hts iw_Md hown G.1 hP 0 rfl rfl 7 (by decide) (hts _ wd_4_230) (fun _ h9 => h9) rfl d_Md_span_94 ?_
    refine lv_iload hx hb d_Md_span_97 (lv_at hl 2 rfl) ?_
    refine lv_iload hx hb d_Md_span_99 (lv_at hl 8 rfl) ?_
    obtain ⟨g11, e_g11, h⟩ := pu_ob h
    refine pu_iast hx hb G.1 hP (G.D) hS 5 4 rfl rfl e_g11 d_Md_span_101 (fun H locs hP hS => ?_)
    have hP : va_P D hcl (mW ca ad ((st.1, va_up st.2 3 g10).1, va_up (st.1, va_up st.2 3 g10).2 4 g11)) H := hP
    refine lv_aload_n hx hb d_Md_span_102 rfl (lv_at hl 4 rfl) ?_
    obtain ⟨q12, e_q12, h⟩ := pu_ob h
    refine mCallI G hS (va_runV (As := []) (rest := []) ⟨hx, hb, hml, hown, hts⟩ (MetX.met (c_Md_fits l htl D ca ad ((st.1, va_up st.2 3 g10).1, va_up (st.1, va_up st.2 3 g10).2 4 g11) _ q12.1 q12.2 e_q12) (fun _ _ _ _ q => ⟨_, q.1⟩)) (xCW (C := "MuseumHouseModel") 0 hts wd_5_122 wd_1_13 wd_5_119 wd_5_121 wd_0_19 (by decide +kernel) ⟨Nat.le_of_ble_eq_true rfl, Nat.le_of_ble_eq_true rfl⟩) (G.preV hP hS 0 rfl rfl) rfl rfl hl.1 rfl (lv_room (Nat.le_of_ble_eq_true rfl)) d_Md_span_103 ⟨Nat.zero_le _, Nat.zero_le _⟩) (fun H locs hP hS => ?_)
    refine lv_if_eq (tgt := 113) hx hb d_Md_span_106 (by decide) (fun c13 => ?_) (fun c13 => ?_)
    · rw [if_pos c13] at h
      refine lv_bipush (v := 8) hx hb d_Md_span_113 (by decide) ?_
      exact t_Md_span_b115 htl C G () q12.2 x1 x2 x3 x4 v6 (x2 - 300) v8 v9 8 h _ _ hP hS ls (lv_sub hl [4, 5, 6, 7, 8, 3, 2, 1, 0] rfl)
    · rw [if_neg c13] at h
      refine lv_iconst (v := 0) hx hb d_Md_span_109 (by decide) ?_
      refine lv_goto (tgt := 115) hx hb d_Md_span_110 (by decide) ?_
      exact t_Md_span_b115 htl C G () q12.2 x1 x2 x3 x4 v6 (x2 - 300) v8 v9 0 h _ _ hP hS ls (lv_sub hl [4, 5, 6, 7, 8, 3, 2, 1, 0] rfl)
  · rw [if_neg c7] at h
    refine lv_aload_n hx hb d_Md_span_51 rfl (lv_at hl 1 rfl) ?_
    refine lv_iload hx hb d_Md_span_52 (lv_at hl 0 rfl) ?_
    obtain ⟨q14, e_q14, h⟩ := pu_ob h
    refine mCallI G hS (va_runV (As := [.int v6]) (rest := []) ⟨hx, hb, hml, hown, hts⟩ (MetX.met (c_Md_holds l htl D ca ad st _ v6 q14.1 q14.2 e_q14) (fun _ _ _ _ q => ⟨_, q.1⟩)) (xCW (C := "MuseumHouseModel") 1 hts wd_5_94 wd_1_13 wd_5_91 wd_5_93 wd_0_16 (by decide +kernel) ⟨Nat.le_of_ble_eq_true rfl, Nat.le_of_ble_eq_true rfl⟩) (G.preV hP hS 0 rfl rfl) rfl rfl hl.1 rfl (lv_room (Nat.le_of_ble_eq_true rfl)) d_Md_span_54 ⟨Nat.zero_le _, Nat.zero_le _⟩) (fun H locs hP hS => ?_)
    refine lv_pop hx hb d_Md_span_57 rfl ?_
    refine lv_iconst (v := 0) hx hb d_Md_span_58 (by decide) ?_
    cases h
    exact W.toX (W.iret hx hb hr (fun t ht _ => ⟨rfl, by rw [ht]; exact hP, hS.F ht⟩) hS.2.2 d_Md_span_59)
set_option maxHeartbeats 4000000 in
set_option maxRecDepth 100000 in
theorem t_Md_span_b39 {l : Launch} (htl : l.stackTraces = false) {p : Program} {e : Env} {s : State} {m : MethodId} {args : Array Value} {below : List Frame} {meth : Method} {c : Code} {D : va_G} {ca : Nat → ClassId} {ad : Nat → Nat} {st' : pu_St} {v : Int32} (C : hC p s m meth c args b_Md_span 9 (some .int) "MuseumHouseModel") (G : mX D ca ad (mA ad s.heap.size) s) :
    ∀ (_ : Unit) (st : pu_St) (x1 x2 x3 x4 x5 z0 : Int32), f_Md_span_b39 st x1 x2 x3 x4 x5 z0 = some (v, st') → ∀ (H : Heap) (locs : List Loc), va_P D hcl (mW ca ad st) H → va_S (mA ad s.heap.size) s.heap H locs → ∀ ls : Array Slot, lv_has ls 9 [(0, .ref (ad 0)), (1, .int x1), (2, .int x2), (3, .int x3), (4, .int x4), (5, .int x5)] → W p l e { frames := 2, cells := 0, slots := 0, locals := 47 } s m args below meth c H locs 0 0 (MQX below (mQ D ca ad (fun v => some (.int v)) (.inl v) st' s.heap.size) args s 0 0 (mA ad s.heap.size)) (F0 m 39 ls [.int z0]) := by
  obtain ⟨hx, hb, hml, hr, hlocks, hno, hown, hts⟩ := id C
  intro _ st x1 x2 x3 x4 x5 z0 h H locs hP hS ls hl
  unfold f_Md_span_b39 at h
  refine lv_iconst (v := 0) hx hb d_Md_span_39 (by decide) ?_
  exact t_Md_span_b40 htl C G () st x1 x2 x3 x4 x5 0 z0 h _ _ hP hS ls (lv_sub hl [0, 1, 2, 3, 4, 5] rfl)
set_option maxHeartbeats 4000000 in
set_option maxRecDepth 100000 in
theorem c_Md_span (l : Launch) (htl : l.stackTraces = false) (D : va_G) (ca : Nat → ClassId) (ad : Nat → Nat) (st : pu_St) (sz : Nat) (x1 x2 x3 x4 : Int32) (v : Int32) (st' : pu_St) (h : f_Md_span st x1 x2 x3 x4 = some (v, st')) : MetX l y_Md_span (.code y_Md_span b_Md_span 9 (some .int) :: tG) { frames := 2, cells := 0, slots := 0, locals := 47 } (va_Pc [.ref (ad 0), .int x1, .int x2, .int x3, .int x4] (mPc D ca ad st sz)) (mQ D ca ad (fun v => some (.int v)) (.inl v) st' sz) 0 0 (mA ad sz) := by
  refine mMet (by decide +kernel) ?_
  intro p e s m below meth c hsz C G hP
  obtain ⟨hx, hb, hml, hr, hlocks, hno, hown, hts⟩ := id C
  have hown : s.vm.findClass "MuseumHouseModel" = some m.cls := hown
  have hS : va_S (mA ad s.heap.size) s.heap s.heap [] := va_S.rf
  have hl := lv_entry ([.ref (ad 0), .int x1, .int x2, .int x3, .int x4]) (n := 9) (Nat.le_of_ble_eq_true rfl)
  rw [lg_entry_eq]
  generalize (lg_sl ([.ref (ad 0), .int x1, .int x2, .int x3, .int x4]) ++ List.replicate (9 - (lg_sl ([.ref (ad 0), .int x1, .int x2, .int x3, .int x4])).length) Slot.unset).toArray = ls at hl ⊢
  have hl : lv_has ls 9 [(0, .ref (ad 0)), (1, .int x1), (2, .int x2), (3, .int x3), (4, .int x4)] := hl
  unfold f_Md_span at h
  refine lv_aload_n hx hb d_Md_span_0 rfl (lv_at hl 0 rfl) ?_
  refine lv_aload_n hx hb d_Md_span_1 rfl (lv_at hl 0 rfl) ?_
  refine lv_iload_n hx hb d_Md_span_2 rfl (lv_at hl 2 rfl) ?_
  refine lv_iconst (v := 3) hx hb d_Md_span_3 (by decide) ?_
  obtain ⟨v1, e_v1, h⟩ := pu_ob h
  refine pu_callR (va_runV (As := [.int x2, .int 3]) (rest := [.ref (ad 0)]) ⟨hx, hb, hml, hown, hts⟩ (c_Md_is l D ca ad st _ x2 3 v1 e_v1) (xCW (C := "MuseumHouseModel") 2 hts wd_5_80 wd_1_13 wd_5_77 wd_5_79 wd_0_14 (by decide +kernel) ⟨Nat.le_of_ble_eq_true rfl, Nat.le_of_ble_eq_true rfl⟩) (G.preV hP hS 0 rfl rfl) rfl rfl hl.1 rfl (lv_room (Nat.le_of_ble_eq_true rfl)) d_Md_span_4 ⟨Nat.zero_le _, Nat.zero_le _⟩) ?_
  refine lv_iload_n hx hb d_Md_span_7 rfl (lv_at hl 1 rfl) ?_
  refine lv_iconst (v := 2) hx hb d_Md_span_8 (by decide) ?_
  refine lv_iconst (v := 1) hx hb d_Md_span_9 (by decide) ?_
  obtain ⟨v2, e_v2, h⟩ := pu_ob h
  refine pu_callR (va_runV (As := [.int v1, .int x1, .int 2, .int 1]) (rest := []) ⟨hx, hb, hml, hown, hts⟩ (c_Md_first l D ca ad st _ v1 x1 2 1 v2 e_v2) (xCW (C := "MuseumHouseModel") 4 hts wd_5_76 wd_1_13 wd_5_73 wd_5_75 wd_0_13 (by decide +kernel) ⟨Nat.le_of_ble_eq_true rfl, Nat.le_of_ble_eq_true rfl⟩) (G.preV hP hS 0 rfl rfl) rfl rfl hl.1 rfl (lv_room (Nat.le_of_ble_eq_true rfl)) d_Md_span_10 ⟨Nat.zero_le _, Nat.zero_le _⟩) ?_
  refine lv_istore (lv' := [(5, .int v2), (0, .ref (ad 0)), (1, .int x1), (2, .int x2), (3, .int x3), (4, .int x4)]) hx hb d_Md_span_13 hl (by decide) rfl (fun ls hl => ?_)
  refine lv_iload hx hb d_Md_span_15 (lv_at hl 0 rfl) ?_
  refine lv_iload_n hx hb d_Md_span_17 rfl (lv_at hl 4 rfl) ?_
  refine lv_if_lt (tgt := 39) hx hb d_Md_span_18 (by decide) (fun c3 => ?_) (fun c3 => ?_)
  · rw [if_pos c3] at h
    exact t_Md_span_b39 htl C G () st x1 x2 x3 x4 v2 v2 h _ _ hP hS ls (lv_sub hl [1, 2, 3, 4, 5, 0] rfl)
  · rw [if_neg c3] at h
    refine lv_iload_n hx hb d_Md_span_21 rfl (lv_at hl 4 rfl) ?_
    refine lv_iload hx hb d_Md_span_22 (lv_at hl 5 rfl) ?_
    refine lv_icmp_gt (tgt := 39) hx hb d_Md_span_24 (by decide) (fun c4 => ?_) (fun c4 => ?_)
    · rw [if_pos c4] at h
      exact t_Md_span_b39 htl C G () st x1 x2 x3 x4 v2 v2 h _ _ hP hS ls (lv_sub hl [1, 2, 3, 4, 5, 0] rfl)
    · rw [if_neg c4] at h
      refine lv_iload hx hb d_Md_span_27 (lv_at hl 5 rfl) ?_
      refine lv_sipush (v := 999) hx hb d_Md_span_29 (by decide) ?_
      refine lv_icmp_gt (tgt := 39) hx hb d_Md_span_32 (by decide) (fun c5 => ?_) (fun c5 => ?_)
      · rw [if_pos c5] at h
        exact t_Md_span_b39 htl C G () st x1 x2 x3 x4 v2 v2 h _ _ hP hS ls (lv_sub hl [1, 2, 3, 4, 5, 0] rfl)
      · rw [if_neg c5] at h
        refine lv_iconst (v := 1) hx hb d_Md_span_35 (by decide) ?_
        refine lv_goto (tgt := 40) hx hb d_Md_span_36 (by decide) ?_
        exact t_Md_span_b40 htl C G () st x1 x2 x3 x4 v2 1 v2 h _ _ hP hS ls (lv_sub hl [1, 2, 3, 4, 5, 0] rfl)
set_option maxHeartbeats 4000000 in
set_option maxRecDepth 100000 in
theorem t_Md_isAbove_b24 {l : Launch} (htl : l.stackTraces = false) {p : Program} {e : Env} {s : State} {m : MethodId} {args : Array Value} {below : List Frame} {meth : Method} {c : Code} {D : va_G} {ca : Nat → ClassId} {ad : Nat → Nat} {st' : pu_St} {v : Int32} (C : hC p s m meth c args b_Md_isAbove 3 (some .boolean) "MuseumHouseModel") (G : mX D ca ad (mA ad s.heap.size) s) :
    ∀ (_ : Unit) (st : pu_St) (x1 x2 z0 : Int32), f_Md_isAbove_b24 st x1 x2 z0 = some (v, st') → ∀ (H : Heap) (locs : List Loc), va_P D hcl (mW ca ad st) H → va_S (mA ad s.heap.size) s.heap H locs → ∀ ls : Array Slot, lv_has ls 3 [(0, .ref (ad 0)), (1, .int x1), (2, .int x2)] → W p l e { frames := 1, cells := 0, slots := 0, locals := 25 } s m args below meth c H locs 0 0 (MQX below (mQ D ca ad (fun v => some (.int v)) (.inl v) st' s.heap.size) args s 0 0 (mA ad s.heap.size)) (F0 m 24 ls [.int z0, .ref (ad 0)]) := by
  obtain ⟨hx, hb, hml, hr, hlocks, hno, hown, hts⟩ := id C
  intro _ st x1 x2 z0 h H locs hP hS ls hl
  unfold f_Md_isAbove_b24 at h
  obtain ⟨q5, e_q5, h⟩ := pu_ob h
  refine mCallI G hS (va_runV (As := [.int z0]) (rest := []) ⟨hx, hb, hml, hown, hts⟩ (MetX.met (c_Md_holds l htl D ca ad st _ z0 q5.1 q5.2 e_q5) (fun _ _ _ _ q => ⟨_, q.1⟩)) (xCW (C := "MuseumHouseModel") 1 hts wd_5_94 wd_1_13 wd_5_91 wd_5_93 wd_0_16 (by decide +kernel) ⟨Nat.le_of_ble_eq_true rfl, Nat.le_of_ble_eq_true rfl⟩) (G.preV hP hS 0 rfl rfl) rfl rfl hl.1 rfl (lv_room (Nat.le_of_ble_eq_true rfl)) d_Md_isAbove_24 ⟨Nat.zero_le _, Nat.zero_le _⟩) (fun H locs hP hS => ?_)
  refine lv_if_ne (tgt := 32) hx hb d_Md_isAbove_27 (by decide) (fun c6 => ?_) (fun c6 => ?_)
  · rw [if_neg c6] at h
    refine lv_aload_n hx hb d_Md_isAbove_32 rfl (lv_at hl 0 rfl) ?_
    obtain ⟨q7, e_q7, h⟩ := pu_ob h
    refine mCallU G hS (va_runV (As := []) (rest := []) ⟨hx, hb, hml, hown, hts⟩ (MetX.met (c_Md_follow l htl D ca ad q5.2 _ q7.1 q7.2 e_q7) (fun _ _ _ _ q => ⟨_, q.1⟩)) (xCW (C := "MuseumHouseModel") 0 hts wd_5_118 wd_1_13 wd_5_115 wd_5_117 wd_0_18 (by decide +kernel) ⟨Nat.le_of_ble_eq_true rfl, Nat.le_of_ble_eq_true rfl⟩) (G.preV hP hS 0 rfl rfl) rfl rfl hl.1 rfl (lv_room (Nat.le_of_ble_eq_true rfl)) d_Md_isAbove_33 ⟨Nat.zero_le _, Nat.zero_le _⟩) (fun H locs hP hS => ?_)
    refine lv_aload_n hx hb d_Md_isAbove_36 rfl (lv_at hl 0 rfl) ?_
    refine va_get (D := D) (ci := 11) (v := .ref (ad 7)) (C := R_Md) (T := T_Md) (N := 27) hx hb hts iw_Md hown G.1 hP 0 rfl rfl 9 (by decide) (hts _ wd_4_232) (fun _ h9 => h9) rfl d_Md_isAbove_37 ?_
    refine lv_bipush (v := 20) hx hb d_Md_isAbove_40 (by decide) ?_
    refine lv_iload_n hx hb d_Md_isAbove_42 rfl (lv_at hl 1 rfl) ?_
    refine lv_sipush (v := 300) hx hb d_Md_isAbove_43 (by decide) ?_
    refine lv_isub hx hb d_Md_isAbove_46 ?_
    refine lv_imul hx hb d_Md_isAbove_47 ?_
    refine lv_iload_n hx hb d_Md_isAbove_48 rfl (lv_at hl 2 rfl) ?_
    refine lv_iadd hx hb d_Md_isAbove_49 ?_
    refine lv_sipush (v := 300) hx hb d_Md_isAbove_50 (by decide) ?_
    refine lv_isub hx hb d_Md_isAbove_53 ?_
    obtain ⟨v8, e_v8, h⟩ := pu_ob h
    refine pu_zald hx hb G.1 hP 7 6 rfl rfl e_v8 d_Md_isAbove_54 ?_
    obtain ⟨b9, e_b9, h⟩ := pu_ob h
    obtain ⟨e_b9, k_b9⟩ := pu_bo_inv e_b9
    cases h
    rw [e_b9]
    exact W.toX (W.zret (ty := .boolean) hx hb hr (by rcases k_b9 with e | e <;> rw [e] <;> rfl) (fun t ht _ => ⟨rfl, by rw [ht]; exact hP, hS.F ht⟩) hS.2.2 d_Md_isAbove_55)
  · rw [if_pos c6] at h
    refine lv_iconst (v := 0) hx hb d_Md_isAbove_30 (by decide) ?_
    cases h
    exact W.toX (W.zret (ty := .boolean) hx hb hr rfl (fun t ht _ => ⟨rfl, by rw [ht]; exact hP, hS.F ht⟩) hS.2.2 d_Md_isAbove_31)
set_option maxHeartbeats 4000000 in
set_option maxRecDepth 100000 in
theorem t_Md_isAbove_b23 {l : Launch} (htl : l.stackTraces = false) {p : Program} {e : Env} {s : State} {m : MethodId} {args : Array Value} {below : List Frame} {meth : Method} {c : Code} {D : va_G} {ca : Nat → ClassId} {ad : Nat → Nat} {st' : pu_St} {v : Int32} (C : hC p s m meth c args b_Md_isAbove 3 (some .boolean) "MuseumHouseModel") (G : mX D ca ad (mA ad s.heap.size) s) :
    ∀ (_ : Unit) (st : pu_St) (x1 x2 : Int32), f_Md_isAbove_b23 st x1 x2 = some (v, st') → ∀ (H : Heap) (locs : List Loc), va_P D hcl (mW ca ad st) H → va_S (mA ad s.heap.size) s.heap H locs → ∀ ls : Array Slot, lv_has ls 3 [(0, .ref (ad 0)), (1, .int x1), (2, .int x2)] → W p l e { frames := 1, cells := 0, slots := 0, locals := 25 } s m args below meth c H locs 0 0 (MQX below (mQ D ca ad (fun v => some (.int v)) (.inl v) st' s.heap.size) args s 0 0 (mA ad s.heap.size)) (F0 m 23 ls [.ref (ad 0)]) := by
  obtain ⟨hx, hb, hml, hr, hlocks, hno, hown, hts⟩ := id C
  intro _ st x1 x2 h H locs hP hS ls hl
  unfold f_Md_isAbove_b23 at h
  refine lv_iconst (v := 1) hx hb d_Md_isAbove_23 (by decide) ?_
  exact t_Md_isAbove_b24 htl C G () st x1 x2 1 h _ _ hP hS ls (lv_sub hl [0, 1, 2] rfl)
set_option maxHeartbeats 4000000 in
set_option maxRecDepth 100000 in
theorem c_Md_isAbove (l : Launch) (htl : l.stackTraces = false) (D : va_G) (ca : Nat → ClassId) (ad : Nat → Nat) (st : pu_St) (sz : Nat) (x1 x2 : Int32) (v : Int32) (st' : pu_St) (h : f_Md_isAbove st x1 x2 = some (v, st')) : MetX l y_Md_isAbove (.code y_Md_isAbove b_Md_isAbove 3 (some .boolean) :: tG) { frames := 1, cells := 0, slots := 0, locals := 25 } (va_Pc [.ref (ad 0), .int x1, .int x2] (mPc D ca ad st sz)) (mQ D ca ad (fun v => some (.int v)) (.inl v) st' sz) 0 0 (mA ad sz) := by
  refine mMet (by decide +kernel) ?_
  intro p e s m below meth c hsz C G hP
  obtain ⟨hx, hb, hml, hr, hlocks, hno, hown, hts⟩ := id C
  have hown : s.vm.findClass "MuseumHouseModel" = some m.cls := hown
  have hS : va_S (mA ad s.heap.size) s.heap s.heap [] := va_S.rf
  have hl := lv_entry ([.ref (ad 0), .int x1, .int x2]) (n := 3) (Nat.le_of_ble_eq_true rfl)
  rw [lg_entry_eq]
  generalize (lg_sl ([.ref (ad 0), .int x1, .int x2]) ++ List.replicate (3 - (lg_sl ([.ref (ad 0), .int x1, .int x2])).length) Slot.unset).toArray = ls at hl ⊢
  have hl : lv_has ls 3 [(0, .ref (ad 0)), (1, .int x1), (2, .int x2)] := hl
  unfold f_Md_isAbove at h
  refine lv_aload_n hx hb d_Md_isAbove_0 rfl (lv_at hl 0 rfl) ?_
  refine lv_aload_n hx hb d_Md_isAbove_1 rfl (lv_at hl 0 rfl) ?_
  refine lv_iload_n hx hb d_Md_isAbove_2 rfl (lv_at hl 1 rfl) ?_
  refine lv_iconst (v := 3) hx hb d_Md_isAbove_3 (by decide) ?_
  obtain ⟨v1, e_v1, h⟩ := pu_ob h
  refine pu_callR (va_runV (As := [.int x1, .int 3]) (rest := [.ref (ad 0)]) ⟨hx, hb, hml, hown, hts⟩ (c_Md_is l D ca ad st _ x1 3 v1 e_v1) (xCW (C := "MuseumHouseModel") 2 hts wd_5_80 wd_1_13 wd_5_77 wd_5_79 wd_0_14 (by decide +kernel) ⟨Nat.le_of_ble_eq_true rfl, Nat.le_of_ble_eq_true rfl⟩) (G.preV hP hS 0 rfl rfl) rfl rfl hl.1 rfl (lv_room (Nat.le_of_ble_eq_true rfl)) d_Md_isAbove_4 ⟨Nat.zero_le _, Nat.zero_le _⟩) ?_
  refine lv_if_eq (tgt := 23) hx hb d_Md_isAbove_7 (by decide) (fun c2 => ?_) (fun c2 => ?_)
  · rw [if_pos c2] at h
    exact t_Md_isAbove_b23 htl C G () st x1 x2 h _ _ hP hS ls (lv_sub hl [0, 1, 2] rfl)
  · rw [if_neg c2] at h
    refine lv_aload_n hx hb d_Md_isAbove_10 rfl (lv_at hl 0 rfl) ?_
    refine lv_iload_n hx hb d_Md_isAbove_11 rfl (lv_at hl 2 rfl) ?_
    refine lv_iconst (v := 3) hx hb d_Md_isAbove_12 (by decide) ?_
    obtain ⟨v3, e_v3, h⟩ := pu_ob h
    refine pu_callR (va_runV (As := [.int x2, .int 3]) (rest := [.ref (ad 0)]) ⟨hx, hb, hml, hown, hts⟩ (c_Md_is l D ca ad st _ x2 3 v3 e_v3) (xCW (C := "MuseumHouseModel") 2 hts wd_5_80 wd_1_13 wd_5_77 wd_5_79 wd_0_14 (by decide +kernel) ⟨Nat.le_of_ble_eq_true rfl, Nat.le_of_ble_eq_true rfl⟩) (G.preV hP hS 0 rfl rfl) rfl rfl hl.1 rfl (lv_room (Nat.le_of_ble_eq_true rfl)) d_Md_isAbove_13 ⟨Nat.zero_le _, Nat.zero_le _⟩) ?_
    refine lv_if_eq (tgt := 23) hx hb d_Md_isAbove_16 (by decide) (fun c4 => ?_) (fun c4 => ?_)
    · rw [if_pos c4] at h
      exact t_Md_isAbove_b23 htl C G () st x1 x2 h _ _ hP hS ls (lv_sub hl [0, 1, 2] rfl)
    · rw [if_neg c4] at h
      refine lv_iconst (v := 0) hx hb d_Md_isAbove_19 (by decide) ?_
      refine lv_goto (tgt := 24) hx hb d_Md_isAbove_20 (by decide) ?_
      exact t_Md_isAbove_b24 htl C G () st x1 x2 0 h _ _ hP hS ls (lv_sub hl [0, 1, 2] rfl)
set_option maxHeartbeats 4000000 in
set_option maxRecDepth 100000 in
theorem t_Md_holdsShort_b35 {l : Launch} (htl : l.stackTraces = false) {p : Program} {e : Env} {s : State} {m : MethodId} {args : Array Value} {below : List Frame} {meth : Method} {c : Code} {D : va_G} {ca : Nat → ClassId} {ad : Nat → Nat} {st' : pu_St} {v : Int32} (C : hC p s m meth c args b_Md_holdsShort 2 (some .boolean) "MuseumHouseModel") (G : mX D ca ad (mA ad s.heap.size) s) :
    ∀ (_ : Unit) (st : pu_St) (x1 z0 : Int32), f_Md_holdsShort_b35 st x1 z0 = some (v, st') → ∀ (H : Heap) (locs : List Loc), va_P D hcl (mW ca ad st) H → va_S (mA ad s.heap.size) s.heap H locs → ∀ ls : Array Slot, lv_has ls 2 [(0, .ref (ad 0)), (1, .int x1)] → W p l e { frames := 0, cells := 0, slots := 0, locals := 0 } s m args below meth c H locs 0 0 (MQX below (mQ D ca ad (fun v => some (.int v)) (.inl v) st' s.heap.size) args s 0 0 (mA ad s.heap.size)) (F0 m 35 ls [.int z0, .ref (ad 0)]) := by
  obtain ⟨hx, hb, hml, hr, hlocks, hno, hown, hts⟩ := id C
  intro _ st x1 z0 h H locs hP hS ls hl
  unfold f_Md_holdsShort_b35 at h
  refine va_put (D := D) (ci := 11) (v := .int z0) (ty := .int) (C := R_Md) (T := T_Md) (N := 27) hx hb hts iw_Md ty_Md to_Md nm_Md hown G.1 hP (G.D) hS 0 rfl rfl 0 (by decide) (hts _ wd_4_223) (fun _ h9 => h9) rfl (by decide +kernel) rfl rfl (Nat.le_of_ble_eq_true rfl) d_Md_holdsShort_35 (fun H locs hP _ hS => ?_)
  have hP : va_P D hcl (mW ca ad (va_up st.1 0 z0, st.2)) H := hP
  refine lv_iload_n hx hb d_Md_holdsShort_38 rfl (lv_at hl 1 rfl) ?_
  refine lv_if_ne (tgt := 46) hx hb d_Md_holdsShort_39 (by decide) (fun c4 => ?_) (fun c4 => ?_)
  · rw [if_neg c4] at h
    refine lv_iconst (v := 0) hx hb d_Md_holdsShort_46 (by decide) ?_
    cases h
    exact W.toX (W.zret (ty := .boolean) hx hb hr rfl (fun t ht _ => ⟨rfl, by rw [ht]; exact hP, hS.F ht⟩) hS.2.2 d_Md_holdsShort_47)
  · rw [if_pos c4] at h
    refine lv_iconst (v := 1) hx hb d_Md_holdsShort_42 (by decide) ?_
    refine lv_goto (tgt := 47) hx hb d_Md_holdsShort_43 (by decide) ?_
    cases h
    exact W.toX (W.zret (ty := .boolean) hx hb hr rfl (fun t ht _ => ⟨rfl, by rw [ht]; exact hP, hS.F ht⟩) hS.2.2 d_Md_holdsShort_47)
set_option maxHeartbeats 4000000 in
set_option maxRecDepth 100000 in
theorem t_Md_holdsShort_b13 {l : Launch} (htl : l.stackTraces = false) {p : Program} {e : Env} {s : State} {m : MethodId} {args : Array Value} {below : List Frame} {meth : Method} {c : Code} {D : va_G} {ca : Nat → ClassId} {ad : Nat → Nat} {st' : pu_St} {v : Int32} (C : hC p s m meth c args b_Md_holdsShort 2 (some .boolean) "MuseumHouseModel") (G : mX D ca ad (mA ad s.heap.size) s) :
    ∀ (_ : Unit) (st : pu_St) (x1 z0 : Int32), f_Md_holdsShort_b13 st x1 z0 = some (v, st') → ∀ (H : Heap) (locs : List Loc), va_P D hcl (mW ca ad st) H → va_S (mA ad s.heap.size) s.heap H locs → ∀ ls : Array Slot, lv_has ls 2 [(0, .ref (ad 0)), (1, .int x1)] → W p l e { frames := 0, cells := 0, slots := 0, locals := 0 } s m args below meth c H locs 0 0 (MQX below (mQ D ca ad (fun v => some (.int v)) (.inl v) st' s.heap.size) args s 0 0 (mA ad s.heap.size)) (F0 m 13 ls [.int z0, .ref (ad 0)]) := by
  obtain ⟨hx, hb, hml, hr, hlocks, hno, hown, hts⟩ := id C
  intro _ st x1 z0 h H locs hP hS ls hl
  unfold f_Md_holdsShort_b13 at h
  refine va_put (D := D) (ci := 11) (v := .int z0) (ty := .int) (C := R_Md) (T := T_Md) (N := 27) hx hb hts iw_Md ty_Md to_Md nm_Md hown G.1 hP (G.D) hS 0 rfl rfl 1 (by decide) (hts _ wd_4_224) (fun _ h9 => h9) rfl (by decide +kernel) rfl rfl (Nat.le_of_ble_eq_true rfl) d_Md_holdsShort_13 (fun H locs hP _ hS => ?_)
  have hP : va_P D hcl (mW ca ad (va_up st.1 1 z0, st.2)) H := hP
  refine lv_aload_n hx hb d_Md_holdsShort_16 rfl (lv_at hl 0 rfl) ?_
  refine lv_iload_n hx hb d_Md_holdsShort_17 rfl (lv_at hl 1 rfl) ?_
  refine lv_if_ne (tgt := 25) hx hb d_Md_holdsShort_18 (by decide) (fun c2 => ?_) (fun c2 => ?_)
  · rw [if_neg c2] at h
    refine lv_iload_n hx hb d_Md_holdsShort_25 rfl (lv_at hl 1 rfl) ?_
    refine lv_iconst (v := 1) hx hb d_Md_holdsShort_26 (by decide) ?_
    refine lv_icmp_ne (tgt := 34) hx hb d_Md_holdsShort_27 (by decide) (fun c3 => ?_) (fun c3 => ?_)
    · rw [if_neg c3] at h
      refine lv_iconst (v := 2) hx hb d_Md_holdsShort_34 (by decide) ?_
      exact t_Md_holdsShort_b35 htl C G () (va_up st.1 1 z0, st.2) x1 2 h _ _ hP hS ls (lv_sub hl [0, 1] rfl)
    · rw [if_pos c3] at h
      refine lv_iconst (v := 1) hx hb d_Md_holdsShort_30 (by decide) ?_
      refine lv_goto (tgt := 35) hx hb d_Md_holdsShort_31 (by decide) ?_
      exact t_Md_holdsShort_b35 htl C G () (va_up st.1 1 z0, st.2) x1 1 h _ _ hP hS ls (lv_sub hl [0, 1] rfl)
  · rw [if_pos c2] at h
    refine lv_iconst (v := 0) hx hb d_Md_holdsShort_21 (by decide) ?_
    refine lv_goto (tgt := 35) hx hb d_Md_holdsShort_22 (by decide) ?_
    exact t_Md_holdsShort_b35 htl C G () (va_up st.1 1 z0, st.2) x1 0 h _ _ hP hS ls (lv_sub hl [0, 1] rfl)
set_option maxHeartbeats 4000000 in
set_option maxRecDepth 100000 in
theorem c_Md_holdsShort (l : Launch) (htl : l.stackTraces = false) (D : va_G) (ca : Nat → ClassId) (ad : Nat → Nat) (st : pu_St) (sz : Nat) (x1 : Int32) (v : Int32) (st' : pu_St) (h : f_Md_holdsShort st x1 = some (v, st')) : MetX l y_Md_holdsShort (.code y_Md_holdsShort b_Md_holdsShort 2 (some .boolean) :: tG) { frames := 0, cells := 0, slots := 0, locals := 0 } (va_Pc [.ref (ad 0), .int x1] (mPc D ca ad st sz)) (mQ D ca ad (fun v => some (.int v)) (.inl v) st' sz) 0 0 (mA ad sz) := by
  refine mMet (by decide +kernel) ?_
  intro p e s m below meth c hsz C G hP
  obtain ⟨hx, hb, hml, hr, hlocks, hno, hown, hts⟩ := id C
  have hown : s.vm.findClass "MuseumHouseModel" = some m.cls := hown
  have hS : va_S (mA ad s.heap.size) s.heap s.heap [] := va_S.rf
  have hl := lv_entry ([.ref (ad 0), .int x1]) (n := 2) (Nat.le_of_ble_eq_true rfl)
  rw [lg_entry_eq]
  generalize (lg_sl ([.ref (ad 0), .int x1]) ++ List.replicate (2 - (lg_sl ([.ref (ad 0), .int x1])).length) Slot.unset).toArray = ls at hl ⊢
  have hl : lv_has ls 2 [(0, .ref (ad 0)), (1, .int x1)] := hl
  unfold f_Md_holdsShort at h
  refine lv_aload_n hx hb d_Md_holdsShort_0 rfl (lv_at hl 0 rfl) ?_
  refine lv_iload_n hx hb d_Md_holdsShort_1 rfl (lv_at hl 1 rfl) ?_
  refine lv_if_ne (tgt := 12) hx hb d_Md_holdsShort_2 (by decide) (fun c1 => ?_) (fun c1 => ?_)
  · rw [if_neg c1] at h
    refine lv_iload_n hx hb d_Md_holdsShort_12 rfl (lv_at hl 1 rfl) ?_
    exact t_Md_holdsShort_b13 htl C G () st x1 x1 h _ _ hP hS ls (lv_sub hl [0, 1] rfl)
  · rw [if_pos c1] at h
    refine lv_aload_n hx hb d_Md_holdsShort_5 rfl (lv_at hl 0 rfl) ?_
    refine va_get (D := D) (ci := 11) (v := .int (st.1 1)) (C := R_Md) (T := T_Md) (N := 27) hx hb hts iw_Md hown G.1 hP 0 rfl rfl 1 (by decide) (hts _ wd_4_224) (fun _ h9 => h9) rfl d_Md_holdsShort_6 ?_
    refine lv_goto (tgt := 13) hx hb d_Md_holdsShort_9 (by decide) ?_
    exact t_Md_holdsShort_b13 htl C G () st x1 (st.1 1) h _ _ hP hS ls (lv_sub hl [0, 1] rfl)

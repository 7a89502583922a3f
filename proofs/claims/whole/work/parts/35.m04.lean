set_option maxHeartbeats 4000000 in
set_option maxRecDepth 100000 in
theorem t_Md_isClaimed_b4 {l : Launch} {p : Program} {e : Env} {s : State} {m : MethodId} {args : Array Value} {below : List Frame} {meth : Method} {c : Code} {D : va_G} {ca : Nat → ClassId} {ad : Nat → Nat} {A : Nat → Prop} {st : pu_St} {r : Int32} (C : hC p s m meth c args b_Md_isClaimed 4 (some .boolean) "MuseumHouseModel") (G : mX D ca ad A s) (hP : va_P D hcl (mW ca ad st) s.heap) (hS : va_S A s.heap s.heap []) :
    ∀ (n : Nat) (x1 x2 x3 : Int32), f_Md_isClaimed_b4 n st x1 x2 x3 = some r → ∀ ls : Array Slot, lv_has ls 4 [(0, .ref (ad 0)), (1, .int x1), (2, .int x2), (3, .int x3)] → W p l e { frames := 0, cells := 0, slots := 0, locals := 0 } s m args below meth c s.heap [] 0 0 (MQ below (QcRead r) args s 0 0 (fun _ => False)) (F0 m 4 ls []) := by
  obtain ⟨hx, hb, hml, hr, hlocks, hno, hown, hts⟩ := id C
  intro n
  induction n with
  | zero => intro x1 x2 x3 h; cases h
  | succ n ih =>
    intro x1 x2 x3 h ls hl
    unfold f_Md_isClaimed_b4 at h
    refine lv_iload_n hx hb d_Md_isClaimed_4 rfl (lv_at hl 3 rfl) ?_
    refine lv_aload_n hx hb d_Md_isClaimed_5 rfl (lv_at hl 0 rfl) ?_
    refine va_get (D := D) (ci := 11) (v := .ref (ad 1)) (C := R_Md) (T := T_Md) (N := 27) hx hb hts iw_Md hown G.1 hP 0 rfl rfl 3 (by decide) (hts _ wd_4_226) (fun _ h9 => h9) rfl d_Md_isClaimed_6 ?_
    refine lv_bipush (v := 9) hx hb d_Md_isClaimed_9 (by decide) ?_
    obtain ⟨v1, e_v1, h⟩ := pu_ob h
    refine pu_iald hx hb G.1 hP 1 0 rfl rfl e_v1 d_Md_isClaimed_11 ?_
    refine lv_icmp_ge (tgt := 50) hx hb d_Md_isClaimed_12 (by decide) (fun c2 => ?_) (fun c2 => ?_)
    · rw [if_pos c2] at h
      refine lv_iload_n hx hb d_Md_isClaimed_50 rfl (lv_at hl 2 rfl) ?_
      obtain ⟨h, hz⟩ := pu_bo_inv h
      exact W.zret (v := x2) (ty := .boolean) hx hb hr (by rw [h]; rcases hz with e | e <;> rw [e] <;> rfl) (fun t ht _ => ⟨by rw [h], ht⟩) (fun _ q => by cases q) d_Md_isClaimed_51
    · rw [if_neg c2] at h
      refine lv_iload_n hx hb d_Md_isClaimed_15 rfl (lv_at hl 2 rfl) ?_
      refine lv_if_ne (tgt := 38) hx hb d_Md_isClaimed_16 (by decide) (fun c3 => ?_) (fun c3 => ?_)
      · rw [if_neg c3] at h
        refine lv_iconst (v := 1) hx hb d_Md_isClaimed_38 (by decide) ?_
        refine lv_goto (tgt := 43) hx hb d_Md_isClaimed_39 (by decide) ?_
        refine lv_istore_n (lv' := [(2, .int 1), (0, .ref (ad 0)), (1, .int x1), (3, .int x3)]) hx hb d_Md_isClaimed_43 rfl hl (by decide) rfl (fun ls hl => ?_)
        refine lv_iinc (v := (x3 + 1)) (lv' := [(3, .int (x3 + 1)), (2, .int 1), (0, .ref (ad 0)), (1, .int x1)]) hx hb d_Md_isClaimed_44 hl (k := 3) rfl rfl (by decide) rfl (fun ls hl => ?_)
        refine lv_goto (tgt := 4) hx hb d_Md_isClaimed_47 (by decide) ?_
        exact ih x1 1 (x3 + 1) h ls (lv_sub hl [2, 3, 1, 0] rfl)
      · rw [if_pos c3] at h
        refine lv_aload_n hx hb d_Md_isClaimed_19 rfl (lv_at hl 0 rfl) ?_
        refine va_get (D := D) (ci := 11) (v := .ref (ad 24)) (C := R_Md) (T := T_Md) (N := 27) hx hb hts iw_Md hown G.1 hP 0 rfl rfl 26 (by decide) (hts _ wd_5_9) (fun _ h9 => h9) rfl d_Md_isClaimed_20 ?_
        refine lv_iload_n hx hb d_Md_isClaimed_23 rfl (lv_at hl 3 rfl) ?_
        obtain ⟨v4, e_v4, h⟩ := pu_ob h
        refine pu_zald hx hb G.1 hP 24 23 rfl rfl e_v4 d_Md_isClaimed_24 ?_
        refine lv_if_eq (tgt := 42) hx hb d_Md_isClaimed_25 (by decide) (fun c5 => ?_) (fun c5 => ?_)
        · rw [if_pos c5] at h
          refine lv_iconst (v := 0) hx hb d_Md_isClaimed_42 (by decide) ?_
          refine lv_istore_n (lv' := [(2, .int 0), (0, .ref (ad 0)), (1, .int x1), (3, .int x3)]) hx hb d_Md_isClaimed_43 rfl hl (by decide) rfl (fun ls hl => ?_)
          refine lv_iinc (v := (x3 + 1)) (lv' := [(3, .int (x3 + 1)), (2, .int 0), (0, .ref (ad 0)), (1, .int x1)]) hx hb d_Md_isClaimed_44 hl (k := 3) rfl rfl (by decide) rfl (fun ls hl => ?_)
          refine lv_goto (tgt := 4) hx hb d_Md_isClaimed_47 (by decide) ?_
          exact ih x1 0 (x3 + 1) h ls (lv_sub hl [2, 3, 1, 0] rfl)
        · rw [if_neg c5] at h
          refine lv_aload_n hx hb d_Md_isClaimed_28 rfl (lv_at hl 0 rfl) ?_
          refine va_get (D := D) (ci := 11) (v := .ref (ad 22)) (C := R_Md) (T := T_Md) (N := 27) hx hb hts iw_Md hown G.1 hP 0 rfl rfl 24 (by decide) (hts _ wd_5_7) (fun _ h9 => h9) rfl d_Md_isClaimed_29 ?_
          refine lv_iload_n hx hb d_Md_isClaimed_32 rfl (lv_at hl 3 rfl) ?_
          obtain ⟨v6, e_v6, h⟩ := pu_ob h
          refine pu_iald hx hb G.1 hP 22 21 rfl rfl e_v6 d_Md_isClaimed_33 ?_
          refine lv_iload_n hx hb d_Md_isClaimed_34 rfl (lv_at hl 1 rfl) ?_
          refine lv_icmp_ne (tgt := 42) hx hb d_Md_isClaimed_35 (by decide) (fun c7 => ?_) (fun c7 => ?_)
          · rw [if_neg c7] at h
            refine lv_iconst (v := 0) hx hb d_Md_isClaimed_42 (by decide) ?_
            refine lv_istore_n (lv' := [(2, .int 0), (0, .ref (ad 0)), (1, .int x1), (3, .int x3)]) hx hb d_Md_isClaimed_43 rfl hl (by decide) rfl (fun ls hl => ?_)
            refine lv_iinc (v := (x3 + 1)) (lv' := [(3, .int (x3 + 1)), (2, .int 0), (0, .ref (ad 0)), (1, .int x1)]) hx hb d_Md_isClaimed_44 hl (k := 3) rfl rfl (by decide) rfl (fun ls hl => ?_)
            refine lv_goto (tgt := 4) hx hb d_Md_isClaimed_47 (by decide) ?_
            exact ih x1 0 (x3 + 1) h ls (lv_sub hl [2, 3, 1, 0] rfl)
          · rw [if_pos c7] at h
            refine lv_iconst (v := 1) hx hb d_Md_isClaimed_38 (by decide) ?_
            refine lv_goto (tgt := 43) hx hb d_Md_isClaimed_39 (by decide) ?_
            refine lv_istore_n (lv' := [(2, .int 1), (0, .ref (ad 0)), (1, .int x1), (3, .int x3)]) hx hb d_Md_isClaimed_43 rfl hl (by decide) rfl (fun ls hl => ?_)
            refine lv_iinc (v := (x3 + 1)) (lv' := [(3, .int (x3 + 1)), (2, .int 1), (0, .ref (ad 0)), (1, .int x1)]) hx hb d_Md_isClaimed_44 hl (k := 3) rfl rfl (by decide) rfl (fun ls hl => ?_)
            refine lv_goto (tgt := 4) hx hb d_Md_isClaimed_47 (by decide) ?_
            exact ih x1 1 (x3 + 1) h ls (lv_sub hl [2, 3, 1, 0] rfl)
set_option maxHeartbeats 4000000 in
set_option maxRecDepth 100000 in
theorem c_Md_isClaimed (l : Launch) (D : va_G) (ca : Nat → ClassId) (ad : Nat → Nat) (st : pu_St) (sz : Nat) (x1 : Int32) (r : Int32) (h : f_Md_isClaimed st x1 = some r) : Met l y_Md_isClaimed (.code y_Md_isClaimed b_Md_isClaimed 4 (some .boolean) :: tG) { frames := 0, cells := 0, slots := 0, locals := 0 } (va_Pc [.ref (ad 0), .int x1] (mPc D ca ad st sz)) (QcRead r) 0 0 (fun _ => False) := by
  refine mRead (by decide +kernel) ?_
  intro p e s m below meth c C G hP
  obtain ⟨hx, hb, hml, hr, hlocks, hno, hown, hts⟩ := id C
  have hown : s.vm.findClass "MuseumHouseModel" = some m.cls := hown
  have hS : va_S (mA ad s.heap.size) s.heap s.heap [] := va_S.rf
  have hl := lv_entry ([.ref (ad 0), .int x1]) (n := 4) (Nat.le_of_ble_eq_true rfl)
  rw [lg_entry_eq]
  generalize (lg_sl ([.ref (ad 0), .int x1]) ++ List.replicate (4 - (lg_sl ([.ref (ad 0), .int x1])).length) Slot.unset).toArray = ls at hl ⊢
  have hl : lv_has ls 4 [(0, .ref (ad 0)), (1, .int x1)] := hl
  unfold f_Md_isClaimed at h
  refine lv_iconst (v := 0) hx hb d_Md_isClaimed_0 (by decide) ?_
  refine lv_istore_n (lv' := [(2, .int 0), (0, .ref (ad 0)), (1, .int x1)]) hx hb d_Md_isClaimed_1 rfl hl (by decide) rfl (fun ls hl => ?_)
  refine lv_iconst (v := 0) hx hb d_Md_isClaimed_2 (by decide) ?_
  refine lv_istore_n (lv' := [(3, .int 0), (2, .int 0), (0, .ref (ad 0)), (1, .int x1)]) hx hb d_Md_isClaimed_3 rfl hl (by decide) rfl (fun ls hl => ?_)
  exact t_Md_isClaimed_b4 C G hP hS pu_fu x1 0 0 h ls (lv_sub hl [2, 3, 1, 0] rfl)
set_option maxHeartbeats 4000000 in
set_option maxRecDepth 100000 in
theorem t_Md_loan_b136 {l : Launch} (htl : l.stackTraces = false) {p : Program} {e : Env} {s : State} {m : MethodId} {args : Array Value} {below : List Frame} {meth : Method} {c : Code} {D : va_G} {ca : Nat → ClassId} {ad : Nat → Nat} {st' : pu_St} {v : Int32} (C : hC p s m meth c args b_Md_loan 6 (some .int) "MuseumHouseModel") (G : mX D ca ad (mA ad s.heap.size) s) :
    ∀ (_ : Unit) (st : pu_St) (x1 x2 x3 x4 x5 z0 z1 : Int32), f_Md_loan_b136 st x1 x2 x3 x4 x5 z0 z1 = some (v, st') → ∀ (H : Heap) (locs : List Loc), va_P D hcl (mW ca ad st) H → va_S (mA ad s.heap.size) s.heap H locs → ∀ ls : Array Slot, lv_has ls 6 [(0, .ref (ad 0)), (1, .int x1), (2, .int x2), (3, .int x3), (4, .int x4), (5, .int x5)] → W p l e { frames := 2, cells := 0, slots := 0, locals := 46 } s m args below meth c H locs 0 0 (MQX below (mQ D ca ad (fun v => some (.int v)) (.inl v) st' s.heap.size) args s 0 0 (mA ad s.heap.size)) (F0 m 136 ls [.int z0, .int z1]) := by
  obtain ⟨hx, hb, hml, hr, hlocks, hno, hown, hts⟩ := id C
  intro _ st x1 x2 x3 x4 x5 z0 z1 h H locs hP hS ls hl
  unfold f_Md_loan_b136 at h
  refine lv_bipush (v := 14) hx hb d_Md_loan_136 (by decide) ?_
  obtain ⟨v20, e_v20, h⟩ := pu_ob h
  refine pu_callR (va_runS (As := [.int z1, .int z0, .int 14]) (rest := []) ⟨hx, hb, hml, hown, hts⟩ (c_Md_then l D ca ad st _ z1 z0 14 v20 e_v20) (xCS 3 hts wd_5_90 wd_1_13 wd_5_88 wd_5_89 (by decide +kernel) ⟨Nat.le_of_ble_eq_true rfl, Nat.le_of_ble_eq_true rfl⟩) (G.preS hP hS) rfl rfl hl.1 rfl (lv_room (Nat.le_of_ble_eq_true rfl)) d_Md_loan_138 ⟨Nat.zero_le _, Nat.zero_le _⟩) ?_
  refine lv_istore (lv' := [(5, .int v20), (0, .ref (ad 0)), (1, .int x1), (2, .int x2), (3, .int x3), (4, .int x4)]) hx hb d_Md_loan_141 hl (by decide) rfl (fun ls hl => ?_)
  refine lv_aload_n hx hb d_Md_loan_143 rfl (lv_at hl 1 rfl) ?_
  refine lv_iload hx hb d_Md_loan_144 (lv_at hl 0 rfl) ?_
  obtain ⟨q21, e_q21, h⟩ := pu_ob h
  refine mCallI G hS (va_runV (As := [.int v20]) (rest := []) ⟨hx, hb, hml, hown, hts⟩ (MetX.met (c_Md_holds l htl D ca ad st _ v20 q21.1 q21.2 e_q21) (fun _ _ _ _ q => ⟨_, q.1⟩)) (xCW (C := "MuseumHouseModel") 1 hts wd_5_94 wd_1_13 wd_5_91 wd_5_93 wd_0_16 (by decide +kernel) ⟨Nat.le_of_ble_eq_true rfl, Nat.le_of_ble_eq_true rfl⟩) (G.preV hP hS 0 rfl rfl) rfl rfl hl.1 rfl (lv_room (Nat.le_of_ble_eq_true rfl)) d_Md_loan_146 ⟨Nat.zero_le _, Nat.zero_le _⟩) (fun H locs hP hS => ?_)
  refine lv_if_ne (tgt := 154) hx hb d_Md_loan_149 (by decide) (fun c22 => ?_) (fun c22 => ?_)
  · rw [if_neg c22] at h
    refine lv_aload_n hx hb d_Md_loan_154 rfl (lv_at hl 1 rfl) ?_
    refine va_get (D := D) (ci := 11) (v := .ref (ad 15)) (C := R_Md) (T := T_Md) (N := 27) hx hb hts iw_Md hown G.1 hP 0 rfl rfl 17 (by decide) (hts _ wd_5_0) (fun _ h9 => h9) rfl d_Md_loan_155 ?_
    refine lv_aload_n hx hb d_Md_loan_158 rfl (lv_at hl 1 rfl) ?_
    refine va_get (D := D) (ci := 11) (v := .ref (ad 1)) (C := R_Md) (T := T_Md) (N := 27) hx hb hts iw_Md hown G.1 hP 0 rfl rfl 3 (by decide) (hts _ wd_4_226) (fun _ h9 => h9) rfl d_Md_loan_159 ?_
    refine lv_bipush (v := 7) hx hb d_Md_loan_162 (by decide) ?_
    obtain ⟨v23, e_v23, h⟩ := pu_ob h
    refine pu_iald hx hb G.1 hP 1 0 rfl rfl e_v23 d_Md_loan_164 ?_
    refine lv_iload_n hx hb d_Md_loan_165 rfl (lv_at hl 3 rfl) ?_
    obtain ⟨g24, e_g24, h⟩ := pu_ob h
    refine pu_iast hx hb G.1 hP (G.D) hS 15 14 rfl rfl e_g24 d_Md_loan_166 (fun H locs hP hS => ?_)
    have hP : va_P D hcl (mW ca ad (q21.2.1, va_up q21.2.2 14 g24)) H := hP
    refine lv_aload_n hx hb d_Md_loan_167 rfl (lv_at hl 1 rfl) ?_
    refine va_get (D := D) (ci := 11) (v := .ref (ad 16)) (C := R_Md) (T := T_Md) (N := 27) hx hb hts iw_Md hown G.1 hP 0 rfl rfl 18 (by decide) (hts _ wd_5_1) (fun _ h9 => h9) rfl d_Md_loan_168 ?_
    refine lv_aload_n hx hb d_Md_loan_171 rfl (lv_at hl 1 rfl) ?_
    refine va_get (D := D) (ci := 11) (v := .ref (ad 1)) (C := R_Md) (T := T_Md) (N := 27) hx hb hts iw_Md hown G.1 hP 0 rfl rfl 3 (by decide) (hts _ wd_4_226) (fun _ h9 => h9) rfl d_Md_loan_172 ?_
    refine lv_bipush (v := 7) hx hb d_Md_loan_175 (by decide) ?_
    obtain ⟨v25, e_v25, h⟩ := pu_ob h
    refine pu_iald hx hb G.1 hP 1 0 rfl rfl e_v25 d_Md_loan_177 ?_
    refine lv_iload_n hx hb d_Md_loan_178 rfl (lv_at hl 4 rfl) ?_
    obtain ⟨g26, e_g26, h⟩ := pu_ob h
    refine pu_iast hx hb G.1 hP (G.D) hS 16 15 rfl rfl e_g26 d_Md_loan_179 (fun H locs hP hS => ?_)
    have hP : va_P D hcl (mW ca ad ((q21.2.1, va_up q21.2.2 14 g24).1, va_up (q21.2.1, va_up q21.2.2 14 g24).2 15 g26)) H := hP
    refine lv_aload_n hx hb d_Md_loan_180 rfl (lv_at hl 1 rfl) ?_
    refine va_get (D := D) (ci := 11) (v := .ref (ad 17)) (C := R_Md) (T := T_Md) (N := 27) hx hb hts iw_Md hown G.1 hP 0 rfl rfl 19 (by decide) (hts _ wd_5_2) (fun _ h9 => h9) rfl d_Md_loan_181 ?_
    refine lv_aload_n hx hb d_Md_loan_184 rfl (lv_at hl 1 rfl) ?_
    refine va_get (D := D) (ci := 11) (v := .ref (ad 1)) (C := R_Md) (T := T_Md) (N := 27) hx hb hts iw_Md hown G.1 hP 0 rfl rfl 3 (by decide) (hts _ wd_4_226) (fun _ h9 => h9) rfl d_Md_loan_185 ?_
    refine lv_bipush (v := 7) hx hb d_Md_loan_188 (by decide) ?_
    obtain ⟨v27, e_v27, h⟩ := pu_ob h
    refine pu_iald hx hb G.1 hP 1 0 rfl rfl e_v27 d_Md_loan_190 ?_
    refine lv_iload hx hb d_Md_loan_191 (lv_at hl 5 rfl) ?_
    obtain ⟨g28, e_g28, h⟩ := pu_ob h
    refine pu_iast hx hb G.1 hP (G.D) hS 17 16 rfl rfl e_g28 d_Md_loan_193 (fun H locs hP hS => ?_)
    have hP : va_P D hcl (mW ca ad (((q21.2.1, va_up q21.2.2 14 g24).1, va_up (q21.2.1, va_up q21.2.2 14 g24).2 15 g26).1, va_up ((q21.2.1, va_up q21.2.2 14 g24).1, va_up (q21.2.1, va_up q21.2.2 14 g24).2 15 g26).2 16 g28)) H := hP
    refine lv_aload_n hx hb d_Md_loan_194 rfl (lv_at hl 1 rfl) ?_
    refine lv_bipush (v := 7) hx hb d_Md_loan_195 (by decide) ?_
    obtain ⟨q29, e_q29, h⟩ := pu_ob h
    refine mCallI G hS (va_runV (As := [.int 7]) (rest := []) ⟨hx, hb, hml, hown, hts⟩ (MetX.met (c_Md_made l htl D ca ad (((q21.2.1, va_up q21.2.2 14 g24).1, va_up (q21.2.1, va_up q21.2.2 14 g24).2 15 g26).1, va_up ((q21.2.1, va_up q21.2.2 14 g24).1, va_up (q21.2.1, va_up q21.2.2 14 g24).2 15 g26).2 16 g28) _ 7 q29.1 q29.2 e_q29) (fun _ _ _ _ q => ⟨_, q.1⟩)) (xCW (C := "MuseumHouseModel") 1 hts wd_5_98 wd_1_13 wd_5_95 wd_5_97 wd_0_17 (by decide +kernel) ⟨Nat.le_of_ble_eq_true rfl, Nat.le_of_ble_eq_true rfl⟩) (G.preV hP hS 0 rfl rfl) rfl rfl hl.1 rfl (lv_room (Nat.le_of_ble_eq_true rfl)) d_Md_loan_197 ⟨Nat.zero_le _, Nat.zero_le _⟩) (fun H locs hP hS => ?_)
    cases h
    exact W.toX (W.iret hx hb hr (fun t ht _ => ⟨rfl, by rw [ht]; exact hP, hS.F ht⟩) hS.2.2 d_Md_loan_200)
  · rw [if_pos c22] at h
    refine lv_iconst (v := 0) hx hb d_Md_loan_152 (by decide) ?_
    cases h
    exact W.toX (W.iret hx hb hr (fun t ht _ => ⟨rfl, by rw [ht]; exact hP, hS.F ht⟩) hS.2.2 d_Md_loan_153)
set_option maxHeartbeats 4000000 in
set_option maxRecDepth 100000 in
theorem t_Md_loan_b131 {l : Launch} (htl : l.stackTraces = false) {p : Program} {e : Env} {s : State} {m : MethodId} {args : Array Value} {below : List Frame} {meth : Method} {c : Code} {D : va_G} {ca : Nat → ClassId} {ad : Nat → Nat} {st' : pu_St} {v : Int32} (C : hC p s m meth c args b_Md_loan 6 (some .int) "MuseumHouseModel") (G : mX D ca ad (mA ad s.heap.size) s) :
    ∀ (_ : Unit) (st : pu_St) (x1 x2 x3 x4 x5 z0 : Int32), f_Md_loan_b131 st x1 x2 x3 x4 x5 z0 = some (v, st') → ∀ (H : Heap) (locs : List Loc), va_P D hcl (mW ca ad st) H → va_S (mA ad s.heap.size) s.heap H locs → ∀ ls : Array Slot, lv_has ls 6 [(0, .ref (ad 0)), (1, .int x1), (2, .int x2), (3, .int x3), (4, .int x4), (5, .int x5)] → W p l e { frames := 2, cells := 0, slots := 0, locals := 46 } s m args below meth c H locs 0 0 (MQX below (mQ D ca ad (fun v => some (.int v)) (.inl v) st' s.heap.size) args s 0 0 (mA ad s.heap.size)) (F0 m 131 ls [.int z0]) := by
  obtain ⟨hx, hb, hml, hr, hlocks, hno, hown, hts⟩ := id C
  intro _ st x1 x2 x3 x4 x5 z0 h H locs hP hS ls hl
  unfold f_Md_loan_b131 at h
  refine lv_iconst (v := 1) hx hb d_Md_loan_131 (by decide) ?_
  refine lv_goto (tgt := 136) hx hb d_Md_loan_132 (by decide) ?_
  exact t_Md_loan_b136 htl C G () st x1 x2 x3 x4 x5 1 z0 h _ _ hP hS ls (lv_sub hl [0, 1, 2, 3, 4, 5] rfl)
set_option maxHeartbeats 4000000 in
set_option maxRecDepth 100000 in
theorem t_Md_loan_b135 {l : Launch} (htl : l.stackTraces = false) {p : Program} {e : Env} {s : State} {m : MethodId} {args : Array Value} {below : List Frame} {meth : Method} {c : Code} {D : va_G} {ca : Nat → ClassId} {ad : Nat → Nat} {st' : pu_St} {v : Int32} (C : hC p s m meth c args b_Md_loan 6 (some .int) "MuseumHouseModel") (G : mX D ca ad (mA ad s.heap.size) s) :
    ∀ (_ : Unit) (st : pu_St) (x1 x2 x3 x4 x5 z0 : Int32), f_Md_loan_b135 st x1 x2 x3 x4 x5 z0 = some (v, st') → ∀ (H : Heap) (locs : List Loc), va_P D hcl (mW ca ad st) H → va_S (mA ad s.heap.size) s.heap H locs → ∀ ls : Array Slot, lv_has ls 6 [(0, .ref (ad 0)), (1, .int x1), (2, .int x2), (3, .int x3), (4, .int x4), (5, .int x5)] → W p l e { frames := 2, cells := 0, slots := 0, locals := 46 } s m args below meth c H locs 0 0 (MQX below (mQ D ca ad (fun v => some (.int v)) (.inl v) st' s.heap.size) args s 0 0 (mA ad s.heap.size)) (F0 m 135 ls [.int z0]) := by
  obtain ⟨hx, hb, hml, hr, hlocks, hno, hown, hts⟩ := id C
  intro _ st x1 x2 x3 x4 x5 z0 h H locs hP hS ls hl
  unfold f_Md_loan_b135 at h
  refine lv_iconst (v := 0) hx hb d_Md_loan_135 (by decide) ?_
  exact t_Md_loan_b136 htl C G () st x1 x2 x3 x4 x5 0 z0 h _ _ hP hS ls (lv_sub hl [0, 1, 2, 3, 4, 5] rfl)
set_option maxHeartbeats 4000000 in
set_option maxRecDepth 100000 in
theorem t_Md_loan_b94 {l : Launch} (htl : l.stackTraces = false) {p : Program} {e : Env} {s : State} {m : MethodId} {args : Array Value} {below : List Frame} {meth : Method} {c : Code} {D : va_G} {ca : Nat → ClassId} {ad : Nat → Nat} {st' : pu_St} {v : Int32} (C : hC p s m meth c args b_Md_loan 6 (some .int) "MuseumHouseModel") (G : mX D ca ad (mA ad s.heap.size) s) :
    ∀ (_ : Unit) (st : pu_St) (x1 x2 x3 x4 x5 z0 z1 : Int32), f_Md_loan_b94 st x1 x2 x3 x4 x5 z0 z1 = some (v, st') → ∀ (H : Heap) (locs : List Loc), va_P D hcl (mW ca ad st) H → va_S (mA ad s.heap.size) s.heap H locs → ∀ ls : Array Slot, lv_has ls 6 [(0, .ref (ad 0)), (1, .int x1), (2, .int x2), (3, .int x3), (4, .int x4), (5, .int x5)] → W p l e { frames := 2, cells := 0, slots := 0, locals := 46 } s m args below meth c H locs 0 0 (MQX below (mQ D ca ad (fun v => some (.int v)) (.inl v) st' s.heap.size) args s 0 0 (mA ad s.heap.size)) (F0 m 94 ls [.int z0, .int z1]) := by
  obtain ⟨hx, hb, hml, hr, hlocks, hno, hown, hts⟩ := id C
  intro _ st x1 x2 x3 x4 x5 z0 z1 h H locs hP hS ls hl
  unfold f_Md_loan_b94 at h
  refine lv_bipush (v := 13) hx hb d_Md_loan_94 (by decide) ?_
  obtain ⟨v14, e_v14, h⟩ := pu_ob h
  refine pu_callR (va_runS (As := [.int z1, .int z0, .int 13]) (rest := []) ⟨hx, hb, hml, hown, hts⟩ (c_Md_then l D ca ad st _ z1 z0 13 v14 e_v14) (xCS 3 hts wd_5_90 wd_1_13 wd_5_88 wd_5_89 (by decide +kernel) ⟨Nat.le_of_ble_eq_true rfl, Nat.le_of_ble_eq_true rfl⟩) (G.preS hP hS) rfl rfl hl.1 rfl (lv_room (Nat.le_of_ble_eq_true rfl)) d_Md_loan_96 ⟨Nat.zero_le _, Nat.zero_le _⟩) ?_
  refine lv_istore (lv' := [(5, .int v14), (0, .ref (ad 0)), (1, .int x1), (2, .int x2), (3, .int x3), (4, .int x4)]) hx hb d_Md_loan_99 hl (by decide) rfl (fun ls hl => ?_)
  refine lv_iload hx hb d_Md_loan_101 (lv_at hl 0 rfl) ?_
  refine lv_iload hx hb d_Md_loan_103 (lv_at hl 0 rfl) ?_
  refine lv_if_gt (tgt := 131) hx hb d_Md_loan_105 (by decide) (fun c15 => ?_) (fun c15 => ?_)
  · rw [if_pos c15] at h
    exact t_Md_loan_b131 htl C G () st x1 x2 x3 x4 v14 v14 h _ _ hP hS ls (lv_sub hl [1, 2, 3, 4, 5, 0] rfl)
  · rw [if_neg c15] at h
    refine lv_aload_n hx hb d_Md_loan_108 rfl (lv_at hl 1 rfl) ?_
    refine lv_iload_n hx hb d_Md_loan_109 rfl (lv_at hl 3 rfl) ?_
    refine lv_iload_n hx hb d_Md_loan_110 rfl (lv_at hl 4 rfl) ?_
    refine lv_iload hx hb d_Md_loan_111 (lv_at hl 5 rfl) ?_
    obtain ⟨v16, e_v16, h⟩ := pu_ob h
    refine pu_callR (va_runV (As := [.int x2, .int x3, .int x4]) (rest := [.int v14]) ⟨hx, hb, hml, hown, hts⟩ (c_Md_loanAt l D ca ad st _ x2 x3 x4 v16 e_v16) (xCW (C := "MuseumHouseModel") 3 hts wd_5_186 wd_1_13 wd_5_183 wd_5_185 wd_0_26 (by decide +kernel) ⟨Nat.le_of_ble_eq_true rfl, Nat.le_of_ble_eq_true rfl⟩) (G.preV hP hS 0 rfl rfl) rfl rfl hl.1 rfl (lv_room (Nat.le_of_ble_eq_true rfl)) d_Md_loan_113 ⟨Nat.zero_le _, Nat.zero_le _⟩) ?_
    refine lv_if_ne (tgt := 135) hx hb d_Md_loan_116 (by decide) (fun c17 => ?_) (fun c17 => ?_)
    · rw [if_neg c17] at h
      exact t_Md_loan_b135 htl C G () st x1 x2 x3 x4 v14 v14 h _ _ hP hS ls (lv_sub hl [1, 2, 3, 4, 5, 0] rfl)
    · rw [if_pos c17] at h
      refine lv_aload_n hx hb d_Md_loan_119 rfl (lv_at hl 1 rfl) ?_
      refine lv_iload_n hx hb d_Md_loan_120 rfl (lv_at hl 3 rfl) ?_
      refine lv_iload_n hx hb d_Md_loan_121 rfl (lv_at hl 4 rfl) ?_
      refine lv_iload hx hb d_Md_loan_122 (lv_at hl 5 rfl) ?_
      refine lv_iconst (v := (-1)) hx hb d_Md_loan_124 (by decide) ?_
      obtain ⟨v18, e_v18, h⟩ := pu_ob h
      refine pu_callR (va_runV (As := [.int x2, .int x3, .int x4, .int (-1)]) (rest := [.int v14]) ⟨hx, hb, hml, hown, hts⟩ (c_Md_showAt l D ca ad st _ x2 x3 x4 (-1) v18 e_v18) (xCW (C := "MuseumHouseModel") 4 hts wd_5_216 wd_1_13 wd_5_213 wd_5_215 wd_0_29 (by decide +kernel) ⟨Nat.le_of_ble_eq_true rfl, Nat.le_of_ble_eq_true rfl⟩) (G.preV hP hS 0 rfl rfl) rfl rfl hl.1 rfl (lv_room (Nat.le_of_ble_eq_true rfl)) d_Md_loan_125 ⟨Nat.zero_le _, Nat.zero_le _⟩) ?_
      refine lv_if_ne (tgt := 135) hx hb d_Md_loan_128 (by decide) (fun c19 => ?_) (fun c19 => ?_)
      · rw [if_neg c19] at h
        exact t_Md_loan_b135 htl C G () st x1 x2 x3 x4 v14 v14 h _ _ hP hS ls (lv_sub hl [1, 2, 3, 4, 5, 0] rfl)
      · rw [if_pos c19] at h
        exact t_Md_loan_b131 htl C G () st x1 x2 x3 x4 v14 v14 h _ _ hP hS ls (lv_sub hl [1, 2, 3, 4, 5, 0] rfl)
set_option maxHeartbeats 4000000 in
set_option maxRecDepth 100000 in
theorem t_Md_loan_b89 {l : Launch} (htl : l.stackTraces = false) {p : Program} {e : Env} {s : State} {m : MethodId} {args : Array Value} {below : List Frame} {meth : Method} {c : Code} {D : va_G} {ca : Nat → ClassId} {ad : Nat → Nat} {st' : pu_St} {v : Int32} (C : hC p s m meth c args b_Md_loan 6 (some .int) "MuseumHouseModel") (G : mX D ca ad (mA ad s.heap.size) s) :
    ∀ (_ : Unit) (st : pu_St) (x1 x2 x3 x4 x5 z0 : Int32), f_Md_loan_b89 st x1 x2 x3 x4 x5 z0 = some (v, st') → ∀ (H : Heap) (locs : List Loc), va_P D hcl (mW ca ad st) H → va_S (mA ad s.heap.size) s.heap H locs → ∀ ls : Array Slot, lv_has ls 6 [(0, .ref (ad 0)), (1, .int x1), (2, .int x2), (3, .int x3), (4, .int x4), (5, .int x5)] → W p l e { frames := 2, cells := 0, slots := 0, locals := 46 } s m args below meth c H locs 0 0 (MQX below (mQ D ca ad (fun v => some (.int v)) (.inl v) st' s.heap.size) args s 0 0 (mA ad s.heap.size)) (F0 m 89 ls [.int z0]) := by
  obtain ⟨hx, hb, hml, hr, hlocks, hno, hown, hts⟩ := id C
  intro _ st x1 x2 x3 x4 x5 z0 h H locs hP hS ls hl
  unfold f_Md_loan_b89 at h
  refine lv_iconst (v := 1) hx hb d_Md_loan_89 (by decide) ?_
  refine lv_goto (tgt := 94) hx hb d_Md_loan_90 (by decide) ?_
  exact t_Md_loan_b94 htl C G () st x1 x2 x3 x4 x5 1 z0 h _ _ hP hS ls (lv_sub hl [0, 1, 2, 3, 4, 5] rfl)
set_option maxHeartbeats 4000000 in
set_option maxRecDepth 100000 in
theorem t_Md_loan_b67 {l : Launch} (htl : l.stackTraces = false) {p : Program} {e : Env} {s : State} {m : MethodId} {args : Array Value} {below : List Frame} {meth : Method} {c : Code} {D : va_G} {ca : Nat → ClassId} {ad : Nat → Nat} {st' : pu_St} {v : Int32} (C : hC p s m meth c args b_Md_loan 6 (some .int) "MuseumHouseModel") (G : mX D ca ad (mA ad s.heap.size) s) :
    ∀ (_ : Unit) (st : pu_St) (x1 x2 x3 x4 x5 z0 z1 : Int32), f_Md_loan_b67 st x1 x2 x3 x4 x5 z0 z1 = some (v, st') → ∀ (H : Heap) (locs : List Loc), va_P D hcl (mW ca ad st) H → va_S (mA ad s.heap.size) s.heap H locs → ∀ ls : Array Slot, lv_has ls 6 [(0, .ref (ad 0)), (1, .int x1), (2, .int x2), (3, .int x3), (4, .int x4), (5, .int x5)] → W p l e { frames := 2, cells := 0, slots := 0, locals := 46 } s m args below meth c H locs 0 0 (MQX below (mQ D ca ad (fun v => some (.int v)) (.inl v) st' s.heap.size) args s 0 0 (mA ad s.heap.size)) (F0 m 67 ls [.int z0, .int z1]) := by
  obtain ⟨hx, hb, hml, hr, hlocks, hno, hown, hts⟩ := id C
  intro _ st x1 x2 x3 x4 x5 z0 z1 h H locs hP hS ls hl
  unfold f_Md_loan_b67 at h
  refine lv_bipush (v := 11) hx hb d_Md_loan_67 (by decide) ?_
  obtain ⟨v10, e_v10, h⟩ := pu_ob h
  refine pu_callR (va_runS (As := [.int z1, .int z0, .int 11]) (rest := []) ⟨hx, hb, hml, hown, hts⟩ (c_Md_then l D ca ad st _ z1 z0 11 v10 e_v10) (xCS 3 hts wd_5_90 wd_1_13 wd_5_88 wd_5_89 (by decide +kernel) ⟨Nat.le_of_ble_eq_true rfl, Nat.le_of_ble_eq_true rfl⟩) (G.preS hP hS) rfl rfl hl.1 rfl (lv_room (Nat.le_of_ble_eq_true rfl)) d_Md_loan_69 ⟨Nat.zero_le _, Nat.zero_le _⟩) ?_
  refine lv_istore (lv' := [(5, .int v10), (0, .ref (ad 0)), (1, .int x1), (2, .int x2), (3, .int x3), (4, .int x4)]) hx hb d_Md_loan_72 hl (by decide) rfl (fun ls hl => ?_)
  refine lv_iload hx hb d_Md_loan_74 (lv_at hl 0 rfl) ?_
  refine lv_iload hx hb d_Md_loan_76 (lv_at hl 0 rfl) ?_
  refine lv_if_gt (tgt := 89) hx hb d_Md_loan_78 (by decide) (fun c11 => ?_) (fun c11 => ?_)
  · rw [if_pos c11] at h
    exact t_Md_loan_b89 htl C G () st x1 x2 x3 x4 v10 v10 h _ _ hP hS ls (lv_sub hl [1, 2, 3, 4, 5, 0] rfl)
  · rw [if_neg c11] at h
    refine lv_aload_n hx hb d_Md_loan_81 rfl (lv_at hl 1 rfl) ?_
    refine lv_iload_n hx hb d_Md_loan_82 rfl (lv_at hl 3 rfl) ?_
    obtain ⟨v12, e_v12, h⟩ := pu_ob h
    refine pu_callR (va_runV (As := [.int x2]) (rest := [.int v10]) ⟨hx, hb, hml, hown, hts⟩ (c_Md_isClaimed l D ca ad st _ x2 v12 e_v12) (xCW (C := "MuseumHouseModel") 1 hts wd_5_212 wd_1_13 wd_5_209 wd_5_211 wd_0_28 (by decide +kernel) ⟨Nat.le_of_ble_eq_true rfl, Nat.le_of_ble_eq_true rfl⟩) (G.preV hP hS 0 rfl rfl) rfl rfl hl.1 rfl (lv_room (Nat.le_of_ble_eq_true rfl)) d_Md_loan_83 ⟨Nat.zero_le _, Nat.zero_le _⟩) ?_
    refine lv_if_ne (tgt := 93) hx hb d_Md_loan_86 (by decide) (fun c13 => ?_) (fun c13 => ?_)
    · rw [if_neg c13] at h
      refine lv_iconst (v := 0) hx hb d_Md_loan_93 (by decide) ?_
      exact t_Md_loan_b94 htl C G () st x1 x2 x3 x4 v10 0 v10 h _ _ hP hS ls (lv_sub hl [1, 2, 3, 4, 5, 0] rfl)
    · rw [if_pos c13] at h
      exact t_Md_loan_b89 htl C G () st x1 x2 x3 x4 v10 v10 h _ _ hP hS ls (lv_sub hl [1, 2, 3, 4, 5, 0] rfl)
set_option maxHeartbeats 4000000 in
set_option maxRecDepth 100000 in
theorem t_Md_loan_b62 {l : Launch} (htl : l.stackTraces = false) {p : Program} {e : Env} {s : State} {m : MethodId} {args : Array Value} {below : List Frame} {meth : Method} {c : Code} {D : va_G} {ca : Nat → ClassId} {ad : Nat → Nat} {st' : pu_St} {v : Int32} (C : hC p s m meth c args b_Md_loan 6 (some .int) "MuseumHouseModel") (G : mX D ca ad (mA ad s.heap.size) s) :
    ∀ (_ : Unit) (st : pu_St) (x1 x2 x3 x4 x5 z0 : Int32), f_Md_loan_b62 st x1 x2 x3 x4 x5 z0 = some (v, st') → ∀ (H : Heap) (locs : List Loc), va_P D hcl (mW ca ad st) H → va_S (mA ad s.heap.size) s.heap H locs → ∀ ls : Array Slot, lv_has ls 6 [(0, .ref (ad 0)), (1, .int x1), (2, .int x2), (3, .int x3), (4, .int x4), (5, .int x5)] → W p l e { frames := 2, cells := 0, slots := 0, locals := 46 } s m args below meth c H locs 0 0 (MQX below (mQ D ca ad (fun v => some (.int v)) (.inl v) st' s.heap.size) args s 0 0 (mA ad s.heap.size)) (F0 m 62 ls [.int z0]) := by
  obtain ⟨hx, hb, hml, hr, hlocks, hno, hown, hts⟩ := id C
  intro _ st x1 x2 x3 x4 x5 z0 h H locs hP hS ls hl
  unfold f_Md_loan_b62 at h
  refine lv_iconst (v := 1) hx hb d_Md_loan_62 (by decide) ?_
  refine lv_goto (tgt := 67) hx hb d_Md_loan_63 (by decide) ?_
  exact t_Md_loan_b67 htl C G () st x1 x2 x3 x4 x5 1 z0 h _ _ hP hS ls (lv_sub hl [0, 1, 2, 3, 4, 5] rfl)
set_option maxHeartbeats 4000000 in
set_option maxRecDepth 100000 in
theorem t_Md_loan_b27 {l : Launch} (htl : l.stackTraces = false) {p : Program} {e : Env} {s : State} {m : MethodId} {args : Array Value} {below : List Frame} {meth : Method} {c : Code} {D : va_G} {ca : Nat → ClassId} {ad : Nat → Nat} {st' : pu_St} {v : Int32} (C : hC p s m meth c args b_Md_loan 6 (some .int) "MuseumHouseModel") (G : mX D ca ad (mA ad s.heap.size) s) :
    ∀ (_ : Unit) (st : pu_St) (x1 x2 x3 x4 z0 z1 z2 z3 : Int32), f_Md_loan_b27 st x1 x2 x3 x4 z0 z1 z2 z3 = some (v, st') → ∀ (H : Heap) (locs : List Loc), va_P D hcl (mW ca ad st) H → va_S (mA ad s.heap.size) s.heap H locs → ∀ ls : Array Slot, lv_has ls 6 [(0, .ref (ad 0)), (1, .int x1), (2, .int x2), (3, .int x3), (4, .int x4)] → W p l e { frames := 2, cells := 0, slots := 0, locals := 46 } s m args below meth c H locs 0 0 (MQX below (mQ D ca ad (fun v => some (.int v)) (.inl v) st' s.heap.size) args s 0 0 (mA ad s.heap.size)) (F0 m 27 ls [.int z0, .int z1, .int z2, .int z3, .ref (ad 0)]) := by
  obtain ⟨hx, hb, hml, hr, hlocks, hno, hown, hts⟩ := id C
  intro _ st x1 x2 x3 x4 z0 z1 z2 z3 h H locs hP hS ls hl
  unfold f_Md_loan_b27 at h
  obtain ⟨v4, e_v4, h⟩ := pu_ob h
  refine pu_callR (va_runV (As := [.int z3, .int z2, .int z1, .int z0]) (rest := []) ⟨hx, hb, hml, hown, hts⟩ (c_Md_first l D ca ad st _ z3 z2 z1 z0 v4 e_v4) (xCW (C := "MuseumHouseModel") 4 hts wd_5_76 wd_1_13 wd_5_73 wd_5_75 wd_0_13 (by decide +kernel) ⟨Nat.le_of_ble_eq_true rfl, Nat.le_of_ble_eq_true rfl⟩) (G.preV hP hS 0 rfl rfl) rfl rfl hl.1 rfl (lv_room (Nat.le_of_ble_eq_true rfl)) d_Md_loan_27 ⟨Nat.zero_le _, Nat.zero_le _⟩) ?_
  refine lv_istore (lv' := [(5, .int v4), (0, .ref (ad 0)), (1, .int x1), (2, .int x2), (3, .int x3), (4, .int x4)]) hx hb d_Md_loan_30 hl (by decide) rfl (fun ls hl => ?_)
  refine lv_iload hx hb d_Md_loan_32 (lv_at hl 0 rfl) ?_
  refine lv_iload_n hx hb d_Md_loan_34 rfl (lv_at hl 4 rfl) ?_
  refine lv_iload hx hb d_Md_loan_35 (lv_at hl 5 rfl) ?_
  obtain ⟨v5, e_v5, h⟩ := pu_ob h
  refine pu_callR (va_runS (As := [.int x3, .int x4]) (rest := [.int v4]) ⟨hx, hb, hml, hown, hts⟩ (c_Md_isSpan l D ca ad st _ x3 x4 v5 e_v5) (xCS 2 hts wd_5_208 wd_1_13 wd_5_206 wd_5_207 (by decide +kernel) ⟨Nat.le_of_ble_eq_true rfl, Nat.le_of_ble_eq_true rfl⟩) (G.preS hP hS) rfl rfl hl.1 rfl (lv_room (Nat.le_of_ble_eq_true rfl)) d_Md_loan_37 ⟨Nat.zero_le _, Nat.zero_le _⟩) ?_
  refine lv_iconst (v := 4) hx hb d_Md_loan_40 (by decide) ?_
  obtain ⟨v6, e_v6, h⟩ := pu_ob h
  refine pu_callR (va_runS (As := [.int v4, .int v5, .int 4]) (rest := []) ⟨hx, hb, hml, hown, hts⟩ (c_Md_then l D ca ad st _ v4 v5 4 v6 e_v6) (xCS 3 hts wd_5_90 wd_1_13 wd_5_88 wd_5_89 (by decide +kernel) ⟨Nat.le_of_ble_eq_true rfl, Nat.le_of_ble_eq_true rfl⟩) (G.preS hP hS) rfl rfl hl.1 rfl (lv_room (Nat.le_of_ble_eq_true rfl)) d_Md_loan_41 ⟨Nat.zero_le _, Nat.zero_le _⟩) ?_
  refine lv_istore (lv' := [(5, .int v6), (0, .ref (ad 0)), (1, .int x1), (2, .int x2), (3, .int x3), (4, .int x4)]) hx hb d_Md_loan_44 hl (by decide) rfl (fun ls hl => ?_)
  refine lv_iload hx hb d_Md_loan_46 (lv_at hl 0 rfl) ?_
  refine lv_iload hx hb d_Md_loan_48 (lv_at hl 0 rfl) ?_
  refine lv_if_gt (tgt := 62) hx hb d_Md_loan_50 (by decide) (fun c7 => ?_) (fun c7 => ?_)
  · rw [if_pos c7] at h
    exact t_Md_loan_b62 htl C G () st x1 x2 x3 x4 v6 v6 h _ _ hP hS ls (lv_sub hl [1, 2, 3, 4, 5, 0] rfl)
  · rw [if_neg c7] at h
    refine lv_iload_n hx hb d_Md_loan_53 rfl (lv_at hl 4 rfl) ?_
    refine lv_aload_n hx hb d_Md_loan_54 rfl (lv_at hl 1 rfl) ?_
    refine lv_iload_n hx hb d_Md_loan_55 rfl (lv_at hl 3 rfl) ?_
    obtain ⟨v8, e_v8, h⟩ := pu_ob h
    refine pu_callR (va_runV (As := [.int x2]) (rest := [.int x3, .int v6]) ⟨hx, hb, hml, hown, hts⟩ (c_Md_dayOf l D ca ad st _ x2 v8 e_v8) (xCW (C := "MuseumHouseModel") 1 hts wd_5_182 wd_1_13 wd_5_179 wd_5_181 wd_0_25 (by decide +kernel) ⟨Nat.le_of_ble_eq_true rfl, Nat.le_of_ble_eq_true rfl⟩) (G.preV hP hS 0 rfl rfl) rfl rfl hl.1 rfl (lv_room (Nat.le_of_ble_eq_true rfl)) d_Md_loan_56 ⟨Nat.zero_le _, Nat.zero_le _⟩) ?_
    refine lv_icmp_lt (tgt := 66) hx hb d_Md_loan_59 (by decide) (fun c9 => ?_) (fun c9 => ?_)
    · rw [if_pos c9] at h
      refine lv_iconst (v := 0) hx hb d_Md_loan_66 (by decide) ?_
      exact t_Md_loan_b67 htl C G () st x1 x2 x3 x4 v6 0 v6 h _ _ hP hS ls (lv_sub hl [1, 2, 3, 4, 5, 0] rfl)
    · rw [if_neg c9] at h
      exact t_Md_loan_b62 htl C G () st x1 x2 x3 x4 v6 v6 h _ _ hP hS ls (lv_sub hl [1, 2, 3, 4, 5, 0] rfl)
set_option maxHeartbeats 4000000 in
set_option maxRecDepth 100000 in
theorem c_Md_loan (l : Launch) (htl : l.stackTraces = false) (D : va_G) (ca : Nat → ClassId) (ad : Nat → Nat) (st : pu_St) (sz : Nat) (x1 x2 x3 x4 : Int32) (v : Int32) (st' : pu_St) (h : f_Md_loan st x1 x2 x3 x4 = some (v, st')) : MetX l y_Md_loan (.code y_Md_loan b_Md_loan 6 (some .int) :: tG) { frames := 2, cells := 0, slots := 0, locals := 46 } (va_Pc [.ref (ad 0), .int x1, .int x2, .int x3, .int x4] (mPc D ca ad st sz)) (mQ D ca ad (fun v => some (.int v)) (.inl v) st' sz) 0 0 (mA ad sz) := by
  refine mMet (by decide +kernel) ?_
  intro p e s m below meth c hsz C G hP
  obtain ⟨hx, hb, hml, hr, hlocks, hno, hown, hts⟩ := id C
  have hown : s.vm.findClass "MuseumHouseModel" = some m.cls := hown
  have hS : va_S (mA ad s.heap.size) s.heap s.heap [] := va_S.rf
  have hl := lv_entry ([.ref (ad 0), .int x1, .int x2, .int x3, .int x4]) (n := 6) (Nat.le_of_ble_eq_true rfl)
  rw [lg_entry_eq]
  generalize (lg_sl ([.ref (ad 0), .int x1, .int x2, .int x3, .int x4]) ++ List.replicate (6 - (lg_sl ([.ref (ad 0), .int x1, .int x2, .int x3, .int x4])).length) Slot.unset).toArray = ls at hl ⊢
  have hl : lv_has ls 6 [(0, .ref (ad 0)), (1, .int x1), (2, .int x2), (3, .int x3), (4, .int x4)] := hl
  unfold f_Md_loan at h
  refine lv_aload_n hx hb d_Md_loan_0 rfl (lv_at hl 0 rfl) ?_
  refine lv_aload_n hx hb d_Md_loan_1 rfl (lv_at hl 0 rfl) ?_
  refine lv_iload_n hx hb d_Md_loan_2 rfl (lv_at hl 2 rfl) ?_
  refine lv_iconst (v := 5) hx hb d_Md_loan_3 (by decide) ?_
  obtain ⟨v1, e_v1, h⟩ := pu_ob h
  refine pu_callR (va_runV (As := [.int x2, .int 5]) (rest := [.ref (ad 0)]) ⟨hx, hb, hml, hown, hts⟩ (c_Md_is l D ca ad st _ x2 5 v1 e_v1) (xCW (C := "MuseumHouseModel") 2 hts wd_5_80 wd_1_13 wd_5_77 wd_5_79 wd_0_14 (by decide +kernel) ⟨Nat.le_of_ble_eq_true rfl, Nat.le_of_ble_eq_true rfl⟩) (G.preV hP hS 0 rfl rfl) rfl rfl hl.1 rfl (lv_room (Nat.le_of_ble_eq_true rfl)) d_Md_loan_4 ⟨Nat.zero_le _, Nat.zero_le _⟩) ?_
  refine lv_iload_n hx hb d_Md_loan_7 rfl (lv_at hl 1 rfl) ?_
  refine lv_bipush (v := 8) hx hb d_Md_loan_8 (by decide) ?_
  refine lv_aload_n hx hb d_Md_loan_10 rfl (lv_at hl 0 rfl) ?_
  refine va_get (D := D) (ci := 11) (v := .ref (ad 1)) (C := R_Md) (T := T_Md) (N := 27) hx hb hts iw_Md hown G.1 hP 0 rfl rfl 3 (by decide) (hts _ wd_4_226) (fun _ h9 => h9) rfl d_Md_loan_11 ?_
  refine lv_bipush (v := 7) hx hb d_Md_loan_14 (by decide) ?_
  obtain ⟨v2, e_v2, h⟩ := pu_ob h
  refine pu_iald hx hb G.1 hP 1 0 rfl rfl e_v2 d_Md_loan_16 ?_
  refine lv_bipush (v := 40) hx hb d_Md_loan_17 (by decide) ?_
  refine lv_icmp_ge (tgt := 26) hx hb d_Md_loan_19 (by decide) (fun c3 => ?_) (fun c3 => ?_)
  · rw [if_pos c3] at h
    refine lv_iconst (v := 0) hx hb d_Md_loan_26 (by decide) ?_
    exact t_Md_loan_b27 htl C G () st x1 x2 x3 x4 0 8 x1 v1 h _ _ hP hS ls (lv_sub hl [0, 1, 2, 3, 4] rfl)
  · rw [if_neg c3] at h
    refine lv_iconst (v := 1) hx hb d_Md_loan_22 (by decide) ?_
    refine lv_goto (tgt := 27) hx hb d_Md_loan_23 (by decide) ?_
    exact t_Md_loan_b27 htl C G () st x1 x2 x3 x4 1 8 x1 v1 h _ _ hP hS ls (lv_sub hl [0, 1, 2, 3, 4] rfl)
set_option maxHeartbeats 4000000 in
set_option maxRecDepth 100000 in
theorem t_Md_back_b23 {l : Launch} (htl : l.stackTraces = false) {p : Program} {e : Env} {s : State} {m : MethodId} {args : Array Value} {below : List Frame} {meth : Method} {c : Code} {D : va_G} {ca : Nat → ClassId} {ad : Nat → Nat} {st' : pu_St} {v : Int32} (C : hC p s m meth c args b_Md_back 8 (some .int) "MuseumHouseModel") (G : mX D ca ad (mA ad s.heap.size) s) :
    ∀ (_ : Unit) (st : pu_St) (x1 x2 x3 x4 z0 : Int32), f_Md_back_b23 st x1 x2 x3 x4 z0 = some (v, st') → ∀ (H : Heap) (locs : List Loc), va_P D hcl (mW ca ad st) H → va_S (mA ad s.heap.size) s.heap H locs → ∀ ls : Array Slot, lv_has ls 8 [(0, .ref (ad 0)), (1, .int x1), (2, .int x2), (3, .int x3), (4, .int x4)] → W p l e { frames := 2, cells := 0, slots := 0, locals := 46 } s m args below meth c H locs 0 0 (MQX below (mQ D ca ad (fun v => some (.int v)) (.inl v) st' s.heap.size) args s 0 0 (mA ad s.heap.size)) (F0 m 23 ls [.int z0]) := by
  obtain ⟨hx, hb, hml, hr, hlocks, hno, hown, hts⟩ := id C
  intro _ st x1 x2 x3 x4 z0 h H locs hP hS ls hl
  unfold f_Md_back_b23 at h
  refine lv_istore (lv' := [(5, .int z0), (0, .ref (ad 0)), (1, .int x1), (2, .int x2), (3, .int x3), (4, .int x4)]) hx hb d_Md_back_23 hl (by decide) rfl (fun ls hl => ?_)
  refine lv_aload_n hx hb d_Md_back_25 rfl (lv_at hl 1 rfl) ?_
  refine lv_iload hx hb d_Md_back_26 (lv_at hl 5 rfl) ?_
  refine lv_iload_n hx hb d_Md_back_28 rfl (lv_at hl 2 rfl) ?_
  refine lv_bipush (v := 8) hx hb d_Md_back_29 (by decide) ?_
  refine lv_iconst (v := 1) hx hb d_Md_back_31 (by decide) ?_
  obtain ⟨v3, e_v3, h⟩ := pu_ob h
  refine pu_callR (va_runV (As := [.int x4, .int x1, .int 8, .int 1]) (rest := []) ⟨hx, hb, hml, hown, hts⟩ (c_Md_first l D ca ad st _ x4 x1 8 1 v3 e_v3) (xCW (C := "MuseumHouseModel") 4 hts wd_5_76 wd_1_13 wd_5_73 wd_5_75 wd_0_13 (by decide +kernel) ⟨Nat.le_of_ble_eq_true rfl, Nat.le_of_ble_eq_true rfl⟩) (G.preV hP hS 0 rfl rfl) rfl rfl hl.1 rfl (lv_room (Nat.le_of_ble_eq_true rfl)) d_Md_back_32 ⟨Nat.zero_le _, Nat.zero_le _⟩) ?_
  refine lv_istore (lv' := [(6, .int v3), (5, .int z0), (0, .ref (ad 0)), (1, .int x1), (2, .int x2), (3, .int x3), (4, .int x4)]) hx hb d_Md_back_35 hl (by decide) rfl (fun ls hl => ?_)
  refine lv_iload hx hb d_Md_back_37 (lv_at hl 0 rfl) ?_
  refine lv_iload_n hx hb d_Md_back_39 rfl (lv_at hl 5 rfl) ?_
  obtain ⟨v4, e_v4, h⟩ := pu_ob h
  refine pu_callR (va_runS (As := [.int x3]) (rest := [.int v3]) ⟨hx, hb, hml, hown, hts⟩ (c_Md_isDay l D ca ad st _ x3 v4 e_v4) (xCS 1 hts wd_5_193 wd_1_13 wd_5_191 wd_5_192 (by decide +kernel) ⟨Nat.le_of_ble_eq_true rfl, Nat.le_of_ble_eq_true rfl⟩) (G.preS hP hS) rfl rfl hl.1 rfl (lv_room (Nat.le_of_ble_eq_true rfl)) d_Md_back_40 ⟨Nat.zero_le _, Nat.zero_le _⟩) ?_
  refine lv_iconst (v := 4) hx hb d_Md_back_43 (by decide) ?_
  obtain ⟨v5, e_v5, h⟩ := pu_ob h
  refine pu_callR (va_runS (As := [.int v3, .int v4, .int 4]) (rest := []) ⟨hx, hb, hml, hown, hts⟩ (c_Md_then l D ca ad st _ v3 v4 4 v5 e_v5) (xCS 3 hts wd_5_90 wd_1_13 wd_5_88 wd_5_89 (by decide +kernel) ⟨Nat.le_of_ble_eq_true rfl, Nat.le_of_ble_eq_true rfl⟩) (G.preS hP hS) rfl rfl hl.1 rfl (lv_room (Nat.le_of_ble_eq_true rfl)) d_Md_back_44 ⟨Nat.zero_le _, Nat.zero_le _⟩) ?_
  refine lv_istore (lv' := [(6, .int v5), (5, .int z0), (0, .ref (ad 0)), (1, .int x1), (2, .int x2), (3, .int x3), (4, .int x4)]) hx hb d_Md_back_47 hl (by decide) rfl (fun ls hl => ?_)
  refine lv_aload_n hx hb d_Md_back_49 rfl (lv_at hl 2 rfl) ?_
  refine lv_iload hx hb d_Md_back_50 (lv_at hl 0 rfl) ?_
  refine lv_iload_n hx hb d_Md_back_52 rfl (lv_at hl 5 rfl) ?_
  refine lv_aload_n hx hb d_Md_back_53 rfl (lv_at hl 2 rfl) ?_
  refine va_get (D := D) (ci := 11) (v := .ref (ad 16)) (C := R_Md) (T := T_Md) (N := 27) hx hb hts iw_Md hown G.1 hP 0 rfl rfl 18 (by decide) (hts _ wd_5_1) (fun _ h9 => h9) rfl d_Md_back_54 ?_
  refine lv_iload hx hb d_Md_back_57 (lv_at hl 1 rfl) ?_
  obtain ⟨v6, e_v6, h⟩ := pu_ob h
  refine pu_iald hx hb G.1 hP 16 15 rfl rfl e_v6 d_Md_back_59 ?_
  refine lv_aload_n hx hb d_Md_back_60 rfl (lv_at hl 2 rfl) ?_
  refine va_get (D := D) (ci := 11) (v := .ref (ad 17)) (C := R_Md) (T := T_Md) (N := 27) hx hb hts iw_Md hown G.1 hP 0 rfl rfl 19 (by decide) (hts _ wd_5_2) (fun _ h9 => h9) rfl d_Md_back_61 ?_
  refine lv_iload hx hb d_Md_back_64 (lv_at hl 1 rfl) ?_
  obtain ⟨v7, e_v7, h⟩ := pu_ob h
  refine pu_iald hx hb G.1 hP 17 16 rfl rfl e_v7 d_Md_back_66 ?_
  obtain ⟨v8, e_v8, h⟩ := pu_ob h
  refine pu_callR (va_runS (As := [.int x3, .int v6, .int v7]) (rest := [.int v5, .ref (ad 0)]) ⟨hx, hb, hml, hown, hts⟩ (c_Md_lies l D ca ad st _ x3 v6 v7 v8 e_v8) (xCS 3 hts wd_5_87 wd_1_13 wd_5_85 wd_5_86 (by decide +kernel) ⟨Nat.le_of_ble_eq_true rfl, Nat.le_of_ble_eq_true rfl⟩) (G.preS hP hS) rfl rfl hl.1 rfl (lv_room (Nat.le_of_ble_eq_true rfl)) d_Md_back_67 ⟨Nat.zero_le _, Nat.zero_le _⟩) ?_
  refine lv_bipush (v := 15) hx hb d_Md_back_70 (by decide) ?_
  obtain ⟨v9, e_v9, h⟩ := pu_ob h
  refine pu_callR (va_runS (As := [.int v5, .int v8, .int 15]) (rest := [.ref (ad 0)]) ⟨hx, hb, hml, hown, hts⟩ (c_Md_then l D ca ad st _ v5 v8 15 v9 e_v9) (xCS 3 hts wd_5_90 wd_1_13 wd_5_88 wd_5_89 (by decide +kernel) ⟨Nat.le_of_ble_eq_true rfl, Nat.le_of_ble_eq_true rfl⟩) (G.preS hP hS) rfl rfl hl.1 rfl (lv_room (Nat.le_of_ble_eq_true rfl)) d_Md_back_72 ⟨Nat.zero_le _, Nat.zero_le _⟩) ?_
  obtain ⟨q10, e_q10, h⟩ := pu_ob h
  refine mCallI G hS (va_runV (As := [.int v9]) (rest := []) ⟨hx, hb, hml, hown, hts⟩ (MetX.met (c_Md_holds l htl D ca ad st _ v9 q10.1 q10.2 e_q10) (fun _ _ _ _ q => ⟨_, q.1⟩)) (xCW (C := "MuseumHouseModel") 1 hts wd_5_94 wd_1_13 wd_5_91 wd_5_93 wd_0_16 (by decide +kernel) ⟨Nat.le_of_ble_eq_true rfl, Nat.le_of_ble_eq_true rfl⟩) (G.preV hP hS 0 rfl rfl) rfl rfl hl.1 rfl (lv_room (Nat.le_of_ble_eq_true rfl)) d_Md_back_75 ⟨Nat.zero_le _, Nat.zero_le _⟩) (fun H locs hP hS => ?_)
  refine lv_if_ne (tgt := 83) hx hb d_Md_back_78 (by decide) (fun c11 => ?_) (fun c11 => ?_)
  · rw [if_neg c11] at h
    refine lv_aload_n hx hb d_Md_back_83 rfl (lv_at hl 2 rfl) ?_
    refine va_get (D := D) (ci := 11) (v := .ref (ad 17)) (C := R_Md) (T := T_Md) (N := 27) hx hb hts iw_Md hown G.1 hP 0 rfl rfl 19 (by decide) (hts _ wd_5_2) (fun _ h9 => h9) rfl d_Md_back_84 ?_
    refine lv_iload hx hb d_Md_back_87 (lv_at hl 1 rfl) ?_
    obtain ⟨v12, e_v12, h⟩ := pu_ob h
    refine pu_iald hx hb G.1 hP 17 16 rfl rfl e_v12 d_Md_back_89 ?_
    refine lv_istore (lv' := [(7, .int v12), (6, .int v5), (5, .int z0), (0, .ref (ad 0)), (1, .int x1), (2, .int x2), (3, .int x3), (4, .int x4)]) hx hb d_Md_back_90 hl (by decide) rfl (fun ls hl => ?_)
    refine lv_aload_n hx hb d_Md_back_92 rfl (lv_at hl 3 rfl) ?_
    refine va_get (D := D) (ci := 11) (v := .ref (ad 17)) (C := R_Md) (T := T_Md) (N := 27) hx hb hts iw_Md hown G.1 hP 0 rfl rfl 19 (by decide) (hts _ wd_5_2) (fun _ h9 => h9) rfl d_Md_back_93 ?_
    refine lv_iload hx hb d_Md_back_96 (lv_at hl 2 rfl) ?_
    refine lv_iload_n hx hb d_Md_back_98 rfl (lv_at hl 6 rfl) ?_
    obtain ⟨g13, e_g13, h⟩ := pu_ob h
    refine pu_iast hx hb G.1 hP (G.D) hS 17 16 rfl rfl e_g13 d_Md_back_99 (fun H locs hP hS => ?_)
    have hP : va_P D hcl (mW ca ad (q10.2.1, va_up q10.2.2 16 g13)) H := hP
    refine lv_iload hx hb d_Md_back_100 (lv_at hl 0 rfl) ?_
    cases h
    exact W.toX (W.iret hx hb hr (fun t ht _ => ⟨rfl, by rw [ht]; exact hP, hS.F ht⟩) hS.2.2 d_Md_back_102)
  · rw [if_pos c11] at h
    refine lv_iconst (v := 0) hx hb d_Md_back_81 (by decide) ?_
    cases h
    exact W.toX (W.iret hx hb hr (fun t ht _ => ⟨rfl, by rw [ht]; exact hP, hS.F ht⟩) hS.2.2 d_Md_back_82)
set_option maxHeartbeats 4000000 in
set_option maxRecDepth 100000 in
theorem c_Md_back (l : Launch) (htl : l.stackTraces = false) (D : va_G) (ca : Nat → ClassId) (ad : Nat → Nat) (st : pu_St) (sz : Nat) (x1 x2 x3 : Int32) (v : Int32) (st' : pu_St) (h : f_Md_back st x1 x2 x3 = some (v, st')) : MetX l y_Md_back (.code y_Md_back b_Md_back 8 (some .int) :: tG) { frames := 2, cells := 0, slots := 0, locals := 46 } (va_Pc [.ref (ad 0), .int x1, .int x2, .int x3] (mPc D ca ad st sz)) (mQ D ca ad (fun v => some (.int v)) (.inl v) st' sz) 0 0 (mA ad sz) := by
  refine mMet (by decide +kernel) ?_
  intro p e s m below meth c hsz C G hP
  obtain ⟨hx, hb, hml, hr, hlocks, hno, hown, hts⟩ := id C
  have hown : s.vm.findClass "MuseumHouseModel" = some m.cls := hown
  have hS : va_S (mA ad s.heap.size) s.heap s.heap [] := va_S.rf
  have hl := lv_entry ([.ref (ad 0), .int x1, .int x2, .int x3]) (n := 8) (Nat.le_of_ble_eq_true rfl)
  rw [lg_entry_eq]
  generalize (lg_sl ([.ref (ad 0), .int x1, .int x2, .int x3]) ++ List.replicate (8 - (lg_sl ([.ref (ad 0), .int x1, .int x2, .int x3])).length) Slot.unset).toArray = ls at hl ⊢
  have hl : lv_has ls 8 [(0, .ref (ad 0)), (1, .int x1), (2, .int x2), (3, .int x3)] := hl
  unfold f_Md_back at h
  refine lv_aload_n hx hb d_Md_back_0 rfl (lv_at hl 0 rfl) ?_
  refine lv_iload_n hx hb d_Md_back_1 rfl (lv_at hl 2 rfl) ?_
  refine lv_bipush (v := 7) hx hb d_Md_back_2 (by decide) ?_
  obtain ⟨v1, e_v1, h⟩ := pu_ob h
  refine pu_callR (va_runV (As := [.int x2, .int 7]) (rest := []) ⟨hx, hb, hml, hown, hts⟩ (c_Md_is l D ca ad st _ x2 7 v1 e_v1) (xCW (C := "MuseumHouseModel") 2 hts wd_5_80 wd_1_13 wd_5_77 wd_5_79 wd_0_14 (by decide +kernel) ⟨Nat.le_of_ble_eq_true rfl, Nat.le_of_ble_eq_true rfl⟩) (G.preV hP hS 0 rfl rfl) rfl rfl hl.1 rfl (lv_room (Nat.le_of_ble_eq_true rfl)) d_Md_back_4 ⟨Nat.zero_le _, Nat.zero_le _⟩) ?_
  refine lv_istore (lv' := [(4, .int v1), (0, .ref (ad 0)), (1, .int x1), (2, .int x2), (3, .int x3)]) hx hb d_Md_back_7 hl (by decide) rfl (fun ls hl => ?_)
  refine lv_iload hx hb d_Md_back_9 (lv_at hl 0 rfl) ?_
  refine lv_if_eq (tgt := 22) hx hb d_Md_back_11 (by decide) (fun c2 => ?_) (fun c2 => ?_)
  · rw [if_pos c2] at h
    refine lv_iconst (v := 0) hx hb d_Md_back_22 (by decide) ?_
    exact t_Md_back_b23 htl C G () st x1 x2 x3 v1 0 h _ _ hP hS ls (lv_sub hl [1, 2, 3, 4, 0] rfl)
  · rw [if_neg c2] at h
    refine lv_iload_n hx hb d_Md_back_14 rfl (lv_at hl 3 rfl) ?_
    refine lv_sipush (v := 700) hx hb d_Md_back_15 (by decide) ?_
    refine lv_isub hx hb d_Md_back_18 ?_
    refine lv_goto (tgt := 23) hx hb d_Md_back_19 (by decide) ?_
    exact t_Md_back_b23 htl C G () st x1 x2 x3 v1 (x2 - 700) h _ _ hP hS ls (lv_sub hl [1, 2, 3, 4, 0] rfl)
set_option maxHeartbeats 4000000 in
set_option maxRecDepth 100000 in
theorem t_Md_show_b28 {l : Launch} (htl : l.stackTraces = false) {p : Program} {e : Env} {s : State} {m : MethodId} {args : Array Value} {below : List Frame} {meth : Method} {c : Code} {D : va_G} {ca : Nat → ClassId} {ad : Nat → Nat} {st' : pu_St} {v : Int32} (C : hC p s m meth c args b_Md_show 6 (some .int) "MuseumHouseModel") (G : mX D ca ad (mA ad s.heap.size) s) :
    ∀ (_ : Unit) (st : pu_St) (x1 x2 x3 x4 z0 z1 z2 z3 : Int32), f_Md_show_b28 st x1 x2 x3 x4 z0 z1 z2 z3 = some (v, st') → ∀ (H : Heap) (locs : List Loc), va_P D hcl (mW ca ad st) H → va_S (mA ad s.heap.size) s.heap H locs → ∀ ls : Array Slot, lv_has ls 6 [(0, .ref (ad 0)), (1, .int x1), (2, .int x2), (3, .int x3), (4, .int x4)] → W p l e { frames := 2, cells := 0, slots := 0, locals := 46 } s m args below meth c H locs 0 0 (MQX below (mQ D ca ad (fun v => some (.int v)) (.inl v) st' s.heap.size) args s 0 0 (mA ad s.heap.size)) (F0 m 28 ls [.int z0, .int z1, .int z2, .int z3, .ref (ad 0)]) := by
  obtain ⟨hx, hb, hml, hr, hlocks, hno, hown, hts⟩ := id C
  intro _ st x1 x2 x3 x4 z0 z1 z2 z3 h H locs hP hS ls hl
  unfold f_Md_show_b28 at h
  obtain ⟨v4, e_v4, h⟩ := pu_ob h
  refine pu_callR (va_runV (As := [.int z3, .int z2, .int z1, .int z0]) (rest := []) ⟨hx, hb, hml, hown, hts⟩ (c_Md_first l D ca ad st _ z3 z2 z1 z0 v4 e_v4) (xCW (C := "MuseumHouseModel") 4 hts wd_5_76 wd_1_13 wd_5_73 wd_5_75 wd_0_13 (by decide +kernel) ⟨Nat.le_of_ble_eq_true rfl, Nat.le_of_ble_eq_true rfl⟩) (G.preV hP hS 0 rfl rfl) rfl rfl hl.1 rfl (lv_room (Nat.le_of_ble_eq_true rfl)) d_Md_show_28 ⟨Nat.zero_le _, Nat.zero_le _⟩) ?_
  refine lv_istore (lv' := [(5, .int v4), (0, .ref (ad 0)), (1, .int x1), (2, .int x2), (3, .int x3), (4, .int x4)]) hx hb d_Md_show_31 hl (by decide) rfl (fun ls hl => ?_)
  refine lv_aload_n hx hb d_Md_show_33 rfl (lv_at hl 1 rfl) ?_
  refine lv_iload hx hb d_Md_show_34 (lv_at hl 0 rfl) ?_
  refine lv_iload_n hx hb d_Md_show_36 rfl (lv_at hl 4 rfl) ?_
  refine lv_iload hx hb d_Md_show_37 (lv_at hl 5 rfl) ?_
  obtain ⟨v5, e_v5, h⟩ := pu_ob h
  refine pu_callR (va_runS (As := [.int x3, .int x4]) (rest := [.int v4, .ref (ad 0)]) ⟨hx, hb, hml, hown, hts⟩ (c_Md_isSpan l D ca ad st _ x3 x4 v5 e_v5) (xCS 2 hts wd_5_208 wd_1_13 wd_5_206 wd_5_207 (by decide +kernel) ⟨Nat.le_of_ble_eq_true rfl, Nat.le_of_ble_eq_true rfl⟩) (G.preS hP hS) rfl rfl hl.1 rfl (lv_room (Nat.le_of_ble_eq_true rfl)) d_Md_show_39 ⟨Nat.zero_le _, Nat.zero_le _⟩) ?_
  refine lv_iconst (v := 4) hx hb d_Md_show_42 (by decide) ?_
  obtain ⟨v6, e_v6, h⟩ := pu_ob h
  refine pu_callR (va_runS (As := [.int v4, .int v5, .int 4]) (rest := [.ref (ad 0)]) ⟨hx, hb, hml, hown, hts⟩ (c_Md_then l D ca ad st _ v4 v5 4 v6 e_v6) (xCS 3 hts wd_5_90 wd_1_13 wd_5_88 wd_5_89 (by decide +kernel) ⟨Nat.le_of_ble_eq_true rfl, Nat.le_of_ble_eq_true rfl⟩) (G.preS hP hS) rfl rfl hl.1 rfl (lv_room (Nat.le_of_ble_eq_true rfl)) d_Md_show_43 ⟨Nat.zero_le _, Nat.zero_le _⟩) ?_
  obtain ⟨q7, e_q7, h⟩ := pu_ob h
  refine mCallI G hS (va_runV (As := [.int v6]) (rest := []) ⟨hx, hb, hml, hown, hts⟩ (MetX.met (c_Md_holds l htl D ca ad st _ v6 q7.1 q7.2 e_q7) (fun _ _ _ _ q => ⟨_, q.1⟩)) (xCW (C := "MuseumHouseModel") 1 hts wd_5_94 wd_1_13 wd_5_91 wd_5_93 wd_0_16 (by decide +kernel) ⟨Nat.le_of_ble_eq_true rfl, Nat.le_of_ble_eq_true rfl⟩) (G.preV hP hS 0 rfl rfl) rfl rfl hl.1 rfl (lv_room (Nat.le_of_ble_eq_true rfl)) d_Md_show_46 ⟨Nat.zero_le _, Nat.zero_le _⟩) (fun H locs hP hS => ?_)
  refine lv_if_ne (tgt := 54) hx hb d_Md_show_49 (by decide) (fun c8 => ?_) (fun c8 => ?_)
  · rw [if_neg c8] at h
    refine lv_aload_n hx hb d_Md_show_54 rfl (lv_at hl 1 rfl) ?_
    refine va_get (D := D) (ci := 11) (v := .ref (ad 18)) (C := R_Md) (T := T_Md) (N := 27) hx hb hts iw_Md hown G.1 hP 0 rfl rfl 20 (by decide) (hts _ wd_5_3) (fun _ h9 => h9) rfl d_Md_show_55 ?_
    refine lv_aload_n hx hb d_Md_show_58 rfl (lv_at hl 1 rfl) ?_
    refine va_get (D := D) (ci := 11) (v := .ref (ad 1)) (C := R_Md) (T := T_Md) (N := 27) hx hb hts iw_Md hown G.1 hP 0 rfl rfl 3 (by decide) (hts _ wd_4_226) (fun _ h9 => h9) rfl d_Md_show_59 ?_
    refine lv_bipush (v := 8) hx hb d_Md_show_62 (by decide) ?_
    obtain ⟨v9, e_v9, h⟩ := pu_ob h
    refine pu_iald hx hb G.1 hP 1 0 rfl rfl e_v9 d_Md_show_64 ?_
    refine lv_iload_n hx hb d_Md_show_65 rfl (lv_at hl 3 rfl) ?_
    obtain ⟨g10, e_g10, h⟩ := pu_ob h
    refine pu_iast hx hb G.1 hP (G.D) hS 18 17 rfl rfl e_g10 d_Md_show_66 (fun H locs hP hS => ?_)
    have hP : va_P D hcl (mW ca ad (q7.2.1, va_up q7.2.2 17 g10)) H := hP
    refine lv_aload_n hx hb d_Md_show_67 rfl (lv_at hl 1 rfl) ?_
    refine va_get (D := D) (ci := 11) (v := .ref (ad 19)) (C := R_Md) (T := T_Md) (N := 27) hx hb hts iw_Md hown G.1 hP 0 rfl rfl 21 (by decide) (hts _ wd_5_4) (fun _ h9 => h9) rfl d_Md_show_68 ?_
    refine lv_aload_n hx hb d_Md_show_71 rfl (lv_at hl 1 rfl) ?_
    refine va_get (D := D) (ci := 11) (v := .ref (ad 1)) (C := R_Md) (T := T_Md) (N := 27) hx hb hts iw_Md hown G.1 hP 0 rfl rfl 3 (by decide) (hts _ wd_4_226) (fun _ h9 => h9) rfl d_Md_show_72 ?_
    refine lv_bipush (v := 8) hx hb d_Md_show_75 (by decide) ?_
    obtain ⟨v11, e_v11, h⟩ := pu_ob h
    refine pu_iald hx hb G.1 hP 1 0 rfl rfl e_v11 d_Md_show_77 ?_
    refine lv_iload_n hx hb d_Md_show_78 rfl (lv_at hl 4 rfl) ?_
    obtain ⟨g12, e_g12, h⟩ := pu_ob h
    refine pu_iast hx hb G.1 hP (G.D) hS 19 18 rfl rfl e_g12 d_Md_show_79 (fun H locs hP hS => ?_)
    have hP : va_P D hcl (mW ca ad ((q7.2.1, va_up q7.2.2 17 g10).1, va_up (q7.2.1, va_up q7.2.2 17 g10).2 18 g12)) H := hP
    refine lv_aload_n hx hb d_Md_show_80 rfl (lv_at hl 1 rfl) ?_
    refine va_get (D := D) (ci := 11) (v := .ref (ad 20)) (C := R_Md) (T := T_Md) (N := 27) hx hb hts iw_Md hown G.1 hP 0 rfl rfl 22 (by decide) (hts _ wd_5_5) (fun _ h9 => h9) rfl d_Md_show_81 ?_
    refine lv_aload_n hx hb d_Md_show_84 rfl (lv_at hl 1 rfl) ?_
    refine va_get (D := D) (ci := 11) (v := .ref (ad 1)) (C := R_Md) (T := T_Md) (N := 27) hx hb hts iw_Md hown G.1 hP 0 rfl rfl 3 (by decide) (hts _ wd_4_226) (fun _ h9 => h9) rfl d_Md_show_85 ?_
    refine lv_bipush (v := 8) hx hb d_Md_show_88 (by decide) ?_
    obtain ⟨v13, e_v13, h⟩ := pu_ob h
    refine pu_iald hx hb G.1 hP 1 0 rfl rfl e_v13 d_Md_show_90 ?_
    refine lv_iload hx hb d_Md_show_91 (lv_at hl 5 rfl) ?_
    obtain ⟨g14, e_g14, h⟩ := pu_ob h
    refine pu_iast hx hb G.1 hP (G.D) hS 20 19 rfl rfl e_g14 d_Md_show_93 (fun H locs hP hS => ?_)
    have hP : va_P D hcl (mW ca ad (((q7.2.1, va_up q7.2.2 17 g10).1, va_up (q7.2.1, va_up q7.2.2 17 g10).2 18 g12).1, va_up ((q7.2.1, va_up q7.2.2 17 g10).1, va_up (q7.2.1, va_up q7.2.2 17 g10).2 18 g12).2 19 g14)) H := hP
    refine lv_aload_n hx hb d_Md_show_94 rfl (lv_at hl 1 rfl) ?_
    refine lv_bipush (v := 8) hx hb d_Md_show_95 (by decide) ?_
    obtain ⟨q15, e_q15, h⟩ := pu_ob h
    refine mCallI G hS (va_runV (As := [.int 8]) (rest := []) ⟨hx, hb, hml, hown, hts⟩ (MetX.met (c_Md_made l htl D ca ad (((q7.2.1, va_up q7.2.2 17 g10).1, va_up (q7.2.1, va_up q7.2.2 17 g10).2 18 g12).1, va_up ((q7.2.1, va_up q7.2.2 17 g10).1, va_up (q7.2.1, va_up q7.2.2 17 g10).2 18 g12).2 19 g14) _ 8 q15.1 q15.2 e_q15) (fun _ _ _ _ q => ⟨_, q.1⟩)) (xCW (C := "MuseumHouseModel") 1 hts wd_5_98 wd_1_13 wd_5_95 wd_5_97 wd_0_17 (by decide +kernel) ⟨Nat.le_of_ble_eq_true rfl, Nat.le_of_ble_eq_true rfl⟩) (G.preV hP hS 0 rfl rfl) rfl rfl hl.1 rfl (lv_room (Nat.le_of_ble_eq_true rfl)) d_Md_show_97 ⟨Nat.zero_le _, Nat.zero_le _⟩) (fun H locs hP hS => ?_)
    cases h
    exact W.toX (W.iret hx hb hr (fun t ht _ => ⟨rfl, by rw [ht]; exact hP, hS.F ht⟩) hS.2.2 d_Md_show_100)
  · rw [if_pos c8] at h
    refine lv_iconst (v := 0) hx hb d_Md_show_52 (by decide) ?_
    cases h
    exact W.toX (W.iret hx hb hr (fun t ht _ => ⟨rfl, by rw [ht]; exact hP, hS.F ht⟩) hS.2.2 d_Md_show_53)
set_option maxHeartbeats 4000000 in
set_option maxRecDepth 100000 in
theorem c_Md_show (l : Launch) (htl : l.stackTraces = false) (D : va_G) (ca : Nat → ClassId) (ad : Nat → Nat) (st : pu_St) (sz : Nat) (x1 x2 x3 x4 : Int32) (v : Int32) (st' : pu_St) (h : f_Md_show st x1 x2 x3 x4 = some (v, st')) : MetX l y_Md_show (.code y_Md_show b_Md_show 6 (some .int) :: tG) { frames := 2, cells := 0, slots := 0, locals := 46 } (va_Pc [.ref (ad 0), .int x1, .int x2, .int x3, .int x4] (mPc D ca ad st sz)) (mQ D ca ad (fun v => some (.int v)) (.inl v) st' sz) 0 0 (mA ad sz) := by
  refine mMet (by decide +kernel) ?_
  intro p e s m below meth c hsz C G hP
  obtain ⟨hx, hb, hml, hr, hlocks, hno, hown, hts⟩ := id C
  have hown : s.vm.findClass "MuseumHouseModel" = some m.cls := hown
  have hS : va_S (mA ad s.heap.size) s.heap s.heap [] := va_S.rf
  have hl := lv_entry ([.ref (ad 0), .int x1, .int x2, .int x3, .int x4]) (n := 6) (Nat.le_of_ble_eq_true rfl)
  rw [lg_entry_eq]
  generalize (lg_sl ([.ref (ad 0), .int x1, .int x2, .int x3, .int x4]) ++ List.replicate (6 - (lg_sl ([.ref (ad 0), .int x1, .int x2, .int x3, .int x4])).length) Slot.unset).toArray = ls at hl ⊢
  have hl : lv_has ls 6 [(0, .ref (ad 0)), (1, .int x1), (2, .int x2), (3, .int x3), (4, .int x4)] := hl
  unfold f_Md_show at h
  refine lv_aload_n hx hb d_Md_show_0 rfl (lv_at hl 0 rfl) ?_
  refine lv_aload_n hx hb d_Md_show_1 rfl (lv_at hl 0 rfl) ?_
  refine lv_iload_n hx hb d_Md_show_2 rfl (lv_at hl 2 rfl) ?_
  refine lv_bipush (v := 6) hx hb d_Md_show_3 (by decide) ?_
  obtain ⟨v1, e_v1, h⟩ := pu_ob h
  refine pu_callR (va_runV (As := [.int x2, .int 6]) (rest := [.ref (ad 0)]) ⟨hx, hb, hml, hown, hts⟩ (c_Md_is l D ca ad st _ x2 6 v1 e_v1) (xCW (C := "MuseumHouseModel") 2 hts wd_5_80 wd_1_13 wd_5_77 wd_5_79 wd_0_14 (by decide +kernel) ⟨Nat.le_of_ble_eq_true rfl, Nat.le_of_ble_eq_true rfl⟩) (G.preV hP hS 0 rfl rfl) rfl rfl hl.1 rfl (lv_room (Nat.le_of_ble_eq_true rfl)) d_Md_show_5 ⟨Nat.zero_le _, Nat.zero_le _⟩) ?_
  refine lv_iload_n hx hb d_Md_show_8 rfl (lv_at hl 1 rfl) ?_
  refine lv_bipush (v := 16) hx hb d_Md_show_9 (by decide) ?_
  refine lv_aload_n hx hb d_Md_show_11 rfl (lv_at hl 0 rfl) ?_
  refine va_get (D := D) (ci := 11) (v := .ref (ad 1)) (C := R_Md) (T := T_Md) (N := 27) hx hb hts iw_Md hown G.1 hP 0 rfl rfl 3 (by decide) (hts _ wd_4_226) (fun _ h9 => h9) rfl d_Md_show_12 ?_
  refine lv_bipush (v := 8) hx hb d_Md_show_15 (by decide) ?_
  obtain ⟨v2, e_v2, h⟩ := pu_ob h
  refine pu_iald hx hb G.1 hP 1 0 rfl rfl e_v2 d_Md_show_17 ?_
  refine lv_bipush (v := 10) hx hb d_Md_show_18 (by decide) ?_
  refine lv_icmp_ge (tgt := 27) hx hb d_Md_show_20 (by decide) (fun c3 => ?_) (fun c3 => ?_)
  · rw [if_pos c3] at h
    refine lv_iconst (v := 0) hx hb d_Md_show_27 (by decide) ?_
    exact t_Md_show_b28 htl C G () st x1 x2 x3 x4 0 16 x1 v1 h _ _ hP hS ls (lv_sub hl [0, 1, 2, 3, 4] rfl)
  · rw [if_neg c3] at h
    refine lv_iconst (v := 1) hx hb d_Md_show_23 (by decide) ?_
    refine lv_goto (tgt := 28) hx hb d_Md_show_24 (by decide) ?_
    exact t_Md_show_b28 htl C G () st x1 x2 x3 x4 1 16 x1 v1 h _ _ hP hS ls (lv_sub hl [0, 1, 2, 3, 4] rfl)
set_option maxHeartbeats 4000000 in
set_option maxRecDepth 100000 in
theorem t_Md_hang_b205 {l : Launch} (htl : l.stackTraces = false) {p : Program} {e : Env} {s : State} {m : MethodId} {args : Array Value} {below : List Frame} {meth : Method} {c : Code} {D : va_G} {ca : Nat → ClassId} {ad : Nat → Nat} {st' : pu_St} {v : Int32} (C : hC p s m meth c args b_Md_hang 7 (some .boolean) "MuseumHouseModel") (G : mX D ca ad (mA ad s.heap.size) s) :
    ∀ (_ : Unit) (st : pu_St) (x1 x2 x3 x4 x5 x6 z0 z1 : Int32), f_Md_hang_b205 st x1 x2 x3 x4 x5 x6 z0 z1 = some (v, st') → ∀ (H : Heap) (locs : List Loc), va_P D hcl (mW ca ad st) H → va_S (mA ad s.heap.size) s.heap H locs → ∀ ls : Array Slot, lv_has ls 7 [(0, .ref (ad 0)), (1, .int x1), (2, .int x2), (3, .int x3), (4, .int x4), (5, .int x5), (6, .int x6)] → W p l e { frames := 2, cells := 0, slots := 0, locals := 46 } s m args below meth c H locs 0 0 (MQX below (mQ D ca ad (fun v => some (.int v)) (.inl v) st' s.heap.size) args s 0 0 (mA ad s.heap.size)) (F0 m 205 ls [.int z0, .int z1]) := by
  obtain ⟨hx, hb, hml, hr, hlocks, hno, hown, hts⟩ := id C
  intro _ st x1 x2 x3 x4 x5 x6 z0 z1 h H locs hP hS ls hl
  unfold f_Md_hang_b205 at h
  refine lv_bipush (v := 14) hx hb d_Md_hang_205 (by decide) ?_
  obtain ⟨v29, e_v29, h⟩ := pu_ob h
  refine pu_callR (va_runS (As := [.int z1, .int z0, .int 14]) (rest := []) ⟨hx, hb, hml, hown, hts⟩ (c_Md_then l D ca ad st _ z1 z0 14 v29 e_v29) (xCS 3 hts wd_5_90 wd_1_13 wd_5_88 wd_5_89 (by decide +kernel) ⟨Nat.le_of_ble_eq_true rfl, Nat.le_of_ble_eq_true rfl⟩) (G.preS hP hS) rfl rfl hl.1 rfl (lv_room (Nat.le_of_ble_eq_true rfl)) d_Md_hang_207 ⟨Nat.zero_le _, Nat.zero_le _⟩) ?_
  refine lv_istore (lv' := [(5, .int v29), (0, .ref (ad 0)), (1, .int x1), (2, .int x2), (3, .int x3), (4, .int x4), (6, .int x6)]) hx hb d_Md_hang_210 hl (by decide) rfl (fun ls hl => ?_)
  refine lv_aload_n hx hb d_Md_hang_212 rfl (lv_at hl 1 rfl) ?_
  refine lv_iload hx hb d_Md_hang_213 (lv_at hl 0 rfl) ?_
  obtain ⟨q30, e_q30, h⟩ := pu_ob h
  refine mCallI G hS (va_runV (As := [.int v29]) (rest := []) ⟨hx, hb, hml, hown, hts⟩ (MetX.met (c_Md_holds l htl D ca ad st _ v29 q30.1 q30.2 e_q30) (fun _ _ _ _ q => ⟨_, q.1⟩)) (xCW (C := "MuseumHouseModel") 1 hts wd_5_94 wd_1_13 wd_5_91 wd_5_93 wd_0_16 (by decide +kernel) ⟨Nat.le_of_ble_eq_true rfl, Nat.le_of_ble_eq_true rfl⟩) (G.preV hP hS 0 rfl rfl) rfl rfl hl.1 rfl (lv_room (Nat.le_of_ble_eq_true rfl)) d_Md_hang_215 ⟨Nat.zero_le _, Nat.zero_le _⟩) (fun H locs hP hS => ?_)
  refine lv_if_ne (tgt := 223) hx hb d_Md_hang_218 (by decide) (fun c31 => ?_) (fun c31 => ?_)
  · rw [if_neg c31] at h
    refine lv_aload_n hx hb d_Md_hang_223 rfl (lv_at hl 1 rfl) ?_
    refine va_get (D := D) (ci := 11) (v := .ref (ad 21)) (C := R_Md) (T := T_Md) (N := 27) hx hb hts iw_Md hown G.1 hP 0 rfl rfl 23 (by decide) (hts _ wd_5_6) (fun _ h9 => h9) rfl d_Md_hang_224 ?_
    refine lv_bipush (v := 30) hx hb d_Md_hang_227 (by decide) ?_
    refine lv_iload hx hb d_Md_hang_229 (lv_at hl 6 rfl) ?_
    refine lv_imul hx hb d_Md_hang_231 ?_
    refine lv_iload_n hx hb d_Md_hang_232 rfl (lv_at hl 4 rfl) ?_
    refine lv_iadd hx hb d_Md_hang_233 ?_
    refine lv_sipush (v := 500) hx hb d_Md_hang_234 (by decide) ?_
    refine lv_isub hx hb d_Md_hang_237 ?_
    refine lv_iconst (v := 1) hx hb d_Md_hang_238 (by decide) ?_
    obtain ⟨g32, e_g32, h⟩ := pu_ob h
    refine pu_zast hx hb G.1 hP (G.D) hS 21 20 rfl rfl e_g32 rfl d_Md_hang_239 (fun H locs hP hS => ?_)
    have hP : va_P D hcl (mW ca ad (q30.2.1, va_up q30.2.2 20 g32)) H := hP
    refine lv_iconst (v := 1) hx hb d_Md_hang_240 (by decide) ?_
    cases h
    exact W.toX (W.zret (ty := .boolean) hx hb hr rfl (fun t ht _ => ⟨rfl, by rw [ht]; exact hP, hS.F ht⟩) hS.2.2 d_Md_hang_241)
  · rw [if_pos c31] at h
    refine lv_iconst (v := 0) hx hb d_Md_hang_221 (by decide) ?_
    cases h
    exact W.toX (W.zret (ty := .boolean) hx hb hr rfl (fun t ht _ => ⟨rfl, by rw [ht]; exact hP, hS.F ht⟩) hS.2.2 d_Md_hang_222)
set_option maxHeartbeats 4000000 in
set_option maxRecDepth 100000 in
theorem t_Md_hang_b200 {l : Launch} (htl : l.stackTraces = false) {p : Program} {e : Env} {s : State} {m : MethodId} {args : Array Value} {below : List Frame} {meth : Method} {c : Code} {D : va_G} {ca : Nat → ClassId} {ad : Nat → Nat} {st' : pu_St} {v : Int32} (C : hC p s m meth c args b_Md_hang 7 (some .boolean) "MuseumHouseModel") (G : mX D ca ad (mA ad s.heap.size) s) :
    ∀ (_ : Unit) (st : pu_St) (x1 x2 x3 x4 x5 x6 z0 : Int32), f_Md_hang_b200 st x1 x2 x3 x4 x5 x6 z0 = some (v, st') → ∀ (H : Heap) (locs : List Loc), va_P D hcl (mW ca ad st) H → va_S (mA ad s.heap.size) s.heap H locs → ∀ ls : Array Slot, lv_has ls 7 [(0, .ref (ad 0)), (1, .int x1), (2, .int x2), (3, .int x3), (4, .int x4), (5, .int x5), (6, .int x6)] → W p l e { frames := 2, cells := 0, slots := 0, locals := 46 } s m args below meth c H locs 0 0 (MQX below (mQ D ca ad (fun v => some (.int v)) (.inl v) st' s.heap.size) args s 0 0 (mA ad s.heap.size)) (F0 m 200 ls [.int z0]) := by
  obtain ⟨hx, hb, hml, hr, hlocks, hno, hown, hts⟩ := id C
  intro _ st x1 x2 x3 x4 x5 x6 z0 h H locs hP hS ls hl
  unfold f_Md_hang_b200 at h
  refine lv_iconst (v := 1) hx hb d_Md_hang_200 (by decide) ?_
  refine lv_goto (tgt := 205) hx hb d_Md_hang_201 (by decide) ?_
  exact t_Md_hang_b205 htl C G () st x1 x2 x3 x4 x5 x6 1 z0 h _ _ hP hS ls (lv_sub hl [0, 1, 2, 3, 4, 5, 6] rfl)
set_option maxHeartbeats 4000000 in
set_option maxRecDepth 100000 in
theorem t_Md_hang_b204 {l : Launch} (htl : l.stackTraces = false) {p : Program} {e : Env} {s : State} {m : MethodId} {args : Array Value} {below : List Frame} {meth : Method} {c : Code} {D : va_G} {ca : Nat → ClassId} {ad : Nat → Nat} {st' : pu_St} {v : Int32} (C : hC p s m meth c args b_Md_hang 7 (some .boolean) "MuseumHouseModel") (G : mX D ca ad (mA ad s.heap.size) s) :
    ∀ (_ : Unit) (st : pu_St) (x1 x2 x3 x4 x5 x6 z0 : Int32), f_Md_hang_b204 st x1 x2 x3 x4 x5 x6 z0 = some (v, st') → ∀ (H : Heap) (locs : List Loc), va_P D hcl (mW ca ad st) H → va_S (mA ad s.heap.size) s.heap H locs → ∀ ls : Array Slot, lv_has ls 7 [(0, .ref (ad 0)), (1, .int x1), (2, .int x2), (3, .int x3), (4, .int x4), (5, .int x5), (6, .int x6)] → W p l e { frames := 2, cells := 0, slots := 0, locals := 46 } s m args below meth c H locs 0 0 (MQX below (mQ D ca ad (fun v => some (.int v)) (.inl v) st' s.heap.size) args s 0 0 (mA ad s.heap.size)) (F0 m 204 ls [.int z0]) := by
  obtain ⟨hx, hb, hml, hr, hlocks, hno, hown, hts⟩ := id C
  intro _ st x1 x2 x3 x4 x5 x6 z0 h H locs hP hS ls hl
  unfold f_Md_hang_b204 at h
  refine lv_iconst (v := 0) hx hb d_Md_hang_204 (by decide) ?_
  exact t_Md_hang_b205 htl C G () st x1 x2 x3 x4 x5 x6 0 z0 h _ _ hP hS ls (lv_sub hl [0, 1, 2, 3, 4, 5, 6] rfl)
set_option maxHeartbeats 4000000 in
set_option maxRecDepth 100000 in
theorem t_Md_hang_b140 {l : Launch} (htl : l.stackTraces = false) {p : Program} {e : Env} {s : State} {m : MethodId} {args : Array Value} {below : List Frame} {meth : Method} {c : Code} {D : va_G} {ca : Nat → ClassId} {ad : Nat → Nat} {st' : pu_St} {v : Int32} (C : hC p s m meth c args b_Md_hang 7 (some .boolean) "MuseumHouseModel") (G : mX D ca ad (mA ad s.heap.size) s) :
    ∀ (_ : Unit) (st : pu_St) (x1 x2 x3 x4 x5 x6 z0 z1 : Int32), f_Md_hang_b140 st x1 x2 x3 x4 x5 x6 z0 z1 = some (v, st') → ∀ (H : Heap) (locs : List Loc), va_P D hcl (mW ca ad st) H → va_S (mA ad s.heap.size) s.heap H locs → ∀ ls : Array Slot, lv_has ls 7 [(0, .ref (ad 0)), (1, .int x1), (2, .int x2), (3, .int x3), (4, .int x4), (5, .int x5), (6, .int x6)] → W p l e { frames := 2, cells := 0, slots := 0, locals := 46 } s m args below meth c H locs 0 0 (MQX below (mQ D ca ad (fun v => some (.int v)) (.inl v) st' s.heap.size) args s 0 0 (mA ad s.heap.size)) (F0 m 140 ls [.int z0, .int z1]) := by
  obtain ⟨hx, hb, hml, hr, hlocks, hno, hown, hts⟩ := id C
  intro _ st x1 x2 x3 x4 x5 x6 z0 z1 h H locs hP hS ls hl
  unfold f_Md_hang_b140 at h
  refine lv_bipush (v := 13) hx hb d_Md_hang_140 (by decide) ?_
  obtain ⟨v19, e_v19, h⟩ := pu_ob h
  refine pu_callR (va_runS (As := [.int z1, .int z0, .int 13]) (rest := []) ⟨hx, hb, hml, hown, hts⟩ (c_Md_then l D ca ad st _ z1 z0 13 v19 e_v19) (xCS 3 hts wd_5_90 wd_1_13 wd_5_88 wd_5_89 (by decide +kernel) ⟨Nat.le_of_ble_eq_true rfl, Nat.le_of_ble_eq_true rfl⟩) (G.preS hP hS) rfl rfl hl.1 rfl (lv_room (Nat.le_of_ble_eq_true rfl)) d_Md_hang_142 ⟨Nat.zero_le _, Nat.zero_le _⟩) ?_
  refine lv_istore (lv' := [(5, .int v19), (0, .ref (ad 0)), (1, .int x1), (2, .int x2), (3, .int x3), (4, .int x4), (6, .int x6)]) hx hb d_Md_hang_145 hl (by decide) rfl (fun ls hl => ?_)
  refine lv_iload hx hb d_Md_hang_147 (lv_at hl 0 rfl) ?_
  refine lv_iload hx hb d_Md_hang_149 (lv_at hl 0 rfl) ?_
  refine lv_if_gt (tgt := 200) hx hb d_Md_hang_151 (by decide) (fun c20 => ?_) (fun c20 => ?_)
  · rw [if_pos c20] at h
    exact t_Md_hang_b200 htl C G () st x1 x2 x3 x4 v19 x6 v19 h _ _ hP hS ls (lv_sub hl [1, 2, 3, 4, 5, 0, 6] rfl)
  · rw [if_neg c20] at h
    refine lv_aload_n hx hb d_Md_hang_154 rfl (lv_at hl 1 rfl) ?_
    refine lv_iload_n hx hb d_Md_hang_155 rfl (lv_at hl 4 rfl) ?_
    refine lv_aload_n hx hb d_Md_hang_156 rfl (lv_at hl 1 rfl) ?_
    refine va_get (D := D) (ci := 11) (v := .ref (ad 19)) (C := R_Md) (T := T_Md) (N := 27) hx hb hts iw_Md hown G.1 hP 0 rfl rfl 21 (by decide) (hts _ wd_5_4) (fun _ h9 => h9) rfl d_Md_hang_157 ?_
    refine lv_iload hx hb d_Md_hang_160 (lv_at hl 6 rfl) ?_
    obtain ⟨v21, e_v21, h⟩ := pu_ob h
    refine pu_iald hx hb G.1 hP 19 18 rfl rfl e_v21 d_Md_hang_162 ?_
    refine lv_aload_n hx hb d_Md_hang_163 rfl (lv_at hl 1 rfl) ?_
    refine va_get (D := D) (ci := 11) (v := .ref (ad 20)) (C := R_Md) (T := T_Md) (N := 27) hx hb hts iw_Md hown G.1 hP 0 rfl rfl 22 (by decide) (hts _ wd_5_5) (fun _ h9 => h9) rfl d_Md_hang_164 ?_
    refine lv_iload hx hb d_Md_hang_167 (lv_at hl 6 rfl) ?_
    obtain ⟨v22, e_v22, h⟩ := pu_ob h
    refine pu_iald hx hb G.1 hP 20 19 rfl rfl e_v22 d_Md_hang_169 ?_
    obtain ⟨v23, e_v23, h⟩ := pu_ob h
    refine pu_callR (va_runV (As := [.int x3, .int v21, .int v22]) (rest := [.int v19]) ⟨hx, hb, hml, hown, hts⟩ (c_Md_loanAt l D ca ad st _ x3 v21 v22 v23 e_v23) (xCW (C := "MuseumHouseModel") 3 hts wd_5_186 wd_1_13 wd_5_183 wd_5_185 wd_0_26 (by decide +kernel) ⟨Nat.le_of_ble_eq_true rfl, Nat.le_of_ble_eq_true rfl⟩) (G.preV hP hS 0 rfl rfl) rfl rfl hl.1 rfl (lv_room (Nat.le_of_ble_eq_true rfl)) d_Md_hang_170 ⟨Nat.zero_le _, Nat.zero_le _⟩) ?_
    refine lv_if_ne (tgt := 204) hx hb d_Md_hang_173 (by decide) (fun c24 => ?_) (fun c24 => ?_)
    · rw [if_neg c24] at h
      exact t_Md_hang_b204 htl C G () st x1 x2 x3 x4 v19 x6 v19 h _ _ hP hS ls (lv_sub hl [1, 2, 3, 4, 5, 0, 6] rfl)
    · rw [if_pos c24] at h
      refine lv_aload_n hx hb d_Md_hang_176 rfl (lv_at hl 1 rfl) ?_
      refine lv_iload_n hx hb d_Md_hang_177 rfl (lv_at hl 4 rfl) ?_
      refine lv_aload_n hx hb d_Md_hang_178 rfl (lv_at hl 1 rfl) ?_
      refine va_get (D := D) (ci := 11) (v := .ref (ad 19)) (C := R_Md) (T := T_Md) (N := 27) hx hb hts iw_Md hown G.1 hP 0 rfl rfl 21 (by decide) (hts _ wd_5_4) (fun _ h9 => h9) rfl d_Md_hang_179 ?_
      refine lv_iload hx hb d_Md_hang_182 (lv_at hl 6 rfl) ?_
      obtain ⟨v25, e_v25, h⟩ := pu_ob h
      refine pu_iald hx hb G.1 hP 19 18 rfl rfl e_v25 d_Md_hang_184 ?_
      refine lv_aload_n hx hb d_Md_hang_185 rfl (lv_at hl 1 rfl) ?_
      refine va_get (D := D) (ci := 11) (v := .ref (ad 20)) (C := R_Md) (T := T_Md) (N := 27) hx hb hts iw_Md hown G.1 hP 0 rfl rfl 22 (by decide) (hts _ wd_5_5) (fun _ h9 => h9) rfl d_Md_hang_186 ?_
      refine lv_iload hx hb d_Md_hang_189 (lv_at hl 6 rfl) ?_
      obtain ⟨v26, e_v26, h⟩ := pu_ob h
      refine pu_iald hx hb G.1 hP 20 19 rfl rfl e_v26 d_Md_hang_191 ?_
      refine lv_iload hx hb d_Md_hang_192 (lv_at hl 6 rfl) ?_
      obtain ⟨v27, e_v27, h⟩ := pu_ob h
      refine pu_callR (va_runV (As := [.int x3, .int v25, .int v26, .int x6]) (rest := [.int v19]) ⟨hx, hb, hml, hown, hts⟩ (c_Md_showAt l D ca ad st _ x3 v25 v26 x6 v27 e_v27) (xCW (C := "MuseumHouseModel") 4 hts wd_5_216 wd_1_13 wd_5_213 wd_5_215 wd_0_29 (by decide +kernel) ⟨Nat.le_of_ble_eq_true rfl, Nat.le_of_ble_eq_true rfl⟩) (G.preV hP hS 0 rfl rfl) rfl rfl hl.1 rfl (lv_room (Nat.le_of_ble_eq_true rfl)) d_Md_hang_194 ⟨Nat.zero_le _, Nat.zero_le _⟩) ?_
      refine lv_if_ne (tgt := 204) hx hb d_Md_hang_197 (by decide) (fun c28 => ?_) (fun c28 => ?_)
      · rw [if_neg c28] at h
        exact t_Md_hang_b204 htl C G () st x1 x2 x3 x4 v19 x6 v19 h _ _ hP hS ls (lv_sub hl [1, 2, 3, 4, 5, 0, 6] rfl)
      · rw [if_pos c28] at h
        exact t_Md_hang_b200 htl C G () st x1 x2 x3 x4 v19 x6 v19 h _ _ hP hS ls (lv_sub hl [1, 2, 3, 4, 5, 0, 6] rfl)
set_option maxHeartbeats 4000000 in
set_option maxRecDepth 100000 in
theorem t_Md_hang_b135 {l : Launch} (htl : l.stackTraces = false) {p : Program} {e : Env} {s : State} {m : MethodId} {args : Array Value} {below : List Frame} {meth : Method} {c : Code} {D : va_G} {ca : Nat → ClassId} {ad : Nat → Nat} {st' : pu_St} {v : Int32} (C : hC p s m meth c args b_Md_hang 7 (some .boolean) "MuseumHouseModel") (G : mX D ca ad (mA ad s.heap.size) s) :
    ∀ (_ : Unit) (st : pu_St) (x1 x2 x3 x4 x5 x6 z0 : Int32), f_Md_hang_b135 st x1 x2 x3 x4 x5 x6 z0 = some (v, st') → ∀ (H : Heap) (locs : List Loc), va_P D hcl (mW ca ad st) H → va_S (mA ad s.heap.size) s.heap H locs → ∀ ls : Array Slot, lv_has ls 7 [(0, .ref (ad 0)), (1, .int x1), (2, .int x2), (3, .int x3), (4, .int x4), (5, .int x5), (6, .int x6)] → W p l e { frames := 2, cells := 0, slots := 0, locals := 46 } s m args below meth c H locs 0 0 (MQX below (mQ D ca ad (fun v => some (.int v)) (.inl v) st' s.heap.size) args s 0 0 (mA ad s.heap.size)) (F0 m 135 ls [.int z0]) := by
  obtain ⟨hx, hb, hml, hr, hlocks, hno, hown, hts⟩ := id C
  intro _ st x1 x2 x3 x4 x5 x6 z0 h H locs hP hS ls hl
  unfold f_Md_hang_b135 at h
  refine lv_iconst (v := 1) hx hb d_Md_hang_135 (by decide) ?_
  refine lv_goto (tgt := 140) hx hb d_Md_hang_136 (by decide) ?_
  exact t_Md_hang_b140 htl C G () st x1 x2 x3 x4 x5 x6 1 z0 h _ _ hP hS ls (lv_sub hl [0, 1, 2, 3, 4, 5, 6] rfl)
set_option maxHeartbeats 4000000 in
set_option maxRecDepth 100000 in
theorem t_Md_hang_b113 {l : Launch} (htl : l.stackTraces = false) {p : Program} {e : Env} {s : State} {m : MethodId} {args : Array Value} {below : List Frame} {meth : Method} {c : Code} {D : va_G} {ca : Nat → ClassId} {ad : Nat → Nat} {st' : pu_St} {v : Int32} (C : hC p s m meth c args b_Md_hang 7 (some .boolean) "MuseumHouseModel") (G : mX D ca ad (mA ad s.heap.size) s) :
    ∀ (_ : Unit) (st : pu_St) (x1 x2 x3 x4 x5 x6 z0 z1 : Int32), f_Md_hang_b113 st x1 x2 x3 x4 x5 x6 z0 z1 = some (v, st') → ∀ (H : Heap) (locs : List Loc), va_P D hcl (mW ca ad st) H → va_S (mA ad s.heap.size) s.heap H locs → ∀ ls : Array Slot, lv_has ls 7 [(0, .ref (ad 0)), (1, .int x1), (2, .int x2), (3, .int x3), (4, .int x4), (5, .int x5), (6, .int x6)] → W p l e { frames := 2, cells := 0, slots := 0, locals := 46 } s m args below meth c H locs 0 0 (MQX below (mQ D ca ad (fun v => some (.int v)) (.inl v) st' s.heap.size) args s 0 0 (mA ad s.heap.size)) (F0 m 113 ls [.int z0, .int z1]) := by
  obtain ⟨hx, hb, hml, hr, hlocks, hno, hown, hts⟩ := id C
  intro _ st x1 x2 x3 x4 x5 x6 z0 z1 h H locs hP hS ls hl
  unfold f_Md_hang_b113 at h
  refine lv_bipush (v := 11) hx hb d_Md_hang_113 (by decide) ?_
  obtain ⟨v15, e_v15, h⟩ := pu_ob h
  refine pu_callR (va_runS (As := [.int z1, .int z0, .int 11]) (rest := []) ⟨hx, hb, hml, hown, hts⟩ (c_Md_then l D ca ad st _ z1 z0 11 v15 e_v15) (xCS 3 hts wd_5_90 wd_1_13 wd_5_88 wd_5_89 (by decide +kernel) ⟨Nat.le_of_ble_eq_true rfl, Nat.le_of_ble_eq_true rfl⟩) (G.preS hP hS) rfl rfl hl.1 rfl (lv_room (Nat.le_of_ble_eq_true rfl)) d_Md_hang_115 ⟨Nat.zero_le _, Nat.zero_le _⟩) ?_
  refine lv_istore (lv' := [(5, .int v15), (0, .ref (ad 0)), (1, .int x1), (2, .int x2), (3, .int x3), (4, .int x4), (6, .int x6)]) hx hb d_Md_hang_118 hl (by decide) rfl (fun ls hl => ?_)
  refine lv_iload hx hb d_Md_hang_120 (lv_at hl 0 rfl) ?_
  refine lv_iload hx hb d_Md_hang_122 (lv_at hl 0 rfl) ?_
  refine lv_if_gt (tgt := 135) hx hb d_Md_hang_124 (by decide) (fun c16 => ?_) (fun c16 => ?_)
  · rw [if_pos c16] at h
    exact t_Md_hang_b135 htl C G () st x1 x2 x3 x4 v15 x6 v15 h _ _ hP hS ls (lv_sub hl [1, 2, 3, 4, 5, 0, 6] rfl)
  · rw [if_neg c16] at h
    refine lv_aload_n hx hb d_Md_hang_127 rfl (lv_at hl 1 rfl) ?_
    refine lv_iload_n hx hb d_Md_hang_128 rfl (lv_at hl 4 rfl) ?_
    obtain ⟨v17, e_v17, h⟩ := pu_ob h
    refine pu_callR (va_runV (As := [.int x3]) (rest := [.int v15]) ⟨hx, hb, hml, hown, hts⟩ (c_Md_isClaimed l D ca ad st _ x3 v17 e_v17) (xCW (C := "MuseumHouseModel") 1 hts wd_5_212 wd_1_13 wd_5_209 wd_5_211 wd_0_28 (by decide +kernel) ⟨Nat.le_of_ble_eq_true rfl, Nat.le_of_ble_eq_true rfl⟩) (G.preV hP hS 0 rfl rfl) rfl rfl hl.1 rfl (lv_room (Nat.le_of_ble_eq_true rfl)) d_Md_hang_129 ⟨Nat.zero_le _, Nat.zero_le _⟩) ?_
    refine lv_if_ne (tgt := 139) hx hb d_Md_hang_132 (by decide) (fun c18 => ?_) (fun c18 => ?_)
    · rw [if_neg c18] at h
      refine lv_iconst (v := 0) hx hb d_Md_hang_139 (by decide) ?_
      exact t_Md_hang_b140 htl C G () st x1 x2 x3 x4 v15 x6 0 v15 h _ _ hP hS ls (lv_sub hl [1, 2, 3, 4, 5, 0, 6] rfl)
    · rw [if_pos c18] at h
      exact t_Md_hang_b135 htl C G () st x1 x2 x3 x4 v15 x6 v15 h _ _ hP hS ls (lv_sub hl [1, 2, 3, 4, 5, 0, 6] rfl)
set_option maxHeartbeats 4000000 in
set_option maxRecDepth 100000 in
theorem t_Md_hang_b108 {l : Launch} (htl : l.stackTraces = false) {p : Program} {e : Env} {s : State} {m : MethodId} {args : Array Value} {below : List Frame} {meth : Method} {c : Code} {D : va_G} {ca : Nat → ClassId} {ad : Nat → Nat} {st' : pu_St} {v : Int32} (C : hC p s m meth c args b_Md_hang 7 (some .boolean) "MuseumHouseModel") (G : mX D ca ad (mA ad s.heap.size) s) :
    ∀ (_ : Unit) (st : pu_St) (x1 x2 x3 x4 x5 x6 z0 : Int32), f_Md_hang_b108 st x1 x2 x3 x4 x5 x6 z0 = some (v, st') → ∀ (H : Heap) (locs : List Loc), va_P D hcl (mW ca ad st) H → va_S (mA ad s.heap.size) s.heap H locs → ∀ ls : Array Slot, lv_has ls 7 [(0, .ref (ad 0)), (1, .int x1), (2, .int x2), (3, .int x3), (4, .int x4), (5, .int x5), (6, .int x6)] → W p l e { frames := 2, cells := 0, slots := 0, locals := 46 } s m args below meth c H locs 0 0 (MQX below (mQ D ca ad (fun v => some (.int v)) (.inl v) st' s.heap.size) args s 0 0 (mA ad s.heap.size)) (F0 m 108 ls [.int z0]) := by
  obtain ⟨hx, hb, hml, hr, hlocks, hno, hown, hts⟩ := id C
  intro _ st x1 x2 x3 x4 x5 x6 z0 h H locs hP hS ls hl
  unfold f_Md_hang_b108 at h
  refine lv_iconst (v := 1) hx hb d_Md_hang_108 (by decide) ?_
  refine lv_goto (tgt := 113) hx hb d_Md_hang_109 (by decide) ?_
  exact t_Md_hang_b113 htl C G () st x1 x2 x3 x4 x5 x6 1 z0 h _ _ hP hS ls (lv_sub hl [0, 1, 2, 3, 4, 5, 6] rfl)
set_option maxHeartbeats 4000000 in
set_option maxRecDepth 100000 in
theorem t_Md_hang_b86 {l : Launch} (htl : l.stackTraces = false) {p : Program} {e : Env} {s : State} {m : MethodId} {args : Array Value} {below : List Frame} {meth : Method} {c : Code} {D : va_G} {ca : Nat → ClassId} {ad : Nat → Nat} {st' : pu_St} {v : Int32} (C : hC p s m meth c args b_Md_hang 7 (some .boolean) "MuseumHouseModel") (G : mX D ca ad (mA ad s.heap.size) s) :
    ∀ (_ : Unit) (st : pu_St) (x1 x2 x3 x4 x5 x6 : Int32), f_Md_hang_b86 st x1 x2 x3 x4 x5 x6 = some (v, st') → ∀ (H : Heap) (locs : List Loc), va_P D hcl (mW ca ad st) H → va_S (mA ad s.heap.size) s.heap H locs → ∀ ls : Array Slot, lv_has ls 7 [(0, .ref (ad 0)), (1, .int x1), (2, .int x2), (3, .int x3), (4, .int x4), (5, .int x5), (6, .int x6)] → W p l e { frames := 2, cells := 0, slots := 0, locals := 46 } s m args below meth c H locs 0 0 (MQX below (mQ D ca ad (fun v => some (.int v)) (.inl v) st' s.heap.size) args s 0 0 (mA ad s.heap.size)) (F0 m 86 ls []) := by
  obtain ⟨hx, hb, hml, hr, hlocks, hno, hown, hts⟩ := id C
  intro _ st x1 x2 x3 x4 x5 x6 h H locs hP hS ls hl
  unfold f_Md_hang_b86 at h
  refine lv_iload hx hb d_Md_hang_86 (lv_at hl 5 rfl) ?_
  refine lv_iload hx hb d_Md_hang_88 (lv_at hl 5 rfl) ?_
  refine lv_if_gt (tgt := 108) hx hb d_Md_hang_90 (by decide) (fun c11 => ?_) (fun c11 => ?_)
  · rw [if_pos c11] at h
    exact t_Md_hang_b108 htl C G () st x1 x2 x3 x4 x5 x6 x5 h _ _ hP hS ls (lv_sub hl [0, 1, 2, 3, 4, 5, 6] rfl)
  · rw [if_neg c11] at h
    refine lv_aload_n hx hb d_Md_hang_93 rfl (lv_at hl 0 rfl) ?_
    refine va_get (D := D) (ci := 11) (v := .ref (ad 19)) (C := R_Md) (T := T_Md) (N := 27) hx hb hts iw_Md hown G.1 hP 0 rfl rfl 21 (by decide) (hts _ wd_5_4) (fun _ h9 => h9) rfl d_Md_hang_94 ?_
    refine lv_iload hx hb d_Md_hang_97 (lv_at hl 6 rfl) ?_
    obtain ⟨v12, e_v12, h⟩ := pu_ob h
    refine pu_iald hx hb G.1 hP 19 18 rfl rfl e_v12 d_Md_hang_99 ?_
    refine lv_aload_n hx hb d_Md_hang_100 rfl (lv_at hl 0 rfl) ?_
    refine lv_iload_n hx hb d_Md_hang_101 rfl (lv_at hl 3 rfl) ?_
    obtain ⟨v13, e_v13, h⟩ := pu_ob h
    refine pu_callR (va_runV (As := [.int x3]) (rest := [.int v12, .int x5]) ⟨hx, hb, hml, hown, hts⟩ (c_Md_dayOf l D ca ad st _ x3 v13 e_v13) (xCW (C := "MuseumHouseModel") 1 hts wd_5_182 wd_1_13 wd_5_179 wd_5_181 wd_0_25 (by decide +kernel) ⟨Nat.le_of_ble_eq_true rfl, Nat.le_of_ble_eq_true rfl⟩) (G.preV hP hS 0 rfl rfl) rfl rfl hl.1 rfl (lv_room (Nat.le_of_ble_eq_true rfl)) d_Md_hang_102 ⟨Nat.zero_le _, Nat.zero_le _⟩) ?_
    refine lv_icmp_lt (tgt := 112) hx hb d_Md_hang_105 (by decide) (fun c14 => ?_) (fun c14 => ?_)
    · rw [if_pos c14] at h
      refine lv_iconst (v := 0) hx hb d_Md_hang_112 (by decide) ?_
      exact t_Md_hang_b113 htl C G () st x1 x2 x3 x4 x5 x6 0 x5 h _ _ hP hS ls (lv_sub hl [0, 1, 2, 3, 4, 5, 6] rfl)
    · rw [if_neg c14] at h
      exact t_Md_hang_b108 htl C G () st x1 x2 x3 x4 x5 x6 x5 h _ _ hP hS ls (lv_sub hl [0, 1, 2, 3, 4, 5, 6] rfl)
set_option maxHeartbeats 4000000 in
set_option maxRecDepth 100000 in
theorem t_Md_hang_b52 {l : Launch} (htl : l.stackTraces = false) {p : Program} {e : Env} {s : State} {m : MethodId} {args : Array Value} {below : List Frame} {meth : Method} {c : Code} {D : va_G} {ca : Nat → ClassId} {ad : Nat → Nat} {st' : pu_St} {v : Int32} (C : hC p s m meth c args b_Md_hang 7 (some .boolean) "MuseumHouseModel") (G : mX D ca ad (mA ad s.heap.size) s) :
    ∀ (_ : Unit) (st : pu_St) (x1 x2 x3 x4 x5 z0 : Int32), f_Md_hang_b52 st x1 x2 x3 x4 x5 z0 = some (v, st') → ∀ (H : Heap) (locs : List Loc), va_P D hcl (mW ca ad st) H → va_S (mA ad s.heap.size) s.heap H locs → ∀ ls : Array Slot, lv_has ls 7 [(0, .ref (ad 0)), (1, .int x1), (2, .int x2), (3, .int x3), (4, .int x4), (5, .int x5)] → W p l e { frames := 2, cells := 0, slots := 0, locals := 46 } s m args below meth c H locs 0 0 (MQX below (mQ D ca ad (fun v => some (.int v)) (.inl v) st' s.heap.size) args s 0 0 (mA ad s.heap.size)) (F0 m 52 ls [.int z0]) := by
  obtain ⟨hx, hb, hml, hr, hlocks, hno, hown, hts⟩ := id C
  intro _ st x1 x2 x3 x4 x5 z0 h H locs hP hS ls hl
  unfold f_Md_hang_b52 at h
  refine lv_istore (lv' := [(6, .int z0), (0, .ref (ad 0)), (1, .int x1), (2, .int x2), (3, .int x3), (4, .int x4), (5, .int x5)]) hx hb d_Md_hang_52 hl (by decide) rfl (fun ls hl => ?_)
  refine lv_iload hx hb d_Md_hang_54 (lv_at hl 6 rfl) ?_
  refine lv_if_ne (tgt := 86) hx hb d_Md_hang_56 (by decide) (fun c7 => ?_) (fun c7 => ?_)
  · rw [if_neg c7] at h
    exact t_Md_hang_b86 htl C G () st x1 x2 x3 x4 x5 z0 h _ _ hP hS ls (lv_sub hl [1, 2, 3, 4, 5, 6, 0] rfl)
  · rw [if_pos c7] at h
    refine lv_aload_n hx hb d_Md_hang_59 rfl (lv_at hl 1 rfl) ?_
    refine va_get (D := D) (ci := 11) (v := .ref (ad 21)) (C := R_Md) (T := T_Md) (N := 27) hx hb hts iw_Md hown G.1 hP 0 rfl rfl 23 (by decide) (hts _ wd_5_6) (fun _ h9 => h9) rfl d_Md_hang_60 ?_
    refine lv_bipush (v := 30) hx hb d_Md_hang_63 (by decide) ?_
    refine lv_iload hx hb d_Md_hang_65 (lv_at hl 0 rfl) ?_
    refine lv_imul hx hb d_Md_hang_67 ?_
    refine lv_iload_n hx hb d_Md_hang_68 rfl (lv_at hl 4 rfl) ?_
    refine lv_iadd hx hb d_Md_hang_69 ?_
    refine lv_sipush (v := 500) hx hb d_Md_hang_70 (by decide) ?_
    refine lv_isub hx hb d_Md_hang_73 ?_
    obtain ⟨v8, e_v8, h⟩ := pu_ob h
    refine pu_zald hx hb G.1 hP 21 20 rfl rfl e_v8 d_Md_hang_74 ?_
    refine lv_if_eq (tgt := 86) hx hb d_Md_hang_75 (by decide) (fun c9 => ?_) (fun c9 => ?_)
    · rw [if_pos c9] at h
      exact t_Md_hang_b86 htl C G () st x1 x2 x3 x4 x5 z0 h _ _ hP hS ls (lv_sub hl [1, 2, 3, 4, 5, 6, 0] rfl)
    · rw [if_neg c9] at h
      refine lv_aload_n hx hb d_Md_hang_78 rfl (lv_at hl 1 rfl) ?_
      refine lv_iconst (v := 0) hx hb d_Md_hang_79 (by decide) ?_
      obtain ⟨q10, e_q10, h⟩ := pu_ob h
      refine mCallI G hS (va_runV (As := [.int 0]) (rest := []) ⟨hx, hb, hml, hown, hts⟩ (MetX.met (c_Md_holds l htl D ca ad st _ 0 q10.1 q10.2 e_q10) (fun _ _ _ _ q => ⟨_, q.1⟩)) (xCW (C := "MuseumHouseModel") 1 hts wd_5_94 wd_1_13 wd_5_91 wd_5_93 wd_0_16 (by decide +kernel) ⟨Nat.le_of_ble_eq_true rfl, Nat.le_of_ble_eq_true rfl⟩) (G.preV hP hS 0 rfl rfl) rfl rfl hl.1 rfl (lv_room (Nat.le_of_ble_eq_true rfl)) d_Md_hang_80 ⟨Nat.zero_le _, Nat.zero_le _⟩) (fun H locs hP hS => ?_)
      refine lv_pop hx hb d_Md_hang_83 rfl ?_
      refine lv_iconst (v := 0) hx hb d_Md_hang_84 (by decide) ?_
      cases h
      exact W.toX (W.zret (ty := .boolean) hx hb hr rfl (fun t ht _ => ⟨rfl, by rw [ht]; exact hP, hS.F ht⟩) hS.2.2 d_Md_hang_85)
set_option maxHeartbeats 4000000 in
set_option maxRecDepth 100000 in
theorem t_Md_hang_b24 {l : Launch} (htl : l.stackTraces = false) {p : Program} {e : Env} {s : State} {m : MethodId} {args : Array Value} {below : List Frame} {meth : Method} {c : Code} {D : va_G} {ca : Nat → ClassId} {ad : Nat → Nat} {st' : pu_St} {v : Int32} (C : hC p s m meth c args b_Md_hang 7 (some .boolean) "MuseumHouseModel") (G : mX D ca ad (mA ad s.heap.size) s) :
    ∀ (_ : Unit) (st : pu_St) (x1 x2 x3 z0 : Int32), f_Md_hang_b24 st x1 x2 x3 z0 = some (v, st') → ∀ (H : Heap) (locs : List Loc), va_P D hcl (mW ca ad st) H → va_S (mA ad s.heap.size) s.heap H locs → ∀ ls : Array Slot, lv_has ls 7 [(0, .ref (ad 0)), (1, .int x1), (2, .int x2), (3, .int x3)] → W p l e { frames := 2, cells := 0, slots := 0, locals := 46 } s m args below meth c H locs 0 0 (MQX below (mQ D ca ad (fun v => some (.int v)) (.inl v) st' s.heap.size) args s 0 0 (mA ad s.heap.size)) (F0 m 24 ls [.int z0]) := by
  obtain ⟨hx, hb, hml, hr, hlocks, hno, hown, hts⟩ := id C
  intro _ st x1 x2 x3 z0 h H locs hP hS ls hl
  unfold f_Md_hang_b24 at h
  refine lv_istore (lv' := [(4, .int z0), (0, .ref (ad 0)), (1, .int x1), (2, .int x2), (3, .int x3)]) hx hb d_Md_hang_24 hl (by decide) rfl (fun ls hl => ?_)
  refine lv_aload_n hx hb d_Md_hang_26 rfl (lv_at hl 1 rfl) ?_
  refine lv_iload hx hb d_Md_hang_27 (lv_at hl 0 rfl) ?_
  refine lv_iload_n hx hb d_Md_hang_29 rfl (lv_at hl 2 rfl) ?_
  refine lv_bipush (v := 16) hx hb d_Md_hang_30 (by decide) ?_
  refine lv_iconst (v := 1) hx hb d_Md_hang_32 (by decide) ?_
  obtain ⟨v5, e_v5, h⟩ := pu_ob h
  refine pu_callR (va_runV (As := [.int z0, .int x1, .int 16, .int 1]) (rest := []) ⟨hx, hb, hml, hown, hts⟩ (c_Md_first l D ca ad st _ z0 x1 16 1 v5 e_v5) (xCW (C := "MuseumHouseModel") 4 hts wd_5_76 wd_1_13 wd_5_73 wd_5_75 wd_0_13 (by decide +kernel) ⟨Nat.le_of_ble_eq_true rfl, Nat.le_of_ble_eq_true rfl⟩) (G.preV hP hS 0 rfl rfl) rfl rfl hl.1 rfl (lv_room (Nat.le_of_ble_eq_true rfl)) d_Md_hang_33 ⟨Nat.zero_le _, Nat.zero_le _⟩) ?_
  refine lv_istore (lv' := [(5, .int v5), (4, .int z0), (0, .ref (ad 0)), (1, .int x1), (2, .int x2), (3, .int x3)]) hx hb d_Md_hang_36 hl (by decide) rfl (fun ls hl => ?_)
  refine lv_iload hx hb d_Md_hang_38 (lv_at hl 1 rfl) ?_
  refine lv_if_eq (tgt := 51) hx hb d_Md_hang_40 (by decide) (fun c6 => ?_) (fun c6 => ?_)
  · rw [if_pos c6] at h
    refine lv_iconst (v := 0) hx hb d_Md_hang_51 (by decide) ?_
    exact t_Md_hang_b52 htl C G () st x1 x2 x3 z0 v5 0 h _ _ hP hS ls (lv_sub hl [2, 3, 4, 5, 1, 0] rfl)
  · rw [if_neg c6] at h
    refine lv_iload_n hx hb d_Md_hang_43 rfl (lv_at hl 4 rfl) ?_
    refine lv_sipush (v := 800) hx hb d_Md_hang_44 (by decide) ?_
    refine lv_isub hx hb d_Md_hang_47 ?_
    refine lv_goto (tgt := 52) hx hb d_Md_hang_48 (by decide) ?_
    exact t_Md_hang_b52 htl C G () st x1 x2 x3 z0 v5 (x2 - 800) h _ _ hP hS ls (lv_sub hl [2, 3, 4, 5, 1, 0] rfl)
set_option maxHeartbeats 4000000 in
set_option maxRecDepth 100000 in
theorem t_Md_hang_b23 {l : Launch} (htl : l.stackTraces = false) {p : Program} {e : Env} {s : State} {m : MethodId} {args : Array Value} {below : List Frame} {meth : Method} {c : Code} {D : va_G} {ca : Nat → ClassId} {ad : Nat → Nat} {st' : pu_St} {v : Int32} (C : hC p s m meth c args b_Md_hang 7 (some .boolean) "MuseumHouseModel") (G : mX D ca ad (mA ad s.heap.size) s) :
    ∀ (_ : Unit) (st : pu_St) (x1 x2 x3 : Int32), f_Md_hang_b23 st x1 x2 x3 = some (v, st') → ∀ (H : Heap) (locs : List Loc), va_P D hcl (mW ca ad st) H → va_S (mA ad s.heap.size) s.heap H locs → ∀ ls : Array Slot, lv_has ls 7 [(0, .ref (ad 0)), (1, .int x1), (2, .int x2), (3, .int x3)] → W p l e { frames := 2, cells := 0, slots := 0, locals := 46 } s m args below meth c H locs 0 0 (MQX below (mQ D ca ad (fun v => some (.int v)) (.inl v) st' s.heap.size) args s 0 0 (mA ad s.heap.size)) (F0 m 23 ls []) := by
  obtain ⟨hx, hb, hml, hr, hlocks, hno, hown, hts⟩ := id C
  intro _ st x1 x2 x3 h H locs hP hS ls hl
  unfold f_Md_hang_b23 at h
  refine lv_iconst (v := 0) hx hb d_Md_hang_23 (by decide) ?_
  exact t_Md_hang_b24 htl C G () st x1 x2 x3 0 h _ _ hP hS ls (lv_sub hl [0, 1, 2, 3] rfl)
set_option maxHeartbeats 4000000 in
set_option maxRecDepth 100000 in
theorem c_Md_hang (l : Launch) (htl : l.stackTraces = false) (D : va_G) (ca : Nat → ClassId) (ad : Nat → Nat) (st : pu_St) (sz : Nat) (x1 x2 x3 : Int32) (v : Int32) (st' : pu_St) (h : f_Md_hang st x1 x2 x3 = some (v, st')) : MetX l y_Md_hang (.code y_Md_hang b_Md_hang 7 (some .boolean) :: tG) { frames := 2, cells := 0, slots := 0, locals := 46 } (va_Pc [.ref (ad 0), .int x1, .int x2, .int x3] (mPc D ca ad st sz)) (mQ D ca ad (fun v => some (.int v)) (.inl v) st' sz) 0 0 (mA ad sz) := by
  refine mMet (by decide +kernel) ?_
  intro p e s m below meth c hsz C G hP
  obtain ⟨hx, hb, hml, hr, hlocks, hno, hown, hts⟩ := id C
  have hown : s.vm.findClass "MuseumHouseModel" = some m.cls := hown
  have hS : va_S (mA ad s.heap.size) s.heap s.heap [] := va_S.rf
  have hl := lv_entry ([.ref (ad 0), .int x1, .int x2, .int x3]) (n := 7) (Nat.le_of_ble_eq_true rfl)
  rw [lg_entry_eq]
  generalize (lg_sl ([.ref (ad 0), .int x1, .int x2, .int x3]) ++ List.replicate (7 - (lg_sl ([.ref (ad 0), .int x1, .int x2, .int x3])).length) Slot.unset).toArray = ls at hl ⊢
  have hl : lv_has ls 7 [(0, .ref (ad 0)), (1, .int x1), (2, .int x2), (3, .int x3)] := hl
  unfold f_Md_hang at h
  refine lv_aload_n hx hb d_Md_hang_0 rfl (lv_at hl 0 rfl) ?_
  refine lv_iload_n hx hb d_Md_hang_1 rfl (lv_at hl 2 rfl) ?_
  refine lv_bipush (v := 8) hx hb d_Md_hang_2 (by decide) ?_
  obtain ⟨v1, e_v1, h⟩ := pu_ob h
  refine pu_callR (va_runV (As := [.int x2, .int 8]) (rest := []) ⟨hx, hb, hml, hown, hts⟩ (c_Md_is l D ca ad st _ x2 8 v1 e_v1) (xCW (C := "MuseumHouseModel") 2 hts wd_5_80 wd_1_13 wd_5_77 wd_5_79 wd_0_14 (by decide +kernel) ⟨Nat.le_of_ble_eq_true rfl, Nat.le_of_ble_eq_true rfl⟩) (G.preV hP hS 0 rfl rfl) rfl rfl hl.1 rfl (lv_room (Nat.le_of_ble_eq_true rfl)) d_Md_hang_4 ⟨Nat.zero_le _, Nat.zero_le _⟩) ?_
  refine lv_if_eq (tgt := 23) hx hb d_Md_hang_7 (by decide) (fun c2 => ?_) (fun c2 => ?_)
  · rw [if_pos c2] at h
    exact t_Md_hang_b23 htl C G () st x1 x2 x3 h _ _ hP hS ls (lv_sub hl [0, 1, 2, 3] rfl)
  · rw [if_neg c2] at h
    refine lv_aload_n hx hb d_Md_hang_10 rfl (lv_at hl 0 rfl) ?_
    refine lv_iload_n hx hb d_Md_hang_11 rfl (lv_at hl 3 rfl) ?_
    refine lv_iconst (v := 5) hx hb d_Md_hang_12 (by decide) ?_
    obtain ⟨v3, e_v3, h⟩ := pu_ob h
    refine pu_callR (va_runV (As := [.int x3, .int 5]) (rest := []) ⟨hx, hb, hml, hown, hts⟩ (c_Md_is l D ca ad st _ x3 5 v3 e_v3) (xCW (C := "MuseumHouseModel") 2 hts wd_5_80 wd_1_13 wd_5_77 wd_5_79 wd_0_14 (by decide +kernel) ⟨Nat.le_of_ble_eq_true rfl, Nat.le_of_ble_eq_true rfl⟩) (G.preV hP hS 0 rfl rfl) rfl rfl hl.1 rfl (lv_room (Nat.le_of_ble_eq_true rfl)) d_Md_hang_13 ⟨Nat.zero_le _, Nat.zero_le _⟩) ?_
    refine lv_if_eq (tgt := 23) hx hb d_Md_hang_16 (by decide) (fun c4 => ?_) (fun c4 => ?_)
    · rw [if_pos c4] at h
      exact t_Md_hang_b23 htl C G () st x1 x2 x3 h _ _ hP hS ls (lv_sub hl [0, 1, 2, 3] rfl)
    · rw [if_neg c4] at h
      refine lv_iconst (v := 1) hx hb d_Md_hang_19 (by decide) ?_
      refine lv_goto (tgt := 24) hx hb d_Md_hang_20 (by decide) ?_
      exact t_Md_hang_b24 htl C G () st x1 x2 x3 1 h _ _ hP hS ls (lv_sub hl [0, 1, 2, 3] rfl)

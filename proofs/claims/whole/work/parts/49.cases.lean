theorem xc_le (r : Int32 ⊕ Nat) : xc r ≤ 1 := by
  cases r with
  | inl v => exact Nat.zero_le 1
  | inr k => exact Nat.le_refl 1
theorem xs_le (r : Int32 ⊕ Nat) : xs r ≤ 6 := by
  cases r with
  | inl v => exact Nat.zero_le 6
  | inr k => exact Nat.le_refl 6
theorem wk_ne (ks : List Nat) (k : Nat) (h : ks.length ≤ 3) : ¬ wk ks (.inr k) = 0 := by
  have h1 : ks.idxOf k ≤ ks.length := List.idxOf_le_length
  exact nI_ne0 (Nat.succ_pos _) (by omega)
theorem lg_cmp_self (x : Int64) : lg_cmp x x = 0 := by simp [lg_cmp]
theorem updL_self (f : Nat → Int64) (k : Nat) (x : Int64) : vp_updL f k x k = x := by simp [vp_updL]
/-- the class and the reference at one call: both come to an end, the ends agree, the states agree behind -/
def pOk (ks : List Nat) (Rel : pu_St → pu_St → Prop) (a : pu_R) (b : Option (Int32 × pu_St)) : Prop :=
  ∃ (r : Int32 ⊕ Nat) (st' : pu_St) (v : Int32) (sm' : pu_St), a = some (r, st') ∧ (∀ k, r = .inr k → k ∈ ks) ∧ b = some (v, sm') ∧ sm'.1 0 = wk ks r ∧ (∀ x, r = .inl x → x = v) ∧ Rel st' sm'
section LD
variable {p : Program} {l : Launch} {e : Env} {R : Room} {s : State} {m : MethodId} {args : Array Value} {below : List Frame} {meth : Method} {c : Code} {H : Heap} {locs : List Loc} {cells slots : Nat} {Q : State → Prop}
variable {cc : ByteArray} {pc : Nat} {ls : Array Slot} {rest : List Value} {A : Nat → Prop} {b L : Nat} {xs : Nat → Int32}
theorem l_sld (hexec : p.tables.exec = Jvm.exec) (hb : c.code = cc) (hX : va_X b L xs s s.heap) (hbl : b < s.heap.size) (hS : va_S (lA s) s.heap H locs) {i k : Nat} {K : Int32} (hK : K = nI k) (hi : i + k < L) (hL : L ≤ 2560) (hdg : decode cc pc = .ok (.iaload, 1))
    (kk : W p l e R s m args below meth c H locs cells slots Q (F0 m (pc + 1) ls (.int (xs (i + k)) :: rest))) : W p l e R s m args below meth c H locs cells slots Q (F0 m pc ls (.int (nI i + K) :: .ref b :: rest)) := by
  subst hK
  rw [nI_add]
  refine va_sld hexec hb hX hbl (A := lA s) (Nat.not_le.mpr hbl) hS (vp_in_nI hi (by omega)) hdg ?_
  rw [nI_clamp (by omega)]
  exact kk
end LD
set_option maxHeartbeats 4000000 in
set_option maxRecDepth 100000 in
theorem s_desk {l : Launch} (htl : l.stackTraces = false) {p : Program} {e : Env} {s : State} {m : MethodId} {below : List Frame} {meth : Method} {c : Code} {b L : Nat} {xs : Nat → Int32} (C0 : lw_At p s m meth c b L xs) {D : va_G} {ca cb : Nat → ClassId} {co : ClassId} {ad bd : Nat → Nat} {o : Nat} (G : lX D ca cb co ad bd o s) {Q : State → Prop} {cells slots : Nat} (hc : cells + 1 ≤ 1089) (hs : slots + 6 ≤ 11746) (hL : L ≤ 2560) {i : Nat} (hi : i + 5 ≤ L) {st st' sm sm' : pu_St} {f : Nat → Int64} {r : Int32 ⊕ Nat} {bv : Int32} (h1 : f_H_desk st (xs (i + 1)) (xs (i + 2)) = some (r, st')) (hk : ∀ k, r = .inr k → k ∈ [1, 2, 3]) (h2 : f_Md_desk sm (xs (i + 1)) (xs (i + 2)) = some (bv, sm')) (h3 : sm'.1 0 = wk [1, 2, 3] r) (h4 : ∀ v, r = .inl v → v = bv)
    (kk : ∀ (H : Heap) (locs : List Loc), lW D ca cb co ad bd o st' sm' (wfI f r) H → va_S (lA s) s.heap H locs → ∀ ls : Array Slot, lv_has ls 7 [(0, .ref b), (1, .ref (ad 0)), (2, .ref (bd 0)), (3, .ref o), (4, .int (nI i))] → W p l e room_1 s m #[Value.ref b] below meth c H locs (cells + 1) (slots + 6) Q (F0 m 2182 ls []))
    (H : Heap) (locs : List Loc) (w : lW D ca cb co ad bd o st sm f H) (hS : va_S (lA s) s.heap H locs) (ls : Array Slot) (hl : lv_has ls 7 [(0, .ref b), (1, .ref (ad 0)), (2, .ref (bd 0)), (3, .ref o), (4, .int (nI i))]) : W p l e room_1 s m #[Value.ref b] below meth c H locs cells slots Q (F0 m 164 ls []) := by
  obtain ⟨hx, hb, hr, hml, hown, hts0, hX, hbl, hlocks, hgv⟩ := C0
  have hts : ∀ w ∈ tG, w.before #[Value.ref b] s = true := fun w hw => hts0 w (List.mem_filter.mp hw).1
  have hown : s.vm.findClass "MuseumHouseLaw" = some m.cls := hown
  have hs0 : slots + 6 + 0 ≤ 11746 := hs
  refine lv_aload_n hx hb d_Lw_law_164 rfl (lv_at hl 1 rfl) ?_
  refine lv_aload_n hx hb d_Lw_law_165 rfl (lv_at hl 0 rfl) ?_
  refine lv_iload hx hb d_Lw_law_166 (lv_at hl 4 rfl) ?_
  refine lv_iconst (v := 1) hx hb d_Lw_law_168 (by decide) ?_
  refine lv_iadd hx hb d_Lw_law_169 ?_
  refine l_sld hx hb hX hbl hS (k := 1) rfl (by omega) hL d_Lw_law_170 ?_
  refine lv_aload_n hx hb d_Lw_law_171 rfl (lv_at hl 0 rfl) ?_
  refine lv_iload hx hb d_Lw_law_172 (lv_at hl 4 rfl) ?_
  refine lv_iconst (v := 2) hx hb d_Lw_law_174 (by decide) ?_
  refine lv_iadd hx hb d_Lw_law_175 ?_
  refine l_sld hx hb hX hbl hS (k := 2) rfl (by omega) hL d_Lw_law_176 ?_
  refine lv_aload_n hx hb d_Lw_law_177 rfl (lv_at hl 3 rfl) ?_
  refine lWrap G w hS (va_runSW (n := 4) (As := [.ref (ad 0), .int (xs (i + 1)), .int (xs (i + 2)), .ref o]) (rest := []) ⟨hx, hb, hml, hown, hts⟩ (w_desk l htl D ca co ad o st f _ (xs (i + 1)) (xs (i + 2)) r st' h1 hk) rfl rfl ⟨Nat.le_of_ble_eq_true rfl, Nat.le_of_ble_eq_true rfl⟩ wd_2_15 wd_1_0 wd_2_13 wd_2_14 (by decide +kernel) (G.preW w hS) rfl rfl hl.1 rfl (lv_room (Nat.le_of_ble_eq_true rfl)) d_Lw_law_178 ⟨Nat.le_trans (Nat.add_le_add_left (xc_le _) _) hc, Nat.le_trans (Nat.add_le_add_left (xs_le _) _) hs⟩) (fun H locs w hS => ?_)
  refine W.widen (k := cells + 1) (n := slots + 6) (Nat.add_le_add_left (xc_le _) _) (Nat.add_le_add_left (xs_le _) _) ?_
  refine lv_istore (lv' := [(5, .int (wk [1, 2, 3] r)), (0, .ref b), (1, .ref (ad 0)), (2, .ref (bd 0)), (3, .ref o), (4, .int (nI i))]) hx hb d_Lw_law_181 hl (by decide) rfl (fun ls hl => ?_)
  refine lv_aload_n hx hb d_Lw_law_183 rfl (lv_at hl 3 rfl) ?_
  refine lv_aload_n hx hb d_Lw_law_184 rfl (lv_at hl 1 rfl) ?_
  refine lv_iload hx hb d_Lw_law_185 (lv_at hl 5 rfl) ?_
  refine lv_iconst (v := 1) hx hb d_Lw_law_187 (by decide) ?_
  refine lv_iadd hx hb d_Lw_law_188 ?_
  refine l_sld hx hb hX hbl hS (k := 1) rfl (by omega) hL d_Lw_law_189 ?_
  refine lv_aload_n hx hb d_Lw_law_190 rfl (lv_at hl 1 rfl) ?_
  refine lv_iload hx hb d_Lw_law_191 (lv_at hl 5 rfl) ?_
  refine lv_iconst (v := 2) hx hb d_Lw_law_193 (by decide) ?_
  refine lv_iadd hx hb d_Lw_law_194 ?_
  refine l_sld hx hb hX hbl hS (k := 2) rfl (by omega) hL d_Lw_law_195 ?_
  refine lModI G w hS (va_runV (As := [.int (xs (i + 1)), .int (xs (i + 2))]) (rest := []) ⟨hx, hb, hml, hown, hts⟩ (MetX.met (c_Md_desk l htl D cb bd sm _ (xs (i + 1)) (xs (i + 2)) bv sm' h2) (fun _ _ _ _ q => ⟨_, q.1⟩)) (xCW (C := "MuseumHouseModel") 2 hts wd_5_72 wd_1_13 wd_5_69 wd_5_70 wd_5_71 (by decide +kernel) ⟨Nat.le_of_ble_eq_true rfl, Nat.le_of_ble_eq_true rfl⟩) (G.2.1.preV w.2.1 hS 0 rfl rfl) rfl rfl hl.1 rfl (lv_room (Nat.le_of_ble_eq_true rfl)) d_Lw_law_196 ⟨hc, hs0⟩) (fun H locs w hS => ?_)
  refine lv_istore (lv' := [(6, .int bv), (5, .int (wk [1, 2, 3] r)), (0, .ref b), (1, .ref (ad 0)), (2, .ref (bd 0)), (3, .ref o), (4, .int (nI i))]) hx hb d_Lw_law_199 hl (by decide) rfl (fun ls hl => ?_)
  refine lv_aload_n hx hb d_Lw_law_201 rfl (lv_at hl 4 rfl) ?_
  refine pu_callR (va_runV (As := []) (rest := []) ⟨hx, hb, hml, hown, hts⟩ (c_Md_thrown l D cb bd sm' _ (sm'.1 0) rfl) (xCW (C := "MuseumHouseModel") 0 hts wd_5_68 wd_1_13 wd_5_65 wd_5_66 wd_5_67 (by decide +kernel) ⟨Nat.le_of_ble_eq_true rfl, Nat.le_of_ble_eq_true rfl⟩) (G.2.1.preV w.2.1 hS 0 rfl rfl) rfl rfl hl.1 rfl (lv_room (Nat.le_of_ble_eq_true rfl)) d_Lw_law_202 ⟨hc, hs0⟩) ?_
  refine lv_iload hx hb d_Lw_law_205 (lv_at hl 1 rfl) ?_
  refine lv_icmp_eq (tgt := 212) hx hb d_Lw_law_207 (by decide) (fun _ => ?_) (fun cn => absurd h3 cn)
  refine lv_iload hx hb d_Lw_law_212 (lv_at hl 1 rfl) ?_
  cases r with
  | inr k =>
    refine lv_if_ne (tgt := 229) hx hb d_Lw_law_214 (by decide) (fun _ => ?_) (fun cn => absurd cn (wk_ne _ k (by decide)))
    refine lv_goto (tgt := 2182) hx hb d_Lw_law_229 (by decide) ?_
    exact kk _ _ w hS ls (lv_sub hl [2, 3, 4, 5, 6] rfl)
  | inl v =>
    have h4 := h4 v rfl
    subst h4
    refine lv_if_ne (tgt := 229) hx hb d_Lw_law_214 (by decide) (fun cn => absurd rfl cn) (fun _ => ?_)
    refine lv_aload_n hx hb d_Lw_law_217 rfl (lv_at hl 5 rfl) ?_
    refine lv_iconst (v := 0) hx hb d_Lw_law_218 (by decide) ?_
    refine va_lald hx hb G.2.2.1 w.2.2 0 0 rfl rfl w_in0 d_Lw_law_219 ?_
    refine lv_iload hx hb d_Lw_law_220 (lv_at hl 0 rfl) ?_
    refine lv_i2l hx hb d_Lw_law_222 rfl ?_
    refine W.lcmp hx hb d_Lw_law_223 ?_
    refine lv_if_eq (tgt := 229) hx hb d_Lw_law_224 (by decide) (fun _ => ?_) (fun cn => absurd (by show lg_cmp (vp_updL f _ v.toInt64 _) v.toInt64 = 0; rw [updL_self]; exact lg_cmp_self _) cn)
    refine lv_goto (tgt := 2182) hx hb d_Lw_law_229 (by decide) ?_
    exact kk _ _ w hS ls (lv_sub hl [2, 3, 4, 5, 6] rfl)
set_option maxHeartbeats 4000000 in
set_option maxRecDepth 100000 in
theorem s_day {l : Launch} (htl : l.stackTraces = false) {p : Program} {e : Env} {s : State} {m : MethodId} {below : List Frame} {meth : Method} {c : Code} {b L : Nat} {xs : Nat → Int32} (C0 : lw_At p s m meth c b L xs) {D : va_G} {ca cb : Nat → ClassId} {co : ClassId} {ad bd : Nat → Nat} {o : Nat} (G : lX D ca cb co ad bd o s) {Q : State → Prop} {cells slots : Nat} (hc : cells + 1 ≤ 1089) (hs : slots + 6 ≤ 11746) (hL : L ≤ 2560) {i : Nat} (hi : i + 5 ≤ L) {st st' sm sm' : pu_St} {f : Nat → Int64} {r : Int32 ⊕ Nat} {bv : Int32} (h1 : f_H_day st (xs (i + 1)) = some (r, st')) (hk : ∀ k, r = .inr k → k ∈ [3]) (h2 : f_Md_day sm (xs (i + 1)) = some (bv, sm')) (h3 : sm'.1 0 = wk [3] r) (h4 : ∀ v, r = .inl v → v = bv)
    (kk : ∀ (H : Heap) (locs : List Loc), lW D ca cb co ad bd o st' sm' (wfI f r) H → va_S (lA s) s.heap H locs → ∀ ls : Array Slot, lv_has ls 7 [(0, .ref b), (1, .ref (ad 0)), (2, .ref (bd 0)), (3, .ref o), (4, .int (nI i))] → W p l e room_1 s m #[Value.ref b] below meth c H locs (cells + 1) (slots + 6) Q (F0 m 2182 ls []))
    (H : Heap) (locs : List Loc) (w : lW D ca cb co ad bd o st sm f H) (hS : va_S (lA s) s.heap H locs) (ls : Array Slot) (hl : lv_has ls 7 [(0, .ref b), (1, .ref (ad 0)), (2, .ref (bd 0)), (3, .ref o), (4, .int (nI i))]) : W p l e room_1 s m #[Value.ref b] below meth c H locs cells slots Q (F0 m 232 ls []) := by
  obtain ⟨hx, hb, hr, hml, hown, hts0, hX, hbl, hlocks, hgv⟩ := C0
  have hts : ∀ w ∈ tG, w.before #[Value.ref b] s = true := fun w hw => hts0 w (List.mem_filter.mp hw).1
  have hown : s.vm.findClass "MuseumHouseLaw" = some m.cls := hown
  have hs0 : slots + 6 + 0 ≤ 11746 := hs
  refine lv_aload_n hx hb d_Lw_law_232 rfl (lv_at hl 1 rfl) ?_
  refine lv_aload_n hx hb d_Lw_law_233 rfl (lv_at hl 0 rfl) ?_
  refine lv_iload hx hb d_Lw_law_234 (lv_at hl 4 rfl) ?_
  refine lv_iconst (v := 1) hx hb d_Lw_law_236 (by decide) ?_
  refine lv_iadd hx hb d_Lw_law_237 ?_
  refine l_sld hx hb hX hbl hS (k := 1) rfl (by omega) hL d_Lw_law_238 ?_
  refine lv_aload_n hx hb d_Lw_law_239 rfl (lv_at hl 3 rfl) ?_
  refine lWrap G w hS (va_runSW (n := 3) (As := [.ref (ad 0), .int (xs (i + 1)), .ref o]) (rest := []) ⟨hx, hb, hml, hown, hts⟩ (w_day l htl D ca co ad o st f _ (xs (i + 1)) r st' h1 hk) rfl rfl ⟨Nat.le_of_ble_eq_true rfl, Nat.le_of_ble_eq_true rfl⟩ wd_2_167 wd_1_0 wd_2_165 wd_2_166 (by decide +kernel) (G.preW w hS) rfl rfl hl.1 rfl (lv_room (Nat.le_of_ble_eq_true rfl)) d_Lw_law_240 ⟨Nat.le_trans (Nat.add_le_add_left (xc_le _) _) hc, Nat.le_trans (Nat.add_le_add_left (xs_le _) _) hs⟩) (fun H locs w hS => ?_)
  refine W.widen (k := cells + 1) (n := slots + 6) (Nat.add_le_add_left (xc_le _) _) (Nat.add_le_add_left (xs_le _) _) ?_
  refine lv_istore (lv' := [(5, .int (wk [3] r)), (0, .ref b), (1, .ref (ad 0)), (2, .ref (bd 0)), (3, .ref o), (4, .int (nI i))]) hx hb d_Lw_law_243 hl (by decide) rfl (fun ls hl => ?_)
  refine lv_aload_n hx hb d_Lw_law_245 rfl (lv_at hl 3 rfl) ?_
  refine lv_aload_n hx hb d_Lw_law_246 rfl (lv_at hl 1 rfl) ?_
  refine lv_iload hx hb d_Lw_law_247 (lv_at hl 5 rfl) ?_
  refine lv_iconst (v := 1) hx hb d_Lw_law_249 (by decide) ?_
  refine lv_iadd hx hb d_Lw_law_250 ?_
  refine l_sld hx hb hX hbl hS (k := 1) rfl (by omega) hL d_Lw_law_251 ?_
  refine lModI G w hS (va_runV (As := [.int (xs (i + 1))]) (rest := []) ⟨hx, hb, hml, hown, hts⟩ (MetX.met (c_Md_day l htl D cb bd sm _ (xs (i + 1)) bv sm' h2) (fun _ _ _ _ q => ⟨_, q.1⟩)) (xCW (C := "MuseumHouseModel") 1 hts wd_5_102 wd_1_13 wd_5_99 wd_5_100 wd_5_101 (by decide +kernel) ⟨Nat.le_of_ble_eq_true rfl, Nat.le_of_ble_eq_true rfl⟩) (G.2.1.preV w.2.1 hS 0 rfl rfl) rfl rfl hl.1 rfl (lv_room (Nat.le_of_ble_eq_true rfl)) d_Lw_law_252 ⟨hc, hs0⟩) (fun H locs w hS => ?_)
  refine lv_istore (lv' := [(6, .int bv), (5, .int (wk [3] r)), (0, .ref b), (1, .ref (ad 0)), (2, .ref (bd 0)), (3, .ref o), (4, .int (nI i))]) hx hb d_Lw_law_255 hl (by decide) rfl (fun ls hl => ?_)
  refine lv_aload_n hx hb d_Lw_law_257 rfl (lv_at hl 4 rfl) ?_
  refine pu_callR (va_runV (As := []) (rest := []) ⟨hx, hb, hml, hown, hts⟩ (c_Md_thrown l D cb bd sm' _ (sm'.1 0) rfl) (xCW (C := "MuseumHouseModel") 0 hts wd_5_68 wd_1_13 wd_5_65 wd_5_66 wd_5_67 (by decide +kernel) ⟨Nat.le_of_ble_eq_true rfl, Nat.le_of_ble_eq_true rfl⟩) (G.2.1.preV w.2.1 hS 0 rfl rfl) rfl rfl hl.1 rfl (lv_room (Nat.le_of_ble_eq_true rfl)) d_Lw_law_258 ⟨hc, hs0⟩) ?_
  refine lv_iload hx hb d_Lw_law_261 (lv_at hl 1 rfl) ?_
  refine lv_icmp_eq (tgt := 268) hx hb d_Lw_law_263 (by decide) (fun _ => ?_) (fun cn => absurd h3 cn)
  refine lv_iload hx hb d_Lw_law_268 (lv_at hl 1 rfl) ?_
  cases r with
  | inr k =>
    refine lv_if_ne (tgt := 285) hx hb d_Lw_law_270 (by decide) (fun _ => ?_) (fun cn => absurd cn (wk_ne _ k (by decide)))
    refine lv_goto (tgt := 2182) hx hb d_Lw_law_285 (by decide) ?_
    exact kk _ _ w hS ls (lv_sub hl [2, 3, 4, 5, 6] rfl)
  | inl v =>
    have h4 := h4 v rfl
    subst h4
    refine lv_if_ne (tgt := 285) hx hb d_Lw_law_270 (by decide) (fun cn => absurd rfl cn) (fun _ => ?_)
    refine lv_aload_n hx hb d_Lw_law_273 rfl (lv_at hl 5 rfl) ?_
    refine lv_iconst (v := 0) hx hb d_Lw_law_274 (by decide) ?_
    refine va_lald hx hb G.2.2.1 w.2.2 0 0 rfl rfl w_in0 d_Lw_law_275 ?_
    refine lv_iload hx hb d_Lw_law_276 (lv_at hl 0 rfl) ?_
    refine lv_i2l hx hb d_Lw_law_278 rfl ?_
    refine W.lcmp hx hb d_Lw_law_279 ?_
    refine lv_if_eq (tgt := 285) hx hb d_Lw_law_280 (by decide) (fun _ => ?_) (fun cn => absurd (by show lg_cmp (vp_updL f _ v.toInt64 _) v.toInt64 = 0; rw [updL_self]; exact lg_cmp_self _) cn)
    refine lv_goto (tgt := 2182) hx hb d_Lw_law_285 (by decide) ?_
    exact kk _ _ w hS ls (lv_sub hl [2, 3, 4, 5, 6] rfl)
set_option maxHeartbeats 4000000 in
set_option maxRecDepth 100000 in
theorem s_site {l : Launch} (htl : l.stackTraces = false) {p : Program} {e : Env} {s : State} {m : MethodId} {below : List Frame} {meth : Method} {c : Code} {b L : Nat} {xs : Nat → Int32} (C0 : lw_At p s m meth c b L xs) {D : va_G} {ca cb : Nat → ClassId} {co : ClassId} {ad bd : Nat → Nat} {o : Nat} (G : lX D ca cb co ad bd o s) {Q : State → Prop} {cells slots : Nat} (hc : cells + 1 ≤ 1089) (hs : slots + 6 ≤ 11746) (hL : L ≤ 2560) {i : Nat} (hi : i + 5 ≤ L) {st st' sm sm' : pu_St} {f : Nat → Int64} {r : Int32 ⊕ Nat} {bv : Int32} (h1 : f_H_site st (xs (i + 1)) = some (r, st')) (hk : ∀ k, r = .inr k → k ∈ [1, 2]) (h2 : f_Md_site sm (xs (i + 1)) = some (bv, sm')) (h3 : sm'.1 0 = wk [1, 2] r) (h4 : ∀ v, r = .inl v → v = bv)
    (kk : ∀ (H : Heap) (locs : List Loc), lW D ca cb co ad bd o st' sm' (wfI f r) H → va_S (lA s) s.heap H locs → ∀ ls : Array Slot, lv_has ls 7 [(0, .ref b), (1, .ref (ad 0)), (2, .ref (bd 0)), (3, .ref o), (4, .int (nI i))] → W p l e room_1 s m #[Value.ref b] below meth c H locs (cells + 1) (slots + 6) Q (F0 m 2182 ls []))
    (H : Heap) (locs : List Loc) (w : lW D ca cb co ad bd o st sm f H) (hS : va_S (lA s) s.heap H locs) (ls : Array Slot) (hl : lv_has ls 7 [(0, .ref b), (1, .ref (ad 0)), (2, .ref (bd 0)), (3, .ref o), (4, .int (nI i))]) : W p l e room_1 s m #[Value.ref b] below meth c H locs cells slots Q (F0 m 288 ls []) := by
  obtain ⟨hx, hb, hr, hml, hown, hts0, hX, hbl, hlocks, hgv⟩ := C0
  have hts : ∀ w ∈ tG, w.before #[Value.ref b] s = true := fun w hw => hts0 w (List.mem_filter.mp hw).1
  have hown : s.vm.findClass "MuseumHouseLaw" = some m.cls := hown
  have hs0 : slots + 6 + 0 ≤ 11746 := hs
  refine lv_aload_n hx hb d_Lw_law_288 rfl (lv_at hl 1 rfl) ?_
  refine lv_aload_n hx hb d_Lw_law_289 rfl (lv_at hl 0 rfl) ?_
  refine lv_iload hx hb d_Lw_law_290 (lv_at hl 4 rfl) ?_
  refine lv_iconst (v := 1) hx hb d_Lw_law_292 (by decide) ?_
  refine lv_iadd hx hb d_Lw_law_293 ?_
  refine l_sld hx hb hX hbl hS (k := 1) rfl (by omega) hL d_Lw_law_294 ?_
  refine lv_aload_n hx hb d_Lw_law_295 rfl (lv_at hl 3 rfl) ?_
  refine lWrap G w hS (va_runSW (n := 3) (As := [.ref (ad 0), .int (xs (i + 1)), .ref o]) (rest := []) ⟨hx, hb, hml, hown, hts⟩ (w_site l htl D ca co ad o st f _ (xs (i + 1)) r st' h1 hk) rfl rfl ⟨Nat.le_of_ble_eq_true rfl, Nat.le_of_ble_eq_true rfl⟩ wd_2_174 wd_1_0 wd_2_172 wd_2_173 (by decide +kernel) (G.preW w hS) rfl rfl hl.1 rfl (lv_room (Nat.le_of_ble_eq_true rfl)) d_Lw_law_296 ⟨Nat.le_trans (Nat.add_le_add_left (xc_le _) _) hc, Nat.le_trans (Nat.add_le_add_left (xs_le _) _) hs⟩) (fun H locs w hS => ?_)
  refine W.widen (k := cells + 1) (n := slots + 6) (Nat.add_le_add_left (xc_le _) _) (Nat.add_le_add_left (xs_le _) _) ?_
  refine lv_istore (lv' := [(5, .int (wk [1, 2] r)), (0, .ref b), (1, .ref (ad 0)), (2, .ref (bd 0)), (3, .ref o), (4, .int (nI i))]) hx hb d_Lw_law_299 hl (by decide) rfl (fun ls hl => ?_)
  refine lv_aload_n hx hb d_Lw_law_301 rfl (lv_at hl 3 rfl) ?_
  refine lv_aload_n hx hb d_Lw_law_302 rfl (lv_at hl 1 rfl) ?_
  refine lv_iload hx hb d_Lw_law_303 (lv_at hl 5 rfl) ?_
  refine lv_iconst (v := 1) hx hb d_Lw_law_305 (by decide) ?_
  refine lv_iadd hx hb d_Lw_law_306 ?_
  refine l_sld hx hb hX hbl hS (k := 1) rfl (by omega) hL d_Lw_law_307 ?_
  refine lModI G w hS (va_runV (As := [.int (xs (i + 1))]) (rest := []) ⟨hx, hb, hml, hown, hts⟩ (MetX.met (c_Md_site l htl D cb bd sm _ (xs (i + 1)) bv sm' h2) (fun _ _ _ _ q => ⟨_, q.1⟩)) (xCW (C := "MuseumHouseModel") 1 hts wd_5_106 wd_1_13 wd_5_103 wd_5_104 wd_5_105 (by decide +kernel) ⟨Nat.le_of_ble_eq_true rfl, Nat.le_of_ble_eq_true rfl⟩) (G.2.1.preV w.2.1 hS 0 rfl rfl) rfl rfl hl.1 rfl (lv_room (Nat.le_of_ble_eq_true rfl)) d_Lw_law_308 ⟨hc, hs0⟩) (fun H locs w hS => ?_)
  refine lv_istore (lv' := [(6, .int bv), (5, .int (wk [1, 2] r)), (0, .ref b), (1, .ref (ad 0)), (2, .ref (bd 0)), (3, .ref o), (4, .int (nI i))]) hx hb d_Lw_law_311 hl (by decide) rfl (fun ls hl => ?_)
  refine lv_aload_n hx hb d_Lw_law_313 rfl (lv_at hl 4 rfl) ?_
  refine pu_callR (va_runV (As := []) (rest := []) ⟨hx, hb, hml, hown, hts⟩ (c_Md_thrown l D cb bd sm' _ (sm'.1 0) rfl) (xCW (C := "MuseumHouseModel") 0 hts wd_5_68 wd_1_13 wd_5_65 wd_5_66 wd_5_67 (by decide +kernel) ⟨Nat.le_of_ble_eq_true rfl, Nat.le_of_ble_eq_true rfl⟩) (G.2.1.preV w.2.1 hS 0 rfl rfl) rfl rfl hl.1 rfl (lv_room (Nat.le_of_ble_eq_true rfl)) d_Lw_law_314 ⟨hc, hs0⟩) ?_
  refine lv_iload hx hb d_Lw_law_317 (lv_at hl 1 rfl) ?_
  refine lv_icmp_eq (tgt := 324) hx hb d_Lw_law_319 (by decide) (fun _ => ?_) (fun cn => absurd h3 cn)
  refine lv_iload hx hb d_Lw_law_324 (lv_at hl 1 rfl) ?_
  cases r with
  | inr k =>
    refine lv_if_ne (tgt := 341) hx hb d_Lw_law_326 (by decide) (fun _ => ?_) (fun cn => absurd cn (wk_ne _ k (by decide)))
    refine lv_goto (tgt := 2182) hx hb d_Lw_law_341 (by decide) ?_
    exact kk _ _ w hS ls (lv_sub hl [2, 3, 4, 5, 6] rfl)
  | inl v =>
    have h4 := h4 v rfl
    subst h4
    refine lv_if_ne (tgt := 341) hx hb d_Lw_law_326 (by decide) (fun cn => absurd rfl cn) (fun _ => ?_)
    refine lv_aload_n hx hb d_Lw_law_329 rfl (lv_at hl 5 rfl) ?_
    refine lv_iconst (v := 0) hx hb d_Lw_law_330 (by decide) ?_
    refine va_lald hx hb G.2.2.1 w.2.2 0 0 rfl rfl w_in0 d_Lw_law_331 ?_
    refine lv_iload hx hb d_Lw_law_332 (lv_at hl 0 rfl) ?_
    refine lv_i2l hx hb d_Lw_law_334 rfl ?_
    refine W.lcmp hx hb d_Lw_law_335 ?_
    refine lv_if_eq (tgt := 341) hx hb d_Lw_law_336 (by decide) (fun _ => ?_) (fun cn => absurd (by show lg_cmp (vp_updL f _ v.toInt64 _) v.toInt64 = 0; rw [updL_self]; exact lg_cmp_self _) cn)
    refine lv_goto (tgt := 2182) hx hb d_Lw_law_341 (by decide) ?_
    exact kk _ _ w hS ls (lv_sub hl [2, 3, 4, 5, 6] rfl)
set_option maxHeartbeats 4000000 in
set_option maxRecDepth 100000 in
theorem s_context {l : Launch} (htl : l.stackTraces = false) {p : Program} {e : Env} {s : State} {m : MethodId} {below : List Frame} {meth : Method} {c : Code} {b L : Nat} {xs : Nat → Int32} (C0 : lw_At p s m meth c b L xs) {D : va_G} {ca cb : Nat → ClassId} {co : ClassId} {ad bd : Nat → Nat} {o : Nat} (G : lX D ca cb co ad bd o s) {Q : State → Prop} {cells slots : Nat} (hc : cells + 1 ≤ 1089) (hs : slots + 6 ≤ 11746) (hL : L ≤ 2560) {i : Nat} (hi : i + 5 ≤ L) {st st' sm sm' : pu_St} {f : Nat → Int64} {r : Int32 ⊕ Nat} {bv : Int32} (h1 : f_H_context st (xs (i + 1)) (xs (i + 2)) = some (r, st')) (hk : ∀ k, r = .inr k → k ∈ [1, 2]) (h2 : f_Md_context sm (xs (i + 1)) (xs (i + 2)) = some (bv, sm')) (h3 : sm'.1 0 = wk [1, 2] r) (h4 : ∀ v, r = .inl v → v = bv)
    (kk : ∀ (H : Heap) (locs : List Loc), lW D ca cb co ad bd o st' sm' (wfI f r) H → va_S (lA s) s.heap H locs → ∀ ls : Array Slot, lv_has ls 7 [(0, .ref b), (1, .ref (ad 0)), (2, .ref (bd 0)), (3, .ref o), (4, .int (nI i))] → W p l e room_1 s m #[Value.ref b] below meth c H locs (cells + 1) (slots + 6) Q (F0 m 2182 ls []))
    (H : Heap) (locs : List Loc) (w : lW D ca cb co ad bd o st sm f H) (hS : va_S (lA s) s.heap H locs) (ls : Array Slot) (hl : lv_has ls 7 [(0, .ref b), (1, .ref (ad 0)), (2, .ref (bd 0)), (3, .ref o), (4, .int (nI i))]) : W p l e room_1 s m #[Value.ref b] below meth c H locs cells slots Q (F0 m 344 ls []) := by
  obtain ⟨hx, hb, hr, hml, hown, hts0, hX, hbl, hlocks, hgv⟩ := C0
  have hts : ∀ w ∈ tG, w.before #[Value.ref b] s = true := fun w hw => hts0 w (List.mem_filter.mp hw).1
  have hown : s.vm.findClass "MuseumHouseLaw" = some m.cls := hown
  have hs0 : slots + 6 + 0 ≤ 11746 := hs
  refine lv_aload_n hx hb d_Lw_law_344 rfl (lv_at hl 1 rfl) ?_
  refine lv_aload_n hx hb d_Lw_law_345 rfl (lv_at hl 0 rfl) ?_
  refine lv_iload hx hb d_Lw_law_346 (lv_at hl 4 rfl) ?_
  refine lv_iconst (v := 1) hx hb d_Lw_law_348 (by decide) ?_
  refine lv_iadd hx hb d_Lw_law_349 ?_
  refine l_sld hx hb hX hbl hS (k := 1) rfl (by omega) hL d_Lw_law_350 ?_
  refine lv_aload_n hx hb d_Lw_law_351 rfl (lv_at hl 0 rfl) ?_
  refine lv_iload hx hb d_Lw_law_352 (lv_at hl 4 rfl) ?_
  refine lv_iconst (v := 2) hx hb d_Lw_law_354 (by decide) ?_
  refine lv_iadd hx hb d_Lw_law_355 ?_
  refine l_sld hx hb hX hbl hS (k := 2) rfl (by omega) hL d_Lw_law_356 ?_
  refine lv_aload_n hx hb d_Lw_law_357 rfl (lv_at hl 3 rfl) ?_
  refine lWrap G w hS (va_runSW (n := 4) (As := [.ref (ad 0), .int (xs (i + 1)), .int (xs (i + 2)), .ref o]) (rest := []) ⟨hx, hb, hml, hown, hts⟩ (w_context l htl D ca co ad o st f _ (xs (i + 1)) (xs (i + 2)) r st' h1 hk) rfl rfl ⟨Nat.le_of_ble_eq_true rfl, Nat.le_of_ble_eq_true rfl⟩ wd_2_194 wd_1_0 wd_2_192 wd_2_193 (by decide +kernel) (G.preW w hS) rfl rfl hl.1 rfl (lv_room (Nat.le_of_ble_eq_true rfl)) d_Lw_law_358 ⟨Nat.le_trans (Nat.add_le_add_left (xc_le _) _) hc, Nat.le_trans (Nat.add_le_add_left (xs_le _) _) hs⟩) (fun H locs w hS => ?_)
  refine W.widen (k := cells + 1) (n := slots + 6) (Nat.add_le_add_left (xc_le _) _) (Nat.add_le_add_left (xs_le _) _) ?_
  refine lv_istore (lv' := [(5, .int (wk [1, 2] r)), (0, .ref b), (1, .ref (ad 0)), (2, .ref (bd 0)), (3, .ref o), (4, .int (nI i))]) hx hb d_Lw_law_361 hl (by decide) rfl (fun ls hl => ?_)
  refine lv_aload_n hx hb d_Lw_law_363 rfl (lv_at hl 3 rfl) ?_
  refine lv_aload_n hx hb d_Lw_law_364 rfl (lv_at hl 1 rfl) ?_
  refine lv_iload hx hb d_Lw_law_365 (lv_at hl 5 rfl) ?_
  refine lv_iconst (v := 1) hx hb d_Lw_law_367 (by decide) ?_
  refine lv_iadd hx hb d_Lw_law_368 ?_
  refine l_sld hx hb hX hbl hS (k := 1) rfl (by omega) hL d_Lw_law_369 ?_
  refine lv_aload_n hx hb d_Lw_law_370 rfl (lv_at hl 1 rfl) ?_
  refine lv_iload hx hb d_Lw_law_371 (lv_at hl 5 rfl) ?_
  refine lv_iconst (v := 2) hx hb d_Lw_law_373 (by decide) ?_
  refine lv_iadd hx hb d_Lw_law_374 ?_
  refine l_sld hx hb hX hbl hS (k := 2) rfl (by omega) hL d_Lw_law_375 ?_
  refine lModI G w hS (va_runV (As := [.int (xs (i + 1)), .int (xs (i + 2))]) (rest := []) ⟨hx, hb, hml, hown, hts⟩ (MetX.met (c_Md_context l htl D cb bd sm _ (xs (i + 1)) (xs (i + 2)) bv sm' h2) (fun _ _ _ _ q => ⟨_, q.1⟩)) (xCW (C := "MuseumHouseModel") 2 hts wd_5_110 wd_1_13 wd_5_107 wd_5_108 wd_5_109 (by decide +kernel) ⟨Nat.le_of_ble_eq_true rfl, Nat.le_of_ble_eq_true rfl⟩) (G.2.1.preV w.2.1 hS 0 rfl rfl) rfl rfl hl.1 rfl (lv_room (Nat.le_of_ble_eq_true rfl)) d_Lw_law_376 ⟨hc, hs0⟩) (fun H locs w hS => ?_)
  refine lv_istore (lv' := [(6, .int bv), (5, .int (wk [1, 2] r)), (0, .ref b), (1, .ref (ad 0)), (2, .ref (bd 0)), (3, .ref o), (4, .int (nI i))]) hx hb d_Lw_law_379 hl (by decide) rfl (fun ls hl => ?_)
  refine lv_aload_n hx hb d_Lw_law_381 rfl (lv_at hl 4 rfl) ?_
  refine pu_callR (va_runV (As := []) (rest := []) ⟨hx, hb, hml, hown, hts⟩ (c_Md_thrown l D cb bd sm' _ (sm'.1 0) rfl) (xCW (C := "MuseumHouseModel") 0 hts wd_5_68 wd_1_13 wd_5_65 wd_5_66 wd_5_67 (by decide +kernel) ⟨Nat.le_of_ble_eq_true rfl, Nat.le_of_ble_eq_true rfl⟩) (G.2.1.preV w.2.1 hS 0 rfl rfl) rfl rfl hl.1 rfl (lv_room (Nat.le_of_ble_eq_true rfl)) d_Lw_law_382 ⟨hc, hs0⟩) ?_
  refine lv_iload hx hb d_Lw_law_385 (lv_at hl 1 rfl) ?_
  refine lv_icmp_eq (tgt := 392) hx hb d_Lw_law_387 (by decide) (fun _ => ?_) (fun cn => absurd h3 cn)
  refine lv_iload hx hb d_Lw_law_392 (lv_at hl 1 rfl) ?_
  cases r with
  | inr k =>
    refine lv_if_ne (tgt := 409) hx hb d_Lw_law_394 (by decide) (fun _ => ?_) (fun cn => absurd cn (wk_ne _ k (by decide)))
    refine lv_goto (tgt := 2182) hx hb d_Lw_law_409 (by decide) ?_
    exact kk _ _ w hS ls (lv_sub hl [2, 3, 4, 5, 6] rfl)
  | inl v =>
    have h4 := h4 v rfl
    subst h4
    refine lv_if_ne (tgt := 409) hx hb d_Lw_law_394 (by decide) (fun cn => absurd rfl cn) (fun _ => ?_)
    refine lv_aload_n hx hb d_Lw_law_397 rfl (lv_at hl 5 rfl) ?_
    refine lv_iconst (v := 0) hx hb d_Lw_law_398 (by decide) ?_
    refine va_lald hx hb G.2.2.1 w.2.2 0 0 rfl rfl w_in0 d_Lw_law_399 ?_
    refine lv_iload hx hb d_Lw_law_400 (lv_at hl 0 rfl) ?_
    refine lv_i2l hx hb d_Lw_law_402 rfl ?_
    refine W.lcmp hx hb d_Lw_law_403 ?_
    refine lv_if_eq (tgt := 409) hx hb d_Lw_law_404 (by decide) (fun _ => ?_) (fun cn => absurd (by show lg_cmp (vp_updL f _ v.toInt64 _) v.toInt64 = 0; rw [updL_self]; exact lg_cmp_self _) cn)
    refine lv_goto (tgt := 2182) hx hb d_Lw_law_409 (by decide) ?_
    exact kk _ _ w hS ls (lv_sub hl [2, 3, 4, 5, 6] rfl)
set_option maxHeartbeats 4000000 in
set_option maxRecDepth 100000 in
theorem s_above {l : Launch} (htl : l.stackTraces = false) {p : Program} {e : Env} {s : State} {m : MethodId} {below : List Frame} {meth : Method} {c : Code} {b L : Nat} {xs : Nat → Int32} (C0 : lw_At p s m meth c b L xs) {D : va_G} {ca cb : Nat → ClassId} {co : ClassId} {ad bd : Nat → Nat} {o : Nat} (G : lX D ca cb co ad bd o s) {Q : State → Prop} {cells slots : Nat} (hc : cells + 1 ≤ 1089) (hs : slots + 6 ≤ 11746) (hL : L ≤ 2560) {i : Nat} (hi : i + 5 ≤ L) {st st' sm sm' : pu_St} {f : Nat → Int64} {r : Int32 ⊕ Nat} {bv : Int32} (h1 : f_H_above st (xs (i + 1)) (xs (i + 2)) (xs (i + 3)) = some (r, st')) (hk : ∀ k, r = .inr k → k ∈ [1, 2, 3]) (h2 : f_Md_above sm (xs (i + 1)) (xs (i + 2)) (xs (i + 3)) = some (bv, sm')) (h3 : sm'.1 0 = wk [1, 2, 3] r) (h4 : ∀ v, r = .inl v → v = bv)
    (kk : ∀ (H : Heap) (locs : List Loc), lW D ca cb co ad bd o st' sm' (wfZ f r) H → va_S (lA s) s.heap H locs → ∀ ls : Array Slot, lv_has ls 7 [(0, .ref b), (1, .ref (ad 0)), (2, .ref (bd 0)), (3, .ref o), (4, .int (nI i))] → W p l e room_1 s m #[Value.ref b] below meth c H locs (cells + 1) (slots + 6) Q (F0 m 2182 ls []))
    (H : Heap) (locs : List Loc) (w : lW D ca cb co ad bd o st sm f H) (hS : va_S (lA s) s.heap H locs) (ls : Array Slot) (hl : lv_has ls 7 [(0, .ref b), (1, .ref (ad 0)), (2, .ref (bd 0)), (3, .ref o), (4, .int (nI i))]) : W p l e room_1 s m #[Value.ref b] below meth c H locs cells slots Q (F0 m 412 ls []) := by
  obtain ⟨hx, hb, hr, hml, hown, hts0, hX, hbl, hlocks, hgv⟩ := C0
  have hts : ∀ w ∈ tG, w.before #[Value.ref b] s = true := fun w hw => hts0 w (List.mem_filter.mp hw).1
  have hown : s.vm.findClass "MuseumHouseLaw" = some m.cls := hown
  have hs0 : slots + 6 + 0 ≤ 11746 := hs
  refine lv_aload_n hx hb d_Lw_law_412 rfl (lv_at hl 1 rfl) ?_
  refine lv_aload_n hx hb d_Lw_law_413 rfl (lv_at hl 0 rfl) ?_
  refine lv_iload hx hb d_Lw_law_414 (lv_at hl 4 rfl) ?_
  refine lv_iconst (v := 1) hx hb d_Lw_law_416 (by decide) ?_
  refine lv_iadd hx hb d_Lw_law_417 ?_
  refine l_sld hx hb hX hbl hS (k := 1) rfl (by omega) hL d_Lw_law_418 ?_
  refine lv_aload_n hx hb d_Lw_law_419 rfl (lv_at hl 0 rfl) ?_
  refine lv_iload hx hb d_Lw_law_420 (lv_at hl 4 rfl) ?_
  refine lv_iconst (v := 2) hx hb d_Lw_law_422 (by decide) ?_
  refine lv_iadd hx hb d_Lw_law_423 ?_
  refine l_sld hx hb hX hbl hS (k := 2) rfl (by omega) hL d_Lw_law_424 ?_
  refine lv_aload_n hx hb d_Lw_law_425 rfl (lv_at hl 0 rfl) ?_
  refine lv_iload hx hb d_Lw_law_426 (lv_at hl 4 rfl) ?_
  refine lv_iconst (v := 3) hx hb d_Lw_law_428 (by decide) ?_
  refine lv_iadd hx hb d_Lw_law_429 ?_
  refine l_sld hx hb hX hbl hS (k := 3) rfl (by omega) hL d_Lw_law_430 ?_
  refine lv_aload_n hx hb d_Lw_law_431 rfl (lv_at hl 3 rfl) ?_
  refine lWrap G w hS (va_runSW (n := 5) (As := [.ref (ad 0), .int (xs (i + 1)), .int (xs (i + 2)), .int (xs (i + 3)), .ref o]) (rest := []) ⟨hx, hb, hml, hown, hts⟩ (w_above l htl D ca co ad o st f _ (xs (i + 1)) (xs (i + 2)) (xs (i + 3)) r st' h1 hk) rfl rfl ⟨Nat.le_of_ble_eq_true rfl, Nat.le_of_ble_eq_true rfl⟩ wd_2_214 wd_1_0 wd_2_212 wd_2_213 (by decide +kernel) (G.preW w hS) rfl rfl hl.1 rfl (lv_room (Nat.le_of_ble_eq_true rfl)) d_Lw_law_432 ⟨Nat.le_trans (Nat.add_le_add_left (xc_le _) _) hc, Nat.le_trans (Nat.add_le_add_left (xs_le _) _) hs⟩) (fun H locs w hS => ?_)
  refine W.widen (k := cells + 1) (n := slots + 6) (Nat.add_le_add_left (xc_le _) _) (Nat.add_le_add_left (xs_le _) _) ?_
  refine lv_istore (lv' := [(5, .int (wk [1, 2, 3] r)), (0, .ref b), (1, .ref (ad 0)), (2, .ref (bd 0)), (3, .ref o), (4, .int (nI i))]) hx hb d_Lw_law_435 hl (by decide) rfl (fun ls hl => ?_)
  refine lv_aload_n hx hb d_Lw_law_437 rfl (lv_at hl 3 rfl) ?_
  refine lv_aload_n hx hb d_Lw_law_438 rfl (lv_at hl 1 rfl) ?_
  refine lv_iload hx hb d_Lw_law_439 (lv_at hl 5 rfl) ?_
  refine lv_iconst (v := 1) hx hb d_Lw_law_441 (by decide) ?_
  refine lv_iadd hx hb d_Lw_law_442 ?_
  refine l_sld hx hb hX hbl hS (k := 1) rfl (by omega) hL d_Lw_law_443 ?_
  refine lv_aload_n hx hb d_Lw_law_444 rfl (lv_at hl 1 rfl) ?_
  refine lv_iload hx hb d_Lw_law_445 (lv_at hl 5 rfl) ?_
  refine lv_iconst (v := 2) hx hb d_Lw_law_447 (by decide) ?_
  refine lv_iadd hx hb d_Lw_law_448 ?_
  refine l_sld hx hb hX hbl hS (k := 2) rfl (by omega) hL d_Lw_law_449 ?_
  refine lv_aload_n hx hb d_Lw_law_450 rfl (lv_at hl 1 rfl) ?_
  refine lv_iload hx hb d_Lw_law_451 (lv_at hl 5 rfl) ?_
  refine lv_iconst (v := 3) hx hb d_Lw_law_453 (by decide) ?_
  refine lv_iadd hx hb d_Lw_law_454 ?_
  refine l_sld hx hb hX hbl hS (k := 3) rfl (by omega) hL d_Lw_law_455 ?_
  refine lModI G w hS (va_runV (As := [.int (xs (i + 1)), .int (xs (i + 2)), .int (xs (i + 3))]) (rest := []) ⟨hx, hb, hml, hown, hts⟩ (MetX.met (c_Md_above l htl D cb bd sm _ (xs (i + 1)) (xs (i + 2)) (xs (i + 3)) bv sm' h2) (fun _ _ _ _ q => ⟨_, q.1⟩)) (xCW (C := "MuseumHouseModel") 3 hts wd_5_114 wd_1_13 wd_5_111 wd_5_112 wd_5_113 (by decide +kernel) ⟨Nat.le_of_ble_eq_true rfl, Nat.le_of_ble_eq_true rfl⟩) (G.2.1.preV w.2.1 hS 0 rfl rfl) rfl rfl hl.1 rfl (lv_room (Nat.le_of_ble_eq_true rfl)) d_Lw_law_456 ⟨hc, hs0⟩) (fun H locs w hS => ?_)
  refine lv_istore (lv' := [(6, .int bv), (5, .int (wk [1, 2, 3] r)), (0, .ref b), (1, .ref (ad 0)), (2, .ref (bd 0)), (3, .ref o), (4, .int (nI i))]) hx hb d_Lw_law_459 hl (by decide) rfl (fun ls hl => ?_)
  refine lv_aload_n hx hb d_Lw_law_461 rfl (lv_at hl 4 rfl) ?_
  refine pu_callR (va_runV (As := []) (rest := []) ⟨hx, hb, hml, hown, hts⟩ (c_Md_thrown l D cb bd sm' _ (sm'.1 0) rfl) (xCW (C := "MuseumHouseModel") 0 hts wd_5_68 wd_1_13 wd_5_65 wd_5_66 wd_5_67 (by decide +kernel) ⟨Nat.le_of_ble_eq_true rfl, Nat.le_of_ble_eq_true rfl⟩) (G.2.1.preV w.2.1 hS 0 rfl rfl) rfl rfl hl.1 rfl (lv_room (Nat.le_of_ble_eq_true rfl)) d_Lw_law_462 ⟨hc, hs0⟩) ?_
  refine lv_iload hx hb d_Lw_law_465 (lv_at hl 1 rfl) ?_
  refine lv_icmp_eq (tgt := 472) hx hb d_Lw_law_467 (by decide) (fun _ => ?_) (fun cn => absurd h3 cn)
  refine lv_iload hx hb d_Lw_law_472 (lv_at hl 1 rfl) ?_
  cases r with
  | inr k =>
    refine lv_if_ne (tgt := 496) hx hb d_Lw_law_474 (by decide) (fun _ => ?_) (fun cn => absurd cn (wk_ne _ k (by decide)))
    refine lv_goto (tgt := 2182) hx hb d_Lw_law_496 (by decide) ?_
    exact kk _ _ w hS ls (lv_sub hl [2, 3, 4, 5, 6] rfl)
  | inl v =>
    have h4 := h4 v rfl
    subst h4
    refine lv_if_ne (tgt := 496) hx hb d_Lw_law_474 (by decide) (fun cn => absurd rfl cn) (fun _ => ?_)
    refine lv_aload_n hx hb d_Lw_law_477 rfl (lv_at hl 5 rfl) ?_
    refine lv_iconst (v := 0) hx hb d_Lw_law_478 (by decide) ?_
    refine va_lald hx hb G.2.2.1 w.2.2 0 0 rfl rfl w_in0 d_Lw_law_479 ?_
    refine lv_iload hx hb d_Lw_law_480 (lv_at hl 0 rfl) ?_
    refine lv_if_eq (tgt := 489) hx hb d_Lw_law_482 (by decide) (fun cz => ?_) (fun cz => ?_)
    · refine lv_lconst (v := 0) hx hb d_Lw_law_489 (by decide) ?_
      refine W.lcmp hx hb d_Lw_law_490 ?_
      refine lv_if_eq (tgt := 496) hx hb d_Lw_law_491 (by decide) (fun _ => ?_) (fun cn => absurd (by show lg_cmp (vp_updL f _ (if v = 0 then 0 else 1) _) 0 = 0; rw [updL_self, if_pos cz]; exact lg_cmp_self _) cn)
      refine lv_goto (tgt := 2182) hx hb d_Lw_law_496 (by decide) ?_
      exact kk _ _ w hS ls (lv_sub hl [2, 3, 4, 5, 6] rfl)
    · refine lv_lconst (v := 1) hx hb d_Lw_law_485 (by decide) ?_
      refine lv_goto (tgt := 490) hx hb d_Lw_law_486 (by decide) ?_
      refine W.lcmp hx hb d_Lw_law_490 ?_
      refine lv_if_eq (tgt := 496) hx hb d_Lw_law_491 (by decide) (fun _ => ?_) (fun cn => absurd (by show lg_cmp (vp_updL f _ (if v = 0 then 0 else 1) _) 1 = 0; rw [updL_self, if_neg cz]; exact lg_cmp_self _) cn)
      refine lv_goto (tgt := 2182) hx hb d_Lw_law_496 (by decide) ?_
      exact kk _ _ w hS ls (lv_sub hl [2, 3, 4, 5, 6] rfl)
set_option maxHeartbeats 4000000 in
set_option maxRecDepth 100000 in
theorem s_span {l : Launch} (htl : l.stackTraces = false) {p : Program} {e : Env} {s : State} {m : MethodId} {below : List Frame} {meth : Method} {c : Code} {b L : Nat} {xs : Nat → Int32} (C0 : lw_At p s m meth c b L xs) {D : va_G} {ca cb : Nat → ClassId} {co : ClassId} {ad bd : Nat → Nat} {o : Nat} (G : lX D ca cb co ad bd o s) {Q : State → Prop} {cells slots : Nat} (hc : cells + 1 ≤ 1089) (hs : slots + 6 ≤ 11746) (hL : L ≤ 2560) {i : Nat} (hi : i + 5 ≤ L) {st st' sm sm' : pu_St} {f : Nat → Int64} {r : Int32 ⊕ Nat} {bv : Int32} (h1 : f_H_span st (xs (i + 1)) (xs (i + 2)) (xs (i + 3)) (xs (i + 4)) = some (r, st')) (hk : ∀ k, r = .inr k → k ∈ [1, 2, 3]) (h2 : f_Md_span sm (xs (i + 1)) (xs (i + 2)) (xs (i + 3)) (xs (i + 4)) = some (bv, sm')) (h3 : sm'.1 0 = wk [1, 2, 3] r) (h4 : ∀ v, r = .inl v → v = bv)
    (kk : ∀ (H : Heap) (locs : List Loc), lW D ca cb co ad bd o st' sm' (wfI f r) H → va_S (lA s) s.heap H locs → ∀ ls : Array Slot, lv_has ls 7 [(0, .ref b), (1, .ref (ad 0)), (2, .ref (bd 0)), (3, .ref o), (4, .int (nI i))] → W p l e room_1 s m #[Value.ref b] below meth c H locs (cells + 1) (slots + 6) Q (F0 m 2182 ls []))
    (H : Heap) (locs : List Loc) (w : lW D ca cb co ad bd o st sm f H) (hS : va_S (lA s) s.heap H locs) (ls : Array Slot) (hl : lv_has ls 7 [(0, .ref b), (1, .ref (ad 0)), (2, .ref (bd 0)), (3, .ref o), (4, .int (nI i))]) : W p l e room_1 s m #[Value.ref b] below meth c H locs cells slots Q (F0 m 499 ls []) := by
  obtain ⟨hx, hb, hr, hml, hown, hts0, hX, hbl, hlocks, hgv⟩ := C0
  have hts : ∀ w ∈ tG, w.before #[Value.ref b] s = true := fun w hw => hts0 w (List.mem_filter.mp hw).1
  have hown : s.vm.findClass "MuseumHouseLaw" = some m.cls := hown
  have hs0 : slots + 6 + 0 ≤ 11746 := hs
  refine lv_aload_n hx hb d_Lw_law_499 rfl (lv_at hl 1 rfl) ?_
  refine lv_aload_n hx hb d_Lw_law_500 rfl (lv_at hl 0 rfl) ?_
  refine lv_iload hx hb d_Lw_law_501 (lv_at hl 4 rfl) ?_
  refine lv_iconst (v := 1) hx hb d_Lw_law_503 (by decide) ?_
  refine lv_iadd hx hb d_Lw_law_504 ?_
  refine l_sld hx hb hX hbl hS (k := 1) rfl (by omega) hL d_Lw_law_505 ?_
  refine lv_aload_n hx hb d_Lw_law_506 rfl (lv_at hl 0 rfl) ?_
  refine lv_iload hx hb d_Lw_law_507 (lv_at hl 4 rfl) ?_
  refine lv_iconst (v := 2) hx hb d_Lw_law_509 (by decide) ?_
  refine lv_iadd hx hb d_Lw_law_510 ?_
  refine l_sld hx hb hX hbl hS (k := 2) rfl (by omega) hL d_Lw_law_511 ?_
  refine lv_aload_n hx hb d_Lw_law_512 rfl (lv_at hl 0 rfl) ?_
  refine lv_iload hx hb d_Lw_law_513 (lv_at hl 4 rfl) ?_
  refine lv_iconst (v := 3) hx hb d_Lw_law_515 (by decide) ?_
  refine lv_iadd hx hb d_Lw_law_516 ?_
  refine l_sld hx hb hX hbl hS (k := 3) rfl (by omega) hL d_Lw_law_517 ?_
  refine lv_aload_n hx hb d_Lw_law_518 rfl (lv_at hl 0 rfl) ?_
  refine lv_iload hx hb d_Lw_law_519 (lv_at hl 4 rfl) ?_
  refine lv_iconst (v := 4) hx hb d_Lw_law_521 (by decide) ?_
  refine lv_iadd hx hb d_Lw_law_522 ?_
  refine l_sld hx hb hX hbl hS (k := 4) rfl (by omega) hL d_Lw_law_523 ?_
  refine lv_aload_n hx hb d_Lw_law_524 rfl (lv_at hl 3 rfl) ?_
  refine lWrap G w hS (va_runSW (n := 6) (As := [.ref (ad 0), .int (xs (i + 1)), .int (xs (i + 2)), .int (xs (i + 3)), .int (xs (i + 4)), .ref o]) (rest := []) ⟨hx, hb, hml, hown, hts⟩ (w_span l htl D ca co ad o st f _ (xs (i + 1)) (xs (i + 2)) (xs (i + 3)) (xs (i + 4)) r st' h1 hk) rfl rfl ⟨Nat.le_of_ble_eq_true rfl, Nat.le_of_ble_eq_true rfl⟩ wd_3_26 wd_1_0 wd_3_24 wd_3_25 (by decide +kernel) (G.preW w hS) rfl rfl hl.1 rfl (lv_room (Nat.le_of_ble_eq_true rfl)) d_Lw_law_525 ⟨Nat.le_trans (Nat.add_le_add_left (xc_le _) _) hc, Nat.le_trans (Nat.add_le_add_left (xs_le _) _) hs⟩) (fun H locs w hS => ?_)
  refine W.widen (k := cells + 1) (n := slots + 6) (Nat.add_le_add_left (xc_le _) _) (Nat.add_le_add_left (xs_le _) _) ?_
  refine lv_istore (lv' := [(5, .int (wk [1, 2, 3] r)), (0, .ref b), (1, .ref (ad 0)), (2, .ref (bd 0)), (3, .ref o), (4, .int (nI i))]) hx hb d_Lw_law_528 hl (by decide) rfl (fun ls hl => ?_)
  refine lv_aload_n hx hb d_Lw_law_530 rfl (lv_at hl 3 rfl) ?_
  refine lv_aload_n hx hb d_Lw_law_531 rfl (lv_at hl 1 rfl) ?_
  refine lv_iload hx hb d_Lw_law_532 (lv_at hl 5 rfl) ?_
  refine lv_iconst (v := 1) hx hb d_Lw_law_534 (by decide) ?_
  refine lv_iadd hx hb d_Lw_law_535 ?_
  refine l_sld hx hb hX hbl hS (k := 1) rfl (by omega) hL d_Lw_law_536 ?_
  refine lv_aload_n hx hb d_Lw_law_537 rfl (lv_at hl 1 rfl) ?_
  refine lv_iload hx hb d_Lw_law_538 (lv_at hl 5 rfl) ?_
  refine lv_iconst (v := 2) hx hb d_Lw_law_540 (by decide) ?_
  refine lv_iadd hx hb d_Lw_law_541 ?_
  refine l_sld hx hb hX hbl hS (k := 2) rfl (by omega) hL d_Lw_law_542 ?_
  refine lv_aload_n hx hb d_Lw_law_543 rfl (lv_at hl 1 rfl) ?_
  refine lv_iload hx hb d_Lw_law_544 (lv_at hl 5 rfl) ?_
  refine lv_iconst (v := 3) hx hb d_Lw_law_546 (by decide) ?_
  refine lv_iadd hx hb d_Lw_law_547 ?_
  refine l_sld hx hb hX hbl hS (k := 3) rfl (by omega) hL d_Lw_law_548 ?_
  refine lv_aload_n hx hb d_Lw_law_549 rfl (lv_at hl 1 rfl) ?_
  refine lv_iload hx hb d_Lw_law_550 (lv_at hl 5 rfl) ?_
  refine lv_iconst (v := 4) hx hb d_Lw_law_552 (by decide) ?_
  refine lv_iadd hx hb d_Lw_law_553 ?_
  refine l_sld hx hb hX hbl hS (k := 4) rfl (by omega) hL d_Lw_law_554 ?_
  refine lModI G w hS (va_runV (As := [.int (xs (i + 1)), .int (xs (i + 2)), .int (xs (i + 3)), .int (xs (i + 4))]) (rest := []) ⟨hx, hb, hml, hown, hts⟩ (MetX.met (c_Md_span l htl D cb bd sm _ (xs (i + 1)) (xs (i + 2)) (xs (i + 3)) (xs (i + 4)) bv sm' h2) (fun _ _ _ _ q => ⟨_, q.1⟩)) (xCW (C := "MuseumHouseModel") 4 hts wd_5_134 wd_1_13 wd_5_131 wd_5_132 wd_5_133 (by decide +kernel) ⟨Nat.le_of_ble_eq_true rfl, Nat.le_of_ble_eq_true rfl⟩) (G.2.1.preV w.2.1 hS 0 rfl rfl) rfl rfl hl.1 rfl (lv_room (Nat.le_of_ble_eq_true rfl)) d_Lw_law_555 ⟨hc, hs0⟩) (fun H locs w hS => ?_)
  refine lv_istore (lv' := [(6, .int bv), (5, .int (wk [1, 2, 3] r)), (0, .ref b), (1, .ref (ad 0)), (2, .ref (bd 0)), (3, .ref o), (4, .int (nI i))]) hx hb d_Lw_law_558 hl (by decide) rfl (fun ls hl => ?_)
  refine lv_aload_n hx hb d_Lw_law_560 rfl (lv_at hl 4 rfl) ?_
  refine pu_callR (va_runV (As := []) (rest := []) ⟨hx, hb, hml, hown, hts⟩ (c_Md_thrown l D cb bd sm' _ (sm'.1 0) rfl) (xCW (C := "MuseumHouseModel") 0 hts wd_5_68 wd_1_13 wd_5_65 wd_5_66 wd_5_67 (by decide +kernel) ⟨Nat.le_of_ble_eq_true rfl, Nat.le_of_ble_eq_true rfl⟩) (G.2.1.preV w.2.1 hS 0 rfl rfl) rfl rfl hl.1 rfl (lv_room (Nat.le_of_ble_eq_true rfl)) d_Lw_law_561 ⟨hc, hs0⟩) ?_
  refine lv_iload hx hb d_Lw_law_564 (lv_at hl 1 rfl) ?_
  refine lv_icmp_eq (tgt := 571) hx hb d_Lw_law_566 (by decide) (fun _ => ?_) (fun cn => absurd h3 cn)
  refine lv_iload hx hb d_Lw_law_571 (lv_at hl 1 rfl) ?_
  cases r with
  | inr k =>
    refine lv_if_ne (tgt := 588) hx hb d_Lw_law_573 (by decide) (fun _ => ?_) (fun cn => absurd cn (wk_ne _ k (by decide)))
    refine lv_goto (tgt := 2182) hx hb d_Lw_law_588 (by decide) ?_
    exact kk _ _ w hS ls (lv_sub hl [2, 3, 4, 5, 6] rfl)
  | inl v =>
    have h4 := h4 v rfl
    subst h4
    refine lv_if_ne (tgt := 588) hx hb d_Lw_law_573 (by decide) (fun cn => absurd rfl cn) (fun _ => ?_)
    refine lv_aload_n hx hb d_Lw_law_576 rfl (lv_at hl 5 rfl) ?_
    refine lv_iconst (v := 0) hx hb d_Lw_law_577 (by decide) ?_
    refine va_lald hx hb G.2.2.1 w.2.2 0 0 rfl rfl w_in0 d_Lw_law_578 ?_
    refine lv_iload hx hb d_Lw_law_579 (lv_at hl 0 rfl) ?_
    refine lv_i2l hx hb d_Lw_law_581 rfl ?_
    refine W.lcmp hx hb d_Lw_law_582 ?_
    refine lv_if_eq (tgt := 588) hx hb d_Lw_law_583 (by decide) (fun _ => ?_) (fun cn => absurd (by show lg_cmp (vp_updL f _ v.toInt64 _) v.toInt64 = 0; rw [updL_self]; exact lg_cmp_self _) cn)
    refine lv_goto (tgt := 2182) hx hb d_Lw_law_588 (by decide) ?_
    exact kk _ _ w hS ls (lv_sub hl [2, 3, 4, 5, 6] rfl)
set_option maxHeartbeats 4000000 in
set_option maxRecDepth 100000 in
theorem s_isAbove {l : Launch} (htl : l.stackTraces = false) {p : Program} {e : Env} {s : State} {m : MethodId} {below : List Frame} {meth : Method} {c : Code} {b L : Nat} {xs : Nat → Int32} (C0 : lw_At p s m meth c b L xs) {D : va_G} {ca cb : Nat → ClassId} {co : ClassId} {ad bd : Nat → Nat} {o : Nat} (G : lX D ca cb co ad bd o s) {Q : State → Prop} {cells slots : Nat} (hc : cells + 1 ≤ 1089) (hs : slots + 6 ≤ 11746) (hL : L ≤ 2560) {i : Nat} (hi : i + 5 ≤ L) {st st' sm sm' : pu_St} {f : Nat → Int64} {r : Int32 ⊕ Nat} {bv : Int32} (h1 : f_H_isAbove st (xs (i + 1)) (xs (i + 2)) = some (r, st')) (hk : ∀ k, r = .inr k → k ∈ [1]) (h2 : f_Md_isAbove sm (xs (i + 1)) (xs (i + 2)) = some (bv, sm')) (h3 : sm'.1 0 = wk [1] r) (h4 : ∀ v, r = .inl v → v = bv)
    (kk : ∀ (H : Heap) (locs : List Loc), lW D ca cb co ad bd o st' sm' (wfZ f r) H → va_S (lA s) s.heap H locs → ∀ ls : Array Slot, lv_has ls 7 [(0, .ref b), (1, .ref (ad 0)), (2, .ref (bd 0)), (3, .ref o), (4, .int (nI i))] → W p l e room_1 s m #[Value.ref b] below meth c H locs (cells + 1) (slots + 6) Q (F0 m 2182 ls []))
    (H : Heap) (locs : List Loc) (w : lW D ca cb co ad bd o st sm f H) (hS : va_S (lA s) s.heap H locs) (ls : Array Slot) (hl : lv_has ls 7 [(0, .ref b), (1, .ref (ad 0)), (2, .ref (bd 0)), (3, .ref o), (4, .int (nI i))]) : W p l e room_1 s m #[Value.ref b] below meth c H locs cells slots Q (F0 m 591 ls []) := by
  obtain ⟨hx, hb, hr, hml, hown, hts0, hX, hbl, hlocks, hgv⟩ := C0
  have hts : ∀ w ∈ tG, w.before #[Value.ref b] s = true := fun w hw => hts0 w (List.mem_filter.mp hw).1
  have hown : s.vm.findClass "MuseumHouseLaw" = some m.cls := hown
  have hs0 : slots + 6 + 0 ≤ 11746 := hs
  refine lv_aload_n hx hb d_Lw_law_591 rfl (lv_at hl 1 rfl) ?_
  refine lv_aload_n hx hb d_Lw_law_592 rfl (lv_at hl 0 rfl) ?_
  refine lv_iload hx hb d_Lw_law_593 (lv_at hl 4 rfl) ?_
  refine lv_iconst (v := 1) hx hb d_Lw_law_595 (by decide) ?_
  refine lv_iadd hx hb d_Lw_law_596 ?_
  refine l_sld hx hb hX hbl hS (k := 1) rfl (by omega) hL d_Lw_law_597 ?_
  refine lv_aload_n hx hb d_Lw_law_598 rfl (lv_at hl 0 rfl) ?_
  refine lv_iload hx hb d_Lw_law_599 (lv_at hl 4 rfl) ?_
  refine lv_iconst (v := 2) hx hb d_Lw_law_601 (by decide) ?_
  refine lv_iadd hx hb d_Lw_law_602 ?_
  refine l_sld hx hb hX hbl hS (k := 2) rfl (by omega) hL d_Lw_law_603 ?_
  refine lv_aload_n hx hb d_Lw_law_604 rfl (lv_at hl 3 rfl) ?_
  refine lWrap G w hS (va_runSW (n := 4) (As := [.ref (ad 0), .int (xs (i + 1)), .int (xs (i + 2)), .ref o]) (rest := []) ⟨hx, hb, hml, hown, hts⟩ (w_isAbove l htl D ca co ad o st f _ (xs (i + 1)) (xs (i + 2)) r st' h1 hk) rfl rfl ⟨Nat.le_of_ble_eq_true rfl, Nat.le_of_ble_eq_true rfl⟩ wd_3_42 wd_1_0 wd_3_40 wd_3_41 (by decide +kernel) (G.preW w hS) rfl rfl hl.1 rfl (lv_room (Nat.le_of_ble_eq_true rfl)) d_Lw_law_605 ⟨Nat.le_trans (Nat.add_le_add_left (xc_le _) _) hc, Nat.le_trans (Nat.add_le_add_left (xs_le _) _) hs⟩) (fun H locs w hS => ?_)
  refine W.widen (k := cells + 1) (n := slots + 6) (Nat.add_le_add_left (xc_le _) _) (Nat.add_le_add_left (xs_le _) _) ?_
  refine lv_istore (lv' := [(5, .int (wk [1] r)), (0, .ref b), (1, .ref (ad 0)), (2, .ref (bd 0)), (3, .ref o), (4, .int (nI i))]) hx hb d_Lw_law_608 hl (by decide) rfl (fun ls hl => ?_)
  refine lv_aload_n hx hb d_Lw_law_610 rfl (lv_at hl 3 rfl) ?_
  refine lv_aload_n hx hb d_Lw_law_611 rfl (lv_at hl 1 rfl) ?_
  refine lv_iload hx hb d_Lw_law_612 (lv_at hl 5 rfl) ?_
  refine lv_iconst (v := 1) hx hb d_Lw_law_614 (by decide) ?_
  refine lv_iadd hx hb d_Lw_law_615 ?_
  refine l_sld hx hb hX hbl hS (k := 1) rfl (by omega) hL d_Lw_law_616 ?_
  refine lv_aload_n hx hb d_Lw_law_617 rfl (lv_at hl 1 rfl) ?_
  refine lv_iload hx hb d_Lw_law_618 (lv_at hl 5 rfl) ?_
  refine lv_iconst (v := 2) hx hb d_Lw_law_620 (by decide) ?_
  refine lv_iadd hx hb d_Lw_law_621 ?_
  refine l_sld hx hb hX hbl hS (k := 2) rfl (by omega) hL d_Lw_law_622 ?_
  refine lModI G w hS (va_runV (As := [.int (xs (i + 1)), .int (xs (i + 2))]) (rest := []) ⟨hx, hb, hml, hown, hts⟩ (MetX.met (c_Md_isAbove l htl D cb bd sm _ (xs (i + 1)) (xs (i + 2)) bv sm' h2) (fun _ _ _ _ q => ⟨_, q.1⟩)) (xCW (C := "MuseumHouseModel") 2 hts wd_5_138 wd_1_13 wd_5_135 wd_5_136 wd_5_137 (by decide +kernel) ⟨Nat.le_of_ble_eq_true rfl, Nat.le_of_ble_eq_true rfl⟩) (G.2.1.preV w.2.1 hS 0 rfl rfl) rfl rfl hl.1 rfl (lv_room (Nat.le_of_ble_eq_true rfl)) d_Lw_law_623 ⟨hc, hs0⟩) (fun H locs w hS => ?_)
  refine lv_istore (lv' := [(6, .int bv), (5, .int (wk [1] r)), (0, .ref b), (1, .ref (ad 0)), (2, .ref (bd 0)), (3, .ref o), (4, .int (nI i))]) hx hb d_Lw_law_626 hl (by decide) rfl (fun ls hl => ?_)
  refine lv_aload_n hx hb d_Lw_law_628 rfl (lv_at hl 4 rfl) ?_
  refine pu_callR (va_runV (As := []) (rest := []) ⟨hx, hb, hml, hown, hts⟩ (c_Md_thrown l D cb bd sm' _ (sm'.1 0) rfl) (xCW (C := "MuseumHouseModel") 0 hts wd_5_68 wd_1_13 wd_5_65 wd_5_66 wd_5_67 (by decide +kernel) ⟨Nat.le_of_ble_eq_true rfl, Nat.le_of_ble_eq_true rfl⟩) (G.2.1.preV w.2.1 hS 0 rfl rfl) rfl rfl hl.1 rfl (lv_room (Nat.le_of_ble_eq_true rfl)) d_Lw_law_629 ⟨hc, hs0⟩) ?_
  refine lv_iload hx hb d_Lw_law_632 (lv_at hl 1 rfl) ?_
  refine lv_icmp_eq (tgt := 639) hx hb d_Lw_law_634 (by decide) (fun _ => ?_) (fun cn => absurd h3 cn)
  refine lv_iload hx hb d_Lw_law_639 (lv_at hl 1 rfl) ?_
  cases r with
  | inr k =>
    refine lv_if_ne (tgt := 663) hx hb d_Lw_law_641 (by decide) (fun _ => ?_) (fun cn => absurd cn (wk_ne _ k (by decide)))
    refine lv_goto (tgt := 2182) hx hb d_Lw_law_663 (by decide) ?_
    exact kk _ _ w hS ls (lv_sub hl [2, 3, 4, 5, 6] rfl)
  | inl v =>
    have h4 := h4 v rfl
    subst h4
    refine lv_if_ne (tgt := 663) hx hb d_Lw_law_641 (by decide) (fun cn => absurd rfl cn) (fun _ => ?_)
    refine lv_aload_n hx hb d_Lw_law_644 rfl (lv_at hl 5 rfl) ?_
    refine lv_iconst (v := 0) hx hb d_Lw_law_645 (by decide) ?_
    refine va_lald hx hb G.2.2.1 w.2.2 0 0 rfl rfl w_in0 d_Lw_law_646 ?_
    refine lv_iload hx hb d_Lw_law_647 (lv_at hl 0 rfl) ?_
    refine lv_if_eq (tgt := 656) hx hb d_Lw_law_649 (by decide) (fun cz => ?_) (fun cz => ?_)
    · refine lv_lconst (v := 0) hx hb d_Lw_law_656 (by decide) ?_
      refine W.lcmp hx hb d_Lw_law_657 ?_
      refine lv_if_eq (tgt := 663) hx hb d_Lw_law_658 (by decide) (fun _ => ?_) (fun cn => absurd (by show lg_cmp (vp_updL f _ (if v = 0 then 0 else 1) _) 0 = 0; rw [updL_self, if_pos cz]; exact lg_cmp_self _) cn)
      refine lv_goto (tgt := 2182) hx hb d_Lw_law_663 (by decide) ?_
      exact kk _ _ w hS ls (lv_sub hl [2, 3, 4, 5, 6] rfl)
    · refine lv_lconst (v := 1) hx hb d_Lw_law_652 (by decide) ?_
      refine lv_goto (tgt := 657) hx hb d_Lw_law_653 (by decide) ?_
      refine W.lcmp hx hb d_Lw_law_657 ?_
      refine lv_if_eq (tgt := 663) hx hb d_Lw_law_658 (by decide) (fun _ => ?_) (fun cn => absurd (by show lg_cmp (vp_updL f _ (if v = 0 then 0 else 1) _) 1 = 0; rw [updL_self, if_neg cz]; exact lg_cmp_self _) cn)
      refine lv_goto (tgt := 2182) hx hb d_Lw_law_663 (by decide) ?_
      exact kk _ _ w hS ls (lv_sub hl [2, 3, 4, 5, 6] rfl)
set_option maxHeartbeats 4000000 in
set_option maxRecDepth 100000 in
theorem s_year {l : Launch} (htl : l.stackTraces = false) {p : Program} {e : Env} {s : State} {m : MethodId} {below : List Frame} {meth : Method} {c : Code} {b L : Nat} {xs : Nat → Int32} (C0 : lw_At p s m meth c b L xs) {D : va_G} {ca cb : Nat → ClassId} {co : ClassId} {ad bd : Nat → Nat} {o : Nat} (G : lX D ca cb co ad bd o s) {Q : State → Prop} {cells slots : Nat} (hc : cells + 1 ≤ 1089) (hs : slots + 6 ≤ 11746) (hL : L ≤ 2560) {i : Nat} (hi : i + 5 ≤ L) {st st' sm sm' : pu_St} {f : Nat → Int64} {r : Int32 ⊕ Nat} {bv : Int32} (h1 : f_H_year st (xs (i + 1)) (xs (i + 2)) = some (r, st')) (hk : ∀ k, r = .inr k → k ∈ [1, 3]) (h2 : f_Md_year sm (xs (i + 1)) (xs (i + 2)) = some (bv, sm')) (h3 : sm'.1 0 = wk [1, 3] r) (h4 : ∀ v, r = .inl v → v = bv)
    (kk : ∀ (H : Heap) (locs : List Loc), lW D ca cb co ad bd o st' sm' (wfI f r) H → va_S (lA s) s.heap H locs → ∀ ls : Array Slot, lv_has ls 7 [(0, .ref b), (1, .ref (ad 0)), (2, .ref (bd 0)), (3, .ref o), (4, .int (nI i))] → W p l e room_1 s m #[Value.ref b] below meth c H locs (cells + 1) (slots + 6) Q (F0 m 2182 ls []))
    (H : Heap) (locs : List Loc) (w : lW D ca cb co ad bd o st sm f H) (hS : va_S (lA s) s.heap H locs) (ls : Array Slot) (hl : lv_has ls 7 [(0, .ref b), (1, .ref (ad 0)), (2, .ref (bd 0)), (3, .ref o), (4, .int (nI i))]) : W p l e room_1 s m #[Value.ref b] below meth c H locs cells slots Q (F0 m 666 ls []) := by
  obtain ⟨hx, hb, hr, hml, hown, hts0, hX, hbl, hlocks, hgv⟩ := C0
  have hts : ∀ w ∈ tG, w.before #[Value.ref b] s = true := fun w hw => hts0 w (List.mem_filter.mp hw).1
  have hown : s.vm.findClass "MuseumHouseLaw" = some m.cls := hown
  have hs0 : slots + 6 + 0 ≤ 11746 := hs
  refine lv_aload_n hx hb d_Lw_law_666 rfl (lv_at hl 1 rfl) ?_
  refine lv_aload_n hx hb d_Lw_law_667 rfl (lv_at hl 0 rfl) ?_
  refine lv_iload hx hb d_Lw_law_668 (lv_at hl 4 rfl) ?_
  refine lv_iconst (v := 1) hx hb d_Lw_law_670 (by decide) ?_
  refine lv_iadd hx hb d_Lw_law_671 ?_
  refine l_sld hx hb hX hbl hS (k := 1) rfl (by omega) hL d_Lw_law_672 ?_
  refine lv_aload_n hx hb d_Lw_law_673 rfl (lv_at hl 0 rfl) ?_
  refine lv_iload hx hb d_Lw_law_674 (lv_at hl 4 rfl) ?_
  refine lv_iconst (v := 2) hx hb d_Lw_law_676 (by decide) ?_
  refine lv_iadd hx hb d_Lw_law_677 ?_
  refine l_sld hx hb hX hbl hS (k := 2) rfl (by omega) hL d_Lw_law_678 ?_
  refine lv_aload_n hx hb d_Lw_law_679 rfl (lv_at hl 3 rfl) ?_
  refine lWrap G w hS (va_runSW (n := 4) (As := [.ref (ad 0), .int (xs (i + 1)), .int (xs (i + 2)), .ref o]) (rest := []) ⟨hx, hb, hml, hown, hts⟩ (w_year l htl D ca co ad o st f _ (xs (i + 1)) (xs (i + 2)) r st' h1 hk) rfl rfl ⟨Nat.le_of_ble_eq_true rfl, Nat.le_of_ble_eq_true rfl⟩ wd_3_49 wd_1_0 wd_3_47 wd_3_48 (by decide +kernel) (G.preW w hS) rfl rfl hl.1 rfl (lv_room (Nat.le_of_ble_eq_true rfl)) d_Lw_law_680 ⟨Nat.le_trans (Nat.add_le_add_left (xc_le _) _) hc, Nat.le_trans (Nat.add_le_add_left (xs_le _) _) hs⟩) (fun H locs w hS => ?_)
  refine W.widen (k := cells + 1) (n := slots + 6) (Nat.add_le_add_left (xc_le _) _) (Nat.add_le_add_left (xs_le _) _) ?_
  refine lv_istore (lv' := [(5, .int (wk [1, 3] r)), (0, .ref b), (1, .ref (ad 0)), (2, .ref (bd 0)), (3, .ref o), (4, .int (nI i))]) hx hb d_Lw_law_683 hl (by decide) rfl (fun ls hl => ?_)
  refine lv_aload_n hx hb d_Lw_law_685 rfl (lv_at hl 3 rfl) ?_
  refine lv_aload_n hx hb d_Lw_law_686 rfl (lv_at hl 1 rfl) ?_
  refine lv_iload hx hb d_Lw_law_687 (lv_at hl 5 rfl) ?_
  refine lv_iconst (v := 1) hx hb d_Lw_law_689 (by decide) ?_
  refine lv_iadd hx hb d_Lw_law_690 ?_
  refine l_sld hx hb hX hbl hS (k := 1) rfl (by omega) hL d_Lw_law_691 ?_
  refine lv_aload_n hx hb d_Lw_law_692 rfl (lv_at hl 1 rfl) ?_
  refine lv_iload hx hb d_Lw_law_693 (lv_at hl 5 rfl) ?_
  refine lv_iconst (v := 2) hx hb d_Lw_law_695 (by decide) ?_
  refine lv_iadd hx hb d_Lw_law_696 ?_
  refine l_sld hx hb hX hbl hS (k := 2) rfl (by omega) hL d_Lw_law_697 ?_
  refine lModI G w hS (va_runV (As := [.int (xs (i + 1)), .int (xs (i + 2))]) (rest := []) ⟨hx, hb, hml, hown, hts⟩ (MetX.met (c_Md_year l htl D cb bd sm _ (xs (i + 1)) (xs (i + 2)) bv sm' h2) (fun _ _ _ _ q => ⟨_, q.1⟩)) (xCW (C := "MuseumHouseModel") 2 hts wd_5_142 wd_1_13 wd_5_139 wd_5_140 wd_5_141 (by decide +kernel) ⟨Nat.le_of_ble_eq_true rfl, Nat.le_of_ble_eq_true rfl⟩) (G.2.1.preV w.2.1 hS 0 rfl rfl) rfl rfl hl.1 rfl (lv_room (Nat.le_of_ble_eq_true rfl)) d_Lw_law_698 ⟨hc, hs0⟩) (fun H locs w hS => ?_)
  refine lv_istore (lv' := [(6, .int bv), (5, .int (wk [1, 3] r)), (0, .ref b), (1, .ref (ad 0)), (2, .ref (bd 0)), (3, .ref o), (4, .int (nI i))]) hx hb d_Lw_law_701 hl (by decide) rfl (fun ls hl => ?_)
  refine lv_aload_n hx hb d_Lw_law_703 rfl (lv_at hl 4 rfl) ?_
  refine pu_callR (va_runV (As := []) (rest := []) ⟨hx, hb, hml, hown, hts⟩ (c_Md_thrown l D cb bd sm' _ (sm'.1 0) rfl) (xCW (C := "MuseumHouseModel") 0 hts wd_5_68 wd_1_13 wd_5_65 wd_5_66 wd_5_67 (by decide +kernel) ⟨Nat.le_of_ble_eq_true rfl, Nat.le_of_ble_eq_true rfl⟩) (G.2.1.preV w.2.1 hS 0 rfl rfl) rfl rfl hl.1 rfl (lv_room (Nat.le_of_ble_eq_true rfl)) d_Lw_law_704 ⟨hc, hs0⟩) ?_
  refine lv_iload hx hb d_Lw_law_707 (lv_at hl 1 rfl) ?_
  refine lv_icmp_eq (tgt := 714) hx hb d_Lw_law_709 (by decide) (fun _ => ?_) (fun cn => absurd h3 cn)
  refine lv_iload hx hb d_Lw_law_714 (lv_at hl 1 rfl) ?_
  cases r with
  | inr k =>
    refine lv_if_ne (tgt := 731) hx hb d_Lw_law_716 (by decide) (fun _ => ?_) (fun cn => absurd cn (wk_ne _ k (by decide)))
    refine lv_goto (tgt := 2182) hx hb d_Lw_law_731 (by decide) ?_
    exact kk _ _ w hS ls (lv_sub hl [2, 3, 4, 5, 6] rfl)
  | inl v =>
    have h4 := h4 v rfl
    subst h4
    refine lv_if_ne (tgt := 731) hx hb d_Lw_law_716 (by decide) (fun cn => absurd rfl cn) (fun _ => ?_)
    refine lv_aload_n hx hb d_Lw_law_719 rfl (lv_at hl 5 rfl) ?_
    refine lv_iconst (v := 0) hx hb d_Lw_law_720 (by decide) ?_
    refine va_lald hx hb G.2.2.1 w.2.2 0 0 rfl rfl w_in0 d_Lw_law_721 ?_
    refine lv_iload hx hb d_Lw_law_722 (lv_at hl 0 rfl) ?_
    refine lv_i2l hx hb d_Lw_law_724 rfl ?_
    refine W.lcmp hx hb d_Lw_law_725 ?_
    refine lv_if_eq (tgt := 731) hx hb d_Lw_law_726 (by decide) (fun _ => ?_) (fun cn => absurd (by show lg_cmp (vp_updL f _ v.toInt64 _) v.toInt64 = 0; rw [updL_self]; exact lg_cmp_self _) cn)
    refine lv_goto (tgt := 2182) hx hb d_Lw_law_731 (by decide) ?_
    exact kk _ _ w hS ls (lv_sub hl [2, 3, 4, 5, 6] rfl)
set_option maxHeartbeats 4000000 in
set_option maxRecDepth 100000 in
theorem s_find {l : Launch} (htl : l.stackTraces = false) {p : Program} {e : Env} {s : State} {m : MethodId} {below : List Frame} {meth : Method} {c : Code} {b L : Nat} {xs : Nat → Int32} (C0 : lw_At p s m meth c b L xs) {D : va_G} {ca cb : Nat → ClassId} {co : ClassId} {ad bd : Nat → Nat} {o : Nat} (G : lX D ca cb co ad bd o s) {Q : State → Prop} {cells slots : Nat} (hc : cells + 1 ≤ 1089) (hs : slots + 6 ≤ 11746) (hL : L ≤ 2560) {i : Nat} (hi : i + 5 ≤ L) {st st' sm sm' : pu_St} {f : Nat → Int64} {r : Int32 ⊕ Nat} {bv : Int32} (h1 : f_H_find st (xs (i + 1)) (xs (i + 2)) (xs (i + 3)) = some (r, st')) (hk : ∀ k, r = .inr k → k ∈ [1, 2, 3]) (h2 : f_Md_find sm (xs (i + 1)) (xs (i + 2)) (xs (i + 3)) = some (bv, sm')) (h3 : sm'.1 0 = wk [1, 2, 3] r) (h4 : ∀ v, r = .inl v → v = bv)
    (kk : ∀ (H : Heap) (locs : List Loc), lW D ca cb co ad bd o st' sm' (wfI f r) H → va_S (lA s) s.heap H locs → ∀ ls : Array Slot, lv_has ls 7 [(0, .ref b), (1, .ref (ad 0)), (2, .ref (bd 0)), (3, .ref o), (4, .int (nI i))] → W p l e room_1 s m #[Value.ref b] below meth c H locs (cells + 1) (slots + 6) Q (F0 m 2182 ls []))
    (H : Heap) (locs : List Loc) (w : lW D ca cb co ad bd o st sm f H) (hS : va_S (lA s) s.heap H locs) (ls : Array Slot) (hl : lv_has ls 7 [(0, .ref b), (1, .ref (ad 0)), (2, .ref (bd 0)), (3, .ref o), (4, .int (nI i))]) : W p l e room_1 s m #[Value.ref b] below meth c H locs cells slots Q (F0 m 734 ls []) := by
  obtain ⟨hx, hb, hr, hml, hown, hts0, hX, hbl, hlocks, hgv⟩ := C0
  have hts : ∀ w ∈ tG, w.before #[Value.ref b] s = true := fun w hw => hts0 w (List.mem_filter.mp hw).1
  have hown : s.vm.findClass "MuseumHouseLaw" = some m.cls := hown
  have hs0 : slots + 6 + 0 ≤ 11746 := hs
  refine lv_aload_n hx hb d_Lw_law_734 rfl (lv_at hl 1 rfl) ?_
  refine lv_aload_n hx hb d_Lw_law_735 rfl (lv_at hl 0 rfl) ?_
  refine lv_iload hx hb d_Lw_law_736 (lv_at hl 4 rfl) ?_
  refine lv_iconst (v := 1) hx hb d_Lw_law_738 (by decide) ?_
  refine lv_iadd hx hb d_Lw_law_739 ?_
  refine l_sld hx hb hX hbl hS (k := 1) rfl (by omega) hL d_Lw_law_740 ?_
  refine lv_aload_n hx hb d_Lw_law_741 rfl (lv_at hl 0 rfl) ?_
  refine lv_iload hx hb d_Lw_law_742 (lv_at hl 4 rfl) ?_
  refine lv_iconst (v := 2) hx hb d_Lw_law_744 (by decide) ?_
  refine lv_iadd hx hb d_Lw_law_745 ?_
  refine l_sld hx hb hX hbl hS (k := 2) rfl (by omega) hL d_Lw_law_746 ?_
  refine lv_aload_n hx hb d_Lw_law_747 rfl (lv_at hl 0 rfl) ?_
  refine lv_iload hx hb d_Lw_law_748 (lv_at hl 4 rfl) ?_
  refine lv_iconst (v := 3) hx hb d_Lw_law_750 (by decide) ?_
  refine lv_iadd hx hb d_Lw_law_751 ?_
  refine l_sld hx hb hX hbl hS (k := 3) rfl (by omega) hL d_Lw_law_752 ?_
  refine lv_aload_n hx hb d_Lw_law_753 rfl (lv_at hl 3 rfl) ?_
  refine lWrap G w hS (va_runSW (n := 5) (As := [.ref (ad 0), .int (xs (i + 1)), .int (xs (i + 2)), .int (xs (i + 3)), .ref o]) (rest := []) ⟨hx, hb, hml, hown, hts⟩ (w_find l htl D ca co ad o st f _ (xs (i + 1)) (xs (i + 2)) (xs (i + 3)) r st' h1 hk) rfl rfl ⟨Nat.le_of_ble_eq_true rfl, Nat.le_of_ble_eq_true rfl⟩ wd_3_57 wd_1_0 wd_3_55 wd_3_56 (by decide +kernel) (G.preW w hS) rfl rfl hl.1 rfl (lv_room (Nat.le_of_ble_eq_true rfl)) d_Lw_law_754 ⟨Nat.le_trans (Nat.add_le_add_left (xc_le _) _) hc, Nat.le_trans (Nat.add_le_add_left (xs_le _) _) hs⟩) (fun H locs w hS => ?_)
  refine W.widen (k := cells + 1) (n := slots + 6) (Nat.add_le_add_left (xc_le _) _) (Nat.add_le_add_left (xs_le _) _) ?_
  refine lv_istore (lv' := [(5, .int (wk [1, 2, 3] r)), (0, .ref b), (1, .ref (ad 0)), (2, .ref (bd 0)), (3, .ref o), (4, .int (nI i))]) hx hb d_Lw_law_757 hl (by decide) rfl (fun ls hl => ?_)
  refine lv_aload_n hx hb d_Lw_law_759 rfl (lv_at hl 3 rfl) ?_
  refine lv_aload_n hx hb d_Lw_law_760 rfl (lv_at hl 1 rfl) ?_
  refine lv_iload hx hb d_Lw_law_761 (lv_at hl 5 rfl) ?_
  refine lv_iconst (v := 1) hx hb d_Lw_law_763 (by decide) ?_
  refine lv_iadd hx hb d_Lw_law_764 ?_
  refine l_sld hx hb hX hbl hS (k := 1) rfl (by omega) hL d_Lw_law_765 ?_
  refine lv_aload_n hx hb d_Lw_law_766 rfl (lv_at hl 1 rfl) ?_
  refine lv_iload hx hb d_Lw_law_767 (lv_at hl 5 rfl) ?_
  refine lv_iconst (v := 2) hx hb d_Lw_law_769 (by decide) ?_
  refine lv_iadd hx hb d_Lw_law_770 ?_
  refine l_sld hx hb hX hbl hS (k := 2) rfl (by omega) hL d_Lw_law_771 ?_
  refine lv_aload_n hx hb d_Lw_law_772 rfl (lv_at hl 1 rfl) ?_
  refine lv_iload hx hb d_Lw_law_773 (lv_at hl 5 rfl) ?_
  refine lv_iconst (v := 3) hx hb d_Lw_law_775 (by decide) ?_
  refine lv_iadd hx hb d_Lw_law_776 ?_
  refine l_sld hx hb hX hbl hS (k := 3) rfl (by omega) hL d_Lw_law_777 ?_
  refine lModI G w hS (va_runV (As := [.int (xs (i + 1)), .int (xs (i + 2)), .int (xs (i + 3))]) (rest := []) ⟨hx, hb, hml, hown, hts⟩ (MetX.met (c_Md_find l htl D cb bd sm _ (xs (i + 1)) (xs (i + 2)) (xs (i + 3)) bv sm' h2) (fun _ _ _ _ q => ⟨_, q.1⟩)) (xCW (C := "MuseumHouseModel") 3 hts wd_5_150 wd_1_13 wd_5_147 wd_5_148 wd_5_149 (by decide +kernel) ⟨Nat.le_of_ble_eq_true rfl, Nat.le_of_ble_eq_true rfl⟩) (G.2.1.preV w.2.1 hS 0 rfl rfl) rfl rfl hl.1 rfl (lv_room (Nat.le_of_ble_eq_true rfl)) d_Lw_law_778 ⟨hc, hs0⟩) (fun H locs w hS => ?_)
  refine lv_istore (lv' := [(6, .int bv), (5, .int (wk [1, 2, 3] r)), (0, .ref b), (1, .ref (ad 0)), (2, .ref (bd 0)), (3, .ref o), (4, .int (nI i))]) hx hb d_Lw_law_781 hl (by decide) rfl (fun ls hl => ?_)
  refine lv_aload_n hx hb d_Lw_law_783 rfl (lv_at hl 4 rfl) ?_
  refine pu_callR (va_runV (As := []) (rest := []) ⟨hx, hb, hml, hown, hts⟩ (c_Md_thrown l D cb bd sm' _ (sm'.1 0) rfl) (xCW (C := "MuseumHouseModel") 0 hts wd_5_68 wd_1_13 wd_5_65 wd_5_66 wd_5_67 (by decide +kernel) ⟨Nat.le_of_ble_eq_true rfl, Nat.le_of_ble_eq_true rfl⟩) (G.2.1.preV w.2.1 hS 0 rfl rfl) rfl rfl hl.1 rfl (lv_room (Nat.le_of_ble_eq_true rfl)) d_Lw_law_784 ⟨hc, hs0⟩) ?_
  refine lv_iload hx hb d_Lw_law_787 (lv_at hl 1 rfl) ?_
  refine lv_icmp_eq (tgt := 794) hx hb d_Lw_law_789 (by decide) (fun _ => ?_) (fun cn => absurd h3 cn)
  refine lv_iload hx hb d_Lw_law_794 (lv_at hl 1 rfl) ?_
  cases r with
  | inr k =>
    refine lv_if_ne (tgt := 811) hx hb d_Lw_law_796 (by decide) (fun _ => ?_) (fun cn => absurd cn (wk_ne _ k (by decide)))
    refine lv_goto (tgt := 2182) hx hb d_Lw_law_811 (by decide) ?_
    exact kk _ _ w hS ls (lv_sub hl [2, 3, 4, 5, 6] rfl)
  | inl v =>
    have h4 := h4 v rfl
    subst h4
    refine lv_if_ne (tgt := 811) hx hb d_Lw_law_796 (by decide) (fun cn => absurd rfl cn) (fun _ => ?_)
    refine lv_aload_n hx hb d_Lw_law_799 rfl (lv_at hl 5 rfl) ?_
    refine lv_iconst (v := 0) hx hb d_Lw_law_800 (by decide) ?_
    refine va_lald hx hb G.2.2.1 w.2.2 0 0 rfl rfl w_in0 d_Lw_law_801 ?_
    refine lv_iload hx hb d_Lw_law_802 (lv_at hl 0 rfl) ?_
    refine lv_i2l hx hb d_Lw_law_804 rfl ?_
    refine W.lcmp hx hb d_Lw_law_805 ?_
    refine lv_if_eq (tgt := 811) hx hb d_Lw_law_806 (by decide) (fun _ => ?_) (fun cn => absurd (by show lg_cmp (vp_updL f _ v.toInt64 _) v.toInt64 = 0; rw [updL_self]; exact lg_cmp_self _) cn)
    refine lv_goto (tgt := 2182) hx hb d_Lw_law_811 (by decide) ?_
    exact kk _ _ w hS ls (lv_sub hl [2, 3, 4, 5, 6] rfl)
set_option maxHeartbeats 4000000 in
set_option maxRecDepth 100000 in
theorem s_object {l : Launch} (htl : l.stackTraces = false) {p : Program} {e : Env} {s : State} {m : MethodId} {below : List Frame} {meth : Method} {c : Code} {b L : Nat} {xs : Nat → Int32} (C0 : lw_At p s m meth c b L xs) {D : va_G} {ca cb : Nat → ClassId} {co : ClassId} {ad bd : Nat → Nat} {o : Nat} (G : lX D ca cb co ad bd o s) {Q : State → Prop} {cells slots : Nat} (hc : cells + 1 ≤ 1089) (hs : slots + 6 ≤ 11746) (hL : L ≤ 2560) {i : Nat} (hi : i + 5 ≤ L) {st st' sm sm' : pu_St} {f : Nat → Int64} {r : Int32 ⊕ Nat} {bv : Int32} (h1 : f_H_object st (xs (i + 1)) (xs (i + 2)) = some (r, st')) (hk : ∀ k, r = .inr k → k ∈ [1, 2, 3]) (h2 : f_Md_object sm (xs (i + 1)) (xs (i + 2)) = some (bv, sm')) (h3 : sm'.1 0 = wk [1, 2, 3] r) (h4 : ∀ v, r = .inl v → v = bv)
    (kk : ∀ (H : Heap) (locs : List Loc), lW D ca cb co ad bd o st' sm' (wfI f r) H → va_S (lA s) s.heap H locs → ∀ ls : Array Slot, lv_has ls 7 [(0, .ref b), (1, .ref (ad 0)), (2, .ref (bd 0)), (3, .ref o), (4, .int (nI i))] → W p l e room_1 s m #[Value.ref b] below meth c H locs (cells + 1) (slots + 6) Q (F0 m 2182 ls []))
    (H : Heap) (locs : List Loc) (w : lW D ca cb co ad bd o st sm f H) (hS : va_S (lA s) s.heap H locs) (ls : Array Slot) (hl : lv_has ls 7 [(0, .ref b), (1, .ref (ad 0)), (2, .ref (bd 0)), (3, .ref o), (4, .int (nI i))]) : W p l e room_1 s m #[Value.ref b] below meth c H locs cells slots Q (F0 m 814 ls []) := by
  obtain ⟨hx, hb, hr, hml, hown, hts0, hX, hbl, hlocks, hgv⟩ := C0
  have hts : ∀ w ∈ tG, w.before #[Value.ref b] s = true := fun w hw => hts0 w (List.mem_filter.mp hw).1
  have hown : s.vm.findClass "MuseumHouseLaw" = some m.cls := hown
  have hs0 : slots + 6 + 0 ≤ 11746 := hs
  refine lv_aload_n hx hb d_Lw_law_814 rfl (lv_at hl 1 rfl) ?_
  refine lv_aload_n hx hb d_Lw_law_815 rfl (lv_at hl 0 rfl) ?_
  refine lv_iload hx hb d_Lw_law_816 (lv_at hl 4 rfl) ?_
  refine lv_iconst (v := 1) hx hb d_Lw_law_818 (by decide) ?_
  refine lv_iadd hx hb d_Lw_law_819 ?_
  refine l_sld hx hb hX hbl hS (k := 1) rfl (by omega) hL d_Lw_law_820 ?_
  refine lv_aload_n hx hb d_Lw_law_821 rfl (lv_at hl 0 rfl) ?_
  refine lv_iload hx hb d_Lw_law_822 (lv_at hl 4 rfl) ?_
  refine lv_iconst (v := 2) hx hb d_Lw_law_824 (by decide) ?_
  refine lv_iadd hx hb d_Lw_law_825 ?_
  refine l_sld hx hb hX hbl hS (k := 2) rfl (by omega) hL d_Lw_law_826 ?_
  refine lv_aload_n hx hb d_Lw_law_827 rfl (lv_at hl 3 rfl) ?_
  refine lWrap G w hS (va_runSW (n := 4) (As := [.ref (ad 0), .int (xs (i + 1)), .int (xs (i + 2)), .ref o]) (rest := []) ⟨hx, hb, hml, hown, hts⟩ (w_object l htl D ca co ad o st f _ (xs (i + 1)) (xs (i + 2)) r st' h1 hk) rfl rfl ⟨Nat.le_of_ble_eq_true rfl, Nat.le_of_ble_eq_true rfl⟩ wd_3_80 wd_1_0 wd_3_78 wd_3_79 (by decide +kernel) (G.preW w hS) rfl rfl hl.1 rfl (lv_room (Nat.le_of_ble_eq_true rfl)) d_Lw_law_828 ⟨Nat.le_trans (Nat.add_le_add_left (xc_le _) _) hc, Nat.le_trans (Nat.add_le_add_left (xs_le _) _) hs⟩) (fun H locs w hS => ?_)
  refine W.widen (k := cells + 1) (n := slots + 6) (Nat.add_le_add_left (xc_le _) _) (Nat.add_le_add_left (xs_le _) _) ?_
  refine lv_istore (lv' := [(5, .int (wk [1, 2, 3] r)), (0, .ref b), (1, .ref (ad 0)), (2, .ref (bd 0)), (3, .ref o), (4, .int (nI i))]) hx hb d_Lw_law_831 hl (by decide) rfl (fun ls hl => ?_)
  refine lv_aload_n hx hb d_Lw_law_833 rfl (lv_at hl 3 rfl) ?_
  refine lv_aload_n hx hb d_Lw_law_834 rfl (lv_at hl 1 rfl) ?_
  refine lv_iload hx hb d_Lw_law_835 (lv_at hl 5 rfl) ?_
  refine lv_iconst (v := 1) hx hb d_Lw_law_837 (by decide) ?_
  refine lv_iadd hx hb d_Lw_law_838 ?_
  refine l_sld hx hb hX hbl hS (k := 1) rfl (by omega) hL d_Lw_law_839 ?_
  refine lv_aload_n hx hb d_Lw_law_840 rfl (lv_at hl 1 rfl) ?_
  refine lv_iload hx hb d_Lw_law_841 (lv_at hl 5 rfl) ?_
  refine lv_iconst (v := 2) hx hb d_Lw_law_843 (by decide) ?_
  refine lv_iadd hx hb d_Lw_law_844 ?_
  refine l_sld hx hb hX hbl hS (k := 2) rfl (by omega) hL d_Lw_law_845 ?_
  refine lModI G w hS (va_runV (As := [.int (xs (i + 1)), .int (xs (i + 2))]) (rest := []) ⟨hx, hb, hml, hown, hts⟩ (MetX.met (c_Md_object l htl D cb bd sm _ (xs (i + 1)) (xs (i + 2)) bv sm' h2) (fun _ _ _ _ q => ⟨_, q.1⟩)) (xCW (C := "MuseumHouseModel") 2 hts wd_5_154 wd_1_13 wd_5_151 wd_5_152 wd_5_153 (by decide +kernel) ⟨Nat.le_of_ble_eq_true rfl, Nat.le_of_ble_eq_true rfl⟩) (G.2.1.preV w.2.1 hS 0 rfl rfl) rfl rfl hl.1 rfl (lv_room (Nat.le_of_ble_eq_true rfl)) d_Lw_law_846 ⟨hc, hs0⟩) (fun H locs w hS => ?_)
  refine lv_istore (lv' := [(6, .int bv), (5, .int (wk [1, 2, 3] r)), (0, .ref b), (1, .ref (ad 0)), (2, .ref (bd 0)), (3, .ref o), (4, .int (nI i))]) hx hb d_Lw_law_849 hl (by decide) rfl (fun ls hl => ?_)
  refine lv_aload_n hx hb d_Lw_law_851 rfl (lv_at hl 4 rfl) ?_
  refine pu_callR (va_runV (As := []) (rest := []) ⟨hx, hb, hml, hown, hts⟩ (c_Md_thrown l D cb bd sm' _ (sm'.1 0) rfl) (xCW (C := "MuseumHouseModel") 0 hts wd_5_68 wd_1_13 wd_5_65 wd_5_66 wd_5_67 (by decide +kernel) ⟨Nat.le_of_ble_eq_true rfl, Nat.le_of_ble_eq_true rfl⟩) (G.2.1.preV w.2.1 hS 0 rfl rfl) rfl rfl hl.1 rfl (lv_room (Nat.le_of_ble_eq_true rfl)) d_Lw_law_852 ⟨hc, hs0⟩) ?_
  refine lv_iload hx hb d_Lw_law_855 (lv_at hl 1 rfl) ?_
  refine lv_icmp_eq (tgt := 862) hx hb d_Lw_law_857 (by decide) (fun _ => ?_) (fun cn => absurd h3 cn)
  refine lv_iload hx hb d_Lw_law_862 (lv_at hl 1 rfl) ?_
  cases r with
  | inr k =>
    refine lv_if_ne (tgt := 879) hx hb d_Lw_law_864 (by decide) (fun _ => ?_) (fun cn => absurd cn (wk_ne _ k (by decide)))
    refine lv_goto (tgt := 2182) hx hb d_Lw_law_879 (by decide) ?_
    exact kk _ _ w hS ls (lv_sub hl [2, 3, 4, 5, 6] rfl)
  | inl v =>
    have h4 := h4 v rfl
    subst h4
    refine lv_if_ne (tgt := 879) hx hb d_Lw_law_864 (by decide) (fun cn => absurd rfl cn) (fun _ => ?_)
    refine lv_aload_n hx hb d_Lw_law_867 rfl (lv_at hl 5 rfl) ?_
    refine lv_iconst (v := 0) hx hb d_Lw_law_868 (by decide) ?_
    refine va_lald hx hb G.2.2.1 w.2.2 0 0 rfl rfl w_in0 d_Lw_law_869 ?_
    refine lv_iload hx hb d_Lw_law_870 (lv_at hl 0 rfl) ?_
    refine lv_i2l hx hb d_Lw_law_872 rfl ?_
    refine W.lcmp hx hb d_Lw_law_873 ?_
    refine lv_if_eq (tgt := 879) hx hb d_Lw_law_874 (by decide) (fun _ => ?_) (fun cn => absurd (by show lg_cmp (vp_updL f _ v.toInt64 _) v.toInt64 = 0; rw [updL_self]; exact lg_cmp_self _) cn)
    refine lv_goto (tgt := 2182) hx hb d_Lw_law_879 (by decide) ?_
    exact kk _ _ w hS ls (lv_sub hl [2, 3, 4, 5, 6] rfl)
set_option maxHeartbeats 4000000 in
set_option maxRecDepth 100000 in
theorem s_store {l : Launch} (htl : l.stackTraces = false) {p : Program} {e : Env} {s : State} {m : MethodId} {below : List Frame} {meth : Method} {c : Code} {b L : Nat} {xs : Nat → Int32} (C0 : lw_At p s m meth c b L xs) {D : va_G} {ca cb : Nat → ClassId} {co : ClassId} {ad bd : Nat → Nat} {o : Nat} (G : lX D ca cb co ad bd o s) {Q : State → Prop} {cells slots : Nat} (hc : cells + 1 ≤ 1089) (hs : slots + 6 ≤ 11746) (hL : L ≤ 2560) {i : Nat} (hi : i + 5 ≤ L) {st st' sm sm' : pu_St} {f : Nat → Int64} {r : Int32 ⊕ Nat} {bv : Int32} (h1 : f_H_store st (xs (i + 1)) (xs (i + 2)) = some (r, st')) (hk : ∀ k, r = .inr k → k ∈ [1, 2]) (h2 : f_Md_store sm (xs (i + 1)) (xs (i + 2)) = some (bv, sm')) (h3 : sm'.1 0 = wk [1, 2] r) (h4 : ∀ v, r = .inl v → v = bv)
    (kk : ∀ (H : Heap) (locs : List Loc), lW D ca cb co ad bd o st' sm' (wfI f r) H → va_S (lA s) s.heap H locs → ∀ ls : Array Slot, lv_has ls 7 [(0, .ref b), (1, .ref (ad 0)), (2, .ref (bd 0)), (3, .ref o), (4, .int (nI i))] → W p l e room_1 s m #[Value.ref b] below meth c H locs (cells + 1) (slots + 6) Q (F0 m 2182 ls []))
    (H : Heap) (locs : List Loc) (w : lW D ca cb co ad bd o st sm f H) (hS : va_S (lA s) s.heap H locs) (ls : Array Slot) (hl : lv_has ls 7 [(0, .ref b), (1, .ref (ad 0)), (2, .ref (bd 0)), (3, .ref o), (4, .int (nI i))]) : W p l e room_1 s m #[Value.ref b] below meth c H locs cells slots Q (F0 m 882 ls []) := by
  obtain ⟨hx, hb, hr, hml, hown, hts0, hX, hbl, hlocks, hgv⟩ := C0
  have hts : ∀ w ∈ tG, w.before #[Value.ref b] s = true := fun w hw => hts0 w (List.mem_filter.mp hw).1
  have hown : s.vm.findClass "MuseumHouseLaw" = some m.cls := hown
  have hs0 : slots + 6 + 0 ≤ 11746 := hs
  refine lv_aload_n hx hb d_Lw_law_882 rfl (lv_at hl 1 rfl) ?_
  refine lv_aload_n hx hb d_Lw_law_883 rfl (lv_at hl 0 rfl) ?_
  refine lv_iload hx hb d_Lw_law_884 (lv_at hl 4 rfl) ?_
  refine lv_iconst (v := 1) hx hb d_Lw_law_886 (by decide) ?_
  refine lv_iadd hx hb d_Lw_law_887 ?_
  refine l_sld hx hb hX hbl hS (k := 1) rfl (by omega) hL d_Lw_law_888 ?_
  refine lv_aload_n hx hb d_Lw_law_889 rfl (lv_at hl 0 rfl) ?_
  refine lv_iload hx hb d_Lw_law_890 (lv_at hl 4 rfl) ?_
  refine lv_iconst (v := 2) hx hb d_Lw_law_892 (by decide) ?_
  refine lv_iadd hx hb d_Lw_law_893 ?_
  refine l_sld hx hb hX hbl hS (k := 2) rfl (by omega) hL d_Lw_law_894 ?_
  refine lv_aload_n hx hb d_Lw_law_895 rfl (lv_at hl 3 rfl) ?_
  refine lWrap G w hS (va_runSW (n := 4) (As := [.ref (ad 0), .int (xs (i + 1)), .int (xs (i + 2)), .ref o]) (rest := []) ⟨hx, hb, hml, hown, hts⟩ (w_store l htl D ca co ad o st f _ (xs (i + 1)) (xs (i + 2)) r st' h1 hk) rfl rfl ⟨Nat.le_of_ble_eq_true rfl, Nat.le_of_ble_eq_true rfl⟩ wd_3_111 wd_1_0 wd_3_109 wd_3_110 (by decide +kernel) (G.preW w hS) rfl rfl hl.1 rfl (lv_room (Nat.le_of_ble_eq_true rfl)) d_Lw_law_896 ⟨Nat.le_trans (Nat.add_le_add_left (xc_le _) _) hc, Nat.le_trans (Nat.add_le_add_left (xs_le _) _) hs⟩) (fun H locs w hS => ?_)
  refine W.widen (k := cells + 1) (n := slots + 6) (Nat.add_le_add_left (xc_le _) _) (Nat.add_le_add_left (xs_le _) _) ?_
  refine lv_istore (lv' := [(5, .int (wk [1, 2] r)), (0, .ref b), (1, .ref (ad 0)), (2, .ref (bd 0)), (3, .ref o), (4, .int (nI i))]) hx hb d_Lw_law_899 hl (by decide) rfl (fun ls hl => ?_)
  refine lv_aload_n hx hb d_Lw_law_901 rfl (lv_at hl 3 rfl) ?_
  refine lv_aload_n hx hb d_Lw_law_902 rfl (lv_at hl 1 rfl) ?_
  refine lv_iload hx hb d_Lw_law_903 (lv_at hl 5 rfl) ?_
  refine lv_iconst (v := 1) hx hb d_Lw_law_905 (by decide) ?_
  refine lv_iadd hx hb d_Lw_law_906 ?_
  refine l_sld hx hb hX hbl hS (k := 1) rfl (by omega) hL d_Lw_law_907 ?_
  refine lv_aload_n hx hb d_Lw_law_908 rfl (lv_at hl 1 rfl) ?_
  refine lv_iload hx hb d_Lw_law_909 (lv_at hl 5 rfl) ?_
  refine lv_iconst (v := 2) hx hb d_Lw_law_911 (by decide) ?_
  refine lv_iadd hx hb d_Lw_law_912 ?_
  refine l_sld hx hb hX hbl hS (k := 2) rfl (by omega) hL d_Lw_law_913 ?_
  refine lModI G w hS (va_runV (As := [.int (xs (i + 1)), .int (xs (i + 2))]) (rest := []) ⟨hx, hb, hml, hown, hts⟩ (MetX.met (c_Md_store l htl D cb bd sm _ (xs (i + 1)) (xs (i + 2)) bv sm' h2) (fun _ _ _ _ q => ⟨_, q.1⟩)) (xCW (C := "MuseumHouseModel") 2 hts wd_5_158 wd_1_13 wd_5_155 wd_5_156 wd_5_157 (by decide +kernel) ⟨Nat.le_of_ble_eq_true rfl, Nat.le_of_ble_eq_true rfl⟩) (G.2.1.preV w.2.1 hS 0 rfl rfl) rfl rfl hl.1 rfl (lv_room (Nat.le_of_ble_eq_true rfl)) d_Lw_law_914 ⟨hc, hs0⟩) (fun H locs w hS => ?_)
  refine lv_istore (lv' := [(6, .int bv), (5, .int (wk [1, 2] r)), (0, .ref b), (1, .ref (ad 0)), (2, .ref (bd 0)), (3, .ref o), (4, .int (nI i))]) hx hb d_Lw_law_917 hl (by decide) rfl (fun ls hl => ?_)
  refine lv_aload_n hx hb d_Lw_law_919 rfl (lv_at hl 4 rfl) ?_
  refine pu_callR (va_runV (As := []) (rest := []) ⟨hx, hb, hml, hown, hts⟩ (c_Md_thrown l D cb bd sm' _ (sm'.1 0) rfl) (xCW (C := "MuseumHouseModel") 0 hts wd_5_68 wd_1_13 wd_5_65 wd_5_66 wd_5_67 (by decide +kernel) ⟨Nat.le_of_ble_eq_true rfl, Nat.le_of_ble_eq_true rfl⟩) (G.2.1.preV w.2.1 hS 0 rfl rfl) rfl rfl hl.1 rfl (lv_room (Nat.le_of_ble_eq_true rfl)) d_Lw_law_920 ⟨hc, hs0⟩) ?_
  refine lv_iload hx hb d_Lw_law_923 (lv_at hl 1 rfl) ?_
  refine lv_icmp_eq (tgt := 930) hx hb d_Lw_law_925 (by decide) (fun _ => ?_) (fun cn => absurd h3 cn)
  refine lv_iload hx hb d_Lw_law_930 (lv_at hl 1 rfl) ?_
  cases r with
  | inr k =>
    refine lv_if_ne (tgt := 947) hx hb d_Lw_law_932 (by decide) (fun _ => ?_) (fun cn => absurd cn (wk_ne _ k (by decide)))
    refine lv_goto (tgt := 2182) hx hb d_Lw_law_947 (by decide) ?_
    exact kk _ _ w hS ls (lv_sub hl [2, 3, 4, 5, 6] rfl)
  | inl v =>
    have h4 := h4 v rfl
    subst h4
    refine lv_if_ne (tgt := 947) hx hb d_Lw_law_932 (by decide) (fun cn => absurd rfl cn) (fun _ => ?_)
    refine lv_aload_n hx hb d_Lw_law_935 rfl (lv_at hl 5 rfl) ?_
    refine lv_iconst (v := 0) hx hb d_Lw_law_936 (by decide) ?_
    refine va_lald hx hb G.2.2.1 w.2.2 0 0 rfl rfl w_in0 d_Lw_law_937 ?_
    refine lv_iload hx hb d_Lw_law_938 (lv_at hl 0 rfl) ?_
    refine lv_i2l hx hb d_Lw_law_940 rfl ?_
    refine W.lcmp hx hb d_Lw_law_941 ?_
    refine lv_if_eq (tgt := 947) hx hb d_Lw_law_942 (by decide) (fun _ => ?_) (fun cn => absurd (by show lg_cmp (vp_updL f _ v.toInt64 _) v.toInt64 = 0; rw [updL_self]; exact lg_cmp_self _) cn)
    refine lv_goto (tgt := 2182) hx hb d_Lw_law_947 (by decide) ?_
    exact kk _ _ w hS ls (lv_sub hl [2, 3, 4, 5, 6] rfl)
set_option maxHeartbeats 4000000 in
set_option maxRecDepth 100000 in
theorem s_carry {l : Launch} (htl : l.stackTraces = false) {p : Program} {e : Env} {s : State} {m : MethodId} {below : List Frame} {meth : Method} {c : Code} {b L : Nat} {xs : Nat → Int32} (C0 : lw_At p s m meth c b L xs) {D : va_G} {ca cb : Nat → ClassId} {co : ClassId} {ad bd : Nat → Nat} {o : Nat} (G : lX D ca cb co ad bd o s) {Q : State → Prop} {cells slots : Nat} (hc : cells + 1 ≤ 1089) (hs : slots + 6 ≤ 11746) (hL : L ≤ 2560) {i : Nat} (hi : i + 5 ≤ L) {st st' sm sm' : pu_St} {f : Nat → Int64} {r : Int32 ⊕ Nat} {bv : Int32} (h1 : f_H_carry st (xs (i + 1)) (xs (i + 2)) (xs (i + 3)) = some (r, st')) (hk : ∀ k, r = .inr k → k ∈ [1, 2, 3]) (h2 : f_Md_carry sm (xs (i + 1)) (xs (i + 2)) (xs (i + 3)) = some (bv, sm')) (h3 : sm'.1 0 = wk [1, 2, 3] r) (h4 : ∀ v, r = .inl v → v = bv)
    (kk : ∀ (H : Heap) (locs : List Loc), lW D ca cb co ad bd o st' sm' (wfZ f r) H → va_S (lA s) s.heap H locs → ∀ ls : Array Slot, lv_has ls 7 [(0, .ref b), (1, .ref (ad 0)), (2, .ref (bd 0)), (3, .ref o), (4, .int (nI i))] → W p l e room_1 s m #[Value.ref b] below meth c H locs (cells + 1) (slots + 6) Q (F0 m 2182 ls []))
    (H : Heap) (locs : List Loc) (w : lW D ca cb co ad bd o st sm f H) (hS : va_S (lA s) s.heap H locs) (ls : Array Slot) (hl : lv_has ls 7 [(0, .ref b), (1, .ref (ad 0)), (2, .ref (bd 0)), (3, .ref o), (4, .int (nI i))]) : W p l e room_1 s m #[Value.ref b] below meth c H locs cells slots Q (F0 m 950 ls []) := by
  obtain ⟨hx, hb, hr, hml, hown, hts0, hX, hbl, hlocks, hgv⟩ := C0
  have hts : ∀ w ∈ tG, w.before #[Value.ref b] s = true := fun w hw => hts0 w (List.mem_filter.mp hw).1
  have hown : s.vm.findClass "MuseumHouseLaw" = some m.cls := hown
  have hs0 : slots + 6 + 0 ≤ 11746 := hs
  refine lv_aload_n hx hb d_Lw_law_950 rfl (lv_at hl 1 rfl) ?_
  refine lv_aload_n hx hb d_Lw_law_951 rfl (lv_at hl 0 rfl) ?_
  refine lv_iload hx hb d_Lw_law_952 (lv_at hl 4 rfl) ?_
  refine lv_iconst (v := 1) hx hb d_Lw_law_954 (by decide) ?_
  refine lv_iadd hx hb d_Lw_law_955 ?_
  refine l_sld hx hb hX hbl hS (k := 1) rfl (by omega) hL d_Lw_law_956 ?_
  refine lv_aload_n hx hb d_Lw_law_957 rfl (lv_at hl 0 rfl) ?_
  refine lv_iload hx hb d_Lw_law_958 (lv_at hl 4 rfl) ?_
  refine lv_iconst (v := 2) hx hb d_Lw_law_960 (by decide) ?_
  refine lv_iadd hx hb d_Lw_law_961 ?_
  refine l_sld hx hb hX hbl hS (k := 2) rfl (by omega) hL d_Lw_law_962 ?_
  refine lv_aload_n hx hb d_Lw_law_963 rfl (lv_at hl 0 rfl) ?_
  refine lv_iload hx hb d_Lw_law_964 (lv_at hl 4 rfl) ?_
  refine lv_iconst (v := 3) hx hb d_Lw_law_966 (by decide) ?_
  refine lv_iadd hx hb d_Lw_law_967 ?_
  refine l_sld hx hb hX hbl hS (k := 3) rfl (by omega) hL d_Lw_law_968 ?_
  refine lv_aload_n hx hb d_Lw_law_969 rfl (lv_at hl 3 rfl) ?_
  refine lWrap G w hS (va_runSW (n := 5) (As := [.ref (ad 0), .int (xs (i + 1)), .int (xs (i + 2)), .int (xs (i + 3)), .ref o]) (rest := []) ⟨hx, hb, hml, hown, hts⟩ (w_carry l htl D ca co ad o st f _ (xs (i + 1)) (xs (i + 2)) (xs (i + 3)) r st' h1 hk) rfl rfl ⟨Nat.le_of_ble_eq_true rfl, Nat.le_of_ble_eq_true rfl⟩ wd_3_135 wd_1_0 wd_3_133 wd_3_134 (by decide +kernel) (G.preW w hS) rfl rfl hl.1 rfl (lv_room (Nat.le_of_ble_eq_true rfl)) d_Lw_law_970 ⟨Nat.le_trans (Nat.add_le_add_left (xc_le _) _) hc, Nat.le_trans (Nat.add_le_add_left (xs_le _) _) hs⟩) (fun H locs w hS => ?_)
  refine W.widen (k := cells + 1) (n := slots + 6) (Nat.add_le_add_left (xc_le _) _) (Nat.add_le_add_left (xs_le _) _) ?_
  refine lv_istore (lv' := [(5, .int (wk [1, 2, 3] r)), (0, .ref b), (1, .ref (ad 0)), (2, .ref (bd 0)), (3, .ref o), (4, .int (nI i))]) hx hb d_Lw_law_973 hl (by decide) rfl (fun ls hl => ?_)
  refine lv_aload_n hx hb d_Lw_law_975 rfl (lv_at hl 3 rfl) ?_
  refine lv_aload_n hx hb d_Lw_law_976 rfl (lv_at hl 1 rfl) ?_
  refine lv_iload hx hb d_Lw_law_977 (lv_at hl 5 rfl) ?_
  refine lv_iconst (v := 1) hx hb d_Lw_law_979 (by decide) ?_
  refine lv_iadd hx hb d_Lw_law_980 ?_
  refine l_sld hx hb hX hbl hS (k := 1) rfl (by omega) hL d_Lw_law_981 ?_
  refine lv_aload_n hx hb d_Lw_law_982 rfl (lv_at hl 1 rfl) ?_
  refine lv_iload hx hb d_Lw_law_983 (lv_at hl 5 rfl) ?_
  refine lv_iconst (v := 2) hx hb d_Lw_law_985 (by decide) ?_
  refine lv_iadd hx hb d_Lw_law_986 ?_
  refine l_sld hx hb hX hbl hS (k := 2) rfl (by omega) hL d_Lw_law_987 ?_
  refine lv_aload_n hx hb d_Lw_law_988 rfl (lv_at hl 1 rfl) ?_
  refine lv_iload hx hb d_Lw_law_989 (lv_at hl 5 rfl) ?_
  refine lv_iconst (v := 3) hx hb d_Lw_law_991 (by decide) ?_
  refine lv_iadd hx hb d_Lw_law_992 ?_
  refine l_sld hx hb hX hbl hS (k := 3) rfl (by omega) hL d_Lw_law_993 ?_
  refine lModI G w hS (va_runV (As := [.int (xs (i + 1)), .int (xs (i + 2)), .int (xs (i + 3))]) (rest := []) ⟨hx, hb, hml, hown, hts⟩ (MetX.met (c_Md_carry l htl D cb bd sm _ (xs (i + 1)) (xs (i + 2)) (xs (i + 3)) bv sm' h2) (fun _ _ _ _ q => ⟨_, q.1⟩)) (xCW (C := "MuseumHouseModel") 3 hts wd_5_162 wd_1_13 wd_5_159 wd_5_160 wd_5_161 (by decide +kernel) ⟨Nat.le_of_ble_eq_true rfl, Nat.le_of_ble_eq_true rfl⟩) (G.2.1.preV w.2.1 hS 0 rfl rfl) rfl rfl hl.1 rfl (lv_room (Nat.le_of_ble_eq_true rfl)) d_Lw_law_994 ⟨hc, hs0⟩) (fun H locs w hS => ?_)
  refine lv_istore (lv' := [(6, .int bv), (5, .int (wk [1, 2, 3] r)), (0, .ref b), (1, .ref (ad 0)), (2, .ref (bd 0)), (3, .ref o), (4, .int (nI i))]) hx hb d_Lw_law_997 hl (by decide) rfl (fun ls hl => ?_)
  refine lv_aload_n hx hb d_Lw_law_999 rfl (lv_at hl 4 rfl) ?_
  refine pu_callR (va_runV (As := []) (rest := []) ⟨hx, hb, hml, hown, hts⟩ (c_Md_thrown l D cb bd sm' _ (sm'.1 0) rfl) (xCW (C := "MuseumHouseModel") 0 hts wd_5_68 wd_1_13 wd_5_65 wd_5_66 wd_5_67 (by decide +kernel) ⟨Nat.le_of_ble_eq_true rfl, Nat.le_of_ble_eq_true rfl⟩) (G.2.1.preV w.2.1 hS 0 rfl rfl) rfl rfl hl.1 rfl (lv_room (Nat.le_of_ble_eq_true rfl)) d_Lw_law_1000 ⟨hc, hs0⟩) ?_
  refine lv_iload hx hb d_Lw_law_1003 (lv_at hl 1 rfl) ?_
  refine lv_icmp_eq (tgt := 1010) hx hb d_Lw_law_1005 (by decide) (fun _ => ?_) (fun cn => absurd h3 cn)
  refine lv_iload hx hb d_Lw_law_1010 (lv_at hl 1 rfl) ?_
  cases r with
  | inr k =>
    refine lv_if_ne (tgt := 1034) hx hb d_Lw_law_1012 (by decide) (fun _ => ?_) (fun cn => absurd cn (wk_ne _ k (by decide)))
    refine lv_goto (tgt := 2182) hx hb d_Lw_law_1034 (by decide) ?_
    exact kk _ _ w hS ls (lv_sub hl [2, 3, 4, 5, 6] rfl)
  | inl v =>
    have h4 := h4 v rfl
    subst h4
    refine lv_if_ne (tgt := 1034) hx hb d_Lw_law_1012 (by decide) (fun cn => absurd rfl cn) (fun _ => ?_)
    refine lv_aload_n hx hb d_Lw_law_1015 rfl (lv_at hl 5 rfl) ?_
    refine lv_iconst (v := 0) hx hb d_Lw_law_1016 (by decide) ?_
    refine va_lald hx hb G.2.2.1 w.2.2 0 0 rfl rfl w_in0 d_Lw_law_1017 ?_
    refine lv_iload hx hb d_Lw_law_1018 (lv_at hl 0 rfl) ?_
    refine lv_if_eq (tgt := 1027) hx hb d_Lw_law_1020 (by decide) (fun cz => ?_) (fun cz => ?_)
    · refine lv_lconst (v := 0) hx hb d_Lw_law_1027 (by decide) ?_
      refine W.lcmp hx hb d_Lw_law_1028 ?_
      refine lv_if_eq (tgt := 1034) hx hb d_Lw_law_1029 (by decide) (fun _ => ?_) (fun cn => absurd (by show lg_cmp (vp_updL f _ (if v = 0 then 0 else 1) _) 0 = 0; rw [updL_self, if_pos cz]; exact lg_cmp_self _) cn)
      refine lv_goto (tgt := 2182) hx hb d_Lw_law_1034 (by decide) ?_
      exact kk _ _ w hS ls (lv_sub hl [2, 3, 4, 5, 6] rfl)
    · refine lv_lconst (v := 1) hx hb d_Lw_law_1023 (by decide) ?_
      refine lv_goto (tgt := 1028) hx hb d_Lw_law_1024 (by decide) ?_
      refine W.lcmp hx hb d_Lw_law_1028 ?_
      refine lv_if_eq (tgt := 1034) hx hb d_Lw_law_1029 (by decide) (fun _ => ?_) (fun cn => absurd (by show lg_cmp (vp_updL f _ (if v = 0 then 0 else 1) _) 1 = 0; rw [updL_self, if_neg cz]; exact lg_cmp_self _) cn)
      refine lv_goto (tgt := 2182) hx hb d_Lw_law_1034 (by decide) ?_
      exact kk _ _ w hS ls (lv_sub hl [2, 3, 4, 5, 6] rfl)
set_option maxHeartbeats 4000000 in
set_option maxRecDepth 100000 in
theorem s_within {l : Launch} (htl : l.stackTraces = false) {p : Program} {e : Env} {s : State} {m : MethodId} {below : List Frame} {meth : Method} {c : Code} {b L : Nat} {xs : Nat → Int32} (C0 : lw_At p s m meth c b L xs) {D : va_G} {ca cb : Nat → ClassId} {co : ClassId} {ad bd : Nat → Nat} {o : Nat} (G : lX D ca cb co ad bd o s) {Q : State → Prop} {cells slots : Nat} (hc : cells + 1 ≤ 1089) (hs : slots + 6 ≤ 11746) (hL : L ≤ 2560) {i : Nat} (hi : i + 5 ≤ L) {st st' sm sm' : pu_St} {f : Nat → Int64} {r : Int32 ⊕ Nat} {bv : Int32} (h1 : f_H_within st (xs (i + 1)) (xs (i + 2)) = some (r, st')) (hk : ∀ k, r = .inr k → k ∈ [1]) (h2 : f_Md_within sm (xs (i + 1)) (xs (i + 2)) = some (bv, sm')) (h3 : sm'.1 0 = wk [1] r) (h4 : ∀ v, r = .inl v → v = bv)
    (kk : ∀ (H : Heap) (locs : List Loc), lW D ca cb co ad bd o st' sm' (wfZ f r) H → va_S (lA s) s.heap H locs → ∀ ls : Array Slot, lv_has ls 7 [(0, .ref b), (1, .ref (ad 0)), (2, .ref (bd 0)), (3, .ref o), (4, .int (nI i))] → W p l e room_1 s m #[Value.ref b] below meth c H locs (cells + 1) (slots + 6) Q (F0 m 2182 ls []))
    (H : Heap) (locs : List Loc) (w : lW D ca cb co ad bd o st sm f H) (hS : va_S (lA s) s.heap H locs) (ls : Array Slot) (hl : lv_has ls 7 [(0, .ref b), (1, .ref (ad 0)), (2, .ref (bd 0)), (3, .ref o), (4, .int (nI i))]) : W p l e room_1 s m #[Value.ref b] below meth c H locs cells slots Q (F0 m 1037 ls []) := by
  obtain ⟨hx, hb, hr, hml, hown, hts0, hX, hbl, hlocks, hgv⟩ := C0
  have hts : ∀ w ∈ tG, w.before #[Value.ref b] s = true := fun w hw => hts0 w (List.mem_filter.mp hw).1
  have hown : s.vm.findClass "MuseumHouseLaw" = some m.cls := hown
  have hs0 : slots + 6 + 0 ≤ 11746 := hs
  refine lv_aload_n hx hb d_Lw_law_1037 rfl (lv_at hl 1 rfl) ?_
  refine lv_aload_n hx hb d_Lw_law_1038 rfl (lv_at hl 0 rfl) ?_
  refine lv_iload hx hb d_Lw_law_1039 (lv_at hl 4 rfl) ?_
  refine lv_iconst (v := 1) hx hb d_Lw_law_1041 (by decide) ?_
  refine lv_iadd hx hb d_Lw_law_1042 ?_
  refine l_sld hx hb hX hbl hS (k := 1) rfl (by omega) hL d_Lw_law_1043 ?_
  refine lv_aload_n hx hb d_Lw_law_1044 rfl (lv_at hl 0 rfl) ?_
  refine lv_iload hx hb d_Lw_law_1045 (lv_at hl 4 rfl) ?_
  refine lv_iconst (v := 2) hx hb d_Lw_law_1047 (by decide) ?_
  refine lv_iadd hx hb d_Lw_law_1048 ?_
  refine l_sld hx hb hX hbl hS (k := 2) rfl (by omega) hL d_Lw_law_1049 ?_
  refine lv_aload_n hx hb d_Lw_law_1050 rfl (lv_at hl 3 rfl) ?_
  refine lWrap G w hS (va_runSW (n := 4) (As := [.ref (ad 0), .int (xs (i + 1)), .int (xs (i + 2)), .ref o]) (rest := []) ⟨hx, hb, hml, hown, hts⟩ (w_within l htl D ca co ad o st f _ (xs (i + 1)) (xs (i + 2)) r st' h1 hk) rfl rfl ⟨Nat.le_of_ble_eq_true rfl, Nat.le_of_ble_eq_true rfl⟩ wd_3_158 wd_1_0 wd_3_156 wd_3_157 (by decide +kernel) (G.preW w hS) rfl rfl hl.1 rfl (lv_room (Nat.le_of_ble_eq_true rfl)) d_Lw_law_1051 ⟨Nat.le_trans (Nat.add_le_add_left (xc_le _) _) hc, Nat.le_trans (Nat.add_le_add_left (xs_le _) _) hs⟩) (fun H locs w hS => ?_)
  refine W.widen (k := cells + 1) (n := slots + 6) (Nat.add_le_add_left (xc_le _) _) (Nat.add_le_add_left (xs_le _) _) ?_
  refine lv_istore (lv' := [(5, .int (wk [1] r)), (0, .ref b), (1, .ref (ad 0)), (2, .ref (bd 0)), (3, .ref o), (4, .int (nI i))]) hx hb d_Lw_law_1054 hl (by decide) rfl (fun ls hl => ?_)
  refine lv_aload_n hx hb d_Lw_law_1056 rfl (lv_at hl 3 rfl) ?_
  refine lv_aload_n hx hb d_Lw_law_1057 rfl (lv_at hl 1 rfl) ?_
  refine lv_iload hx hb d_Lw_law_1058 (lv_at hl 5 rfl) ?_
  refine lv_iconst (v := 1) hx hb d_Lw_law_1060 (by decide) ?_
  refine lv_iadd hx hb d_Lw_law_1061 ?_
  refine l_sld hx hb hX hbl hS (k := 1) rfl (by omega) hL d_Lw_law_1062 ?_
  refine lv_aload_n hx hb d_Lw_law_1063 rfl (lv_at hl 1 rfl) ?_
  refine lv_iload hx hb d_Lw_law_1064 (lv_at hl 5 rfl) ?_
  refine lv_iconst (v := 2) hx hb d_Lw_law_1066 (by decide) ?_
  refine lv_iadd hx hb d_Lw_law_1067 ?_
  refine l_sld hx hb hX hbl hS (k := 2) rfl (by omega) hL d_Lw_law_1068 ?_
  refine lModI G w hS (va_runV (As := [.int (xs (i + 1)), .int (xs (i + 2))]) (rest := []) ⟨hx, hb, hml, hown, hts⟩ (MetX.met (c_Md_within l htl D cb bd sm _ (xs (i + 1)) (xs (i + 2)) bv sm' h2) (fun _ _ _ _ q => ⟨_, q.1⟩)) (xCW (C := "MuseumHouseModel") 2 hts wd_5_170 wd_1_13 wd_5_167 wd_5_168 wd_5_169 (by decide +kernel) ⟨Nat.le_of_ble_eq_true rfl, Nat.le_of_ble_eq_true rfl⟩) (G.2.1.preV w.2.1 hS 0 rfl rfl) rfl rfl hl.1 rfl (lv_room (Nat.le_of_ble_eq_true rfl)) d_Lw_law_1069 ⟨hc, hs0⟩) (fun H locs w hS => ?_)
  refine lv_istore (lv' := [(6, .int bv), (5, .int (wk [1] r)), (0, .ref b), (1, .ref (ad 0)), (2, .ref (bd 0)), (3, .ref o), (4, .int (nI i))]) hx hb d_Lw_law_1072 hl (by decide) rfl (fun ls hl => ?_)
  refine lv_aload_n hx hb d_Lw_law_1074 rfl (lv_at hl 4 rfl) ?_
  refine pu_callR (va_runV (As := []) (rest := []) ⟨hx, hb, hml, hown, hts⟩ (c_Md_thrown l D cb bd sm' _ (sm'.1 0) rfl) (xCW (C := "MuseumHouseModel") 0 hts wd_5_68 wd_1_13 wd_5_65 wd_5_66 wd_5_67 (by decide +kernel) ⟨Nat.le_of_ble_eq_true rfl, Nat.le_of_ble_eq_true rfl⟩) (G.2.1.preV w.2.1 hS 0 rfl rfl) rfl rfl hl.1 rfl (lv_room (Nat.le_of_ble_eq_true rfl)) d_Lw_law_1075 ⟨hc, hs0⟩) ?_
  refine lv_iload hx hb d_Lw_law_1078 (lv_at hl 1 rfl) ?_
  refine lv_icmp_eq (tgt := 1085) hx hb d_Lw_law_1080 (by decide) (fun _ => ?_) (fun cn => absurd h3 cn)
  refine lv_iload hx hb d_Lw_law_1085 (lv_at hl 1 rfl) ?_
  cases r with
  | inr k =>
    refine lv_if_ne (tgt := 1109) hx hb d_Lw_law_1087 (by decide) (fun _ => ?_) (fun cn => absurd cn (wk_ne _ k (by decide)))
    refine lv_goto (tgt := 2182) hx hb d_Lw_law_1109 (by decide) ?_
    exact kk _ _ w hS ls (lv_sub hl [2, 3, 4, 5, 6] rfl)
  | inl v =>
    have h4 := h4 v rfl
    subst h4
    refine lv_if_ne (tgt := 1109) hx hb d_Lw_law_1087 (by decide) (fun cn => absurd rfl cn) (fun _ => ?_)
    refine lv_aload_n hx hb d_Lw_law_1090 rfl (lv_at hl 5 rfl) ?_
    refine lv_iconst (v := 0) hx hb d_Lw_law_1091 (by decide) ?_
    refine va_lald hx hb G.2.2.1 w.2.2 0 0 rfl rfl w_in0 d_Lw_law_1092 ?_
    refine lv_iload hx hb d_Lw_law_1093 (lv_at hl 0 rfl) ?_
    refine lv_if_eq (tgt := 1102) hx hb d_Lw_law_1095 (by decide) (fun cz => ?_) (fun cz => ?_)
    · refine lv_lconst (v := 0) hx hb d_Lw_law_1102 (by decide) ?_
      refine W.lcmp hx hb d_Lw_law_1103 ?_
      refine lv_if_eq (tgt := 1109) hx hb d_Lw_law_1104 (by decide) (fun _ => ?_) (fun cn => absurd (by show lg_cmp (vp_updL f _ (if v = 0 then 0 else 1) _) 0 = 0; rw [updL_self, if_pos cz]; exact lg_cmp_self _) cn)
      refine lv_goto (tgt := 2182) hx hb d_Lw_law_1109 (by decide) ?_
      exact kk _ _ w hS ls (lv_sub hl [2, 3, 4, 5, 6] rfl)
    · refine lv_lconst (v := 1) hx hb d_Lw_law_1098 (by decide) ?_
      refine lv_goto (tgt := 1103) hx hb d_Lw_law_1099 (by decide) ?_
      refine W.lcmp hx hb d_Lw_law_1103 ?_
      refine lv_if_eq (tgt := 1109) hx hb d_Lw_law_1104 (by decide) (fun _ => ?_) (fun cn => absurd (by show lg_cmp (vp_updL f _ (if v = 0 then 0 else 1) _) 1 = 0; rw [updL_self, if_neg cz]; exact lg_cmp_self _) cn)
      refine lv_goto (tgt := 2182) hx hb d_Lw_law_1109 (by decide) ?_
      exact kk _ _ w hS ls (lv_sub hl [2, 3, 4, 5, 6] rfl)
set_option maxHeartbeats 4000000 in
set_option maxRecDepth 100000 in
theorem s_move {l : Launch} (htl : l.stackTraces = false) {p : Program} {e : Env} {s : State} {m : MethodId} {below : List Frame} {meth : Method} {c : Code} {b L : Nat} {xs : Nat → Int32} (C0 : lw_At p s m meth c b L xs) {D : va_G} {ca cb : Nat → ClassId} {co : ClassId} {ad bd : Nat → Nat} {o : Nat} (G : lX D ca cb co ad bd o s) {Q : State → Prop} {cells slots : Nat} (hc : cells + 1 ≤ 1089) (hs : slots + 6 ≤ 11746) (hL : L ≤ 2560) {i : Nat} (hi : i + 5 ≤ L) {st st' sm sm' : pu_St} {f : Nat → Int64} {r : Int32 ⊕ Nat} {bv : Int32} (h1 : f_H_move st (xs (i + 1)) (xs (i + 2)) (xs (i + 3)) (xs (i + 4)) = some (r, st')) (hk : ∀ k, r = .inr k → k ∈ [1, 2, 3]) (h2 : f_Md_move sm (xs (i + 1)) (xs (i + 2)) (xs (i + 3)) (xs (i + 4)) = some (bv, sm')) (h3 : sm'.1 0 = wk [1, 2, 3] r) (h4 : ∀ v, r = .inl v → v = bv)
    (kk : ∀ (H : Heap) (locs : List Loc), lW D ca cb co ad bd o st' sm' (wfZ f r) H → va_S (lA s) s.heap H locs → ∀ ls : Array Slot, lv_has ls 7 [(0, .ref b), (1, .ref (ad 0)), (2, .ref (bd 0)), (3, .ref o), (4, .int (nI i))] → W p l e room_1 s m #[Value.ref b] below meth c H locs (cells + 1) (slots + 6) Q (F0 m 2182 ls []))
    (H : Heap) (locs : List Loc) (w : lW D ca cb co ad bd o st sm f H) (hS : va_S (lA s) s.heap H locs) (ls : Array Slot) (hl : lv_has ls 7 [(0, .ref b), (1, .ref (ad 0)), (2, .ref (bd 0)), (3, .ref o), (4, .int (nI i))]) : W p l e room_1 s m #[Value.ref b] below meth c H locs cells slots Q (F0 m 1112 ls []) := by
  obtain ⟨hx, hb, hr, hml, hown, hts0, hX, hbl, hlocks, hgv⟩ := C0
  have hts : ∀ w ∈ tG, w.before #[Value.ref b] s = true := fun w hw => hts0 w (List.mem_filter.mp hw).1
  have hown : s.vm.findClass "MuseumHouseLaw" = some m.cls := hown
  have hs0 : slots + 6 + 0 ≤ 11746 := hs
  refine lv_aload_n hx hb d_Lw_law_1112 rfl (lv_at hl 1 rfl) ?_
  refine lv_aload_n hx hb d_Lw_law_1113 rfl (lv_at hl 0 rfl) ?_
  refine lv_iload hx hb d_Lw_law_1114 (lv_at hl 4 rfl) ?_
  refine lv_iconst (v := 1) hx hb d_Lw_law_1116 (by decide) ?_
  refine lv_iadd hx hb d_Lw_law_1117 ?_
  refine l_sld hx hb hX hbl hS (k := 1) rfl (by omega) hL d_Lw_law_1118 ?_
  refine lv_aload_n hx hb d_Lw_law_1119 rfl (lv_at hl 0 rfl) ?_
  refine lv_iload hx hb d_Lw_law_1120 (lv_at hl 4 rfl) ?_
  refine lv_iconst (v := 2) hx hb d_Lw_law_1122 (by decide) ?_
  refine lv_iadd hx hb d_Lw_law_1123 ?_
  refine l_sld hx hb hX hbl hS (k := 2) rfl (by omega) hL d_Lw_law_1124 ?_
  refine lv_aload_n hx hb d_Lw_law_1125 rfl (lv_at hl 0 rfl) ?_
  refine lv_iload hx hb d_Lw_law_1126 (lv_at hl 4 rfl) ?_
  refine lv_iconst (v := 3) hx hb d_Lw_law_1128 (by decide) ?_
  refine lv_iadd hx hb d_Lw_law_1129 ?_
  refine l_sld hx hb hX hbl hS (k := 3) rfl (by omega) hL d_Lw_law_1130 ?_
  refine lv_aload_n hx hb d_Lw_law_1131 rfl (lv_at hl 0 rfl) ?_
  refine lv_iload hx hb d_Lw_law_1132 (lv_at hl 4 rfl) ?_
  refine lv_iconst (v := 4) hx hb d_Lw_law_1134 (by decide) ?_
  refine lv_iadd hx hb d_Lw_law_1135 ?_
  refine l_sld hx hb hX hbl hS (k := 4) rfl (by omega) hL d_Lw_law_1136 ?_
  refine lv_aload_n hx hb d_Lw_law_1137 rfl (lv_at hl 3 rfl) ?_
  refine lWrap G w hS (va_runSW (n := 6) (As := [.ref (ad 0), .int (xs (i + 1)), .int (xs (i + 2)), .int (xs (i + 3)), .int (xs (i + 4)), .ref o]) (rest := []) ⟨hx, hb, hml, hown, hts⟩ (w_move l htl D ca co ad o st f _ (xs (i + 1)) (xs (i + 2)) (xs (i + 3)) (xs (i + 4)) r st' h1 hk) rfl rfl ⟨Nat.le_of_ble_eq_true rfl, Nat.le_of_ble_eq_true rfl⟩ wd_3_166 wd_1_0 wd_3_164 wd_3_165 (by decide +kernel) (G.preW w hS) rfl rfl hl.1 rfl (lv_room (Nat.le_of_ble_eq_true rfl)) d_Lw_law_1138 ⟨Nat.le_trans (Nat.add_le_add_left (xc_le _) _) hc, Nat.le_trans (Nat.add_le_add_left (xs_le _) _) hs⟩) (fun H locs w hS => ?_)
  refine W.widen (k := cells + 1) (n := slots + 6) (Nat.add_le_add_left (xc_le _) _) (Nat.add_le_add_left (xs_le _) _) ?_
  refine lv_istore (lv' := [(5, .int (wk [1, 2, 3] r)), (0, .ref b), (1, .ref (ad 0)), (2, .ref (bd 0)), (3, .ref o), (4, .int (nI i))]) hx hb d_Lw_law_1141 hl (by decide) rfl (fun ls hl => ?_)
  refine lv_aload_n hx hb d_Lw_law_1143 rfl (lv_at hl 3 rfl) ?_
  refine lv_aload_n hx hb d_Lw_law_1144 rfl (lv_at hl 1 rfl) ?_
  refine lv_iload hx hb d_Lw_law_1145 (lv_at hl 5 rfl) ?_
  refine lv_iconst (v := 1) hx hb d_Lw_law_1147 (by decide) ?_
  refine lv_iadd hx hb d_Lw_law_1148 ?_
  refine l_sld hx hb hX hbl hS (k := 1) rfl (by omega) hL d_Lw_law_1149 ?_
  refine lv_aload_n hx hb d_Lw_law_1150 rfl (lv_at hl 1 rfl) ?_
  refine lv_iload hx hb d_Lw_law_1151 (lv_at hl 5 rfl) ?_
  refine lv_iconst (v := 2) hx hb d_Lw_law_1153 (by decide) ?_
  refine lv_iadd hx hb d_Lw_law_1154 ?_
  refine l_sld hx hb hX hbl hS (k := 2) rfl (by omega) hL d_Lw_law_1155 ?_
  refine lv_aload_n hx hb d_Lw_law_1156 rfl (lv_at hl 1 rfl) ?_
  refine lv_iload hx hb d_Lw_law_1157 (lv_at hl 5 rfl) ?_
  refine lv_iconst (v := 3) hx hb d_Lw_law_1159 (by decide) ?_
  refine lv_iadd hx hb d_Lw_law_1160 ?_
  refine l_sld hx hb hX hbl hS (k := 3) rfl (by omega) hL d_Lw_law_1161 ?_
  refine lv_aload_n hx hb d_Lw_law_1162 rfl (lv_at hl 1 rfl) ?_
  refine lv_iload hx hb d_Lw_law_1163 (lv_at hl 5 rfl) ?_
  refine lv_iconst (v := 4) hx hb d_Lw_law_1165 (by decide) ?_
  refine lv_iadd hx hb d_Lw_law_1166 ?_
  refine l_sld hx hb hX hbl hS (k := 4) rfl (by omega) hL d_Lw_law_1167 ?_
  refine lModI G w hS (va_runV (As := [.int (xs (i + 1)), .int (xs (i + 2)), .int (xs (i + 3)), .int (xs (i + 4))]) (rest := []) ⟨hx, hb, hml, hown, hts⟩ (MetX.met (c_Md_move l htl D cb bd sm _ (xs (i + 1)) (xs (i + 2)) (xs (i + 3)) (xs (i + 4)) bv sm' h2) (fun _ _ _ _ q => ⟨_, q.1⟩)) (xCW (C := "MuseumHouseModel") 4 hts wd_5_174 wd_1_13 wd_5_171 wd_5_172 wd_5_173 (by decide +kernel) ⟨Nat.le_of_ble_eq_true rfl, Nat.le_of_ble_eq_true rfl⟩) (G.2.1.preV w.2.1 hS 0 rfl rfl) rfl rfl hl.1 rfl (lv_room (Nat.le_of_ble_eq_true rfl)) d_Lw_law_1168 ⟨hc, hs0⟩) (fun H locs w hS => ?_)
  refine lv_istore (lv' := [(6, .int bv), (5, .int (wk [1, 2, 3] r)), (0, .ref b), (1, .ref (ad 0)), (2, .ref (bd 0)), (3, .ref o), (4, .int (nI i))]) hx hb d_Lw_law_1171 hl (by decide) rfl (fun ls hl => ?_)
  refine lv_aload_n hx hb d_Lw_law_1173 rfl (lv_at hl 4 rfl) ?_
  refine pu_callR (va_runV (As := []) (rest := []) ⟨hx, hb, hml, hown, hts⟩ (c_Md_thrown l D cb bd sm' _ (sm'.1 0) rfl) (xCW (C := "MuseumHouseModel") 0 hts wd_5_68 wd_1_13 wd_5_65 wd_5_66 wd_5_67 (by decide +kernel) ⟨Nat.le_of_ble_eq_true rfl, Nat.le_of_ble_eq_true rfl⟩) (G.2.1.preV w.2.1 hS 0 rfl rfl) rfl rfl hl.1 rfl (lv_room (Nat.le_of_ble_eq_true rfl)) d_Lw_law_1174 ⟨hc, hs0⟩) ?_
  refine lv_iload hx hb d_Lw_law_1177 (lv_at hl 1 rfl) ?_
  refine lv_icmp_eq (tgt := 1184) hx hb d_Lw_law_1179 (by decide) (fun _ => ?_) (fun cn => absurd h3 cn)
  refine lv_iload hx hb d_Lw_law_1184 (lv_at hl 1 rfl) ?_
  cases r with
  | inr k =>
    refine lv_if_ne (tgt := 1208) hx hb d_Lw_law_1186 (by decide) (fun _ => ?_) (fun cn => absurd cn (wk_ne _ k (by decide)))
    refine lv_goto (tgt := 2182) hx hb d_Lw_law_1208 (by decide) ?_
    exact kk _ _ w hS ls (lv_sub hl [2, 3, 4, 5, 6] rfl)
  | inl v =>
    have h4 := h4 v rfl
    subst h4
    refine lv_if_ne (tgt := 1208) hx hb d_Lw_law_1186 (by decide) (fun cn => absurd rfl cn) (fun _ => ?_)
    refine lv_aload_n hx hb d_Lw_law_1189 rfl (lv_at hl 5 rfl) ?_
    refine lv_iconst (v := 0) hx hb d_Lw_law_1190 (by decide) ?_
    refine va_lald hx hb G.2.2.1 w.2.2 0 0 rfl rfl w_in0 d_Lw_law_1191 ?_
    refine lv_iload hx hb d_Lw_law_1192 (lv_at hl 0 rfl) ?_
    refine lv_if_eq (tgt := 1201) hx hb d_Lw_law_1194 (by decide) (fun cz => ?_) (fun cz => ?_)
    · refine lv_lconst (v := 0) hx hb d_Lw_law_1201 (by decide) ?_
      refine W.lcmp hx hb d_Lw_law_1202 ?_
      refine lv_if_eq (tgt := 1208) hx hb d_Lw_law_1203 (by decide) (fun _ => ?_) (fun cn => absurd (by show lg_cmp (vp_updL f _ (if v = 0 then 0 else 1) _) 0 = 0; rw [updL_self, if_pos cz]; exact lg_cmp_self _) cn)
      refine lv_goto (tgt := 2182) hx hb d_Lw_law_1208 (by decide) ?_
      exact kk _ _ w hS ls (lv_sub hl [2, 3, 4, 5, 6] rfl)
    · refine lv_lconst (v := 1) hx hb d_Lw_law_1197 (by decide) ?_
      refine lv_goto (tgt := 1202) hx hb d_Lw_law_1198 (by decide) ?_
      refine W.lcmp hx hb d_Lw_law_1202 ?_
      refine lv_if_eq (tgt := 1208) hx hb d_Lw_law_1203 (by decide) (fun _ => ?_) (fun cn => absurd (by show lg_cmp (vp_updL f _ (if v = 0 then 0 else 1) _) 1 = 0; rw [updL_self, if_neg cz]; exact lg_cmp_self _) cn)
      refine lv_goto (tgt := 2182) hx hb d_Lw_law_1208 (by decide) ?_
      exact kk _ _ w hS ls (lv_sub hl [2, 3, 4, 5, 6] rfl)
set_option maxHeartbeats 4000000 in
set_option maxRecDepth 100000 in
theorem s_place {l : Launch} (htl : l.stackTraces = false) {p : Program} {e : Env} {s : State} {m : MethodId} {below : List Frame} {meth : Method} {c : Code} {b L : Nat} {xs : Nat → Int32} (C0 : lw_At p s m meth c b L xs) {D : va_G} {ca cb : Nat → ClassId} {co : ClassId} {ad bd : Nat → Nat} {o : Nat} (G : lX D ca cb co ad bd o s) {Q : State → Prop} {cells slots : Nat} (hc : cells + 1 ≤ 1089) (hs : slots + 6 ≤ 11746) (hL : L ≤ 2560) {i : Nat} (hi : i + 5 ≤ L) {st st' sm sm' : pu_St} {f : Nat → Int64} {r : Int32 ⊕ Nat} {bv : Int32} (h1 : f_H_place st (xs (i + 1)) (xs (i + 2)) = some (r, st')) (hk : ∀ k, r = .inr k → k ∈ [1, 3]) (h2 : f_Md_place sm (xs (i + 1)) (xs (i + 2)) = some (bv, sm')) (h3 : sm'.1 0 = wk [1, 3] r) (h4 : ∀ v, r = .inl v → v = bv)
    (kk : ∀ (H : Heap) (locs : List Loc), lW D ca cb co ad bd o st' sm' (wfI f r) H → va_S (lA s) s.heap H locs → ∀ ls : Array Slot, lv_has ls 7 [(0, .ref b), (1, .ref (ad 0)), (2, .ref (bd 0)), (3, .ref o), (4, .int (nI i))] → W p l e room_1 s m #[Value.ref b] below meth c H locs (cells + 1) (slots + 6) Q (F0 m 2182 ls []))
    (H : Heap) (locs : List Loc) (w : lW D ca cb co ad bd o st sm f H) (hS : va_S (lA s) s.heap H locs) (ls : Array Slot) (hl : lv_has ls 7 [(0, .ref b), (1, .ref (ad 0)), (2, .ref (bd 0)), (3, .ref o), (4, .int (nI i))]) : W p l e room_1 s m #[Value.ref b] below meth c H locs cells slots Q (F0 m 1211 ls []) := by
  obtain ⟨hx, hb, hr, hml, hown, hts0, hX, hbl, hlocks, hgv⟩ := C0
  have hts : ∀ w ∈ tG, w.before #[Value.ref b] s = true := fun w hw => hts0 w (List.mem_filter.mp hw).1
  have hown : s.vm.findClass "MuseumHouseLaw" = some m.cls := hown
  have hs0 : slots + 6 + 0 ≤ 11746 := hs
  refine lv_aload_n hx hb d_Lw_law_1211 rfl (lv_at hl 1 rfl) ?_
  refine lv_aload_n hx hb d_Lw_law_1212 rfl (lv_at hl 0 rfl) ?_
  refine lv_iload hx hb d_Lw_law_1213 (lv_at hl 4 rfl) ?_
  refine lv_iconst (v := 1) hx hb d_Lw_law_1215 (by decide) ?_
  refine lv_iadd hx hb d_Lw_law_1216 ?_
  refine l_sld hx hb hX hbl hS (k := 1) rfl (by omega) hL d_Lw_law_1217 ?_
  refine lv_aload_n hx hb d_Lw_law_1218 rfl (lv_at hl 0 rfl) ?_
  refine lv_iload hx hb d_Lw_law_1219 (lv_at hl 4 rfl) ?_
  refine lv_iconst (v := 2) hx hb d_Lw_law_1221 (by decide) ?_
  refine lv_iadd hx hb d_Lw_law_1222 ?_
  refine l_sld hx hb hX hbl hS (k := 2) rfl (by omega) hL d_Lw_law_1223 ?_
  refine lv_aload_n hx hb d_Lw_law_1224 rfl (lv_at hl 3 rfl) ?_
  refine lWrap G w hS (va_runSW (n := 4) (As := [.ref (ad 0), .int (xs (i + 1)), .int (xs (i + 2)), .ref o]) (rest := []) ⟨hx, hb, hml, hown, hts⟩ (w_place l htl D ca co ad o st f _ (xs (i + 1)) (xs (i + 2)) r st' h1 hk) rfl rfl ⟨Nat.le_of_ble_eq_true rfl, Nat.le_of_ble_eq_true rfl⟩ wd_3_211 wd_1_0 wd_3_209 wd_3_210 (by decide +kernel) (G.preW w hS) rfl rfl hl.1 rfl (lv_room (Nat.le_of_ble_eq_true rfl)) d_Lw_law_1225 ⟨Nat.le_trans (Nat.add_le_add_left (xc_le _) _) hc, Nat.le_trans (Nat.add_le_add_left (xs_le _) _) hs⟩) (fun H locs w hS => ?_)
  refine W.widen (k := cells + 1) (n := slots + 6) (Nat.add_le_add_left (xc_le _) _) (Nat.add_le_add_left (xs_le _) _) ?_
  refine lv_istore (lv' := [(5, .int (wk [1, 3] r)), (0, .ref b), (1, .ref (ad 0)), (2, .ref (bd 0)), (3, .ref o), (4, .int (nI i))]) hx hb d_Lw_law_1228 hl (by decide) rfl (fun ls hl => ?_)
  refine lv_aload_n hx hb d_Lw_law_1230 rfl (lv_at hl 3 rfl) ?_
  refine lv_aload_n hx hb d_Lw_law_1231 rfl (lv_at hl 1 rfl) ?_
  refine lv_iload hx hb d_Lw_law_1232 (lv_at hl 5 rfl) ?_
  refine lv_iconst (v := 1) hx hb d_Lw_law_1234 (by decide) ?_
  refine lv_iadd hx hb d_Lw_law_1235 ?_
  refine l_sld hx hb hX hbl hS (k := 1) rfl (by omega) hL d_Lw_law_1236 ?_
  refine lv_aload_n hx hb d_Lw_law_1237 rfl (lv_at hl 1 rfl) ?_
  refine lv_iload hx hb d_Lw_law_1238 (lv_at hl 5 rfl) ?_
  refine lv_iconst (v := 2) hx hb d_Lw_law_1240 (by decide) ?_
  refine lv_iadd hx hb d_Lw_law_1241 ?_
  refine l_sld hx hb hX hbl hS (k := 2) rfl (by omega) hL d_Lw_law_1242 ?_
  refine lModI G w hS (va_runV (As := [.int (xs (i + 1)), .int (xs (i + 2))]) (rest := []) ⟨hx, hb, hml, hown, hts⟩ (MetX.met (c_Md_place l htl D cb bd sm _ (xs (i + 1)) (xs (i + 2)) bv sm' h2) (fun _ _ _ _ q => ⟨_, q.1⟩)) (xCW (C := "MuseumHouseModel") 2 hts wd_5_190 wd_1_13 wd_5_187 wd_5_188 wd_5_189 (by decide +kernel) ⟨Nat.le_of_ble_eq_true rfl, Nat.le_of_ble_eq_true rfl⟩) (G.2.1.preV w.2.1 hS 0 rfl rfl) rfl rfl hl.1 rfl (lv_room (Nat.le_of_ble_eq_true rfl)) d_Lw_law_1243 ⟨hc, hs0⟩) (fun H locs w hS => ?_)
  refine lv_istore (lv' := [(6, .int bv), (5, .int (wk [1, 3] r)), (0, .ref b), (1, .ref (ad 0)), (2, .ref (bd 0)), (3, .ref o), (4, .int (nI i))]) hx hb d_Lw_law_1246 hl (by decide) rfl (fun ls hl => ?_)
  refine lv_aload_n hx hb d_Lw_law_1248 rfl (lv_at hl 4 rfl) ?_
  refine pu_callR (va_runV (As := []) (rest := []) ⟨hx, hb, hml, hown, hts⟩ (c_Md_thrown l D cb bd sm' _ (sm'.1 0) rfl) (xCW (C := "MuseumHouseModel") 0 hts wd_5_68 wd_1_13 wd_5_65 wd_5_66 wd_5_67 (by decide +kernel) ⟨Nat.le_of_ble_eq_true rfl, Nat.le_of_ble_eq_true rfl⟩) (G.2.1.preV w.2.1 hS 0 rfl rfl) rfl rfl hl.1 rfl (lv_room (Nat.le_of_ble_eq_true rfl)) d_Lw_law_1249 ⟨hc, hs0⟩) ?_
  refine lv_iload hx hb d_Lw_law_1252 (lv_at hl 1 rfl) ?_
  refine lv_icmp_eq (tgt := 1259) hx hb d_Lw_law_1254 (by decide) (fun _ => ?_) (fun cn => absurd h3 cn)
  refine lv_iload hx hb d_Lw_law_1259 (lv_at hl 1 rfl) ?_
  cases r with
  | inr k =>
    refine lv_if_ne (tgt := 1276) hx hb d_Lw_law_1261 (by decide) (fun _ => ?_) (fun cn => absurd cn (wk_ne _ k (by decide)))
    refine lv_goto (tgt := 2182) hx hb d_Lw_law_1276 (by decide) ?_
    exact kk _ _ w hS ls (lv_sub hl [2, 3, 4, 5, 6] rfl)
  | inl v =>
    have h4 := h4 v rfl
    subst h4
    refine lv_if_ne (tgt := 1276) hx hb d_Lw_law_1261 (by decide) (fun cn => absurd rfl cn) (fun _ => ?_)
    refine lv_aload_n hx hb d_Lw_law_1264 rfl (lv_at hl 5 rfl) ?_
    refine lv_iconst (v := 0) hx hb d_Lw_law_1265 (by decide) ?_
    refine va_lald hx hb G.2.2.1 w.2.2 0 0 rfl rfl w_in0 d_Lw_law_1266 ?_
    refine lv_iload hx hb d_Lw_law_1267 (lv_at hl 0 rfl) ?_
    refine lv_i2l hx hb d_Lw_law_1269 rfl ?_
    refine W.lcmp hx hb d_Lw_law_1270 ?_
    refine lv_if_eq (tgt := 1276) hx hb d_Lw_law_1271 (by decide) (fun _ => ?_) (fun cn => absurd (by show lg_cmp (vp_updL f _ v.toInt64 _) v.toInt64 = 0; rw [updL_self]; exact lg_cmp_self _) cn)
    refine lv_goto (tgt := 2182) hx hb d_Lw_law_1276 (by decide) ?_
    exact kk _ _ w hS ls (lv_sub hl [2, 3, 4, 5, 6] rfl)
set_option maxHeartbeats 4000000 in
set_option maxRecDepth 100000 in
theorem s_stored {l : Launch} (htl : l.stackTraces = false) {p : Program} {e : Env} {s : State} {m : MethodId} {below : List Frame} {meth : Method} {c : Code} {b L : Nat} {xs : Nat → Int32} (C0 : lw_At p s m meth c b L xs) {D : va_G} {ca cb : Nat → ClassId} {co : ClassId} {ad bd : Nat → Nat} {o : Nat} (G : lX D ca cb co ad bd o s) {Q : State → Prop} {cells slots : Nat} (hc : cells + 1 ≤ 1089) (hs : slots + 6 ≤ 11746) (hL : L ≤ 2560) {i : Nat} (hi : i + 5 ≤ L) {st st' sm sm' : pu_St} {f : Nat → Int64} {r : Int32 ⊕ Nat} {bv : Int32} (h1 : f_H_stored st (xs (i + 1)) (xs (i + 2)) = some (r, st')) (hk : ∀ k, r = .inr k → k ∈ [1, 3]) (h2 : f_Md_stored sm (xs (i + 1)) (xs (i + 2)) = some (bv, sm')) (h3 : sm'.1 0 = wk [1, 3] r) (h4 : ∀ v, r = .inl v → v = bv)
    (kk : ∀ (H : Heap) (locs : List Loc), lW D ca cb co ad bd o st' sm' (wfI f r) H → va_S (lA s) s.heap H locs → ∀ ls : Array Slot, lv_has ls 7 [(0, .ref b), (1, .ref (ad 0)), (2, .ref (bd 0)), (3, .ref o), (4, .int (nI i))] → W p l e room_1 s m #[Value.ref b] below meth c H locs (cells + 1) (slots + 6) Q (F0 m 2182 ls []))
    (H : Heap) (locs : List Loc) (w : lW D ca cb co ad bd o st sm f H) (hS : va_S (lA s) s.heap H locs) (ls : Array Slot) (hl : lv_has ls 7 [(0, .ref b), (1, .ref (ad 0)), (2, .ref (bd 0)), (3, .ref o), (4, .int (nI i))]) : W p l e room_1 s m #[Value.ref b] below meth c H locs cells slots Q (F0 m 1279 ls []) := by
  obtain ⟨hx, hb, hr, hml, hown, hts0, hX, hbl, hlocks, hgv⟩ := C0
  have hts : ∀ w ∈ tG, w.before #[Value.ref b] s = true := fun w hw => hts0 w (List.mem_filter.mp hw).1
  have hown : s.vm.findClass "MuseumHouseLaw" = some m.cls := hown
  have hs0 : slots + 6 + 0 ≤ 11746 := hs
  refine lv_aload_n hx hb d_Lw_law_1279 rfl (lv_at hl 1 rfl) ?_
  refine lv_aload_n hx hb d_Lw_law_1280 rfl (lv_at hl 0 rfl) ?_
  refine lv_iload hx hb d_Lw_law_1281 (lv_at hl 4 rfl) ?_
  refine lv_iconst (v := 1) hx hb d_Lw_law_1283 (by decide) ?_
  refine lv_iadd hx hb d_Lw_law_1284 ?_
  refine l_sld hx hb hX hbl hS (k := 1) rfl (by omega) hL d_Lw_law_1285 ?_
  refine lv_aload_n hx hb d_Lw_law_1286 rfl (lv_at hl 0 rfl) ?_
  refine lv_iload hx hb d_Lw_law_1287 (lv_at hl 4 rfl) ?_
  refine lv_iconst (v := 2) hx hb d_Lw_law_1289 (by decide) ?_
  refine lv_iadd hx hb d_Lw_law_1290 ?_
  refine l_sld hx hb hX hbl hS (k := 2) rfl (by omega) hL d_Lw_law_1291 ?_
  refine lv_aload_n hx hb d_Lw_law_1292 rfl (lv_at hl 3 rfl) ?_
  refine lWrap G w hS (va_runSW (n := 4) (As := [.ref (ad 0), .int (xs (i + 1)), .int (xs (i + 2)), .ref o]) (rest := []) ⟨hx, hb, hml, hown, hts⟩ (w_stored l htl D ca co ad o st f _ (xs (i + 1)) (xs (i + 2)) r st' h1 hk) rfl rfl ⟨Nat.le_of_ble_eq_true rfl, Nat.le_of_ble_eq_true rfl⟩ wd_3_227 wd_1_0 wd_3_225 wd_3_226 (by decide +kernel) (G.preW w hS) rfl rfl hl.1 rfl (lv_room (Nat.le_of_ble_eq_true rfl)) d_Lw_law_1293 ⟨Nat.le_trans (Nat.add_le_add_left (xc_le _) _) hc, Nat.le_trans (Nat.add_le_add_left (xs_le _) _) hs⟩) (fun H locs w hS => ?_)
  refine W.widen (k := cells + 1) (n := slots + 6) (Nat.add_le_add_left (xc_le _) _) (Nat.add_le_add_left (xs_le _) _) ?_
  refine lv_istore (lv' := [(5, .int (wk [1, 3] r)), (0, .ref b), (1, .ref (ad 0)), (2, .ref (bd 0)), (3, .ref o), (4, .int (nI i))]) hx hb d_Lw_law_1296 hl (by decide) rfl (fun ls hl => ?_)
  refine lv_aload_n hx hb d_Lw_law_1298 rfl (lv_at hl 3 rfl) ?_
  refine lv_aload_n hx hb d_Lw_law_1299 rfl (lv_at hl 1 rfl) ?_
  refine lv_iload hx hb d_Lw_law_1300 (lv_at hl 5 rfl) ?_
  refine lv_iconst (v := 1) hx hb d_Lw_law_1302 (by decide) ?_
  refine lv_iadd hx hb d_Lw_law_1303 ?_
  refine l_sld hx hb hX hbl hS (k := 1) rfl (by omega) hL d_Lw_law_1304 ?_
  refine lv_aload_n hx hb d_Lw_law_1305 rfl (lv_at hl 1 rfl) ?_
  refine lv_iload hx hb d_Lw_law_1306 (lv_at hl 5 rfl) ?_
  refine lv_iconst (v := 2) hx hb d_Lw_law_1308 (by decide) ?_
  refine lv_iadd hx hb d_Lw_law_1309 ?_
  refine l_sld hx hb hX hbl hS (k := 2) rfl (by omega) hL d_Lw_law_1310 ?_
  refine lModI G w hS (va_runV (As := [.int (xs (i + 1)), .int (xs (i + 2))]) (rest := []) ⟨hx, hb, hml, hown, hts⟩ (MetX.met (c_Md_stored l htl D cb bd sm _ (xs (i + 1)) (xs (i + 2)) bv sm' h2) (fun _ _ _ _ q => ⟨_, q.1⟩)) (xCW (C := "MuseumHouseModel") 2 hts wd_5_201 wd_1_13 wd_5_198 wd_5_199 wd_5_200 (by decide +kernel) ⟨Nat.le_of_ble_eq_true rfl, Nat.le_of_ble_eq_true rfl⟩) (G.2.1.preV w.2.1 hS 0 rfl rfl) rfl rfl hl.1 rfl (lv_room (Nat.le_of_ble_eq_true rfl)) d_Lw_law_1311 ⟨hc, hs0⟩) (fun H locs w hS => ?_)
  refine lv_istore (lv' := [(6, .int bv), (5, .int (wk [1, 3] r)), (0, .ref b), (1, .ref (ad 0)), (2, .ref (bd 0)), (3, .ref o), (4, .int (nI i))]) hx hb d_Lw_law_1314 hl (by decide) rfl (fun ls hl => ?_)
  refine lv_aload_n hx hb d_Lw_law_1316 rfl (lv_at hl 4 rfl) ?_
  refine pu_callR (va_runV (As := []) (rest := []) ⟨hx, hb, hml, hown, hts⟩ (c_Md_thrown l D cb bd sm' _ (sm'.1 0) rfl) (xCW (C := "MuseumHouseModel") 0 hts wd_5_68 wd_1_13 wd_5_65 wd_5_66 wd_5_67 (by decide +kernel) ⟨Nat.le_of_ble_eq_true rfl, Nat.le_of_ble_eq_true rfl⟩) (G.2.1.preV w.2.1 hS 0 rfl rfl) rfl rfl hl.1 rfl (lv_room (Nat.le_of_ble_eq_true rfl)) d_Lw_law_1317 ⟨hc, hs0⟩) ?_
  refine lv_iload hx hb d_Lw_law_1320 (lv_at hl 1 rfl) ?_
  refine lv_icmp_eq (tgt := 1327) hx hb d_Lw_law_1322 (by decide) (fun _ => ?_) (fun cn => absurd h3 cn)
  refine lv_iload hx hb d_Lw_law_1327 (lv_at hl 1 rfl) ?_
  cases r with
  | inr k =>
    refine lv_if_ne (tgt := 1344) hx hb d_Lw_law_1329 (by decide) (fun _ => ?_) (fun cn => absurd cn (wk_ne _ k (by decide)))
    refine lv_goto (tgt := 2182) hx hb d_Lw_law_1344 (by decide) ?_
    exact kk _ _ w hS ls (lv_sub hl [2, 3, 4, 5, 6] rfl)
  | inl v =>
    have h4 := h4 v rfl
    subst h4
    refine lv_if_ne (tgt := 1344) hx hb d_Lw_law_1329 (by decide) (fun cn => absurd rfl cn) (fun _ => ?_)
    refine lv_aload_n hx hb d_Lw_law_1332 rfl (lv_at hl 5 rfl) ?_
    refine lv_iconst (v := 0) hx hb d_Lw_law_1333 (by decide) ?_
    refine va_lald hx hb G.2.2.1 w.2.2 0 0 rfl rfl w_in0 d_Lw_law_1334 ?_
    refine lv_iload hx hb d_Lw_law_1335 (lv_at hl 0 rfl) ?_
    refine lv_i2l hx hb d_Lw_law_1337 rfl ?_
    refine W.lcmp hx hb d_Lw_law_1338 ?_
    refine lv_if_eq (tgt := 1344) hx hb d_Lw_law_1339 (by decide) (fun _ => ?_) (fun cn => absurd (by show lg_cmp (vp_updL f _ v.toInt64 _) v.toInt64 = 0; rw [updL_self]; exact lg_cmp_self _) cn)
    refine lv_goto (tgt := 2182) hx hb d_Lw_law_1344 (by decide) ?_
    exact kk _ _ w hS ls (lv_sub hl [2, 3, 4, 5, 6] rfl)
set_option maxHeartbeats 4000000 in
set_option maxRecDepth 100000 in
theorem s_loan {l : Launch} (htl : l.stackTraces = false) {p : Program} {e : Env} {s : State} {m : MethodId} {below : List Frame} {meth : Method} {c : Code} {b L : Nat} {xs : Nat → Int32} (C0 : lw_At p s m meth c b L xs) {D : va_G} {ca cb : Nat → ClassId} {co : ClassId} {ad bd : Nat → Nat} {o : Nat} (G : lX D ca cb co ad bd o s) {Q : State → Prop} {cells slots : Nat} (hc : cells + 1 ≤ 1089) (hs : slots + 6 ≤ 11746) (hL : L ≤ 2560) {i : Nat} (hi : i + 5 ≤ L) {st st' sm sm' : pu_St} {f : Nat → Int64} {r : Int32 ⊕ Nat} {bv : Int32} (h1 : f_H_loan st (xs (i + 1)) (xs (i + 2)) (xs (i + 3)) (xs (i + 4)) = some (r, st')) (hk : ∀ k, r = .inr k → k ∈ [1, 2, 3]) (h2 : f_Md_loan sm (xs (i + 1)) (xs (i + 2)) (xs (i + 3)) (xs (i + 4)) = some (bv, sm')) (h3 : sm'.1 0 = wk [1, 2, 3] r) (h4 : ∀ v, r = .inl v → v = bv)
    (kk : ∀ (H : Heap) (locs : List Loc), lW D ca cb co ad bd o st' sm' (wfI f r) H → va_S (lA s) s.heap H locs → ∀ ls : Array Slot, lv_has ls 7 [(0, .ref b), (1, .ref (ad 0)), (2, .ref (bd 0)), (3, .ref o), (4, .int (nI i))] → W p l e room_1 s m #[Value.ref b] below meth c H locs (cells + 1) (slots + 6) Q (F0 m 2182 ls []))
    (H : Heap) (locs : List Loc) (w : lW D ca cb co ad bd o st sm f H) (hS : va_S (lA s) s.heap H locs) (ls : Array Slot) (hl : lv_has ls 7 [(0, .ref b), (1, .ref (ad 0)), (2, .ref (bd 0)), (3, .ref o), (4, .int (nI i))]) : W p l e room_1 s m #[Value.ref b] below meth c H locs cells slots Q (F0 m 1347 ls []) := by
  obtain ⟨hx, hb, hr, hml, hown, hts0, hX, hbl, hlocks, hgv⟩ := C0
  have hts : ∀ w ∈ tG, w.before #[Value.ref b] s = true := fun w hw => hts0 w (List.mem_filter.mp hw).1
  have hown : s.vm.findClass "MuseumHouseLaw" = some m.cls := hown
  have hs0 : slots + 6 + 0 ≤ 11746 := hs
  refine lv_aload_n hx hb d_Lw_law_1347 rfl (lv_at hl 1 rfl) ?_
  refine lv_aload_n hx hb d_Lw_law_1348 rfl (lv_at hl 0 rfl) ?_
  refine lv_iload hx hb d_Lw_law_1349 (lv_at hl 4 rfl) ?_
  refine lv_iconst (v := 1) hx hb d_Lw_law_1351 (by decide) ?_
  refine lv_iadd hx hb d_Lw_law_1352 ?_
  refine l_sld hx hb hX hbl hS (k := 1) rfl (by omega) hL d_Lw_law_1353 ?_
  refine lv_aload_n hx hb d_Lw_law_1354 rfl (lv_at hl 0 rfl) ?_
  refine lv_iload hx hb d_Lw_law_1355 (lv_at hl 4 rfl) ?_
  refine lv_iconst (v := 2) hx hb d_Lw_law_1357 (by decide) ?_
  refine lv_iadd hx hb d_Lw_law_1358 ?_
  refine l_sld hx hb hX hbl hS (k := 2) rfl (by omega) hL d_Lw_law_1359 ?_
  refine lv_aload_n hx hb d_Lw_law_1360 rfl (lv_at hl 0 rfl) ?_
  refine lv_iload hx hb d_Lw_law_1361 (lv_at hl 4 rfl) ?_
  refine lv_iconst (v := 3) hx hb d_Lw_law_1363 (by decide) ?_
  refine lv_iadd hx hb d_Lw_law_1364 ?_
  refine l_sld hx hb hX hbl hS (k := 3) rfl (by omega) hL d_Lw_law_1365 ?_
  refine lv_aload_n hx hb d_Lw_law_1366 rfl (lv_at hl 0 rfl) ?_
  refine lv_iload hx hb d_Lw_law_1367 (lv_at hl 4 rfl) ?_
  refine lv_iconst (v := 4) hx hb d_Lw_law_1369 (by decide) ?_
  refine lv_iadd hx hb d_Lw_law_1370 ?_
  refine l_sld hx hb hX hbl hS (k := 4) rfl (by omega) hL d_Lw_law_1371 ?_
  refine lv_aload_n hx hb d_Lw_law_1372 rfl (lv_at hl 3 rfl) ?_
  refine lWrap G w hS (va_runSW (n := 6) (As := [.ref (ad 0), .int (xs (i + 1)), .int (xs (i + 2)), .int (xs (i + 3)), .int (xs (i + 4)), .ref o]) (rest := []) ⟨hx, hb, hml, hown, hts⟩ (w_loan l htl D ca co ad o st f _ (xs (i + 1)) (xs (i + 2)) (xs (i + 3)) (xs (i + 4)) r st' h1 hk) rfl rfl ⟨Nat.le_of_ble_eq_true rfl, Nat.le_of_ble_eq_true rfl⟩ wd_3_235 wd_1_0 wd_3_233 wd_3_234 (by decide +kernel) (G.preW w hS) rfl rfl hl.1 rfl (lv_room (Nat.le_of_ble_eq_true rfl)) d_Lw_law_1373 ⟨Nat.le_trans (Nat.add_le_add_left (xc_le _) _) hc, Nat.le_trans (Nat.add_le_add_left (xs_le _) _) hs⟩) (fun H locs w hS => ?_)
  refine W.widen (k := cells + 1) (n := slots + 6) (Nat.add_le_add_left (xc_le _) _) (Nat.add_le_add_left (xs_le _) _) ?_
  refine lv_istore (lv' := [(5, .int (wk [1, 2, 3] r)), (0, .ref b), (1, .ref (ad 0)), (2, .ref (bd 0)), (3, .ref o), (4, .int (nI i))]) hx hb d_Lw_law_1376 hl (by decide) rfl (fun ls hl => ?_)
  refine lv_aload_n hx hb d_Lw_law_1378 rfl (lv_at hl 3 rfl) ?_
  refine lv_aload_n hx hb d_Lw_law_1379 rfl (lv_at hl 1 rfl) ?_
  refine lv_iload hx hb d_Lw_law_1380 (lv_at hl 5 rfl) ?_
  refine lv_iconst (v := 1) hx hb d_Lw_law_1382 (by decide) ?_
  refine lv_iadd hx hb d_Lw_law_1383 ?_
  refine l_sld hx hb hX hbl hS (k := 1) rfl (by omega) hL d_Lw_law_1384 ?_
  refine lv_aload_n hx hb d_Lw_law_1385 rfl (lv_at hl 1 rfl) ?_
  refine lv_iload hx hb d_Lw_law_1386 (lv_at hl 5 rfl) ?_
  refine lv_iconst (v := 2) hx hb d_Lw_law_1388 (by decide) ?_
  refine lv_iadd hx hb d_Lw_law_1389 ?_
  refine l_sld hx hb hX hbl hS (k := 2) rfl (by omega) hL d_Lw_law_1390 ?_
  refine lv_aload_n hx hb d_Lw_law_1391 rfl (lv_at hl 1 rfl) ?_
  refine lv_iload hx hb d_Lw_law_1392 (lv_at hl 5 rfl) ?_
  refine lv_iconst (v := 3) hx hb d_Lw_law_1394 (by decide) ?_
  refine lv_iadd hx hb d_Lw_law_1395 ?_
  refine l_sld hx hb hX hbl hS (k := 3) rfl (by omega) hL d_Lw_law_1396 ?_
  refine lv_aload_n hx hb d_Lw_law_1397 rfl (lv_at hl 1 rfl) ?_
  refine lv_iload hx hb d_Lw_law_1398 (lv_at hl 5 rfl) ?_
  refine lv_iconst (v := 4) hx hb d_Lw_law_1400 (by decide) ?_
  refine lv_iadd hx hb d_Lw_law_1401 ?_
  refine l_sld hx hb hX hbl hS (k := 4) rfl (by omega) hL d_Lw_law_1402 ?_
  refine lModI G w hS (va_runV (As := [.int (xs (i + 1)), .int (xs (i + 2)), .int (xs (i + 3)), .int (xs (i + 4))]) (rest := []) ⟨hx, hb, hml, hown, hts⟩ (MetX.met (c_Md_loan l htl D cb bd sm _ (xs (i + 1)) (xs (i + 2)) (xs (i + 3)) (xs (i + 4)) bv sm' h2) (fun _ _ _ _ q => ⟨_, q.1⟩)) (xCW (C := "MuseumHouseModel") 4 hts wd_5_205 wd_1_13 wd_5_202 wd_5_203 wd_5_204 (by decide +kernel) ⟨Nat.le_of_ble_eq_true rfl, Nat.le_of_ble_eq_true rfl⟩) (G.2.1.preV w.2.1 hS 0 rfl rfl) rfl rfl hl.1 rfl (lv_room (Nat.le_of_ble_eq_true rfl)) d_Lw_law_1403 ⟨hc, hs0⟩) (fun H locs w hS => ?_)
  refine lv_istore (lv' := [(6, .int bv), (5, .int (wk [1, 2, 3] r)), (0, .ref b), (1, .ref (ad 0)), (2, .ref (bd 0)), (3, .ref o), (4, .int (nI i))]) hx hb d_Lw_law_1406 hl (by decide) rfl (fun ls hl => ?_)
  refine lv_aload_n hx hb d_Lw_law_1408 rfl (lv_at hl 4 rfl) ?_
  refine pu_callR (va_runV (As := []) (rest := []) ⟨hx, hb, hml, hown, hts⟩ (c_Md_thrown l D cb bd sm' _ (sm'.1 0) rfl) (xCW (C := "MuseumHouseModel") 0 hts wd_5_68 wd_1_13 wd_5_65 wd_5_66 wd_5_67 (by decide +kernel) ⟨Nat.le_of_ble_eq_true rfl, Nat.le_of_ble_eq_true rfl⟩) (G.2.1.preV w.2.1 hS 0 rfl rfl) rfl rfl hl.1 rfl (lv_room (Nat.le_of_ble_eq_true rfl)) d_Lw_law_1409 ⟨hc, hs0⟩) ?_
  refine lv_iload hx hb d_Lw_law_1412 (lv_at hl 1 rfl) ?_
  refine lv_icmp_eq (tgt := 1419) hx hb d_Lw_law_1414 (by decide) (fun _ => ?_) (fun cn => absurd h3 cn)
  refine lv_iload hx hb d_Lw_law_1419 (lv_at hl 1 rfl) ?_
  cases r with
  | inr k =>
    refine lv_if_ne (tgt := 1436) hx hb d_Lw_law_1421 (by decide) (fun _ => ?_) (fun cn => absurd cn (wk_ne _ k (by decide)))
    refine lv_goto (tgt := 2182) hx hb d_Lw_law_1436 (by decide) ?_
    exact kk _ _ w hS ls (lv_sub hl [2, 3, 4, 5, 6] rfl)
  | inl v =>
    have h4 := h4 v rfl
    subst h4
    refine lv_if_ne (tgt := 1436) hx hb d_Lw_law_1421 (by decide) (fun cn => absurd rfl cn) (fun _ => ?_)
    refine lv_aload_n hx hb d_Lw_law_1424 rfl (lv_at hl 5 rfl) ?_
    refine lv_iconst (v := 0) hx hb d_Lw_law_1425 (by decide) ?_
    refine va_lald hx hb G.2.2.1 w.2.2 0 0 rfl rfl w_in0 d_Lw_law_1426 ?_
    refine lv_iload hx hb d_Lw_law_1427 (lv_at hl 0 rfl) ?_
    refine lv_i2l hx hb d_Lw_law_1429 rfl ?_
    refine W.lcmp hx hb d_Lw_law_1430 ?_
    refine lv_if_eq (tgt := 1436) hx hb d_Lw_law_1431 (by decide) (fun _ => ?_) (fun cn => absurd (by show lg_cmp (vp_updL f _ v.toInt64 _) v.toInt64 = 0; rw [updL_self]; exact lg_cmp_self _) cn)
    refine lv_goto (tgt := 2182) hx hb d_Lw_law_1436 (by decide) ?_
    exact kk _ _ w hS ls (lv_sub hl [2, 3, 4, 5, 6] rfl)
set_option maxHeartbeats 4000000 in
set_option maxRecDepth 100000 in
theorem s_back {l : Launch} (htl : l.stackTraces = false) {p : Program} {e : Env} {s : State} {m : MethodId} {below : List Frame} {meth : Method} {c : Code} {b L : Nat} {xs : Nat → Int32} (C0 : lw_At p s m meth c b L xs) {D : va_G} {ca cb : Nat → ClassId} {co : ClassId} {ad bd : Nat → Nat} {o : Nat} (G : lX D ca cb co ad bd o s) {Q : State → Prop} {cells slots : Nat} (hc : cells + 1 ≤ 1089) (hs : slots + 6 ≤ 11746) (hL : L ≤ 2560) {i : Nat} (hi : i + 5 ≤ L) {st st' sm sm' : pu_St} {f : Nat → Int64} {r : Int32 ⊕ Nat} {bv : Int32} (h1 : f_H_back st (xs (i + 1)) (xs (i + 2)) (xs (i + 3)) = some (r, st')) (hk : ∀ k, r = .inr k → k ∈ [1, 2, 3]) (h2 : f_Md_back sm (xs (i + 1)) (xs (i + 2)) (xs (i + 3)) = some (bv, sm')) (h3 : sm'.1 0 = wk [1, 2, 3] r) (h4 : ∀ v, r = .inl v → v = bv)
    (kk : ∀ (H : Heap) (locs : List Loc), lW D ca cb co ad bd o st' sm' (wfI f r) H → va_S (lA s) s.heap H locs → ∀ ls : Array Slot, lv_has ls 7 [(0, .ref b), (1, .ref (ad 0)), (2, .ref (bd 0)), (3, .ref o), (4, .int (nI i))] → W p l e room_1 s m #[Value.ref b] below meth c H locs (cells + 1) (slots + 6) Q (F0 m 2182 ls []))
    (H : Heap) (locs : List Loc) (w : lW D ca cb co ad bd o st sm f H) (hS : va_S (lA s) s.heap H locs) (ls : Array Slot) (hl : lv_has ls 7 [(0, .ref b), (1, .ref (ad 0)), (2, .ref (bd 0)), (3, .ref o), (4, .int (nI i))]) : W p l e room_1 s m #[Value.ref b] below meth c H locs cells slots Q (F0 m 1439 ls []) := by
  obtain ⟨hx, hb, hr, hml, hown, hts0, hX, hbl, hlocks, hgv⟩ := C0
  have hts : ∀ w ∈ tG, w.before #[Value.ref b] s = true := fun w hw => hts0 w (List.mem_filter.mp hw).1
  have hown : s.vm.findClass "MuseumHouseLaw" = some m.cls := hown
  have hs0 : slots + 6 + 0 ≤ 11746 := hs
  refine lv_aload_n hx hb d_Lw_law_1439 rfl (lv_at hl 1 rfl) ?_
  refine lv_aload_n hx hb d_Lw_law_1440 rfl (lv_at hl 0 rfl) ?_
  refine lv_iload hx hb d_Lw_law_1441 (lv_at hl 4 rfl) ?_
  refine lv_iconst (v := 1) hx hb d_Lw_law_1443 (by decide) ?_
  refine lv_iadd hx hb d_Lw_law_1444 ?_
  refine l_sld hx hb hX hbl hS (k := 1) rfl (by omega) hL d_Lw_law_1445 ?_
  refine lv_aload_n hx hb d_Lw_law_1446 rfl (lv_at hl 0 rfl) ?_
  refine lv_iload hx hb d_Lw_law_1447 (lv_at hl 4 rfl) ?_
  refine lv_iconst (v := 2) hx hb d_Lw_law_1449 (by decide) ?_
  refine lv_iadd hx hb d_Lw_law_1450 ?_
  refine l_sld hx hb hX hbl hS (k := 2) rfl (by omega) hL d_Lw_law_1451 ?_
  refine lv_aload_n hx hb d_Lw_law_1452 rfl (lv_at hl 0 rfl) ?_
  refine lv_iload hx hb d_Lw_law_1453 (lv_at hl 4 rfl) ?_
  refine lv_iconst (v := 3) hx hb d_Lw_law_1455 (by decide) ?_
  refine lv_iadd hx hb d_Lw_law_1456 ?_
  refine l_sld hx hb hX hbl hS (k := 3) rfl (by omega) hL d_Lw_law_1457 ?_
  refine lv_aload_n hx hb d_Lw_law_1458 rfl (lv_at hl 3 rfl) ?_
  refine lWrap G w hS (va_runSW (n := 5) (As := [.ref (ad 0), .int (xs (i + 1)), .int (xs (i + 2)), .int (xs (i + 3)), .ref o]) (rest := []) ⟨hx, hb, hml, hown, hts⟩ (w_back l htl D ca co ad o st f _ (xs (i + 1)) (xs (i + 2)) (xs (i + 3)) r st' h1 hk) rfl rfl ⟨Nat.le_of_ble_eq_true rfl, Nat.le_of_ble_eq_true rfl⟩ wd_4_38 wd_1_0 wd_4_36 wd_4_37 (by decide +kernel) (G.preW w hS) rfl rfl hl.1 rfl (lv_room (Nat.le_of_ble_eq_true rfl)) d_Lw_law_1459 ⟨Nat.le_trans (Nat.add_le_add_left (xc_le _) _) hc, Nat.le_trans (Nat.add_le_add_left (xs_le _) _) hs⟩) (fun H locs w hS => ?_)
  refine W.widen (k := cells + 1) (n := slots + 6) (Nat.add_le_add_left (xc_le _) _) (Nat.add_le_add_left (xs_le _) _) ?_
  refine lv_istore (lv' := [(5, .int (wk [1, 2, 3] r)), (0, .ref b), (1, .ref (ad 0)), (2, .ref (bd 0)), (3, .ref o), (4, .int (nI i))]) hx hb d_Lw_law_1462 hl (by decide) rfl (fun ls hl => ?_)
  refine lv_aload_n hx hb d_Lw_law_1464 rfl (lv_at hl 3 rfl) ?_
  refine lv_aload_n hx hb d_Lw_law_1465 rfl (lv_at hl 1 rfl) ?_
  refine lv_iload hx hb d_Lw_law_1466 (lv_at hl 5 rfl) ?_
  refine lv_iconst (v := 1) hx hb d_Lw_law_1468 (by decide) ?_
  refine lv_iadd hx hb d_Lw_law_1469 ?_
  refine l_sld hx hb hX hbl hS (k := 1) rfl (by omega) hL d_Lw_law_1470 ?_
  refine lv_aload_n hx hb d_Lw_law_1471 rfl (lv_at hl 1 rfl) ?_
  refine lv_iload hx hb d_Lw_law_1472 (lv_at hl 5 rfl) ?_
  refine lv_iconst (v := 2) hx hb d_Lw_law_1474 (by decide) ?_
  refine lv_iadd hx hb d_Lw_law_1475 ?_
  refine l_sld hx hb hX hbl hS (k := 2) rfl (by omega) hL d_Lw_law_1476 ?_
  refine lv_aload_n hx hb d_Lw_law_1477 rfl (lv_at hl 1 rfl) ?_
  refine lv_iload hx hb d_Lw_law_1478 (lv_at hl 5 rfl) ?_
  refine lv_iconst (v := 3) hx hb d_Lw_law_1480 (by decide) ?_
  refine lv_iadd hx hb d_Lw_law_1481 ?_
  refine l_sld hx hb hX hbl hS (k := 3) rfl (by omega) hL d_Lw_law_1482 ?_
  refine lModI G w hS (va_runV (As := [.int (xs (i + 1)), .int (xs (i + 2)), .int (xs (i + 3))]) (rest := []) ⟨hx, hb, hml, hown, hts⟩ (MetX.met (c_Md_back l htl D cb bd sm _ (xs (i + 1)) (xs (i + 2)) (xs (i + 3)) bv sm' h2) (fun _ _ _ _ q => ⟨_, q.1⟩)) (xCW (C := "MuseumHouseModel") 3 hts wd_5_220 wd_1_13 wd_5_217 wd_5_218 wd_5_219 (by decide +kernel) ⟨Nat.le_of_ble_eq_true rfl, Nat.le_of_ble_eq_true rfl⟩) (G.2.1.preV w.2.1 hS 0 rfl rfl) rfl rfl hl.1 rfl (lv_room (Nat.le_of_ble_eq_true rfl)) d_Lw_law_1483 ⟨hc, hs0⟩) (fun H locs w hS => ?_)
  refine lv_istore (lv' := [(6, .int bv), (5, .int (wk [1, 2, 3] r)), (0, .ref b), (1, .ref (ad 0)), (2, .ref (bd 0)), (3, .ref o), (4, .int (nI i))]) hx hb d_Lw_law_1486 hl (by decide) rfl (fun ls hl => ?_)
  refine lv_aload_n hx hb d_Lw_law_1488 rfl (lv_at hl 4 rfl) ?_
  refine pu_callR (va_runV (As := []) (rest := []) ⟨hx, hb, hml, hown, hts⟩ (c_Md_thrown l D cb bd sm' _ (sm'.1 0) rfl) (xCW (C := "MuseumHouseModel") 0 hts wd_5_68 wd_1_13 wd_5_65 wd_5_66 wd_5_67 (by decide +kernel) ⟨Nat.le_of_ble_eq_true rfl, Nat.le_of_ble_eq_true rfl⟩) (G.2.1.preV w.2.1 hS 0 rfl rfl) rfl rfl hl.1 rfl (lv_room (Nat.le_of_ble_eq_true rfl)) d_Lw_law_1489 ⟨hc, hs0⟩) ?_
  refine lv_iload hx hb d_Lw_law_1492 (lv_at hl 1 rfl) ?_
  refine lv_icmp_eq (tgt := 1499) hx hb d_Lw_law_1494 (by decide) (fun _ => ?_) (fun cn => absurd h3 cn)
  refine lv_iload hx hb d_Lw_law_1499 (lv_at hl 1 rfl) ?_
  cases r with
  | inr k =>
    refine lv_if_ne (tgt := 1516) hx hb d_Lw_law_1501 (by decide) (fun _ => ?_) (fun cn => absurd cn (wk_ne _ k (by decide)))
    refine lv_goto (tgt := 2182) hx hb d_Lw_law_1516 (by decide) ?_
    exact kk _ _ w hS ls (lv_sub hl [2, 3, 4, 5, 6] rfl)
  | inl v =>
    have h4 := h4 v rfl
    subst h4
    refine lv_if_ne (tgt := 1516) hx hb d_Lw_law_1501 (by decide) (fun cn => absurd rfl cn) (fun _ => ?_)
    refine lv_aload_n hx hb d_Lw_law_1504 rfl (lv_at hl 5 rfl) ?_
    refine lv_iconst (v := 0) hx hb d_Lw_law_1505 (by decide) ?_
    refine va_lald hx hb G.2.2.1 w.2.2 0 0 rfl rfl w_in0 d_Lw_law_1506 ?_
    refine lv_iload hx hb d_Lw_law_1507 (lv_at hl 0 rfl) ?_
    refine lv_i2l hx hb d_Lw_law_1509 rfl ?_
    refine W.lcmp hx hb d_Lw_law_1510 ?_
    refine lv_if_eq (tgt := 1516) hx hb d_Lw_law_1511 (by decide) (fun _ => ?_) (fun cn => absurd (by show lg_cmp (vp_updL f _ v.toInt64 _) v.toInt64 = 0; rw [updL_self]; exact lg_cmp_self _) cn)
    refine lv_goto (tgt := 2182) hx hb d_Lw_law_1516 (by decide) ?_
    exact kk _ _ w hS ls (lv_sub hl [2, 3, 4, 5, 6] rfl)
set_option maxHeartbeats 4000000 in
set_option maxRecDepth 100000 in
theorem s_show {l : Launch} (htl : l.stackTraces = false) {p : Program} {e : Env} {s : State} {m : MethodId} {below : List Frame} {meth : Method} {c : Code} {b L : Nat} {xs : Nat → Int32} (C0 : lw_At p s m meth c b L xs) {D : va_G} {ca cb : Nat → ClassId} {co : ClassId} {ad bd : Nat → Nat} {o : Nat} (G : lX D ca cb co ad bd o s) {Q : State → Prop} {cells slots : Nat} (hc : cells + 1 ≤ 1089) (hs : slots + 6 ≤ 11746) (hL : L ≤ 2560) {i : Nat} (hi : i + 5 ≤ L) {st st' sm sm' : pu_St} {f : Nat → Int64} {r : Int32 ⊕ Nat} {bv : Int32} (h1 : f_H_show st (xs (i + 1)) (xs (i + 2)) (xs (i + 3)) (xs (i + 4)) = some (r, st')) (hk : ∀ k, r = .inr k → k ∈ [1, 2, 3]) (h2 : f_Md_show sm (xs (i + 1)) (xs (i + 2)) (xs (i + 3)) (xs (i + 4)) = some (bv, sm')) (h3 : sm'.1 0 = wk [1, 2, 3] r) (h4 : ∀ v, r = .inl v → v = bv)
    (kk : ∀ (H : Heap) (locs : List Loc), lW D ca cb co ad bd o st' sm' (wfI f r) H → va_S (lA s) s.heap H locs → ∀ ls : Array Slot, lv_has ls 7 [(0, .ref b), (1, .ref (ad 0)), (2, .ref (bd 0)), (3, .ref o), (4, .int (nI i))] → W p l e room_1 s m #[Value.ref b] below meth c H locs (cells + 1) (slots + 6) Q (F0 m 2182 ls []))
    (H : Heap) (locs : List Loc) (w : lW D ca cb co ad bd o st sm f H) (hS : va_S (lA s) s.heap H locs) (ls : Array Slot) (hl : lv_has ls 7 [(0, .ref b), (1, .ref (ad 0)), (2, .ref (bd 0)), (3, .ref o), (4, .int (nI i))]) : W p l e room_1 s m #[Value.ref b] below meth c H locs cells slots Q (F0 m 1519 ls []) := by
  obtain ⟨hx, hb, hr, hml, hown, hts0, hX, hbl, hlocks, hgv⟩ := C0
  have hts : ∀ w ∈ tG, w.before #[Value.ref b] s = true := fun w hw => hts0 w (List.mem_filter.mp hw).1
  have hown : s.vm.findClass "MuseumHouseLaw" = some m.cls := hown
  have hs0 : slots + 6 + 0 ≤ 11746 := hs
  refine lv_aload_n hx hb d_Lw_law_1519 rfl (lv_at hl 1 rfl) ?_
  refine lv_aload_n hx hb d_Lw_law_1520 rfl (lv_at hl 0 rfl) ?_
  refine lv_iload hx hb d_Lw_law_1521 (lv_at hl 4 rfl) ?_
  refine lv_iconst (v := 1) hx hb d_Lw_law_1523 (by decide) ?_
  refine lv_iadd hx hb d_Lw_law_1524 ?_
  refine l_sld hx hb hX hbl hS (k := 1) rfl (by omega) hL d_Lw_law_1525 ?_
  refine lv_aload_n hx hb d_Lw_law_1526 rfl (lv_at hl 0 rfl) ?_
  refine lv_iload hx hb d_Lw_law_1527 (lv_at hl 4 rfl) ?_
  refine lv_iconst (v := 2) hx hb d_Lw_law_1529 (by decide) ?_
  refine lv_iadd hx hb d_Lw_law_1530 ?_
  refine l_sld hx hb hX hbl hS (k := 2) rfl (by omega) hL d_Lw_law_1531 ?_
  refine lv_aload_n hx hb d_Lw_law_1532 rfl (lv_at hl 0 rfl) ?_
  refine lv_iload hx hb d_Lw_law_1533 (lv_at hl 4 rfl) ?_
  refine lv_iconst (v := 3) hx hb d_Lw_law_1535 (by decide) ?_
  refine lv_iadd hx hb d_Lw_law_1536 ?_
  refine l_sld hx hb hX hbl hS (k := 3) rfl (by omega) hL d_Lw_law_1537 ?_
  refine lv_aload_n hx hb d_Lw_law_1538 rfl (lv_at hl 0 rfl) ?_
  refine lv_iload hx hb d_Lw_law_1539 (lv_at hl 4 rfl) ?_
  refine lv_iconst (v := 4) hx hb d_Lw_law_1541 (by decide) ?_
  refine lv_iadd hx hb d_Lw_law_1542 ?_
  refine l_sld hx hb hX hbl hS (k := 4) rfl (by omega) hL d_Lw_law_1543 ?_
  refine lv_aload_n hx hb d_Lw_law_1544 rfl (lv_at hl 3 rfl) ?_
  refine lWrap G w hS (va_runSW (n := 6) (As := [.ref (ad 0), .int (xs (i + 1)), .int (xs (i + 2)), .int (xs (i + 3)), .int (xs (i + 4)), .ref o]) (rest := []) ⟨hx, hb, hml, hown, hts⟩ (w_show l htl D ca co ad o st f _ (xs (i + 1)) (xs (i + 2)) (xs (i + 3)) (xs (i + 4)) r st' h1 hk) rfl rfl ⟨Nat.le_of_ble_eq_true rfl, Nat.le_of_ble_eq_true rfl⟩ wd_4_57 wd_1_0 wd_4_55 wd_4_56 (by decide +kernel) (G.preW w hS) rfl rfl hl.1 rfl (lv_room (Nat.le_of_ble_eq_true rfl)) d_Lw_law_1545 ⟨Nat.le_trans (Nat.add_le_add_left (xc_le _) _) hc, Nat.le_trans (Nat.add_le_add_left (xs_le _) _) hs⟩) (fun H locs w hS => ?_)
  refine W.widen (k := cells + 1) (n := slots + 6) (Nat.add_le_add_left (xc_le _) _) (Nat.add_le_add_left (xs_le _) _) ?_
  refine lv_istore (lv' := [(5, .int (wk [1, 2, 3] r)), (0, .ref b), (1, .ref (ad 0)), (2, .ref (bd 0)), (3, .ref o), (4, .int (nI i))]) hx hb d_Lw_law_1548 hl (by decide) rfl (fun ls hl => ?_)
  refine lv_aload_n hx hb d_Lw_law_1550 rfl (lv_at hl 3 rfl) ?_
  refine lv_aload_n hx hb d_Lw_law_1551 rfl (lv_at hl 1 rfl) ?_
  refine lv_iload hx hb d_Lw_law_1552 (lv_at hl 5 rfl) ?_
  refine lv_iconst (v := 1) hx hb d_Lw_law_1554 (by decide) ?_
  refine lv_iadd hx hb d_Lw_law_1555 ?_
  refine l_sld hx hb hX hbl hS (k := 1) rfl (by omega) hL d_Lw_law_1556 ?_
  refine lv_aload_n hx hb d_Lw_law_1557 rfl (lv_at hl 1 rfl) ?_
  refine lv_iload hx hb d_Lw_law_1558 (lv_at hl 5 rfl) ?_
  refine lv_iconst (v := 2) hx hb d_Lw_law_1560 (by decide) ?_
  refine lv_iadd hx hb d_Lw_law_1561 ?_
  refine l_sld hx hb hX hbl hS (k := 2) rfl (by omega) hL d_Lw_law_1562 ?_
  refine lv_aload_n hx hb d_Lw_law_1563 rfl (lv_at hl 1 rfl) ?_
  refine lv_iload hx hb d_Lw_law_1564 (lv_at hl 5 rfl) ?_
  refine lv_iconst (v := 3) hx hb d_Lw_law_1566 (by decide) ?_
  refine lv_iadd hx hb d_Lw_law_1567 ?_
  refine l_sld hx hb hX hbl hS (k := 3) rfl (by omega) hL d_Lw_law_1568 ?_
  refine lv_aload_n hx hb d_Lw_law_1569 rfl (lv_at hl 1 rfl) ?_
  refine lv_iload hx hb d_Lw_law_1570 (lv_at hl 5 rfl) ?_
  refine lv_iconst (v := 4) hx hb d_Lw_law_1572 (by decide) ?_
  refine lv_iadd hx hb d_Lw_law_1573 ?_
  refine l_sld hx hb hX hbl hS (k := 4) rfl (by omega) hL d_Lw_law_1574 ?_
  refine lModI G w hS (va_runV (As := [.int (xs (i + 1)), .int (xs (i + 2)), .int (xs (i + 3)), .int (xs (i + 4))]) (rest := []) ⟨hx, hb, hml, hown, hts⟩ (MetX.met (c_Md_show l htl D cb bd sm _ (xs (i + 1)) (xs (i + 2)) (xs (i + 3)) (xs (i + 4)) bv sm' h2) (fun _ _ _ _ q => ⟨_, q.1⟩)) (xCW (C := "MuseumHouseModel") 4 hts wd_5_224 wd_1_13 wd_5_221 wd_5_222 wd_5_223 (by decide +kernel) ⟨Nat.le_of_ble_eq_true rfl, Nat.le_of_ble_eq_true rfl⟩) (G.2.1.preV w.2.1 hS 0 rfl rfl) rfl rfl hl.1 rfl (lv_room (Nat.le_of_ble_eq_true rfl)) d_Lw_law_1575 ⟨hc, hs0⟩) (fun H locs w hS => ?_)
  refine lv_istore (lv' := [(6, .int bv), (5, .int (wk [1, 2, 3] r)), (0, .ref b), (1, .ref (ad 0)), (2, .ref (bd 0)), (3, .ref o), (4, .int (nI i))]) hx hb d_Lw_law_1578 hl (by decide) rfl (fun ls hl => ?_)
  refine lv_aload_n hx hb d_Lw_law_1580 rfl (lv_at hl 4 rfl) ?_
  refine pu_callR (va_runV (As := []) (rest := []) ⟨hx, hb, hml, hown, hts⟩ (c_Md_thrown l D cb bd sm' _ (sm'.1 0) rfl) (xCW (C := "MuseumHouseModel") 0 hts wd_5_68 wd_1_13 wd_5_65 wd_5_66 wd_5_67 (by decide +kernel) ⟨Nat.le_of_ble_eq_true rfl, Nat.le_of_ble_eq_true rfl⟩) (G.2.1.preV w.2.1 hS 0 rfl rfl) rfl rfl hl.1 rfl (lv_room (Nat.le_of_ble_eq_true rfl)) d_Lw_law_1581 ⟨hc, hs0⟩) ?_
  refine lv_iload hx hb d_Lw_law_1584 (lv_at hl 1 rfl) ?_
  refine lv_icmp_eq (tgt := 1591) hx hb d_Lw_law_1586 (by decide) (fun _ => ?_) (fun cn => absurd h3 cn)
  refine lv_iload hx hb d_Lw_law_1591 (lv_at hl 1 rfl) ?_
  cases r with
  | inr k =>
    refine lv_if_ne (tgt := 1608) hx hb d_Lw_law_1593 (by decide) (fun _ => ?_) (fun cn => absurd cn (wk_ne _ k (by decide)))
    refine lv_goto (tgt := 2182) hx hb d_Lw_law_1608 (by decide) ?_
    exact kk _ _ w hS ls (lv_sub hl [2, 3, 4, 5, 6] rfl)
  | inl v =>
    have h4 := h4 v rfl
    subst h4
    refine lv_if_ne (tgt := 1608) hx hb d_Lw_law_1593 (by decide) (fun cn => absurd rfl cn) (fun _ => ?_)
    refine lv_aload_n hx hb d_Lw_law_1596 rfl (lv_at hl 5 rfl) ?_
    refine lv_iconst (v := 0) hx hb d_Lw_law_1597 (by decide) ?_
    refine va_lald hx hb G.2.2.1 w.2.2 0 0 rfl rfl w_in0 d_Lw_law_1598 ?_
    refine lv_iload hx hb d_Lw_law_1599 (lv_at hl 0 rfl) ?_
    refine lv_i2l hx hb d_Lw_law_1601 rfl ?_
    refine W.lcmp hx hb d_Lw_law_1602 ?_
    refine lv_if_eq (tgt := 1608) hx hb d_Lw_law_1603 (by decide) (fun _ => ?_) (fun cn => absurd (by show lg_cmp (vp_updL f _ v.toInt64 _) v.toInt64 = 0; rw [updL_self]; exact lg_cmp_self _) cn)
    refine lv_goto (tgt := 2182) hx hb d_Lw_law_1608 (by decide) ?_
    exact kk _ _ w hS ls (lv_sub hl [2, 3, 4, 5, 6] rfl)
set_option maxHeartbeats 4000000 in
set_option maxRecDepth 100000 in
theorem s_hang {l : Launch} (htl : l.stackTraces = false) {p : Program} {e : Env} {s : State} {m : MethodId} {below : List Frame} {meth : Method} {c : Code} {b L : Nat} {xs : Nat → Int32} (C0 : lw_At p s m meth c b L xs) {D : va_G} {ca cb : Nat → ClassId} {co : ClassId} {ad bd : Nat → Nat} {o : Nat} (G : lX D ca cb co ad bd o s) {Q : State → Prop} {cells slots : Nat} (hc : cells + 1 ≤ 1089) (hs : slots + 6 ≤ 11746) (hL : L ≤ 2560) {i : Nat} (hi : i + 5 ≤ L) {st st' sm sm' : pu_St} {f : Nat → Int64} {r : Int32 ⊕ Nat} {bv : Int32} (h1 : f_H_hang st (xs (i + 1)) (xs (i + 2)) (xs (i + 3)) = some (r, st')) (hk : ∀ k, r = .inr k → k ∈ [1, 2, 3]) (h2 : f_Md_hang sm (xs (i + 1)) (xs (i + 2)) (xs (i + 3)) = some (bv, sm')) (h3 : sm'.1 0 = wk [1, 2, 3] r) (h4 : ∀ v, r = .inl v → v = bv)
    (kk : ∀ (H : Heap) (locs : List Loc), lW D ca cb co ad bd o st' sm' (wfZ f r) H → va_S (lA s) s.heap H locs → ∀ ls : Array Slot, lv_has ls 7 [(0, .ref b), (1, .ref (ad 0)), (2, .ref (bd 0)), (3, .ref o), (4, .int (nI i))] → W p l e room_1 s m #[Value.ref b] below meth c H locs (cells + 1) (slots + 6) Q (F0 m 2182 ls []))
    (H : Heap) (locs : List Loc) (w : lW D ca cb co ad bd o st sm f H) (hS : va_S (lA s) s.heap H locs) (ls : Array Slot) (hl : lv_has ls 7 [(0, .ref b), (1, .ref (ad 0)), (2, .ref (bd 0)), (3, .ref o), (4, .int (nI i))]) : W p l e room_1 s m #[Value.ref b] below meth c H locs cells slots Q (F0 m 1611 ls []) := by
  obtain ⟨hx, hb, hr, hml, hown, hts0, hX, hbl, hlocks, hgv⟩ := C0
  have hts : ∀ w ∈ tG, w.before #[Value.ref b] s = true := fun w hw => hts0 w (List.mem_filter.mp hw).1
  have hown : s.vm.findClass "MuseumHouseLaw" = some m.cls := hown
  have hs0 : slots + 6 + 0 ≤ 11746 := hs
  refine lv_aload_n hx hb d_Lw_law_1611 rfl (lv_at hl 1 rfl) ?_
  refine lv_aload_n hx hb d_Lw_law_1612 rfl (lv_at hl 0 rfl) ?_
  refine lv_iload hx hb d_Lw_law_1613 (lv_at hl 4 rfl) ?_
  refine lv_iconst (v := 1) hx hb d_Lw_law_1615 (by decide) ?_
  refine lv_iadd hx hb d_Lw_law_1616 ?_
  refine l_sld hx hb hX hbl hS (k := 1) rfl (by omega) hL d_Lw_law_1617 ?_
  refine lv_aload_n hx hb d_Lw_law_1618 rfl (lv_at hl 0 rfl) ?_
  refine lv_iload hx hb d_Lw_law_1619 (lv_at hl 4 rfl) ?_
  refine lv_iconst (v := 2) hx hb d_Lw_law_1621 (by decide) ?_
  refine lv_iadd hx hb d_Lw_law_1622 ?_
  refine l_sld hx hb hX hbl hS (k := 2) rfl (by omega) hL d_Lw_law_1623 ?_
  refine lv_aload_n hx hb d_Lw_law_1624 rfl (lv_at hl 0 rfl) ?_
  refine lv_iload hx hb d_Lw_law_1625 (lv_at hl 4 rfl) ?_
  refine lv_iconst (v := 3) hx hb d_Lw_law_1627 (by decide) ?_
  refine lv_iadd hx hb d_Lw_law_1628 ?_
  refine l_sld hx hb hX hbl hS (k := 3) rfl (by omega) hL d_Lw_law_1629 ?_
  refine lv_aload_n hx hb d_Lw_law_1630 rfl (lv_at hl 3 rfl) ?_
  refine lWrap G w hS (va_runSW (n := 5) (As := [.ref (ad 0), .int (xs (i + 1)), .int (xs (i + 2)), .int (xs (i + 3)), .ref o]) (rest := []) ⟨hx, hb, hml, hown, hts⟩ (w_hang l htl D ca co ad o st f _ (xs (i + 1)) (xs (i + 2)) (xs (i + 3)) r st' h1 hk) rfl rfl ⟨Nat.le_of_ble_eq_true rfl, Nat.le_of_ble_eq_true rfl⟩ wd_4_77 wd_1_0 wd_4_75 wd_4_76 (by decide +kernel) (G.preW w hS) rfl rfl hl.1 rfl (lv_room (Nat.le_of_ble_eq_true rfl)) d_Lw_law_1631 ⟨Nat.le_trans (Nat.add_le_add_left (xc_le _) _) hc, Nat.le_trans (Nat.add_le_add_left (xs_le _) _) hs⟩) (fun H locs w hS => ?_)
  refine W.widen (k := cells + 1) (n := slots + 6) (Nat.add_le_add_left (xc_le _) _) (Nat.add_le_add_left (xs_le _) _) ?_
  refine lv_istore (lv' := [(5, .int (wk [1, 2, 3] r)), (0, .ref b), (1, .ref (ad 0)), (2, .ref (bd 0)), (3, .ref o), (4, .int (nI i))]) hx hb d_Lw_law_1634 hl (by decide) rfl (fun ls hl => ?_)
  refine lv_aload_n hx hb d_Lw_law_1636 rfl (lv_at hl 3 rfl) ?_
  refine lv_aload_n hx hb d_Lw_law_1637 rfl (lv_at hl 1 rfl) ?_
  refine lv_iload hx hb d_Lw_law_1638 (lv_at hl 5 rfl) ?_
  refine lv_iconst (v := 1) hx hb d_Lw_law_1640 (by decide) ?_
  refine lv_iadd hx hb d_Lw_law_1641 ?_
  refine l_sld hx hb hX hbl hS (k := 1) rfl (by omega) hL d_Lw_law_1642 ?_
  refine lv_aload_n hx hb d_Lw_law_1643 rfl (lv_at hl 1 rfl) ?_
  refine lv_iload hx hb d_Lw_law_1644 (lv_at hl 5 rfl) ?_
  refine lv_iconst (v := 2) hx hb d_Lw_law_1646 (by decide) ?_
  refine lv_iadd hx hb d_Lw_law_1647 ?_
  refine l_sld hx hb hX hbl hS (k := 2) rfl (by omega) hL d_Lw_law_1648 ?_
  refine lv_aload_n hx hb d_Lw_law_1649 rfl (lv_at hl 1 rfl) ?_
  refine lv_iload hx hb d_Lw_law_1650 (lv_at hl 5 rfl) ?_
  refine lv_iconst (v := 3) hx hb d_Lw_law_1652 (by decide) ?_
  refine lv_iadd hx hb d_Lw_law_1653 ?_
  refine l_sld hx hb hX hbl hS (k := 3) rfl (by omega) hL d_Lw_law_1654 ?_
  refine lModI G w hS (va_runV (As := [.int (xs (i + 1)), .int (xs (i + 2)), .int (xs (i + 3))]) (rest := []) ⟨hx, hb, hml, hown, hts⟩ (MetX.met (c_Md_hang l htl D cb bd sm _ (xs (i + 1)) (xs (i + 2)) (xs (i + 3)) bv sm' h2) (fun _ _ _ _ q => ⟨_, q.1⟩)) (xCW (C := "MuseumHouseModel") 3 hts wd_5_228 wd_1_13 wd_5_225 wd_5_226 wd_5_227 (by decide +kernel) ⟨Nat.le_of_ble_eq_true rfl, Nat.le_of_ble_eq_true rfl⟩) (G.2.1.preV w.2.1 hS 0 rfl rfl) rfl rfl hl.1 rfl (lv_room (Nat.le_of_ble_eq_true rfl)) d_Lw_law_1655 ⟨hc, hs0⟩) (fun H locs w hS => ?_)
  refine lv_istore (lv' := [(6, .int bv), (5, .int (wk [1, 2, 3] r)), (0, .ref b), (1, .ref (ad 0)), (2, .ref (bd 0)), (3, .ref o), (4, .int (nI i))]) hx hb d_Lw_law_1658 hl (by decide) rfl (fun ls hl => ?_)
  refine lv_aload_n hx hb d_Lw_law_1660 rfl (lv_at hl 4 rfl) ?_
  refine pu_callR (va_runV (As := []) (rest := []) ⟨hx, hb, hml, hown, hts⟩ (c_Md_thrown l D cb bd sm' _ (sm'.1 0) rfl) (xCW (C := "MuseumHouseModel") 0 hts wd_5_68 wd_1_13 wd_5_65 wd_5_66 wd_5_67 (by decide +kernel) ⟨Nat.le_of_ble_eq_true rfl, Nat.le_of_ble_eq_true rfl⟩) (G.2.1.preV w.2.1 hS 0 rfl rfl) rfl rfl hl.1 rfl (lv_room (Nat.le_of_ble_eq_true rfl)) d_Lw_law_1661 ⟨hc, hs0⟩) ?_
  refine lv_iload hx hb d_Lw_law_1664 (lv_at hl 1 rfl) ?_
  refine lv_icmp_eq (tgt := 1671) hx hb d_Lw_law_1666 (by decide) (fun _ => ?_) (fun cn => absurd h3 cn)
  refine lv_iload hx hb d_Lw_law_1671 (lv_at hl 1 rfl) ?_
  cases r with
  | inr k =>
    refine lv_if_ne (tgt := 1695) hx hb d_Lw_law_1673 (by decide) (fun _ => ?_) (fun cn => absurd cn (wk_ne _ k (by decide)))
    refine lv_goto (tgt := 2182) hx hb d_Lw_law_1695 (by decide) ?_
    exact kk _ _ w hS ls (lv_sub hl [2, 3, 4, 5, 6] rfl)
  | inl v =>
    have h4 := h4 v rfl
    subst h4
    refine lv_if_ne (tgt := 1695) hx hb d_Lw_law_1673 (by decide) (fun cn => absurd rfl cn) (fun _ => ?_)
    refine lv_aload_n hx hb d_Lw_law_1676 rfl (lv_at hl 5 rfl) ?_
    refine lv_iconst (v := 0) hx hb d_Lw_law_1677 (by decide) ?_
    refine va_lald hx hb G.2.2.1 w.2.2 0 0 rfl rfl w_in0 d_Lw_law_1678 ?_
    refine lv_iload hx hb d_Lw_law_1679 (lv_at hl 0 rfl) ?_
    refine lv_if_eq (tgt := 1688) hx hb d_Lw_law_1681 (by decide) (fun cz => ?_) (fun cz => ?_)
    · refine lv_lconst (v := 0) hx hb d_Lw_law_1688 (by decide) ?_
      refine W.lcmp hx hb d_Lw_law_1689 ?_
      refine lv_if_eq (tgt := 1695) hx hb d_Lw_law_1690 (by decide) (fun _ => ?_) (fun cn => absurd (by show lg_cmp (vp_updL f _ (if v = 0 then 0 else 1) _) 0 = 0; rw [updL_self, if_pos cz]; exact lg_cmp_self _) cn)
      refine lv_goto (tgt := 2182) hx hb d_Lw_law_1695 (by decide) ?_
      exact kk _ _ w hS ls (lv_sub hl [2, 3, 4, 5, 6] rfl)
    · refine lv_lconst (v := 1) hx hb d_Lw_law_1684 (by decide) ?_
      refine lv_goto (tgt := 1689) hx hb d_Lw_law_1685 (by decide) ?_
      refine W.lcmp hx hb d_Lw_law_1689 ?_
      refine lv_if_eq (tgt := 1695) hx hb d_Lw_law_1690 (by decide) (fun _ => ?_) (fun cn => absurd (by show lg_cmp (vp_updL f _ (if v = 0 then 0 else 1) _) 1 = 0; rw [updL_self, if_neg cz]; exact lg_cmp_self _) cn)
      refine lv_goto (tgt := 2182) hx hb d_Lw_law_1695 (by decide) ?_
      exact kk _ _ w hS ls (lv_sub hl [2, 3, 4, 5, 6] rfl)
set_option maxHeartbeats 4000000 in
set_option maxRecDepth 100000 in
theorem s_take {l : Launch} (htl : l.stackTraces = false) {p : Program} {e : Env} {s : State} {m : MethodId} {below : List Frame} {meth : Method} {c : Code} {b L : Nat} {xs : Nat → Int32} (C0 : lw_At p s m meth c b L xs) {D : va_G} {ca cb : Nat → ClassId} {co : ClassId} {ad bd : Nat → Nat} {o : Nat} (G : lX D ca cb co ad bd o s) {Q : State → Prop} {cells slots : Nat} (hc : cells + 1 ≤ 1089) (hs : slots + 6 ≤ 11746) (hL : L ≤ 2560) {i : Nat} (hi : i + 5 ≤ L) {st st' sm sm' : pu_St} {f : Nat → Int64} {r : Int32 ⊕ Nat} {bv : Int32} (h1 : f_H_take st (xs (i + 1)) (xs (i + 2)) (xs (i + 3)) = some (r, st')) (hk : ∀ k, r = .inr k → k ∈ [1, 2]) (h2 : f_Md_take sm (xs (i + 1)) (xs (i + 2)) (xs (i + 3)) = some (bv, sm')) (h3 : sm'.1 0 = wk [1, 2] r) (h4 : ∀ v, r = .inl v → v = bv)
    (kk : ∀ (H : Heap) (locs : List Loc), lW D ca cb co ad bd o st' sm' (wfZ f r) H → va_S (lA s) s.heap H locs → ∀ ls : Array Slot, lv_has ls 7 [(0, .ref b), (1, .ref (ad 0)), (2, .ref (bd 0)), (3, .ref o), (4, .int (nI i))] → W p l e room_1 s m #[Value.ref b] below meth c H locs (cells + 1) (slots + 6) Q (F0 m 2182 ls []))
    (H : Heap) (locs : List Loc) (w : lW D ca cb co ad bd o st sm f H) (hS : va_S (lA s) s.heap H locs) (ls : Array Slot) (hl : lv_has ls 7 [(0, .ref b), (1, .ref (ad 0)), (2, .ref (bd 0)), (3, .ref o), (4, .int (nI i))]) : W p l e room_1 s m #[Value.ref b] below meth c H locs cells slots Q (F0 m 1698 ls []) := by
  obtain ⟨hx, hb, hr, hml, hown, hts0, hX, hbl, hlocks, hgv⟩ := C0
  have hts : ∀ w ∈ tG, w.before #[Value.ref b] s = true := fun w hw => hts0 w (List.mem_filter.mp hw).1
  have hown : s.vm.findClass "MuseumHouseLaw" = some m.cls := hown
  have hs0 : slots + 6 + 0 ≤ 11746 := hs
  refine lv_aload_n hx hb d_Lw_law_1698 rfl (lv_at hl 1 rfl) ?_
  refine lv_aload_n hx hb d_Lw_law_1699 rfl (lv_at hl 0 rfl) ?_
  refine lv_iload hx hb d_Lw_law_1700 (lv_at hl 4 rfl) ?_
  refine lv_iconst (v := 1) hx hb d_Lw_law_1702 (by decide) ?_
  refine lv_iadd hx hb d_Lw_law_1703 ?_
  refine l_sld hx hb hX hbl hS (k := 1) rfl (by omega) hL d_Lw_law_1704 ?_
  refine lv_aload_n hx hb d_Lw_law_1705 rfl (lv_at hl 0 rfl) ?_
  refine lv_iload hx hb d_Lw_law_1706 (lv_at hl 4 rfl) ?_
  refine lv_iconst (v := 2) hx hb d_Lw_law_1708 (by decide) ?_
  refine lv_iadd hx hb d_Lw_law_1709 ?_
  refine l_sld hx hb hX hbl hS (k := 2) rfl (by omega) hL d_Lw_law_1710 ?_
  refine lv_aload_n hx hb d_Lw_law_1711 rfl (lv_at hl 0 rfl) ?_
  refine lv_iload hx hb d_Lw_law_1712 (lv_at hl 4 rfl) ?_
  refine lv_iconst (v := 3) hx hb d_Lw_law_1714 (by decide) ?_
  refine lv_iadd hx hb d_Lw_law_1715 ?_
  refine l_sld hx hb hX hbl hS (k := 3) rfl (by omega) hL d_Lw_law_1716 ?_
  refine lv_aload_n hx hb d_Lw_law_1717 rfl (lv_at hl 3 rfl) ?_
  refine lWrap G w hS (va_runSW (n := 5) (As := [.ref (ad 0), .int (xs (i + 1)), .int (xs (i + 2)), .int (xs (i + 3)), .ref o]) (rest := []) ⟨hx, hb, hml, hown, hts⟩ (w_take l htl D ca co ad o st f _ (xs (i + 1)) (xs (i + 2)) (xs (i + 3)) r st' h1 hk) rfl rfl ⟨Nat.le_of_ble_eq_true rfl, Nat.le_of_ble_eq_true rfl⟩ wd_4_97 wd_1_0 wd_4_95 wd_4_96 (by decide +kernel) (G.preW w hS) rfl rfl hl.1 rfl (lv_room (Nat.le_of_ble_eq_true rfl)) d_Lw_law_1718 ⟨Nat.le_trans (Nat.add_le_add_left (xc_le _) _) hc, Nat.le_trans (Nat.add_le_add_left (xs_le _) _) hs⟩) (fun H locs w hS => ?_)
  refine W.widen (k := cells + 1) (n := slots + 6) (Nat.add_le_add_left (xc_le _) _) (Nat.add_le_add_left (xs_le _) _) ?_
  refine lv_istore (lv' := [(5, .int (wk [1, 2] r)), (0, .ref b), (1, .ref (ad 0)), (2, .ref (bd 0)), (3, .ref o), (4, .int (nI i))]) hx hb d_Lw_law_1721 hl (by decide) rfl (fun ls hl => ?_)
  refine lv_aload_n hx hb d_Lw_law_1723 rfl (lv_at hl 3 rfl) ?_
  refine lv_aload_n hx hb d_Lw_law_1724 rfl (lv_at hl 1 rfl) ?_
  refine lv_iload hx hb d_Lw_law_1725 (lv_at hl 5 rfl) ?_
  refine lv_iconst (v := 1) hx hb d_Lw_law_1727 (by decide) ?_
  refine lv_iadd hx hb d_Lw_law_1728 ?_
  refine l_sld hx hb hX hbl hS (k := 1) rfl (by omega) hL d_Lw_law_1729 ?_
  refine lv_aload_n hx hb d_Lw_law_1730 rfl (lv_at hl 1 rfl) ?_
  refine lv_iload hx hb d_Lw_law_1731 (lv_at hl 5 rfl) ?_
  refine lv_iconst (v := 2) hx hb d_Lw_law_1733 (by decide) ?_
  refine lv_iadd hx hb d_Lw_law_1734 ?_
  refine l_sld hx hb hX hbl hS (k := 2) rfl (by omega) hL d_Lw_law_1735 ?_
  refine lv_aload_n hx hb d_Lw_law_1736 rfl (lv_at hl 1 rfl) ?_
  refine lv_iload hx hb d_Lw_law_1737 (lv_at hl 5 rfl) ?_
  refine lv_iconst (v := 3) hx hb d_Lw_law_1739 (by decide) ?_
  refine lv_iadd hx hb d_Lw_law_1740 ?_
  refine l_sld hx hb hX hbl hS (k := 3) rfl (by omega) hL d_Lw_law_1741 ?_
  refine lModI G w hS (va_runV (As := [.int (xs (i + 1)), .int (xs (i + 2)), .int (xs (i + 3))]) (rest := []) ⟨hx, hb, hml, hown, hts⟩ (MetX.met (c_Md_take l htl D cb bd sm _ (xs (i + 1)) (xs (i + 2)) (xs (i + 3)) bv sm' h2) (fun _ _ _ _ q => ⟨_, q.1⟩)) (xCW (C := "MuseumHouseModel") 3 hts wd_5_232 wd_1_13 wd_5_229 wd_5_230 wd_5_231 (by decide +kernel) ⟨Nat.le_of_ble_eq_true rfl, Nat.le_of_ble_eq_true rfl⟩) (G.2.1.preV w.2.1 hS 0 rfl rfl) rfl rfl hl.1 rfl (lv_room (Nat.le_of_ble_eq_true rfl)) d_Lw_law_1742 ⟨hc, hs0⟩) (fun H locs w hS => ?_)
  refine lv_istore (lv' := [(6, .int bv), (5, .int (wk [1, 2] r)), (0, .ref b), (1, .ref (ad 0)), (2, .ref (bd 0)), (3, .ref o), (4, .int (nI i))]) hx hb d_Lw_law_1745 hl (by decide) rfl (fun ls hl => ?_)
  refine lv_aload_n hx hb d_Lw_law_1747 rfl (lv_at hl 4 rfl) ?_
  refine pu_callR (va_runV (As := []) (rest := []) ⟨hx, hb, hml, hown, hts⟩ (c_Md_thrown l D cb bd sm' _ (sm'.1 0) rfl) (xCW (C := "MuseumHouseModel") 0 hts wd_5_68 wd_1_13 wd_5_65 wd_5_66 wd_5_67 (by decide +kernel) ⟨Nat.le_of_ble_eq_true rfl, Nat.le_of_ble_eq_true rfl⟩) (G.2.1.preV w.2.1 hS 0 rfl rfl) rfl rfl hl.1 rfl (lv_room (Nat.le_of_ble_eq_true rfl)) d_Lw_law_1748 ⟨hc, hs0⟩) ?_
  refine lv_iload hx hb d_Lw_law_1751 (lv_at hl 1 rfl) ?_
  refine lv_icmp_eq (tgt := 1758) hx hb d_Lw_law_1753 (by decide) (fun _ => ?_) (fun cn => absurd h3 cn)
  refine lv_iload hx hb d_Lw_law_1758 (lv_at hl 1 rfl) ?_
  cases r with
  | inr k =>
    refine lv_if_ne (tgt := 1782) hx hb d_Lw_law_1760 (by decide) (fun _ => ?_) (fun cn => absurd cn (wk_ne _ k (by decide)))
    refine lv_goto (tgt := 2182) hx hb d_Lw_law_1782 (by decide) ?_
    exact kk _ _ w hS ls (lv_sub hl [2, 3, 4, 5, 6] rfl)
  | inl v =>
    have h4 := h4 v rfl
    subst h4
    refine lv_if_ne (tgt := 1782) hx hb d_Lw_law_1760 (by decide) (fun cn => absurd rfl cn) (fun _ => ?_)
    refine lv_aload_n hx hb d_Lw_law_1763 rfl (lv_at hl 5 rfl) ?_
    refine lv_iconst (v := 0) hx hb d_Lw_law_1764 (by decide) ?_
    refine va_lald hx hb G.2.2.1 w.2.2 0 0 rfl rfl w_in0 d_Lw_law_1765 ?_
    refine lv_iload hx hb d_Lw_law_1766 (lv_at hl 0 rfl) ?_
    refine lv_if_eq (tgt := 1775) hx hb d_Lw_law_1768 (by decide) (fun cz => ?_) (fun cz => ?_)
    · refine lv_lconst (v := 0) hx hb d_Lw_law_1775 (by decide) ?_
      refine W.lcmp hx hb d_Lw_law_1776 ?_
      refine lv_if_eq (tgt := 1782) hx hb d_Lw_law_1777 (by decide) (fun _ => ?_) (fun cn => absurd (by show lg_cmp (vp_updL f _ (if v = 0 then 0 else 1) _) 0 = 0; rw [updL_self, if_pos cz]; exact lg_cmp_self _) cn)
      refine lv_goto (tgt := 2182) hx hb d_Lw_law_1782 (by decide) ?_
      exact kk _ _ w hS ls (lv_sub hl [2, 3, 4, 5, 6] rfl)
    · refine lv_lconst (v := 1) hx hb d_Lw_law_1771 (by decide) ?_
      refine lv_goto (tgt := 1776) hx hb d_Lw_law_1772 (by decide) ?_
      refine W.lcmp hx hb d_Lw_law_1776 ?_
      refine lv_if_eq (tgt := 1782) hx hb d_Lw_law_1777 (by decide) (fun _ => ?_) (fun cn => absurd (by show lg_cmp (vp_updL f _ (if v = 0 then 0 else 1) _) 1 = 0; rw [updL_self, if_neg cz]; exact lg_cmp_self _) cn)
      refine lv_goto (tgt := 2182) hx hb d_Lw_law_1782 (by decide) ?_
      exact kk _ _ w hS ls (lv_sub hl [2, 3, 4, 5, 6] rfl)
set_option maxHeartbeats 4000000 in
set_option maxRecDepth 100000 in
theorem s_claim {l : Launch} (htl : l.stackTraces = false) {p : Program} {e : Env} {s : State} {m : MethodId} {below : List Frame} {meth : Method} {c : Code} {b L : Nat} {xs : Nat → Int32} (C0 : lw_At p s m meth c b L xs) {D : va_G} {ca cb : Nat → ClassId} {co : ClassId} {ad bd : Nat → Nat} {o : Nat} (G : lX D ca cb co ad bd o s) {Q : State → Prop} {cells slots : Nat} (hc : cells + 1 ≤ 1089) (hs : slots + 6 ≤ 11746) (hL : L ≤ 2560) {i : Nat} (hi : i + 5 ≤ L) {st st' sm sm' : pu_St} {f : Nat → Int64} {r : Int32 ⊕ Nat} {bv : Int32} (h1 : f_H_claim st (xs (i + 1)) (xs (i + 2)) (xs (i + 3)) = some (r, st')) (hk : ∀ k, r = .inr k → k ∈ [1, 2, 3]) (h2 : f_Md_claim sm (xs (i + 1)) (xs (i + 2)) (xs (i + 3)) = some (bv, sm')) (h3 : sm'.1 0 = wk [1, 2, 3] r) (h4 : ∀ v, r = .inl v → v = bv)
    (kk : ∀ (H : Heap) (locs : List Loc), lW D ca cb co ad bd o st' sm' (wfI f r) H → va_S (lA s) s.heap H locs → ∀ ls : Array Slot, lv_has ls 7 [(0, .ref b), (1, .ref (ad 0)), (2, .ref (bd 0)), (3, .ref o), (4, .int (nI i))] → W p l e room_1 s m #[Value.ref b] below meth c H locs (cells + 1) (slots + 6) Q (F0 m 2182 ls []))
    (H : Heap) (locs : List Loc) (w : lW D ca cb co ad bd o st sm f H) (hS : va_S (lA s) s.heap H locs) (ls : Array Slot) (hl : lv_has ls 7 [(0, .ref b), (1, .ref (ad 0)), (2, .ref (bd 0)), (3, .ref o), (4, .int (nI i))]) : W p l e room_1 s m #[Value.ref b] below meth c H locs cells slots Q (F0 m 1785 ls []) := by
  obtain ⟨hx, hb, hr, hml, hown, hts0, hX, hbl, hlocks, hgv⟩ := C0
  have hts : ∀ w ∈ tG, w.before #[Value.ref b] s = true := fun w hw => hts0 w (List.mem_filter.mp hw).1
  have hown : s.vm.findClass "MuseumHouseLaw" = some m.cls := hown
  have hs0 : slots + 6 + 0 ≤ 11746 := hs
  refine lv_aload_n hx hb d_Lw_law_1785 rfl (lv_at hl 1 rfl) ?_
  refine lv_aload_n hx hb d_Lw_law_1786 rfl (lv_at hl 0 rfl) ?_
  refine lv_iload hx hb d_Lw_law_1787 (lv_at hl 4 rfl) ?_
  refine lv_iconst (v := 1) hx hb d_Lw_law_1789 (by decide) ?_
  refine lv_iadd hx hb d_Lw_law_1790 ?_
  refine l_sld hx hb hX hbl hS (k := 1) rfl (by omega) hL d_Lw_law_1791 ?_
  refine lv_aload_n hx hb d_Lw_law_1792 rfl (lv_at hl 0 rfl) ?_
  refine lv_iload hx hb d_Lw_law_1793 (lv_at hl 4 rfl) ?_
  refine lv_iconst (v := 2) hx hb d_Lw_law_1795 (by decide) ?_
  refine lv_iadd hx hb d_Lw_law_1796 ?_
  refine l_sld hx hb hX hbl hS (k := 2) rfl (by omega) hL d_Lw_law_1797 ?_
  refine lv_aload_n hx hb d_Lw_law_1798 rfl (lv_at hl 0 rfl) ?_
  refine lv_iload hx hb d_Lw_law_1799 (lv_at hl 4 rfl) ?_
  refine lv_iconst (v := 3) hx hb d_Lw_law_1801 (by decide) ?_
  refine lv_iadd hx hb d_Lw_law_1802 ?_
  refine l_sld hx hb hX hbl hS (k := 3) rfl (by omega) hL d_Lw_law_1803 ?_
  refine lv_aload_n hx hb d_Lw_law_1804 rfl (lv_at hl 3 rfl) ?_
  refine lWrap G w hS (va_runSW (n := 5) (As := [.ref (ad 0), .int (xs (i + 1)), .int (xs (i + 2)), .int (xs (i + 3)), .ref o]) (rest := []) ⟨hx, hb, hml, hown, hts⟩ (w_claim l htl D ca co ad o st f _ (xs (i + 1)) (xs (i + 2)) (xs (i + 3)) r st' h1 hk) rfl rfl ⟨Nat.le_of_ble_eq_true rfl, Nat.le_of_ble_eq_true rfl⟩ wd_4_108 wd_1_0 wd_4_106 wd_4_107 (by decide +kernel) (G.preW w hS) rfl rfl hl.1 rfl (lv_room (Nat.le_of_ble_eq_true rfl)) d_Lw_law_1805 ⟨Nat.le_trans (Nat.add_le_add_left (xc_le _) _) hc, Nat.le_trans (Nat.add_le_add_left (xs_le _) _) hs⟩) (fun H locs w hS => ?_)
  refine W.widen (k := cells + 1) (n := slots + 6) (Nat.add_le_add_left (xc_le _) _) (Nat.add_le_add_left (xs_le _) _) ?_
  refine lv_istore (lv' := [(5, .int (wk [1, 2, 3] r)), (0, .ref b), (1, .ref (ad 0)), (2, .ref (bd 0)), (3, .ref o), (4, .int (nI i))]) hx hb d_Lw_law_1808 hl (by decide) rfl (fun ls hl => ?_)
  refine lv_aload_n hx hb d_Lw_law_1810 rfl (lv_at hl 3 rfl) ?_
  refine lv_aload_n hx hb d_Lw_law_1811 rfl (lv_at hl 1 rfl) ?_
  refine lv_iload hx hb d_Lw_law_1812 (lv_at hl 5 rfl) ?_
  refine lv_iconst (v := 1) hx hb d_Lw_law_1814 (by decide) ?_
  refine lv_iadd hx hb d_Lw_law_1815 ?_
  refine l_sld hx hb hX hbl hS (k := 1) rfl (by omega) hL d_Lw_law_1816 ?_
  refine lv_aload_n hx hb d_Lw_law_1817 rfl (lv_at hl 1 rfl) ?_
  refine lv_iload hx hb d_Lw_law_1818 (lv_at hl 5 rfl) ?_
  refine lv_iconst (v := 2) hx hb d_Lw_law_1820 (by decide) ?_
  refine lv_iadd hx hb d_Lw_law_1821 ?_
  refine l_sld hx hb hX hbl hS (k := 2) rfl (by omega) hL d_Lw_law_1822 ?_
  refine lv_aload_n hx hb d_Lw_law_1823 rfl (lv_at hl 1 rfl) ?_
  refine lv_iload hx hb d_Lw_law_1824 (lv_at hl 5 rfl) ?_
  refine lv_iconst (v := 3) hx hb d_Lw_law_1826 (by decide) ?_
  refine lv_iadd hx hb d_Lw_law_1827 ?_
  refine l_sld hx hb hX hbl hS (k := 3) rfl (by omega) hL d_Lw_law_1828 ?_
  refine lModI G w hS (va_runV (As := [.int (xs (i + 1)), .int (xs (i + 2)), .int (xs (i + 3))]) (rest := []) ⟨hx, hb, hml, hown, hts⟩ (MetX.met (c_Md_claim l htl D cb bd sm _ (xs (i + 1)) (xs (i + 2)) (xs (i + 3)) bv sm' h2) (fun _ _ _ _ q => ⟨_, q.1⟩)) (xCW (C := "MuseumHouseModel") 3 hts wd_5_236 wd_1_13 wd_5_233 wd_5_234 wd_5_235 (by decide +kernel) ⟨Nat.le_of_ble_eq_true rfl, Nat.le_of_ble_eq_true rfl⟩) (G.2.1.preV w.2.1 hS 0 rfl rfl) rfl rfl hl.1 rfl (lv_room (Nat.le_of_ble_eq_true rfl)) d_Lw_law_1829 ⟨hc, hs0⟩) (fun H locs w hS => ?_)
  refine lv_istore (lv' := [(6, .int bv), (5, .int (wk [1, 2, 3] r)), (0, .ref b), (1, .ref (ad 0)), (2, .ref (bd 0)), (3, .ref o), (4, .int (nI i))]) hx hb d_Lw_law_1832 hl (by decide) rfl (fun ls hl => ?_)
  refine lv_aload_n hx hb d_Lw_law_1834 rfl (lv_at hl 4 rfl) ?_
  refine pu_callR (va_runV (As := []) (rest := []) ⟨hx, hb, hml, hown, hts⟩ (c_Md_thrown l D cb bd sm' _ (sm'.1 0) rfl) (xCW (C := "MuseumHouseModel") 0 hts wd_5_68 wd_1_13 wd_5_65 wd_5_66 wd_5_67 (by decide +kernel) ⟨Nat.le_of_ble_eq_true rfl, Nat.le_of_ble_eq_true rfl⟩) (G.2.1.preV w.2.1 hS 0 rfl rfl) rfl rfl hl.1 rfl (lv_room (Nat.le_of_ble_eq_true rfl)) d_Lw_law_1835 ⟨hc, hs0⟩) ?_
  refine lv_iload hx hb d_Lw_law_1838 (lv_at hl 1 rfl) ?_
  refine lv_icmp_eq (tgt := 1845) hx hb d_Lw_law_1840 (by decide) (fun _ => ?_) (fun cn => absurd h3 cn)
  refine lv_iload hx hb d_Lw_law_1845 (lv_at hl 1 rfl) ?_
  cases r with
  | inr k =>
    refine lv_if_ne (tgt := 1862) hx hb d_Lw_law_1847 (by decide) (fun _ => ?_) (fun cn => absurd cn (wk_ne _ k (by decide)))
    refine lv_goto (tgt := 2182) hx hb d_Lw_law_1862 (by decide) ?_
    exact kk _ _ w hS ls (lv_sub hl [2, 3, 4, 5, 6] rfl)
  | inl v =>
    have h4 := h4 v rfl
    subst h4
    refine lv_if_ne (tgt := 1862) hx hb d_Lw_law_1847 (by decide) (fun cn => absurd rfl cn) (fun _ => ?_)
    refine lv_aload_n hx hb d_Lw_law_1850 rfl (lv_at hl 5 rfl) ?_
    refine lv_iconst (v := 0) hx hb d_Lw_law_1851 (by decide) ?_
    refine va_lald hx hb G.2.2.1 w.2.2 0 0 rfl rfl w_in0 d_Lw_law_1852 ?_
    refine lv_iload hx hb d_Lw_law_1853 (lv_at hl 0 rfl) ?_
    refine lv_i2l hx hb d_Lw_law_1855 rfl ?_
    refine W.lcmp hx hb d_Lw_law_1856 ?_
    refine lv_if_eq (tgt := 1862) hx hb d_Lw_law_1857 (by decide) (fun _ => ?_) (fun cn => absurd (by show lg_cmp (vp_updL f _ v.toInt64 _) v.toInt64 = 0; rw [updL_self]; exact lg_cmp_self _) cn)
    refine lv_goto (tgt := 2182) hx hb d_Lw_law_1862 (by decide) ?_
    exact kk _ _ w hS ls (lv_sub hl [2, 3, 4, 5, 6] rfl)
set_option maxHeartbeats 4000000 in
set_option maxRecDepth 100000 in
theorem s_close {l : Launch} (htl : l.stackTraces = false) {p : Program} {e : Env} {s : State} {m : MethodId} {below : List Frame} {meth : Method} {c : Code} {b L : Nat} {xs : Nat → Int32} (C0 : lw_At p s m meth c b L xs) {D : va_G} {ca cb : Nat → ClassId} {co : ClassId} {ad bd : Nat → Nat} {o : Nat} (G : lX D ca cb co ad bd o s) {Q : State → Prop} {cells slots : Nat} (hc : cells + 1 ≤ 1089) (hs : slots + 6 ≤ 11746) (hL : L ≤ 2560) {i : Nat} (hi : i + 5 ≤ L) {st st' sm sm' : pu_St} {f : Nat → Int64} {r : Int32 ⊕ Nat} {bv : Int32} (h1 : f_H_close st (xs (i + 1)) (xs (i + 2)) = some (r, st')) (hk : ∀ k, r = .inr k → k ∈ [1, 2, 3]) (h2 : f_Md_close sm (xs (i + 1)) (xs (i + 2)) = some (bv, sm')) (h3 : sm'.1 0 = wk [1, 2, 3] r) (h4 : ∀ v, r = .inl v → v = bv)
    (kk : ∀ (H : Heap) (locs : List Loc), lW D ca cb co ad bd o st' sm' (wfI f r) H → va_S (lA s) s.heap H locs → ∀ ls : Array Slot, lv_has ls 7 [(0, .ref b), (1, .ref (ad 0)), (2, .ref (bd 0)), (3, .ref o), (4, .int (nI i))] → W p l e room_1 s m #[Value.ref b] below meth c H locs (cells + 1) (slots + 6) Q (F0 m 2182 ls []))
    (H : Heap) (locs : List Loc) (w : lW D ca cb co ad bd o st sm f H) (hS : va_S (lA s) s.heap H locs) (ls : Array Slot) (hl : lv_has ls 7 [(0, .ref b), (1, .ref (ad 0)), (2, .ref (bd 0)), (3, .ref o), (4, .int (nI i))]) : W p l e room_1 s m #[Value.ref b] below meth c H locs cells slots Q (F0 m 1865 ls []) := by
  obtain ⟨hx, hb, hr, hml, hown, hts0, hX, hbl, hlocks, hgv⟩ := C0
  have hts : ∀ w ∈ tG, w.before #[Value.ref b] s = true := fun w hw => hts0 w (List.mem_filter.mp hw).1
  have hown : s.vm.findClass "MuseumHouseLaw" = some m.cls := hown
  have hs0 : slots + 6 + 0 ≤ 11746 := hs
  refine lv_aload_n hx hb d_Lw_law_1865 rfl (lv_at hl 1 rfl) ?_
  refine lv_aload_n hx hb d_Lw_law_1866 rfl (lv_at hl 0 rfl) ?_
  refine lv_iload hx hb d_Lw_law_1867 (lv_at hl 4 rfl) ?_
  refine lv_iconst (v := 1) hx hb d_Lw_law_1869 (by decide) ?_
  refine lv_iadd hx hb d_Lw_law_1870 ?_
  refine l_sld hx hb hX hbl hS (k := 1) rfl (by omega) hL d_Lw_law_1871 ?_
  refine lv_aload_n hx hb d_Lw_law_1872 rfl (lv_at hl 0 rfl) ?_
  refine lv_iload hx hb d_Lw_law_1873 (lv_at hl 4 rfl) ?_
  refine lv_iconst (v := 2) hx hb d_Lw_law_1875 (by decide) ?_
  refine lv_iadd hx hb d_Lw_law_1876 ?_
  refine l_sld hx hb hX hbl hS (k := 2) rfl (by omega) hL d_Lw_law_1877 ?_
  refine lv_aload_n hx hb d_Lw_law_1878 rfl (lv_at hl 3 rfl) ?_
  refine lWrap G w hS (va_runSW (n := 4) (As := [.ref (ad 0), .int (xs (i + 1)), .int (xs (i + 2)), .ref o]) (rest := []) ⟨hx, hb, hml, hown, hts⟩ (w_close l htl D ca co ad o st f _ (xs (i + 1)) (xs (i + 2)) r st' h1 hk) rfl rfl ⟨Nat.le_of_ble_eq_true rfl, Nat.le_of_ble_eq_true rfl⟩ wd_4_132 wd_1_0 wd_4_130 wd_4_131 (by decide +kernel) (G.preW w hS) rfl rfl hl.1 rfl (lv_room (Nat.le_of_ble_eq_true rfl)) d_Lw_law_1879 ⟨Nat.le_trans (Nat.add_le_add_left (xc_le _) _) hc, Nat.le_trans (Nat.add_le_add_left (xs_le _) _) hs⟩) (fun H locs w hS => ?_)
  refine W.widen (k := cells + 1) (n := slots + 6) (Nat.add_le_add_left (xc_le _) _) (Nat.add_le_add_left (xs_le _) _) ?_
  refine lv_istore (lv' := [(5, .int (wk [1, 2, 3] r)), (0, .ref b), (1, .ref (ad 0)), (2, .ref (bd 0)), (3, .ref o), (4, .int (nI i))]) hx hb d_Lw_law_1882 hl (by decide) rfl (fun ls hl => ?_)
  refine lv_aload_n hx hb d_Lw_law_1884 rfl (lv_at hl 3 rfl) ?_
  refine lv_aload_n hx hb d_Lw_law_1885 rfl (lv_at hl 1 rfl) ?_
  refine lv_iload hx hb d_Lw_law_1886 (lv_at hl 5 rfl) ?_
  refine lv_iconst (v := 1) hx hb d_Lw_law_1888 (by decide) ?_
  refine lv_iadd hx hb d_Lw_law_1889 ?_
  refine l_sld hx hb hX hbl hS (k := 1) rfl (by omega) hL d_Lw_law_1890 ?_
  refine lv_aload_n hx hb d_Lw_law_1891 rfl (lv_at hl 1 rfl) ?_
  refine lv_iload hx hb d_Lw_law_1892 (lv_at hl 5 rfl) ?_
  refine lv_iconst (v := 2) hx hb d_Lw_law_1894 (by decide) ?_
  refine lv_iadd hx hb d_Lw_law_1895 ?_
  refine l_sld hx hb hX hbl hS (k := 2) rfl (by omega) hL d_Lw_law_1896 ?_
  refine lModI G w hS (va_runV (As := [.int (xs (i + 1)), .int (xs (i + 2))]) (rest := []) ⟨hx, hb, hml, hown, hts⟩ (MetX.met (c_Md_close l htl D cb bd sm _ (xs (i + 1)) (xs (i + 2)) bv sm' h2) (fun _ _ _ _ q => ⟨_, q.1⟩)) (xCW (C := "MuseumHouseModel") 2 hts wd_6_0 wd_1_13 wd_5_237 wd_5_238 wd_5_239 (by decide +kernel) ⟨Nat.le_of_ble_eq_true rfl, Nat.le_of_ble_eq_true rfl⟩) (G.2.1.preV w.2.1 hS 0 rfl rfl) rfl rfl hl.1 rfl (lv_room (Nat.le_of_ble_eq_true rfl)) d_Lw_law_1897 ⟨hc, hs0⟩) (fun H locs w hS => ?_)
  refine lv_istore (lv' := [(6, .int bv), (5, .int (wk [1, 2, 3] r)), (0, .ref b), (1, .ref (ad 0)), (2, .ref (bd 0)), (3, .ref o), (4, .int (nI i))]) hx hb d_Lw_law_1900 hl (by decide) rfl (fun ls hl => ?_)
  refine lv_aload_n hx hb d_Lw_law_1902 rfl (lv_at hl 4 rfl) ?_
  refine pu_callR (va_runV (As := []) (rest := []) ⟨hx, hb, hml, hown, hts⟩ (c_Md_thrown l D cb bd sm' _ (sm'.1 0) rfl) (xCW (C := "MuseumHouseModel") 0 hts wd_5_68 wd_1_13 wd_5_65 wd_5_66 wd_5_67 (by decide +kernel) ⟨Nat.le_of_ble_eq_true rfl, Nat.le_of_ble_eq_true rfl⟩) (G.2.1.preV w.2.1 hS 0 rfl rfl) rfl rfl hl.1 rfl (lv_room (Nat.le_of_ble_eq_true rfl)) d_Lw_law_1903 ⟨hc, hs0⟩) ?_
  refine lv_iload hx hb d_Lw_law_1906 (lv_at hl 1 rfl) ?_
  refine lv_icmp_eq (tgt := 1913) hx hb d_Lw_law_1908 (by decide) (fun _ => ?_) (fun cn => absurd h3 cn)
  refine lv_iload hx hb d_Lw_law_1913 (lv_at hl 1 rfl) ?_
  cases r with
  | inr k =>
    refine lv_if_ne (tgt := 1930) hx hb d_Lw_law_1915 (by decide) (fun _ => ?_) (fun cn => absurd cn (wk_ne _ k (by decide)))
    refine lv_goto (tgt := 2182) hx hb d_Lw_law_1930 (by decide) ?_
    exact kk _ _ w hS ls (lv_sub hl [2, 3, 4, 5, 6] rfl)
  | inl v =>
    have h4 := h4 v rfl
    subst h4
    refine lv_if_ne (tgt := 1930) hx hb d_Lw_law_1915 (by decide) (fun cn => absurd rfl cn) (fun _ => ?_)
    refine lv_aload_n hx hb d_Lw_law_1918 rfl (lv_at hl 5 rfl) ?_
    refine lv_iconst (v := 0) hx hb d_Lw_law_1919 (by decide) ?_
    refine va_lald hx hb G.2.2.1 w.2.2 0 0 rfl rfl w_in0 d_Lw_law_1920 ?_
    refine lv_iload hx hb d_Lw_law_1921 (lv_at hl 0 rfl) ?_
    refine lv_i2l hx hb d_Lw_law_1923 rfl ?_
    refine W.lcmp hx hb d_Lw_law_1924 ?_
    refine lv_if_eq (tgt := 1930) hx hb d_Lw_law_1925 (by decide) (fun _ => ?_) (fun cn => absurd (by show lg_cmp (vp_updL f _ v.toInt64 _) v.toInt64 = 0; rw [updL_self]; exact lg_cmp_self _) cn)
    refine lv_goto (tgt := 2182) hx hb d_Lw_law_1930 (by decide) ?_
    exact kk _ _ w hS ls (lv_sub hl [2, 3, 4, 5, 6] rfl)
set_option maxHeartbeats 4000000 in
set_option maxRecDepth 100000 in
theorem s_where {l : Launch} (htl : l.stackTraces = false) {p : Program} {e : Env} {s : State} {m : MethodId} {below : List Frame} {meth : Method} {c : Code} {b L : Nat} {xs : Nat → Int32} (C0 : lw_At p s m meth c b L xs) {D : va_G} {ca cb : Nat → ClassId} {co : ClassId} {ad bd : Nat → Nat} {o : Nat} (G : lX D ca cb co ad bd o s) {Q : State → Prop} {cells slots : Nat} (hc : cells + 1 ≤ 1089) (hs : slots + 6 ≤ 11746) (hL : L ≤ 2560) {i : Nat} (hi : i + 5 ≤ L) {st st' sm sm' : pu_St} {f : Nat → Int64} {r : Int32 ⊕ Nat} {bv : Int32} (h1 : f_H_where st (xs (i + 1)) (xs (i + 2)) = some (r, st')) (hk : ∀ k, r = .inr k → k ∈ [1, 3]) (h2 : f_Md_where sm (xs (i + 1)) (xs (i + 2)) = some (bv, sm')) (h3 : sm'.1 0 = wk [1, 3] r) (h4 : ∀ v, r = .inl v → v = bv)
    (kk : ∀ (H : Heap) (locs : List Loc), lW D ca cb co ad bd o st' sm' (wfI f r) H → va_S (lA s) s.heap H locs → ∀ ls : Array Slot, lv_has ls 7 [(0, .ref b), (1, .ref (ad 0)), (2, .ref (bd 0)), (3, .ref o), (4, .int (nI i))] → W p l e room_1 s m #[Value.ref b] below meth c H locs (cells + 1) (slots + 6) Q (F0 m 2182 ls []))
    (H : Heap) (locs : List Loc) (w : lW D ca cb co ad bd o st sm f H) (hS : va_S (lA s) s.heap H locs) (ls : Array Slot) (hl : lv_has ls 7 [(0, .ref b), (1, .ref (ad 0)), (2, .ref (bd 0)), (3, .ref o), (4, .int (nI i))]) : W p l e room_1 s m #[Value.ref b] below meth c H locs cells slots Q (F0 m 1933 ls []) := by
  obtain ⟨hx, hb, hr, hml, hown, hts0, hX, hbl, hlocks, hgv⟩ := C0
  have hts : ∀ w ∈ tG, w.before #[Value.ref b] s = true := fun w hw => hts0 w (List.mem_filter.mp hw).1
  have hown : s.vm.findClass "MuseumHouseLaw" = some m.cls := hown
  have hs0 : slots + 6 + 0 ≤ 11746 := hs
  refine lv_aload_n hx hb d_Lw_law_1933 rfl (lv_at hl 1 rfl) ?_
  refine lv_aload_n hx hb d_Lw_law_1934 rfl (lv_at hl 0 rfl) ?_
  refine lv_iload hx hb d_Lw_law_1935 (lv_at hl 4 rfl) ?_
  refine lv_iconst (v := 1) hx hb d_Lw_law_1937 (by decide) ?_
  refine lv_iadd hx hb d_Lw_law_1938 ?_
  refine l_sld hx hb hX hbl hS (k := 1) rfl (by omega) hL d_Lw_law_1939 ?_
  refine lv_aload_n hx hb d_Lw_law_1940 rfl (lv_at hl 0 rfl) ?_
  refine lv_iload hx hb d_Lw_law_1941 (lv_at hl 4 rfl) ?_
  refine lv_iconst (v := 2) hx hb d_Lw_law_1943 (by decide) ?_
  refine lv_iadd hx hb d_Lw_law_1944 ?_
  refine l_sld hx hb hX hbl hS (k := 2) rfl (by omega) hL d_Lw_law_1945 ?_
  refine lv_aload_n hx hb d_Lw_law_1946 rfl (lv_at hl 3 rfl) ?_
  refine lWrap G w hS (va_runSW (n := 4) (As := [.ref (ad 0), .int (xs (i + 1)), .int (xs (i + 2)), .ref o]) (rest := []) ⟨hx, hb, hml, hown, hts⟩ (w_where l htl D ca co ad o st f _ (xs (i + 1)) (xs (i + 2)) r st' h1 hk) rfl rfl ⟨Nat.le_of_ble_eq_true rfl, Nat.le_of_ble_eq_true rfl⟩ wd_4_151 wd_1_0 wd_4_149 wd_4_150 (by decide +kernel) (G.preW w hS) rfl rfl hl.1 rfl (lv_room (Nat.le_of_ble_eq_true rfl)) d_Lw_law_1947 ⟨Nat.le_trans (Nat.add_le_add_left (xc_le _) _) hc, Nat.le_trans (Nat.add_le_add_left (xs_le _) _) hs⟩) (fun H locs w hS => ?_)
  refine W.widen (k := cells + 1) (n := slots + 6) (Nat.add_le_add_left (xc_le _) _) (Nat.add_le_add_left (xs_le _) _) ?_
  refine lv_istore (lv' := [(5, .int (wk [1, 3] r)), (0, .ref b), (1, .ref (ad 0)), (2, .ref (bd 0)), (3, .ref o), (4, .int (nI i))]) hx hb d_Lw_law_1950 hl (by decide) rfl (fun ls hl => ?_)
  refine lv_aload_n hx hb d_Lw_law_1952 rfl (lv_at hl 3 rfl) ?_
  refine lv_aload_n hx hb d_Lw_law_1953 rfl (lv_at hl 1 rfl) ?_
  refine lv_iload hx hb d_Lw_law_1954 (lv_at hl 5 rfl) ?_
  refine lv_iconst (v := 1) hx hb d_Lw_law_1956 (by decide) ?_
  refine lv_iadd hx hb d_Lw_law_1957 ?_
  refine l_sld hx hb hX hbl hS (k := 1) rfl (by omega) hL d_Lw_law_1958 ?_
  refine lv_aload_n hx hb d_Lw_law_1959 rfl (lv_at hl 1 rfl) ?_
  refine lv_iload hx hb d_Lw_law_1960 (lv_at hl 5 rfl) ?_
  refine lv_iconst (v := 2) hx hb d_Lw_law_1962 (by decide) ?_
  refine lv_iadd hx hb d_Lw_law_1963 ?_
  refine l_sld hx hb hX hbl hS (k := 2) rfl (by omega) hL d_Lw_law_1964 ?_
  refine lModI G w hS (va_runV (As := [.int (xs (i + 1)), .int (xs (i + 2))]) (rest := []) ⟨hx, hb, hml, hown, hts⟩ (MetX.met (c_Md_where l htl D cb bd sm _ (xs (i + 1)) (xs (i + 2)) bv sm' h2) (fun _ _ _ _ q => ⟨_, q.1⟩)) (xCW (C := "MuseumHouseModel") 2 hts wd_6_4 wd_1_13 wd_6_1 wd_6_2 wd_6_3 (by decide +kernel) ⟨Nat.le_of_ble_eq_true rfl, Nat.le_of_ble_eq_true rfl⟩) (G.2.1.preV w.2.1 hS 0 rfl rfl) rfl rfl hl.1 rfl (lv_room (Nat.le_of_ble_eq_true rfl)) d_Lw_law_1965 ⟨hc, hs0⟩) (fun H locs w hS => ?_)
  refine lv_istore (lv' := [(6, .int bv), (5, .int (wk [1, 3] r)), (0, .ref b), (1, .ref (ad 0)), (2, .ref (bd 0)), (3, .ref o), (4, .int (nI i))]) hx hb d_Lw_law_1968 hl (by decide) rfl (fun ls hl => ?_)
  refine lv_aload_n hx hb d_Lw_law_1970 rfl (lv_at hl 4 rfl) ?_
  refine pu_callR (va_runV (As := []) (rest := []) ⟨hx, hb, hml, hown, hts⟩ (c_Md_thrown l D cb bd sm' _ (sm'.1 0) rfl) (xCW (C := "MuseumHouseModel") 0 hts wd_5_68 wd_1_13 wd_5_65 wd_5_66 wd_5_67 (by decide +kernel) ⟨Nat.le_of_ble_eq_true rfl, Nat.le_of_ble_eq_true rfl⟩) (G.2.1.preV w.2.1 hS 0 rfl rfl) rfl rfl hl.1 rfl (lv_room (Nat.le_of_ble_eq_true rfl)) d_Lw_law_1971 ⟨hc, hs0⟩) ?_
  refine lv_iload hx hb d_Lw_law_1974 (lv_at hl 1 rfl) ?_
  refine lv_icmp_eq (tgt := 1981) hx hb d_Lw_law_1976 (by decide) (fun _ => ?_) (fun cn => absurd h3 cn)
  refine lv_iload hx hb d_Lw_law_1981 (lv_at hl 1 rfl) ?_
  cases r with
  | inr k =>
    refine lv_if_ne (tgt := 1998) hx hb d_Lw_law_1983 (by decide) (fun _ => ?_) (fun cn => absurd cn (wk_ne _ k (by decide)))
    refine lv_goto (tgt := 2182) hx hb d_Lw_law_1998 (by decide) ?_
    exact kk _ _ w hS ls (lv_sub hl [2, 3, 4, 5, 6] rfl)
  | inl v =>
    have h4 := h4 v rfl
    subst h4
    refine lv_if_ne (tgt := 1998) hx hb d_Lw_law_1983 (by decide) (fun cn => absurd rfl cn) (fun _ => ?_)
    refine lv_aload_n hx hb d_Lw_law_1986 rfl (lv_at hl 5 rfl) ?_
    refine lv_iconst (v := 0) hx hb d_Lw_law_1987 (by decide) ?_
    refine va_lald hx hb G.2.2.1 w.2.2 0 0 rfl rfl w_in0 d_Lw_law_1988 ?_
    refine lv_iload hx hb d_Lw_law_1989 (lv_at hl 0 rfl) ?_
    refine lv_i2l hx hb d_Lw_law_1991 rfl ?_
    refine W.lcmp hx hb d_Lw_law_1992 ?_
    refine lv_if_eq (tgt := 1998) hx hb d_Lw_law_1993 (by decide) (fun _ => ?_) (fun cn => absurd (by show lg_cmp (vp_updL f _ v.toInt64 _) v.toInt64 = 0; rw [updL_self]; exact lg_cmp_self _) cn)
    refine lv_goto (tgt := 2182) hx hb d_Lw_law_1998 (by decide) ?_
    exact kk _ _ w hS ls (lv_sub hl [2, 3, 4, 5, 6] rfl)
set_option maxHeartbeats 4000000 in
set_option maxRecDepth 100000 in
theorem s_origin {l : Launch} (htl : l.stackTraces = false) {p : Program} {e : Env} {s : State} {m : MethodId} {below : List Frame} {meth : Method} {c : Code} {b L : Nat} {xs : Nat → Int32} (C0 : lw_At p s m meth c b L xs) {D : va_G} {ca cb : Nat → ClassId} {co : ClassId} {ad bd : Nat → Nat} {o : Nat} (G : lX D ca cb co ad bd o s) {Q : State → Prop} {cells slots : Nat} (hc : cells + 1 ≤ 1089) (hs : slots + 6 ≤ 11746) (hL : L ≤ 2560) {i : Nat} (hi : i + 5 ≤ L) {st st' sm sm' : pu_St} {f : Nat → Int64} {r : Int32 ⊕ Nat} {bv : Int32} (h1 : f_H_origin st (xs (i + 1)) = some (r, st')) (hk : ∀ k, r = .inr k → k ∈ [1]) (h2 : f_Md_origin sm (xs (i + 1)) = some (bv, sm')) (h3 : sm'.1 0 = wk [1] r) (h4 : ∀ v, r = .inl v → v = bv)
    (kk : ∀ (H : Heap) (locs : List Loc), lW D ca cb co ad bd o st' sm' (wfI f r) H → va_S (lA s) s.heap H locs → ∀ ls : Array Slot, lv_has ls 7 [(0, .ref b), (1, .ref (ad 0)), (2, .ref (bd 0)), (3, .ref o), (4, .int (nI i))] → W p l e room_1 s m #[Value.ref b] below meth c H locs (cells + 1) (slots + 6) Q (F0 m 2182 ls []))
    (H : Heap) (locs : List Loc) (w : lW D ca cb co ad bd o st sm f H) (hS : va_S (lA s) s.heap H locs) (ls : Array Slot) (hl : lv_has ls 7 [(0, .ref b), (1, .ref (ad 0)), (2, .ref (bd 0)), (3, .ref o), (4, .int (nI i))]) : W p l e room_1 s m #[Value.ref b] below meth c H locs cells slots Q (F0 m 2001 ls []) := by
  obtain ⟨hx, hb, hr, hml, hown, hts0, hX, hbl, hlocks, hgv⟩ := C0
  have hts : ∀ w ∈ tG, w.before #[Value.ref b] s = true := fun w hw => hts0 w (List.mem_filter.mp hw).1
  have hown : s.vm.findClass "MuseumHouseLaw" = some m.cls := hown
  have hs0 : slots + 6 + 0 ≤ 11746 := hs
  refine lv_aload_n hx hb d_Lw_law_2001 rfl (lv_at hl 1 rfl) ?_
  refine lv_aload_n hx hb d_Lw_law_2002 rfl (lv_at hl 0 rfl) ?_
  refine lv_iload hx hb d_Lw_law_2003 (lv_at hl 4 rfl) ?_
  refine lv_iconst (v := 1) hx hb d_Lw_law_2005 (by decide) ?_
  refine lv_iadd hx hb d_Lw_law_2006 ?_
  refine l_sld hx hb hX hbl hS (k := 1) rfl (by omega) hL d_Lw_law_2007 ?_
  refine lv_aload_n hx hb d_Lw_law_2008 rfl (lv_at hl 3 rfl) ?_
  refine lWrap G w hS (va_runSW (n := 3) (As := [.ref (ad 0), .int (xs (i + 1)), .ref o]) (rest := []) ⟨hx, hb, hml, hown, hts⟩ (w_origin l htl D ca co ad o st f _ (xs (i + 1)) r st' h1 hk) rfl rfl ⟨Nat.le_of_ble_eq_true rfl, Nat.le_of_ble_eq_true rfl⟩ wd_4_160 wd_1_0 wd_4_158 wd_4_159 (by decide +kernel) (G.preW w hS) rfl rfl hl.1 rfl (lv_room (Nat.le_of_ble_eq_true rfl)) d_Lw_law_2009 ⟨Nat.le_trans (Nat.add_le_add_left (xc_le _) _) hc, Nat.le_trans (Nat.add_le_add_left (xs_le _) _) hs⟩) (fun H locs w hS => ?_)
  refine W.widen (k := cells + 1) (n := slots + 6) (Nat.add_le_add_left (xc_le _) _) (Nat.add_le_add_left (xs_le _) _) ?_
  refine lv_istore (lv' := [(5, .int (wk [1] r)), (0, .ref b), (1, .ref (ad 0)), (2, .ref (bd 0)), (3, .ref o), (4, .int (nI i))]) hx hb d_Lw_law_2012 hl (by decide) rfl (fun ls hl => ?_)
  refine lv_aload_n hx hb d_Lw_law_2014 rfl (lv_at hl 3 rfl) ?_
  refine lv_aload_n hx hb d_Lw_law_2015 rfl (lv_at hl 1 rfl) ?_
  refine lv_iload hx hb d_Lw_law_2016 (lv_at hl 5 rfl) ?_
  refine lv_iconst (v := 1) hx hb d_Lw_law_2018 (by decide) ?_
  refine lv_iadd hx hb d_Lw_law_2019 ?_
  refine l_sld hx hb hX hbl hS (k := 1) rfl (by omega) hL d_Lw_law_2020 ?_
  refine lModI G w hS (va_runV (As := [.int (xs (i + 1))]) (rest := []) ⟨hx, hb, hml, hown, hts⟩ (MetX.met (c_Md_origin l htl D cb bd sm _ (xs (i + 1)) bv sm' h2) (fun _ _ _ _ q => ⟨_, q.1⟩)) (xCW (C := "MuseumHouseModel") 1 hts wd_6_8 wd_1_13 wd_6_5 wd_6_6 wd_6_7 (by decide +kernel) ⟨Nat.le_of_ble_eq_true rfl, Nat.le_of_ble_eq_true rfl⟩) (G.2.1.preV w.2.1 hS 0 rfl rfl) rfl rfl hl.1 rfl (lv_room (Nat.le_of_ble_eq_true rfl)) d_Lw_law_2021 ⟨hc, hs0⟩) (fun H locs w hS => ?_)
  refine lv_istore (lv' := [(6, .int bv), (5, .int (wk [1] r)), (0, .ref b), (1, .ref (ad 0)), (2, .ref (bd 0)), (3, .ref o), (4, .int (nI i))]) hx hb d_Lw_law_2024 hl (by decide) rfl (fun ls hl => ?_)
  refine lv_aload_n hx hb d_Lw_law_2026 rfl (lv_at hl 4 rfl) ?_
  refine pu_callR (va_runV (As := []) (rest := []) ⟨hx, hb, hml, hown, hts⟩ (c_Md_thrown l D cb bd sm' _ (sm'.1 0) rfl) (xCW (C := "MuseumHouseModel") 0 hts wd_5_68 wd_1_13 wd_5_65 wd_5_66 wd_5_67 (by decide +kernel) ⟨Nat.le_of_ble_eq_true rfl, Nat.le_of_ble_eq_true rfl⟩) (G.2.1.preV w.2.1 hS 0 rfl rfl) rfl rfl hl.1 rfl (lv_room (Nat.le_of_ble_eq_true rfl)) d_Lw_law_2027 ⟨hc, hs0⟩) ?_
  refine lv_iload hx hb d_Lw_law_2030 (lv_at hl 1 rfl) ?_
  refine lv_icmp_eq (tgt := 2037) hx hb d_Lw_law_2032 (by decide) (fun _ => ?_) (fun cn => absurd h3 cn)
  refine lv_iload hx hb d_Lw_law_2037 (lv_at hl 1 rfl) ?_
  cases r with
  | inr k =>
    refine lv_if_ne (tgt := 2054) hx hb d_Lw_law_2039 (by decide) (fun _ => ?_) (fun cn => absurd cn (wk_ne _ k (by decide)))
    refine lv_goto (tgt := 2182) hx hb d_Lw_law_2054 (by decide) ?_
    exact kk _ _ w hS ls (lv_sub hl [2, 3, 4, 5, 6] rfl)
  | inl v =>
    have h4 := h4 v rfl
    subst h4
    refine lv_if_ne (tgt := 2054) hx hb d_Lw_law_2039 (by decide) (fun cn => absurd rfl cn) (fun _ => ?_)
    refine lv_aload_n hx hb d_Lw_law_2042 rfl (lv_at hl 5 rfl) ?_
    refine lv_iconst (v := 0) hx hb d_Lw_law_2043 (by decide) ?_
    refine va_lald hx hb G.2.2.1 w.2.2 0 0 rfl rfl w_in0 d_Lw_law_2044 ?_
    refine lv_iload hx hb d_Lw_law_2045 (lv_at hl 0 rfl) ?_
    refine lv_i2l hx hb d_Lw_law_2047 rfl ?_
    refine W.lcmp hx hb d_Lw_law_2048 ?_
    refine lv_if_eq (tgt := 2054) hx hb d_Lw_law_2049 (by decide) (fun _ => ?_) (fun cn => absurd (by show lg_cmp (vp_updL f _ v.toInt64 _) v.toInt64 = 0; rw [updL_self]; exact lg_cmp_self _) cn)
    refine lv_goto (tgt := 2182) hx hb d_Lw_law_2054 (by decide) ?_
    exact kk _ _ w hS ls (lv_sub hl [2, 3, 4, 5, 6] rfl)
set_option maxHeartbeats 4000000 in
set_option maxRecDepth 100000 in
theorem s_hall {l : Launch} (htl : l.stackTraces = false) {p : Program} {e : Env} {s : State} {m : MethodId} {below : List Frame} {meth : Method} {c : Code} {b L : Nat} {xs : Nat → Int32} (C0 : lw_At p s m meth c b L xs) {D : va_G} {ca cb : Nat → ClassId} {co : ClassId} {ad bd : Nat → Nat} {o : Nat} (G : lX D ca cb co ad bd o s) {Q : State → Prop} {cells slots : Nat} (hc : cells + 1 ≤ 1089) (hs : slots + 6 ≤ 11746) (hL : L ≤ 2560) {i : Nat} (hi : i + 5 ≤ L) {st st' sm sm' : pu_St} {f : Nat → Int64} {r : Int32 ⊕ Nat} {bv : Int32} (h1 : f_H_hall st (xs (i + 1)) = some (r, st')) (hk : ∀ k, r = .inr k → k ∈ [1]) (h2 : f_Md_hall sm (xs (i + 1)) = some (bv, sm')) (h3 : sm'.1 0 = wk [1] r) (h4 : ∀ v, r = .inl v → v = bv)
    (kk : ∀ (H : Heap) (locs : List Loc), lW D ca cb co ad bd o st' sm' (wfI f r) H → va_S (lA s) s.heap H locs → ∀ ls : Array Slot, lv_has ls 7 [(0, .ref b), (1, .ref (ad 0)), (2, .ref (bd 0)), (3, .ref o), (4, .int (nI i))] → W p l e room_1 s m #[Value.ref b] below meth c H locs (cells + 1) (slots + 6) Q (F0 m 2182 ls []))
    (H : Heap) (locs : List Loc) (w : lW D ca cb co ad bd o st sm f H) (hS : va_S (lA s) s.heap H locs) (ls : Array Slot) (hl : lv_has ls 7 [(0, .ref b), (1, .ref (ad 0)), (2, .ref (bd 0)), (3, .ref o), (4, .int (nI i))]) : W p l e room_1 s m #[Value.ref b] below meth c H locs cells slots Q (F0 m 2057 ls []) := by
  obtain ⟨hx, hb, hr, hml, hown, hts0, hX, hbl, hlocks, hgv⟩ := C0
  have hts : ∀ w ∈ tG, w.before #[Value.ref b] s = true := fun w hw => hts0 w (List.mem_filter.mp hw).1
  have hown : s.vm.findClass "MuseumHouseLaw" = some m.cls := hown
  have hs0 : slots + 6 + 0 ≤ 11746 := hs
  refine lv_aload_n hx hb d_Lw_law_2057 rfl (lv_at hl 1 rfl) ?_
  refine lv_aload_n hx hb d_Lw_law_2058 rfl (lv_at hl 0 rfl) ?_
  refine lv_iload hx hb d_Lw_law_2059 (lv_at hl 4 rfl) ?_
  refine lv_iconst (v := 1) hx hb d_Lw_law_2061 (by decide) ?_
  refine lv_iadd hx hb d_Lw_law_2062 ?_
  refine l_sld hx hb hX hbl hS (k := 1) rfl (by omega) hL d_Lw_law_2063 ?_
  refine lv_aload_n hx hb d_Lw_law_2064 rfl (lv_at hl 3 rfl) ?_
  refine lWrap G w hS (va_runSW (n := 3) (As := [.ref (ad 0), .int (xs (i + 1)), .ref o]) (rest := []) ⟨hx, hb, hml, hown, hts⟩ (w_hall l htl D ca co ad o st f _ (xs (i + 1)) r st' h1 hk) rfl rfl ⟨Nat.le_of_ble_eq_true rfl, Nat.le_of_ble_eq_true rfl⟩ wd_4_185 wd_1_0 wd_4_183 wd_4_184 (by decide +kernel) (G.preW w hS) rfl rfl hl.1 rfl (lv_room (Nat.le_of_ble_eq_true rfl)) d_Lw_law_2065 ⟨Nat.le_trans (Nat.add_le_add_left (xc_le _) _) hc, Nat.le_trans (Nat.add_le_add_left (xs_le _) _) hs⟩) (fun H locs w hS => ?_)
  refine W.widen (k := cells + 1) (n := slots + 6) (Nat.add_le_add_left (xc_le _) _) (Nat.add_le_add_left (xs_le _) _) ?_
  refine lv_istore (lv' := [(5, .int (wk [1] r)), (0, .ref b), (1, .ref (ad 0)), (2, .ref (bd 0)), (3, .ref o), (4, .int (nI i))]) hx hb d_Lw_law_2068 hl (by decide) rfl (fun ls hl => ?_)
  refine lv_aload_n hx hb d_Lw_law_2070 rfl (lv_at hl 3 rfl) ?_
  refine lv_aload_n hx hb d_Lw_law_2071 rfl (lv_at hl 1 rfl) ?_
  refine lv_iload hx hb d_Lw_law_2072 (lv_at hl 5 rfl) ?_
  refine lv_iconst (v := 1) hx hb d_Lw_law_2074 (by decide) ?_
  refine lv_iadd hx hb d_Lw_law_2075 ?_
  refine l_sld hx hb hX hbl hS (k := 1) rfl (by omega) hL d_Lw_law_2076 ?_
  refine lModI G w hS (va_runV (As := [.int (xs (i + 1))]) (rest := []) ⟨hx, hb, hml, hown, hts⟩ (MetX.met (c_Md_hall l htl D cb bd sm _ (xs (i + 1)) bv sm' h2) (fun _ _ _ _ q => ⟨_, q.1⟩)) (xCW (C := "MuseumHouseModel") 1 hts wd_6_12 wd_1_13 wd_6_9 wd_6_10 wd_6_11 (by decide +kernel) ⟨Nat.le_of_ble_eq_true rfl, Nat.le_of_ble_eq_true rfl⟩) (G.2.1.preV w.2.1 hS 0 rfl rfl) rfl rfl hl.1 rfl (lv_room (Nat.le_of_ble_eq_true rfl)) d_Lw_law_2077 ⟨hc, hs0⟩) (fun H locs w hS => ?_)
  refine lv_istore (lv' := [(6, .int bv), (5, .int (wk [1] r)), (0, .ref b), (1, .ref (ad 0)), (2, .ref (bd 0)), (3, .ref o), (4, .int (nI i))]) hx hb d_Lw_law_2080 hl (by decide) rfl (fun ls hl => ?_)
  refine lv_aload_n hx hb d_Lw_law_2082 rfl (lv_at hl 4 rfl) ?_
  refine pu_callR (va_runV (As := []) (rest := []) ⟨hx, hb, hml, hown, hts⟩ (c_Md_thrown l D cb bd sm' _ (sm'.1 0) rfl) (xCW (C := "MuseumHouseModel") 0 hts wd_5_68 wd_1_13 wd_5_65 wd_5_66 wd_5_67 (by decide +kernel) ⟨Nat.le_of_ble_eq_true rfl, Nat.le_of_ble_eq_true rfl⟩) (G.2.1.preV w.2.1 hS 0 rfl rfl) rfl rfl hl.1 rfl (lv_room (Nat.le_of_ble_eq_true rfl)) d_Lw_law_2083 ⟨hc, hs0⟩) ?_
  refine lv_iload hx hb d_Lw_law_2086 (lv_at hl 1 rfl) ?_
  refine lv_icmp_eq (tgt := 2093) hx hb d_Lw_law_2088 (by decide) (fun _ => ?_) (fun cn => absurd h3 cn)
  refine lv_iload hx hb d_Lw_law_2093 (lv_at hl 1 rfl) ?_
  cases r with
  | inr k =>
    refine lv_if_ne (tgt := 2110) hx hb d_Lw_law_2095 (by decide) (fun _ => ?_) (fun cn => absurd cn (wk_ne _ k (by decide)))
    refine lv_goto (tgt := 2182) hx hb d_Lw_law_2110 (by decide) ?_
    exact kk _ _ w hS ls (lv_sub hl [2, 3, 4, 5, 6] rfl)
  | inl v =>
    have h4 := h4 v rfl
    subst h4
    refine lv_if_ne (tgt := 2110) hx hb d_Lw_law_2095 (by decide) (fun cn => absurd rfl cn) (fun _ => ?_)
    refine lv_aload_n hx hb d_Lw_law_2098 rfl (lv_at hl 5 rfl) ?_
    refine lv_iconst (v := 0) hx hb d_Lw_law_2099 (by decide) ?_
    refine va_lald hx hb G.2.2.1 w.2.2 0 0 rfl rfl w_in0 d_Lw_law_2100 ?_
    refine lv_iload hx hb d_Lw_law_2101 (lv_at hl 0 rfl) ?_
    refine lv_i2l hx hb d_Lw_law_2103 rfl ?_
    refine W.lcmp hx hb d_Lw_law_2104 ?_
    refine lv_if_eq (tgt := 2110) hx hb d_Lw_law_2105 (by decide) (fun _ => ?_) (fun cn => absurd (by show lg_cmp (vp_updL f _ v.toInt64 _) v.toInt64 = 0; rw [updL_self]; exact lg_cmp_self _) cn)
    refine lv_goto (tgt := 2182) hx hb d_Lw_law_2110 (by decide) ?_
    exact kk _ _ w hS ls (lv_sub hl [2, 3, 4, 5, 6] rfl)
set_option maxHeartbeats 4000000 in
set_option maxRecDepth 100000 in
theorem s_count {l : Launch} (htl : l.stackTraces = false) {p : Program} {e : Env} {s : State} {m : MethodId} {below : List Frame} {meth : Method} {c : Code} {b L : Nat} {xs : Nat → Int32} (C0 : lw_At p s m meth c b L xs) {D : va_G} {ca cb : Nat → ClassId} {co : ClassId} {ad bd : Nat → Nat} {o : Nat} (G : lX D ca cb co ad bd o s) {Q : State → Prop} {cells slots : Nat} (hc : cells + 1 ≤ 1089) (hs : slots + 6 ≤ 11746) (hL : L ≤ 2560) {i : Nat} (hi : i + 5 ≤ L) {st st' sm sm' : pu_St} {f : Nat → Int64} {r : Int32 ⊕ Nat} {bv : Int32} (h1 : f_H_count st (xs (i + 1)) = some (r, st')) (hk : ∀ k, r = .inr k → k ∈ [1]) (h2 : f_Md_count sm (xs (i + 1)) = some (bv, sm')) (h3 : sm'.1 0 = wk [1] r) (h4 : ∀ v, r = .inl v → v = bv)
    (kk : ∀ (H : Heap) (locs : List Loc), lW D ca cb co ad bd o st' sm' (wfI f r) H → va_S (lA s) s.heap H locs → ∀ ls : Array Slot, lv_has ls 7 [(0, .ref b), (1, .ref (ad 0)), (2, .ref (bd 0)), (3, .ref o), (4, .int (nI i))] → W p l e room_1 s m #[Value.ref b] below meth c H locs (cells + 1) (slots + 6) Q (F0 m 2182 ls []))
    (H : Heap) (locs : List Loc) (w : lW D ca cb co ad bd o st sm f H) (hS : va_S (lA s) s.heap H locs) (ls : Array Slot) (hl : lv_has ls 7 [(0, .ref b), (1, .ref (ad 0)), (2, .ref (bd 0)), (3, .ref o), (4, .int (nI i))]) : W p l e room_1 s m #[Value.ref b] below meth c H locs cells slots Q (F0 m 2126 ls []) := by
  obtain ⟨hx, hb, hr, hml, hown, hts0, hX, hbl, hlocks, hgv⟩ := C0
  have hts : ∀ w ∈ tG, w.before #[Value.ref b] s = true := fun w hw => hts0 w (List.mem_filter.mp hw).1
  have hown : s.vm.findClass "MuseumHouseLaw" = some m.cls := hown
  have hs0 : slots + 6 + 0 ≤ 11746 := hs
  refine lv_aload_n hx hb d_Lw_law_2126 rfl (lv_at hl 1 rfl) ?_
  refine lv_aload_n hx hb d_Lw_law_2127 rfl (lv_at hl 0 rfl) ?_
  refine lv_iload hx hb d_Lw_law_2128 (lv_at hl 4 rfl) ?_
  refine lv_iconst (v := 1) hx hb d_Lw_law_2130 (by decide) ?_
  refine lv_iadd hx hb d_Lw_law_2131 ?_
  refine l_sld hx hb hX hbl hS (k := 1) rfl (by omega) hL d_Lw_law_2132 ?_
  refine lv_aload_n hx hb d_Lw_law_2133 rfl (lv_at hl 3 rfl) ?_
  refine lWrap G w hS (va_runSW (n := 3) (As := [.ref (ad 0), .int (xs (i + 1)), .ref o]) (rest := []) ⟨hx, hb, hml, hown, hts⟩ (w_count l htl D ca co ad o st f _ (xs (i + 1)) r st' h1 hk) rfl rfl ⟨Nat.le_of_ble_eq_true rfl, Nat.le_of_ble_eq_true rfl⟩ wd_4_196 wd_1_0 wd_4_194 wd_4_195 (by decide +kernel) (G.preW w hS) rfl rfl hl.1 rfl (lv_room (Nat.le_of_ble_eq_true rfl)) d_Lw_law_2134 ⟨Nat.le_trans (Nat.add_le_add_left (xc_le _) _) hc, Nat.le_trans (Nat.add_le_add_left (xs_le _) _) hs⟩) (fun H locs w hS => ?_)
  refine W.widen (k := cells + 1) (n := slots + 6) (Nat.add_le_add_left (xc_le _) _) (Nat.add_le_add_left (xs_le _) _) ?_
  refine lv_istore (lv' := [(5, .int (wk [1] r)), (0, .ref b), (1, .ref (ad 0)), (2, .ref (bd 0)), (3, .ref o), (4, .int (nI i))]) hx hb d_Lw_law_2137 hl (by decide) rfl (fun ls hl => ?_)
  refine lv_aload_n hx hb d_Lw_law_2139 rfl (lv_at hl 3 rfl) ?_
  refine lv_aload_n hx hb d_Lw_law_2140 rfl (lv_at hl 1 rfl) ?_
  refine lv_iload hx hb d_Lw_law_2141 (lv_at hl 5 rfl) ?_
  refine lv_iconst (v := 1) hx hb d_Lw_law_2143 (by decide) ?_
  refine lv_iadd hx hb d_Lw_law_2144 ?_
  refine l_sld hx hb hX hbl hS (k := 1) rfl (by omega) hL d_Lw_law_2145 ?_
  refine lModI G w hS (va_runV (As := [.int (xs (i + 1))]) (rest := []) ⟨hx, hb, hml, hown, hts⟩ (MetX.met (c_Md_count l htl D cb bd sm _ (xs (i + 1)) bv sm' h2) (fun _ _ _ _ q => ⟨_, q.1⟩)) (xCW (C := "MuseumHouseModel") 1 hts wd_6_20 wd_1_13 wd_6_17 wd_6_18 wd_6_19 (by decide +kernel) ⟨Nat.le_of_ble_eq_true rfl, Nat.le_of_ble_eq_true rfl⟩) (G.2.1.preV w.2.1 hS 0 rfl rfl) rfl rfl hl.1 rfl (lv_room (Nat.le_of_ble_eq_true rfl)) d_Lw_law_2146 ⟨hc, hs0⟩) (fun H locs w hS => ?_)
  refine lv_istore (lv' := [(6, .int bv), (5, .int (wk [1] r)), (0, .ref b), (1, .ref (ad 0)), (2, .ref (bd 0)), (3, .ref o), (4, .int (nI i))]) hx hb d_Lw_law_2149 hl (by decide) rfl (fun ls hl => ?_)
  refine lv_aload_n hx hb d_Lw_law_2151 rfl (lv_at hl 4 rfl) ?_
  refine pu_callR (va_runV (As := []) (rest := []) ⟨hx, hb, hml, hown, hts⟩ (c_Md_thrown l D cb bd sm' _ (sm'.1 0) rfl) (xCW (C := "MuseumHouseModel") 0 hts wd_5_68 wd_1_13 wd_5_65 wd_5_66 wd_5_67 (by decide +kernel) ⟨Nat.le_of_ble_eq_true rfl, Nat.le_of_ble_eq_true rfl⟩) (G.2.1.preV w.2.1 hS 0 rfl rfl) rfl rfl hl.1 rfl (lv_room (Nat.le_of_ble_eq_true rfl)) d_Lw_law_2152 ⟨hc, hs0⟩) ?_
  refine lv_iload hx hb d_Lw_law_2155 (lv_at hl 1 rfl) ?_
  refine lv_icmp_eq (tgt := 2162) hx hb d_Lw_law_2157 (by decide) (fun _ => ?_) (fun cn => absurd h3 cn)
  refine lv_iload hx hb d_Lw_law_2162 (lv_at hl 1 rfl) ?_
  cases r with
  | inr k =>
    refine lv_if_ne (tgt := 2179) hx hb d_Lw_law_2164 (by decide) (fun _ => ?_) (fun cn => absurd cn (wk_ne _ k (by decide)))
    refine lv_goto (tgt := 2182) hx hb d_Lw_law_2179 (by decide) ?_
    exact kk _ _ w hS ls (lv_sub hl [2, 3, 4, 5, 6] rfl)
  | inl v =>
    have h4 := h4 v rfl
    subst h4
    refine lv_if_ne (tgt := 2179) hx hb d_Lw_law_2164 (by decide) (fun cn => absurd rfl cn) (fun _ => ?_)
    refine lv_aload_n hx hb d_Lw_law_2167 rfl (lv_at hl 5 rfl) ?_
    refine lv_iconst (v := 0) hx hb d_Lw_law_2168 (by decide) ?_
    refine va_lald hx hb G.2.2.1 w.2.2 0 0 rfl rfl w_in0 d_Lw_law_2169 ?_
    refine lv_iload hx hb d_Lw_law_2170 (lv_at hl 0 rfl) ?_
    refine lv_i2l hx hb d_Lw_law_2172 rfl ?_
    refine W.lcmp hx hb d_Lw_law_2173 ?_
    refine lv_if_eq (tgt := 2179) hx hb d_Lw_law_2174 (by decide) (fun _ => ?_) (fun cn => absurd (by show lg_cmp (vp_updL f _ v.toInt64 _) v.toInt64 = 0; rw [updL_self]; exact lg_cmp_self _) cn)
    refine lv_goto (tgt := 2182) hx hb d_Lw_law_2179 (by decide) ?_
    exact kk _ _ w hS ls (lv_sub hl [2, 3, 4, 5, 6] rfl)
set_option maxHeartbeats 4000000 in
set_option maxRecDepth 100000 in
theorem s_rule {l : Launch} (htl : l.stackTraces = false) {p : Program} {e : Env} {s : State} {m : MethodId} {below : List Frame} {meth : Method} {c : Code} {b L : Nat} {xs : Nat → Int32} (C0 : lw_At p s m meth c b L xs) {D : va_G} {ca cb : Nat → ClassId} {co : ClassId} {ad bd : Nat → Nat} {o : Nat} (G : lX D ca cb co ad bd o s) {Q : State → Prop} {cells slots : Nat} (hc : cells ≤ 1089) (hs : slots ≤ 11746) {i : Nat} {st sm sm' : pu_St} {f : Nat → Int64} {v : Int32} (h1 : f_H_rule st = some v) (h2 : f_Md_rule sm = some (v, sm'))
    (kk : ∀ (H : Heap) (locs : List Loc), lW D ca cb co ad bd o st sm' f H → va_S (lA s) s.heap H locs → ∀ ls : Array Slot, lv_has ls 7 [(0, .ref b), (1, .ref (ad 0)), (2, .ref (bd 0)), (3, .ref o), (4, .int (nI i))] → W p l e room_1 s m #[Value.ref b] below meth c H locs cells slots Q (F0 m 2182 ls []))
    (H : Heap) (locs : List Loc) (w : lW D ca cb co ad bd o st sm f H) (hS : va_S (lA s) s.heap H locs) (ls : Array Slot) (hl : lv_has ls 7 [(0, .ref b), (1, .ref (ad 0)), (2, .ref (bd 0)), (3, .ref o), (4, .int (nI i))]) : W p l e room_1 s m #[Value.ref b] below meth c H locs cells slots Q (F0 m 2113 ls []) := by
  obtain ⟨hx, hb, hr, hml, hown, hts0, hX, hbl, hlocks, hgv⟩ := C0
  have hts : ∀ w ∈ tG, w.before #[Value.ref b] s = true := fun w hw => hts0 w (List.mem_filter.mp hw).1
  have hown : s.vm.findClass "MuseumHouseLaw" = some m.cls := hown
  refine lv_aload_n hx hb d_Lw_law_2113 rfl (lv_at hl 1 rfl) ?_
  refine pu_callR (va_runV (As := []) (rest := []) ⟨hx, hb, hml, hown, hts⟩ (c_H_rule l D ca ad st _ v h1) (xCW (C := "MuseumHouse") 0 hts wd_2_12 wd_1_1 wd_2_9 wd_2_10 wd_2_11 (by decide +kernel) ⟨Nat.le_of_ble_eq_true rfl, Nat.le_of_ble_eq_true rfl⟩) (G.1.preV w.1 hS 0 rfl rfl) rfl rfl hl.1 rfl (lv_room (Nat.le_of_ble_eq_true rfl)) d_Lw_law_2114 ⟨hc, hs⟩) ?_
  refine lv_aload_n hx hb d_Lw_law_2117 rfl (lv_at hl 2 rfl) ?_
  refine lModI G w hS (va_runV (As := []) (rest := [.int v]) ⟨hx, hb, hml, hown, hts⟩ (MetX.met (c_Md_rule l htl D cb bd sm _ v sm' h2) (fun _ _ _ _ q => ⟨_, q.1⟩)) (xCW (C := "MuseumHouseModel") 0 hts wd_6_16 wd_1_13 wd_6_13 wd_6_14 wd_6_15 (by decide +kernel) ⟨Nat.le_of_ble_eq_true rfl, Nat.le_of_ble_eq_true rfl⟩) (G.2.1.preV w.2.1 hS 0 rfl rfl) rfl rfl hl.1 rfl (lv_room (Nat.le_of_ble_eq_true rfl)) d_Lw_law_2118 ⟨hc, hs⟩) (fun H locs w hS => ?_)
  refine lv_icmp_eq (tgt := 2182) hx hb d_Lw_law_2121 (by decide) (fun _ => ?_) (fun cn => absurd rfl cn)
  exact kk _ _ w hS ls hl

/-- WHAT THE PURE PART MUST GIVE: states that agree; at every call both sides end alike, and agree again -/
def pAll (Rel : pu_St → pu_St → Prop) : Prop :=
  (∀ st sm, Rel st sm → ∀ a1 a2 : Int32, pOk [1, 2, 3] Rel (f_H_desk st a1 a2) (f_Md_desk sm a1 a2)) ∧
  (∀ st sm, Rel st sm → ∀ a1 : Int32, pOk [3] Rel (f_H_day st a1) (f_Md_day sm a1)) ∧
  (∀ st sm, Rel st sm → ∀ a1 : Int32, pOk [1, 2] Rel (f_H_site st a1) (f_Md_site sm a1)) ∧
  (∀ st sm, Rel st sm → ∀ a1 a2 : Int32, pOk [1, 2] Rel (f_H_context st a1 a2) (f_Md_context sm a1 a2)) ∧
  (∀ st sm, Rel st sm → ∀ a1 a2 a3 : Int32, pOk [1, 2, 3] Rel (f_H_above st a1 a2 a3) (f_Md_above sm a1 a2 a3)) ∧
  (∀ st sm, Rel st sm → ∀ a1 a2 a3 a4 : Int32, pOk [1, 2, 3] Rel (f_H_span st a1 a2 a3 a4) (f_Md_span sm a1 a2 a3 a4)) ∧
  (∀ st sm, Rel st sm → ∀ a1 a2 : Int32, pOk [1] Rel (f_H_isAbove st a1 a2) (f_Md_isAbove sm a1 a2)) ∧
  (∀ st sm, Rel st sm → ∀ a1 a2 : Int32, pOk [1, 3] Rel (f_H_year st a1 a2) (f_Md_year sm a1 a2)) ∧
  (∀ st sm, Rel st sm → ∀ a1 a2 a3 : Int32, pOk [1, 2, 3] Rel (f_H_find st a1 a2 a3) (f_Md_find sm a1 a2 a3)) ∧
  (∀ st sm, Rel st sm → ∀ a1 a2 : Int32, pOk [1, 2, 3] Rel (f_H_object st a1 a2) (f_Md_object sm a1 a2)) ∧
  (∀ st sm, Rel st sm → ∀ a1 a2 : Int32, pOk [1, 2] Rel (f_H_store st a1 a2) (f_Md_store sm a1 a2)) ∧
  (∀ st sm, Rel st sm → ∀ a1 a2 a3 : Int32, pOk [1, 2, 3] Rel (f_H_carry st a1 a2 a3) (f_Md_carry sm a1 a2 a3)) ∧
  (∀ st sm, Rel st sm → ∀ a1 a2 : Int32, pOk [1] Rel (f_H_within st a1 a2) (f_Md_within sm a1 a2)) ∧
  (∀ st sm, Rel st sm → ∀ a1 a2 a3 a4 : Int32, pOk [1, 2, 3] Rel (f_H_move st a1 a2 a3 a4) (f_Md_move sm a1 a2 a3 a4)) ∧
  (∀ st sm, Rel st sm → ∀ a1 a2 : Int32, pOk [1, 3] Rel (f_H_place st a1 a2) (f_Md_place sm a1 a2)) ∧
  (∀ st sm, Rel st sm → ∀ a1 a2 : Int32, pOk [1, 3] Rel (f_H_stored st a1 a2) (f_Md_stored sm a1 a2)) ∧
  (∀ st sm, Rel st sm → ∀ a1 a2 a3 a4 : Int32, pOk [1, 2, 3] Rel (f_H_loan st a1 a2 a3 a4) (f_Md_loan sm a1 a2 a3 a4)) ∧
  (∀ st sm, Rel st sm → ∀ a1 a2 a3 : Int32, pOk [1, 2, 3] Rel (f_H_back st a1 a2 a3) (f_Md_back sm a1 a2 a3)) ∧
  (∀ st sm, Rel st sm → ∀ a1 a2 a3 a4 : Int32, pOk [1, 2, 3] Rel (f_H_show st a1 a2 a3 a4) (f_Md_show sm a1 a2 a3 a4)) ∧
  (∀ st sm, Rel st sm → ∀ a1 a2 a3 : Int32, pOk [1, 2, 3] Rel (f_H_hang st a1 a2 a3) (f_Md_hang sm a1 a2 a3)) ∧
  (∀ st sm, Rel st sm → ∀ a1 a2 a3 : Int32, pOk [1, 2] Rel (f_H_take st a1 a2 a3) (f_Md_take sm a1 a2 a3)) ∧
  (∀ st sm, Rel st sm → ∀ a1 a2 a3 : Int32, pOk [1, 2, 3] Rel (f_H_claim st a1 a2 a3) (f_Md_claim sm a1 a2 a3)) ∧
  (∀ st sm, Rel st sm → ∀ a1 a2 : Int32, pOk [1, 2, 3] Rel (f_H_close st a1 a2) (f_Md_close sm a1 a2)) ∧
  (∀ st sm, Rel st sm → ∀ a1 a2 : Int32, pOk [1, 3] Rel (f_H_where st a1 a2) (f_Md_where sm a1 a2)) ∧
  (∀ st sm, Rel st sm → ∀ a1 : Int32, pOk [1] Rel (f_H_origin st a1) (f_Md_origin sm a1)) ∧
  (∀ st sm, Rel st sm → ∀ a1 : Int32, pOk [1] Rel (f_H_hall st a1) (f_Md_hall sm a1)) ∧
  (∀ st sm, Rel st sm → ∃ v sm', f_H_rule st = some v ∧ f_Md_rule sm = some (v, sm') ∧ Rel st sm') ∧
  (∀ st sm, Rel st sm → ∀ a1 : Int32, pOk [1] Rel (f_H_count st a1) (f_Md_count sm a1))
theorem pu_o28 {v : Int32} (h : ¬ v = 0 ∧ ¬ v = 1 ∧ ¬ v = 2 ∧ ¬ v = 3 ∧ ¬ v = 4 ∧ ¬ v = 5 ∧ ¬ v = 6 ∧ ¬ v = 7 ∧ ¬ v = 8 ∧ ¬ v = 9 ∧ ¬ v = 10 ∧ ¬ v = 11 ∧ ¬ v = 12 ∧ ¬ v = 13 ∧ ¬ v = 14 ∧ ¬ v = 15 ∧ ¬ v = 16 ∧ ¬ v = 17 ∧ ¬ v = 18 ∧ ¬ v = 19 ∧ ¬ v = 20 ∧ ¬ v = 21 ∧ ¬ v = 22 ∧ ¬ v = 23 ∧ ¬ v = 24 ∧ ¬ v = 25 ∧ ¬ v = 26 ∧ ¬ v = 27) : v.toInt < 0 ∨ 27 < v.toInt := by
  by_cases h1 : v.toInt < 0
  · exact Or.inl h1
  by_cases h2 : 27 < v.toInt
  · exact Or.inr h2
  exfalso
  have e : v.toInt = 0 ∨ v.toInt = 1 ∨ v.toInt = 2 ∨ v.toInt = 3 ∨ v.toInt = 4 ∨ v.toInt = 5 ∨ v.toInt = 6 ∨ v.toInt = 7 ∨ v.toInt = 8 ∨ v.toInt = 9 ∨ v.toInt = 10 ∨ v.toInt = 11 ∨ v.toInt = 12 ∨ v.toInt = 13 ∨ v.toInt = 14 ∨ v.toInt = 15 ∨ v.toInt = 16 ∨ v.toInt = 17 ∨ v.toInt = 18 ∨ v.toInt = 19 ∨ v.toInt = 20 ∨ v.toInt = 21 ∨ v.toInt = 22 ∨ v.toInt = 23 ∨ v.toInt = 24 ∨ v.toInt = 25 ∨ v.toInt = 26 ∨ v.toInt = 27 := by omega
  have k : ∀ w : Int32, v.toInt = w.toInt → v = w := fun w hw => Int32.toInt_inj.mp hw
  obtain ⟨a0, a1, a2, a3, a4, a5, a6, a7, a8, a9, a10, a11, a12, a13, a14, a15, a16, a17, a18, a19, a20, a21, a22, a23, a24, a25, a26, a27⟩ := h
  rcases e with e | e | e | e | e | e | e | e | e | e | e | e | e | e | e | e | e | e | e | e | e | e | e | e | e | e | e | e
  · exact a0 (k 0 e)
  · exact a1 (k 1 e)
  · exact a2 (k 2 e)
  · exact a3 (k 3 e)
  · exact a4 (k 4 e)
  · exact a5 (k 5 e)
  · exact a6 (k 6 e)
  · exact a7 (k 7 e)
  · exact a8 (k 8 e)
  · exact a9 (k 9 e)
  · exact a10 (k 10 e)
  · exact a11 (k 11 e)
  · exact a12 (k 12 e)
  · exact a13 (k 13 e)
  · exact a14 (k 14 e)
  · exact a15 (k 15 e)
  · exact a16 (k 16 e)
  · exact a17 (k 17 e)
  · exact a18 (k 18 e)
  · exact a19 (k 19 e)
  · exact a20 (k 20 e)
  · exact a21 (k 21 e)
  · exact a22 (k 22 e)
  · exact a23 (k 23 e)
  · exact a24 (k 24 e)
  · exact a25 (k 25 e)
  · exact a26 (k 26 e)
  · exact a27 (k 27 e)
set_option maxHeartbeats 4000000 in
set_option maxRecDepth 100000 in
theorem law_loop {l : Launch} (htl : l.stackTraces = false) {p : Program} {e : Env} {s : State} {m : MethodId} {below : List Frame} {meth : Method} {c : Code} {b L : Nat} {xs : Nat → Int32} (C0 : lw_At p s m meth c b L xs) {D : va_G} {ca cb : Nat → ClassId} {co : ClassId} {ad bd : Nat → Nat} {o : Nat} (G : lX D ca cb co ad bd o s) (hL : L ≤ 2560) {Rel : pu_St → pu_St → Prop} (P : pAll Rel) :
    ∀ (n j : Nat), 5 * j ≤ L → L < 5 * (j + n) → ∀ (st sm : pu_St) (f : Nat → Int64), Rel st sm → ∀ (H : Heap) (locs : List Loc), lW D ca cb co ad bd o st sm f H → va_S (lA s) s.heap H locs → ∀ ls : Array Slot, lv_has ls 7 [(0, .ref b), (1, .ref (ad 0)), (2, .ref (bd 0)), (3, .ref o), (4, .int (nI (5 * j)))] →
      W p l e room_1 s m #[Value.ref b] below meth c H locs (60 + j) (3524 + 6 * j) (lw_Z below #[Value.ref b] s) (F0 m 23 ls []) := by
  obtain ⟨hx, hb, hr, hml, hown, hts0, hX, hbl, hlocks, hgv⟩ := id C0
  intro n
  induction n with
  | zero => intro j h1 h2; exact absurd h2 (by omega)
  | succ n ih =>
    intro j hj hn st sm f hR H locs w hS ls hl
    have nxt : 5 * j + 5 ≤ L → ∀ (st sm : pu_St) (f : Nat → Int64), Rel st sm → ∀ (H : Heap) (locs : List Loc), lW D ca cb co ad bd o st sm f H → va_S (lA s) s.heap H locs → ∀ ls : Array Slot, lv_has ls 7 [(0, .ref b), (1, .ref (ad 0)), (2, .ref (bd 0)), (3, .ref o), (4, .int (nI (5 * j)))] →
        W p l e room_1 s m #[Value.ref b] below meth c H locs (60 + j + 1) (3524 + 6 * j + 6) (lw_Z below #[Value.ref b] s) (F0 m 2182 ls []) := by
      intro hi st sm f hR H locs w hS ls hl
      refine lv_iinc (v := nI (5 * (j + 1))) (lv' := [(4, .int (nI (5 * (j + 1)))), (0, .ref b), (1, .ref (ad 0)), (2, .ref (bd 0)), (3, .ref o)]) hx hb d_Lw_law_2182 hl (k := 4) rfl (nI_add (5 * j) 5) (by decide) rfl (fun ls hl => ?_)
      refine lv_goto (tgt := 23) hx hb d_Lw_law_2185 (by decide) ?_
      exact ih (j + 1) hi (by omega) st sm f hR H locs w hS ls (lv_sub hl [1, 2, 3, 4, 0] rfl)
    refine lv_iload hx hb d_Lw_law_23 (lv_at hl 4 rfl) ?_
    refine lv_aload_n hx hb d_Lw_law_25 rfl (lv_at hl 0 rfl) ?_
    refine va_slen hx hb hX hbl (A := lA s) (Nat.not_le.mpr hbl) hS d_Lw_law_26 ?_
    refine lv_iconst (v := 5) hx hb d_Lw_law_27 (by decide) ?_
    refine lv_isub hx hb d_Lw_law_28 ?_
    have hsub : (nI L - 5).toInt = (L : Int) - 5 := pk_sub_toInt (a := L) (b := 5) (by omega) (by omega)
    refine lv_icmp_gt (tgt := 2188) hx hb d_Lw_law_29 (by decide) (fun _ => ?_) (fun cc => ?_)
    · refine lv_iconst (v := 1) hx hb d_Lw_law_2188 (by decide) ?_
      refine va_forget (fun q hq => hS.2.2 q hq) ?_
      refine W.widen (k := 1089) (n := 11746) (by omega) (by omega) ?_
      exact lw_ret hx hb hr hlocks d_Lw_law_2189
    · have hi : 5 * j + 5 ≤ L := by
        have h1 : ¬ (nI L - 5).toInt < (nI (5 * j)).toInt := fun h => cc (Int32.lt_iff_toInt_lt.mpr h)
        rw [hsub, nI_toInt (by omega)] at h1
        omega
      have hc : 60 + j + 1 ≤ 1089 := by omega
      have hs : 3524 + 6 * j + 6 ≤ 11746 := by omega
      refine lv_aload_n hx hb d_Lw_law_32 rfl (lv_at hl 0 rfl) ?_
      refine lv_iload hx hb d_Lw_law_33 (lv_at hl 4 rfl) ?_
      refine va_sld hx hb hX hbl (A := lA s) (Nat.not_le.mpr hbl) hS (vp_in_nI (show 5 * j < L by omega) (by omega)) d_Lw_law_35 ?_
      refine lv_bipush (v := 31) hx hb d_Lw_law_36 (by decide) ?_
      refine lv_iand hx hb d_Lw_law_38 ?_
      generalize xs (nI (5 * j)).toNatClampNeg &&& 31 = z
      by_cases c0 : z = 0
      · refine lv_tableIn (tgt := 164) hx hb d_Lw_law_39 (by rw [c0]; decide) (by rw [c0]; decide) (by rw [c0]; rfl) (by decide) ?_
        obtain ⟨r, st', v, sm', h1, hk, h2, h3, h4, hR2⟩ := P.1 st sm hR (xs (5 * j + 1)) (xs (5 * j + 2))
        exact s_desk htl C0 G hc hs hL hi h1 hk h2 h3 h4 (fun H locs w hS ls hl => nxt hi _ _ _ hR2 H locs w hS ls hl) H locs w hS ls hl
      by_cases c1 : z = 1
      · refine lv_tableIn (tgt := 232) hx hb d_Lw_law_39 (by rw [c1]; decide) (by rw [c1]; decide) (by rw [c1]; rfl) (by decide) ?_
        obtain ⟨r, st', v, sm', h1, hk, h2, h3, h4, hR2⟩ := P.2.1 st sm hR (xs (5 * j + 1))
        exact s_day htl C0 G hc hs hL hi h1 hk h2 h3 h4 (fun H locs w hS ls hl => nxt hi _ _ _ hR2 H locs w hS ls hl) H locs w hS ls hl
      by_cases c2 : z = 2
      · refine lv_tableIn (tgt := 288) hx hb d_Lw_law_39 (by rw [c2]; decide) (by rw [c2]; decide) (by rw [c2]; rfl) (by decide) ?_
        obtain ⟨r, st', v, sm', h1, hk, h2, h3, h4, hR2⟩ := P.2.2.1 st sm hR (xs (5 * j + 1))
        exact s_site htl C0 G hc hs hL hi h1 hk h2 h3 h4 (fun H locs w hS ls hl => nxt hi _ _ _ hR2 H locs w hS ls hl) H locs w hS ls hl
      by_cases c3 : z = 3
      · refine lv_tableIn (tgt := 344) hx hb d_Lw_law_39 (by rw [c3]; decide) (by rw [c3]; decide) (by rw [c3]; rfl) (by decide) ?_
        obtain ⟨r, st', v, sm', h1, hk, h2, h3, h4, hR2⟩ := P.2.2.2.1 st sm hR (xs (5 * j + 1)) (xs (5 * j + 2))
        exact s_context htl C0 G hc hs hL hi h1 hk h2 h3 h4 (fun H locs w hS ls hl => nxt hi _ _ _ hR2 H locs w hS ls hl) H locs w hS ls hl
      by_cases c4 : z = 4
      · refine lv_tableIn (tgt := 412) hx hb d_Lw_law_39 (by rw [c4]; decide) (by rw [c4]; decide) (by rw [c4]; rfl) (by decide) ?_
        obtain ⟨r, st', v, sm', h1, hk, h2, h3, h4, hR2⟩ := P.2.2.2.2.1 st sm hR (xs (5 * j + 1)) (xs (5 * j + 2)) (xs (5 * j + 3))
        exact s_above htl C0 G hc hs hL hi h1 hk h2 h3 h4 (fun H locs w hS ls hl => nxt hi _ _ _ hR2 H locs w hS ls hl) H locs w hS ls hl
      by_cases c5 : z = 5
      · refine lv_tableIn (tgt := 499) hx hb d_Lw_law_39 (by rw [c5]; decide) (by rw [c5]; decide) (by rw [c5]; rfl) (by decide) ?_
        obtain ⟨r, st', v, sm', h1, hk, h2, h3, h4, hR2⟩ := P.2.2.2.2.2.1 st sm hR (xs (5 * j + 1)) (xs (5 * j + 2)) (xs (5 * j + 3)) (xs (5 * j + 4))
        exact s_span htl C0 G hc hs hL hi h1 hk h2 h3 h4 (fun H locs w hS ls hl => nxt hi _ _ _ hR2 H locs w hS ls hl) H locs w hS ls hl
      by_cases c6 : z = 6
      · refine lv_tableIn (tgt := 591) hx hb d_Lw_law_39 (by rw [c6]; decide) (by rw [c6]; decide) (by rw [c6]; rfl) (by decide) ?_
        obtain ⟨r, st', v, sm', h1, hk, h2, h3, h4, hR2⟩ := P.2.2.2.2.2.2.1 st sm hR (xs (5 * j + 1)) (xs (5 * j + 2))
        exact s_isAbove htl C0 G hc hs hL hi h1 hk h2 h3 h4 (fun H locs w hS ls hl => nxt hi _ _ _ hR2 H locs w hS ls hl) H locs w hS ls hl
      by_cases c7 : z = 7
      · refine lv_tableIn (tgt := 666) hx hb d_Lw_law_39 (by rw [c7]; decide) (by rw [c7]; decide) (by rw [c7]; rfl) (by decide) ?_
        obtain ⟨r, st', v, sm', h1, hk, h2, h3, h4, hR2⟩ := P.2.2.2.2.2.2.2.1 st sm hR (xs (5 * j + 1)) (xs (5 * j + 2))
        exact s_year htl C0 G hc hs hL hi h1 hk h2 h3 h4 (fun H locs w hS ls hl => nxt hi _ _ _ hR2 H locs w hS ls hl) H locs w hS ls hl
      by_cases c8 : z = 8
      · refine lv_tableIn (tgt := 734) hx hb d_Lw_law_39 (by rw [c8]; decide) (by rw [c8]; decide) (by rw [c8]; rfl) (by decide) ?_
        obtain ⟨r, st', v, sm', h1, hk, h2, h3, h4, hR2⟩ := P.2.2.2.2.2.2.2.2.1 st sm hR (xs (5 * j + 1)) (xs (5 * j + 2)) (xs (5 * j + 3))
        exact s_find htl C0 G hc hs hL hi h1 hk h2 h3 h4 (fun H locs w hS ls hl => nxt hi _ _ _ hR2 H locs w hS ls hl) H locs w hS ls hl
      by_cases c9 : z = 9
      · refine lv_tableIn (tgt := 814) hx hb d_Lw_law_39 (by rw [c9]; decide) (by rw [c9]; decide) (by rw [c9]; rfl) (by decide) ?_
        obtain ⟨r, st', v, sm', h1, hk, h2, h3, h4, hR2⟩ := P.2.2.2.2.2.2.2.2.2.1 st sm hR (xs (5 * j + 1)) (xs (5 * j + 2))
        exact s_object htl C0 G hc hs hL hi h1 hk h2 h3 h4 (fun H locs w hS ls hl => nxt hi _ _ _ hR2 H locs w hS ls hl) H locs w hS ls hl
      by_cases c10 : z = 10
      · refine lv_tableIn (tgt := 882) hx hb d_Lw_law_39 (by rw [c10]; decide) (by rw [c10]; decide) (by rw [c10]; rfl) (by decide) ?_
        obtain ⟨r, st', v, sm', h1, hk, h2, h3, h4, hR2⟩ := P.2.2.2.2.2.2.2.2.2.2.1 st sm hR (xs (5 * j + 1)) (xs (5 * j + 2))
        exact s_store htl C0 G hc hs hL hi h1 hk h2 h3 h4 (fun H locs w hS ls hl => nxt hi _ _ _ hR2 H locs w hS ls hl) H locs w hS ls hl
      by_cases c11 : z = 11
      · refine lv_tableIn (tgt := 950) hx hb d_Lw_law_39 (by rw [c11]; decide) (by rw [c11]; decide) (by rw [c11]; rfl) (by decide) ?_
        obtain ⟨r, st', v, sm', h1, hk, h2, h3, h4, hR2⟩ := P.2.2.2.2.2.2.2.2.2.2.2.1 st sm hR (xs (5 * j + 1)) (xs (5 * j + 2)) (xs (5 * j + 3))
        exact s_carry htl C0 G hc hs hL hi h1 hk h2 h3 h4 (fun H locs w hS ls hl => nxt hi _ _ _ hR2 H locs w hS ls hl) H locs w hS ls hl
      by_cases c12 : z = 12
      · refine lv_tableIn (tgt := 1037) hx hb d_Lw_law_39 (by rw [c12]; decide) (by rw [c12]; decide) (by rw [c12]; rfl) (by decide) ?_
        obtain ⟨r, st', v, sm', h1, hk, h2, h3, h4, hR2⟩ := P.2.2.2.2.2.2.2.2.2.2.2.2.1 st sm hR (xs (5 * j + 1)) (xs (5 * j + 2))
        exact s_within htl C0 G hc hs hL hi h1 hk h2 h3 h4 (fun H locs w hS ls hl => nxt hi _ _ _ hR2 H locs w hS ls hl) H locs w hS ls hl
      by_cases c13 : z = 13
      · refine lv_tableIn (tgt := 1112) hx hb d_Lw_law_39 (by rw [c13]; decide) (by rw [c13]; decide) (by rw [c13]; rfl) (by decide) ?_
        obtain ⟨r, st', v, sm', h1, hk, h2, h3, h4, hR2⟩ := P.2.2.2.2.2.2.2.2.2.2.2.2.2.1 st sm hR (xs (5 * j + 1)) (xs (5 * j + 2)) (xs (5 * j + 3)) (xs (5 * j + 4))
        exact s_move htl C0 G hc hs hL hi h1 hk h2 h3 h4 (fun H locs w hS ls hl => nxt hi _ _ _ hR2 H locs w hS ls hl) H locs w hS ls hl
      by_cases c14 : z = 14
      · refine lv_tableIn (tgt := 1211) hx hb d_Lw_law_39 (by rw [c14]; decide) (by rw [c14]; decide) (by rw [c14]; rfl) (by decide) ?_
        obtain ⟨r, st', v, sm', h1, hk, h2, h3, h4, hR2⟩ := P.2.2.2.2.2.2.2.2.2.2.2.2.2.2.1 st sm hR (xs (5 * j + 1)) (xs (5 * j + 2))
        exact s_place htl C0 G hc hs hL hi h1 hk h2 h3 h4 (fun H locs w hS ls hl => nxt hi _ _ _ hR2 H locs w hS ls hl) H locs w hS ls hl
      by_cases c15 : z = 15
      · refine lv_tableIn (tgt := 1279) hx hb d_Lw_law_39 (by rw [c15]; decide) (by rw [c15]; decide) (by rw [c15]; rfl) (by decide) ?_
        obtain ⟨r, st', v, sm', h1, hk, h2, h3, h4, hR2⟩ := P.2.2.2.2.2.2.2.2.2.2.2.2.2.2.2.1 st sm hR (xs (5 * j + 1)) (xs (5 * j + 2))
        exact s_stored htl C0 G hc hs hL hi h1 hk h2 h3 h4 (fun H locs w hS ls hl => nxt hi _ _ _ hR2 H locs w hS ls hl) H locs w hS ls hl
      by_cases c16 : z = 16
      · refine lv_tableIn (tgt := 1347) hx hb d_Lw_law_39 (by rw [c16]; decide) (by rw [c16]; decide) (by rw [c16]; rfl) (by decide) ?_
        obtain ⟨r, st', v, sm', h1, hk, h2, h3, h4, hR2⟩ := P.2.2.2.2.2.2.2.2.2.2.2.2.2.2.2.2.1 st sm hR (xs (5 * j + 1)) (xs (5 * j + 2)) (xs (5 * j + 3)) (xs (5 * j + 4))
        exact s_loan htl C0 G hc hs hL hi h1 hk h2 h3 h4 (fun H locs w hS ls hl => nxt hi _ _ _ hR2 H locs w hS ls hl) H locs w hS ls hl
      by_cases c17 : z = 17
      · refine lv_tableIn (tgt := 1439) hx hb d_Lw_law_39 (by rw [c17]; decide) (by rw [c17]; decide) (by rw [c17]; rfl) (by decide) ?_
        obtain ⟨r, st', v, sm', h1, hk, h2, h3, h4, hR2⟩ := P.2.2.2.2.2.2.2.2.2.2.2.2.2.2.2.2.2.1 st sm hR (xs (5 * j + 1)) (xs (5 * j + 2)) (xs (5 * j + 3))
        exact s_back htl C0 G hc hs hL hi h1 hk h2 h3 h4 (fun H locs w hS ls hl => nxt hi _ _ _ hR2 H locs w hS ls hl) H locs w hS ls hl
      by_cases c18 : z = 18
      · refine lv_tableIn (tgt := 1519) hx hb d_Lw_law_39 (by rw [c18]; decide) (by rw [c18]; decide) (by rw [c18]; rfl) (by decide) ?_
        obtain ⟨r, st', v, sm', h1, hk, h2, h3, h4, hR2⟩ := P.2.2.2.2.2.2.2.2.2.2.2.2.2.2.2.2.2.2.1 st sm hR (xs (5 * j + 1)) (xs (5 * j + 2)) (xs (5 * j + 3)) (xs (5 * j + 4))
        exact s_show htl C0 G hc hs hL hi h1 hk h2 h3 h4 (fun H locs w hS ls hl => nxt hi _ _ _ hR2 H locs w hS ls hl) H locs w hS ls hl
      by_cases c19 : z = 19
      · refine lv_tableIn (tgt := 1611) hx hb d_Lw_law_39 (by rw [c19]; decide) (by rw [c19]; decide) (by rw [c19]; rfl) (by decide) ?_
        obtain ⟨r, st', v, sm', h1, hk, h2, h3, h4, hR2⟩ := P.2.2.2.2.2.2.2.2.2.2.2.2.2.2.2.2.2.2.2.1 st sm hR (xs (5 * j + 1)) (xs (5 * j + 2)) (xs (5 * j + 3))
        exact s_hang htl C0 G hc hs hL hi h1 hk h2 h3 h4 (fun H locs w hS ls hl => nxt hi _ _ _ hR2 H locs w hS ls hl) H locs w hS ls hl
      by_cases c20 : z = 20
      · refine lv_tableIn (tgt := 1698) hx hb d_Lw_law_39 (by rw [c20]; decide) (by rw [c20]; decide) (by rw [c20]; rfl) (by decide) ?_
        obtain ⟨r, st', v, sm', h1, hk, h2, h3, h4, hR2⟩ := P.2.2.2.2.2.2.2.2.2.2.2.2.2.2.2.2.2.2.2.2.1 st sm hR (xs (5 * j + 1)) (xs (5 * j + 2)) (xs (5 * j + 3))
        exact s_take htl C0 G hc hs hL hi h1 hk h2 h3 h4 (fun H locs w hS ls hl => nxt hi _ _ _ hR2 H locs w hS ls hl) H locs w hS ls hl
      by_cases c21 : z = 21
      · refine lv_tableIn (tgt := 1785) hx hb d_Lw_law_39 (by rw [c21]; decide) (by rw [c21]; decide) (by rw [c21]; rfl) (by decide) ?_
        obtain ⟨r, st', v, sm', h1, hk, h2, h3, h4, hR2⟩ := P.2.2.2.2.2.2.2.2.2.2.2.2.2.2.2.2.2.2.2.2.2.1 st sm hR (xs (5 * j + 1)) (xs (5 * j + 2)) (xs (5 * j + 3))
        exact s_claim htl C0 G hc hs hL hi h1 hk h2 h3 h4 (fun H locs w hS ls hl => nxt hi _ _ _ hR2 H locs w hS ls hl) H locs w hS ls hl
      by_cases c22 : z = 22
      · refine lv_tableIn (tgt := 1865) hx hb d_Lw_law_39 (by rw [c22]; decide) (by rw [c22]; decide) (by rw [c22]; rfl) (by decide) ?_
        obtain ⟨r, st', v, sm', h1, hk, h2, h3, h4, hR2⟩ := P.2.2.2.2.2.2.2.2.2.2.2.2.2.2.2.2.2.2.2.2.2.2.1 st sm hR (xs (5 * j + 1)) (xs (5 * j + 2))
        exact s_close htl C0 G hc hs hL hi h1 hk h2 h3 h4 (fun H locs w hS ls hl => nxt hi _ _ _ hR2 H locs w hS ls hl) H locs w hS ls hl
      by_cases c23 : z = 23
      · refine lv_tableIn (tgt := 1933) hx hb d_Lw_law_39 (by rw [c23]; decide) (by rw [c23]; decide) (by rw [c23]; rfl) (by decide) ?_
        obtain ⟨r, st', v, sm', h1, hk, h2, h3, h4, hR2⟩ := P.2.2.2.2.2.2.2.2.2.2.2.2.2.2.2.2.2.2.2.2.2.2.2.1 st sm hR (xs (5 * j + 1)) (xs (5 * j + 2))
        exact s_where htl C0 G hc hs hL hi h1 hk h2 h3 h4 (fun H locs w hS ls hl => nxt hi _ _ _ hR2 H locs w hS ls hl) H locs w hS ls hl
      by_cases c24 : z = 24
      · refine lv_tableIn (tgt := 2001) hx hb d_Lw_law_39 (by rw [c24]; decide) (by rw [c24]; decide) (by rw [c24]; rfl) (by decide) ?_
        obtain ⟨r, st', v, sm', h1, hk, h2, h3, h4, hR2⟩ := P.2.2.2.2.2.2.2.2.2.2.2.2.2.2.2.2.2.2.2.2.2.2.2.2.1 st sm hR (xs (5 * j + 1))
        exact s_origin htl C0 G hc hs hL hi h1 hk h2 h3 h4 (fun H locs w hS ls hl => nxt hi _ _ _ hR2 H locs w hS ls hl) H locs w hS ls hl
      by_cases c25 : z = 25
      · refine lv_tableIn (tgt := 2057) hx hb d_Lw_law_39 (by rw [c25]; decide) (by rw [c25]; decide) (by rw [c25]; rfl) (by decide) ?_
        obtain ⟨r, st', v, sm', h1, hk, h2, h3, h4, hR2⟩ := P.2.2.2.2.2.2.2.2.2.2.2.2.2.2.2.2.2.2.2.2.2.2.2.2.2.1 st sm hR (xs (5 * j + 1))
        exact s_hall htl C0 G hc hs hL hi h1 hk h2 h3 h4 (fun H locs w hS ls hl => nxt hi _ _ _ hR2 H locs w hS ls hl) H locs w hS ls hl
      by_cases c26 : z = 26
      · refine lv_tableIn (tgt := 2113) hx hb d_Lw_law_39 (by rw [c26]; decide) (by rw [c26]; decide) (by rw [c26]; rfl) (by decide) ?_
        obtain ⟨v, sm', h1, h2, hR2⟩ := P.2.2.2.2.2.2.2.2.2.2.2.2.2.2.2.2.2.2.2.2.2.2.2.2.2.2.1 st sm hR
        exact s_rule htl C0 G (by omega) (by omega) h1 h2 (fun H locs w hS ls hl => W.widen (k := 60 + j + 1) (n := 3524 + 6 * j + 6) (by omega) (by omega) (nxt hi _ _ _ hR2 H locs w hS ls hl)) H locs w hS ls hl
      by_cases c27 : z = 27
      · refine lv_tableIn (tgt := 2126) hx hb d_Lw_law_39 (by rw [c27]; decide) (by rw [c27]; decide) (by rw [c27]; rfl) (by decide) ?_
        obtain ⟨r, st', v, sm', h1, hk, h2, h3, h4, hR2⟩ := P.2.2.2.2.2.2.2.2.2.2.2.2.2.2.2.2.2.2.2.2.2.2.2.2.2.2.2 st sm hR (xs (5 * j + 1))
        exact s_count htl C0 G hc hs hL hi h1 hk h2 h3 h4 (fun H locs w hS ls hl => nxt hi _ _ _ hR2 H locs w hS ls hl) H locs w hS ls hl
      refine lv_tableOut (tgt := 2182) hx hb d_Lw_law_39 (pu_o28 ⟨c0, c1, c2, c3, c4, c5, c6, c7, c8, c9, c10, c11, c12, c13, c14, c15, c16, c17, c18, c19, c20, c21, c22, c23, c24, c25, c26, c27⟩) (by decide) ?_
      exact W.widen (k := 60 + j + 1) (n := 3524 + 6 * j + 6) (by omega) (by omega) (nxt hi _ _ _ hR H locs w hS ls hl)

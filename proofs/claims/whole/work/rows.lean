section
-- ===== PART A: goes FIRST, ahead of the names: the tables' words, and 'selects' of the private methods out of them =====
/-- a private method of a class that the tables say can be made, by its rows of tables_1 -/
def lw_okq (q : MethodName × Nat) : Prop := (q.1.cls ≠ "java/lang/invoke/MethodHandle" ∧ q.1.cls ≠ "java/lang/invoke/VarHandle") ∧ Cond.instantiable q.1.cls q.2 ∈ tables_1 ∧ Cond.privateMethod q.1 ∈ tables_1 ∧ Cond.instanceMethod q.1 ∈ tables_1
theorem lw_p0 : lw_okq (⟨"MuseumHouse", "numberOf", "(LMuseumHouse$Register;I)I"⟩, 12) := ⟨⟨by decide +kernel, by decide +kernel⟩, List.mem_of_getElem? (i := 22) (by decide +kernel), List.mem_of_getElem? (i := 264) (by decide +kernel), List.mem_of_getElem? (i := 265) (by decide +kernel)⟩
theorem lw_p1 : lw_okq (⟨"java/lang/Throwable", "fillInStackTrace", "(I)Ljava/lang/Throwable;"⟩, 6) := ⟨⟨by decide +kernel, by decide +kernel⟩, List.mem_of_getElem? (i := 319) (by decide +kernel), List.mem_of_getElem? (i := 317) (by decide +kernel), List.mem_of_getElem? (i := 318) (by decide +kernel)⟩
theorem lw_p2 : lw_okq (⟨"MuseumHouse", "askRight", "(II)V"⟩, 12) := ⟨⟨by decide +kernel, by decide +kernel⟩, List.mem_of_getElem? (i := 22) (by decide +kernel), List.mem_of_getElem? (i := 344) (by decide +kernel), List.mem_of_getElem? (i := 345) (by decide +kernel)⟩
theorem lw_p3 : lw_okq (⟨"MuseumHouse", "askRoom", "(Z)V"⟩, 12) := ⟨⟨by decide +kernel, by decide +kernel⟩, List.mem_of_getElem? (i := 22) (by decide +kernel), List.mem_of_getElem? (i := 373) (by decide +kernel), List.mem_of_getElem? (i := 374) (by decide +kernel)⟩
theorem lw_p4 : lw_okq (⟨"MuseumHouse", "ask", "(IZ)V"⟩, 12) := ⟨⟨by decide +kernel, by decide +kernel⟩, List.mem_of_getElem? (i := 22) (by decide +kernel), List.mem_of_getElem? (i := 377) (by decide +kernel), List.mem_of_getElem? (i := 378) (by decide +kernel)⟩
theorem lw_p5 : lw_okq (⟨"MuseumHouse$Contexts", "greatestFirstBelow", "(I)I"⟩, 7) := ⟨⟨by decide +kernel, by decide +kernel⟩, List.mem_of_getElem? (i := 69) (by decide +kernel), List.mem_of_getElem? (i := 476) (by decide +kernel), List.mem_of_getElem? (i := 477) (by decide +kernel)⟩
theorem lw_p6 : lw_okq (⟨"MuseumHouse$Contexts", "leastLastAbove", "(I)I"⟩, 7) := ⟨⟨by decide +kernel, by decide +kernel⟩, List.mem_of_getElem? (i := 69) (by decide +kernel), List.mem_of_getElem? (i := 494) (by decide +kernel), List.mem_of_getElem? (i := 495) (by decide +kernel)⟩
theorem lw_p7 : lw_okq (⟨"MuseumHouse", "parentNumberOf", "(I)I"⟩, 12) := ⟨⟨by decide +kernel, by decide +kernel⟩, List.mem_of_getElem? (i := 22) (by decide +kernel), List.mem_of_getElem? (i := 597) (by decide +kernel), List.mem_of_getElem? (i := 598) (by decide +kernel)⟩
theorem lw_p8 : lw_okq (⟨"MuseumHouse$Moves", "slotOf", "(II)I"⟩, 3) := ⟨⟨by decide +kernel, by decide +kernel⟩, List.mem_of_getElem? (i := 123) (by decide +kernel), List.mem_of_getElem? (i := 656) (by decide +kernel), List.mem_of_getElem? (i := 657) (by decide +kernel)⟩
theorem lw_p9 : lw_okq (⟨"MuseumHouse$Moves", "endOfSlots", "(I)I"⟩, 3) := ⟨⟨by decide +kernel, by decide +kernel⟩, List.mem_of_getElem? (i := 123) (by decide +kernel), List.mem_of_getElem? (i := 660) (by decide +kernel), List.mem_of_getElem? (i := 661) (by decide +kernel)⟩
theorem lw_p10 : lw_okq (⟨"MuseumHouse$Moves", "firstSlot", "(I)I"⟩, 3) := ⟨⟨by decide +kernel, by decide +kernel⟩, List.mem_of_getElem? (i := 123) (by decide +kernel), List.mem_of_getElem? (i := 664) (by decide +kernel), List.mem_of_getElem? (i := 665) (by decide +kernel)⟩
theorem lw_p11 : lw_okq (⟨"MuseumHouse", "placeHandle", "(II)I"⟩, 12) := ⟨⟨by decide +kernel, by decide +kernel⟩, List.mem_of_getElem? (i := 22) (by decide +kernel), List.mem_of_getElem? (i := 697) (by decide +kernel), List.mem_of_getElem? (i := 698) (by decide +kernel)⟩
theorem lw_p12 : lw_okq (⟨"MuseumHouse", "askFree", "(III)V"⟩, 12) := ⟨⟨by decide +kernel, by decide +kernel⟩, List.mem_of_getElem? (i := 22) (by decide +kernel), List.mem_of_getElem? (i := 724) (by decide +kernel), List.mem_of_getElem? (i := 725) (by decide +kernel)⟩
theorem lw_p13 : lw_okq (⟨"MuseumHouseModel", "first", "(ZIIZ)I"⟩, 27) := ⟨⟨by decide +kernel, by decide +kernel⟩, List.mem_of_getElem? (i := 938) (by decide +kernel), List.mem_of_getElem? (i := 1034) (by decide +kernel), List.mem_of_getElem? (i := 1035) (by decide +kernel)⟩
theorem lw_p14 : lw_okq (⟨"MuseumHouseModel", "is", "(II)Z"⟩, 27) := ⟨⟨by decide +kernel, by decide +kernel⟩, List.mem_of_getElem? (i := 938) (by decide +kernel), List.mem_of_getElem? (i := 1038) (by decide +kernel), List.mem_of_getElem? (i := 1039) (by decide +kernel)⟩
theorem lw_p15 : lw_okq (⟨"MuseumHouseModel", "may", "(II)Z"⟩, 27) := ⟨⟨by decide +kernel, by decide +kernel⟩, List.mem_of_getElem? (i := 938) (by decide +kernel), List.mem_of_getElem? (i := 1042) (by decide +kernel), List.mem_of_getElem? (i := 1043) (by decide +kernel)⟩
def lw_privs_1 : List (MethodName × Nat) := [(⟨"MuseumHouse", "numberOf", "(LMuseumHouse$Register;I)I"⟩, 12), (⟨"java/lang/Throwable", "fillInStackTrace", "(I)Ljava/lang/Throwable;"⟩, 6), (⟨"MuseumHouse", "askRight", "(II)V"⟩, 12), (⟨"MuseumHouse", "askRoom", "(Z)V"⟩, 12), (⟨"MuseumHouse", "ask", "(IZ)V"⟩, 12), (⟨"MuseumHouse$Contexts", "greatestFirstBelow", "(I)I"⟩, 7), (⟨"MuseumHouse$Contexts", "leastLastAbove", "(I)I"⟩, 7), (⟨"MuseumHouse", "parentNumberOf", "(I)I"⟩, 12), (⟨"MuseumHouse$Moves", "slotOf", "(II)I"⟩, 3), (⟨"MuseumHouse$Moves", "endOfSlots", "(I)I"⟩, 3), (⟨"MuseumHouse$Moves", "firstSlot", "(I)I"⟩, 3), (⟨"MuseumHouse", "placeHandle", "(II)I"⟩, 12), (⟨"MuseumHouse", "askFree", "(III)V"⟩, 12), (⟨"MuseumHouseModel", "first", "(ZIIZ)I"⟩, 27), (⟨"MuseumHouseModel", "is", "(II)Z"⟩, 27), (⟨"MuseumHouseModel", "may", "(II)Z"⟩, 27)]
theorem lw_r1 : ∀ q ∈ lw_privs_1, lw_okq q := List.forall_mem_cons.mpr ⟨lw_p0, List.forall_mem_cons.mpr ⟨lw_p1, List.forall_mem_cons.mpr ⟨lw_p2, List.forall_mem_cons.mpr ⟨lw_p3, List.forall_mem_cons.mpr ⟨lw_p4, List.forall_mem_cons.mpr ⟨lw_p5, List.forall_mem_cons.mpr ⟨lw_p6, List.forall_mem_cons.mpr ⟨lw_p7, List.forall_mem_cons.mpr ⟨lw_p8, List.forall_mem_cons.mpr ⟨lw_p9, List.forall_mem_cons.mpr ⟨lw_p10, List.forall_mem_cons.mpr ⟨lw_p11, List.forall_mem_cons.mpr ⟨lw_p12, List.forall_mem_cons.mpr ⟨lw_p13, List.forall_mem_cons.mpr ⟨lw_p14, List.forall_mem_cons.mpr ⟨lw_p15, fun _ h => absurd h List.not_mem_nil⟩⟩⟩⟩⟩⟩⟩⟩⟩⟩⟩⟩⟩⟩⟩⟩
theorem lw_p16 : lw_okq (⟨"MuseumHouseModel", "holds", "(I)Z"⟩, 27) := ⟨⟨by decide +kernel, by decide +kernel⟩, List.mem_of_getElem? (i := 938) (by decide +kernel), List.mem_of_getElem? (i := 1052) (by decide +kernel), List.mem_of_getElem? (i := 1053) (by decide +kernel)⟩
theorem lw_p17 : lw_okq (⟨"MuseumHouseModel", "made", "(I)I"⟩, 27) := ⟨⟨by decide +kernel, by decide +kernel⟩, List.mem_of_getElem? (i := 938) (by decide +kernel), List.mem_of_getElem? (i := 1056) (by decide +kernel), List.mem_of_getElem? (i := 1057) (by decide +kernel)⟩
theorem lw_p18 : lw_okq (⟨"MuseumHouseModel", "follow", "()V"⟩, 27) := ⟨⟨by decide +kernel, by decide +kernel⟩, List.mem_of_getElem? (i := 938) (by decide +kernel), List.mem_of_getElem? (i := 1076) (by decide +kernel), List.mem_of_getElem? (i := 1077) (by decide +kernel)⟩
theorem lw_p19 : lw_okq (⟨"MuseumHouseModel", "fits", "()Z"⟩, 27) := ⟨⟨by decide +kernel, by decide +kernel⟩, List.mem_of_getElem? (i := 938) (by decide +kernel), List.mem_of_getElem? (i := 1080) (by decide +kernel), List.mem_of_getElem? (i := 1081) (by decide +kernel)⟩
theorem lw_p20 : lw_okq (⟨"MuseumHouseModel", "earliest", "(I)I"⟩, 27) := ⟨⟨by decide +kernel, by decide +kernel⟩, List.mem_of_getElem? (i := 938) (by decide +kernel), List.mem_of_getElem? (i := 1084) (by decide +kernel), List.mem_of_getElem? (i := 1085) (by decide +kernel)⟩
theorem lw_p21 : lw_okq (⟨"MuseumHouseModel", "latest", "(I)I"⟩, 27) := ⟨⟨by decide +kernel, by decide +kernel⟩, List.mem_of_getElem? (i := 938) (by decide +kernel), List.mem_of_getElem? (i := 1088) (by decide +kernel), List.mem_of_getElem? (i := 1089) (by decide +kernel)⟩
theorem lw_p22 : lw_okq (⟨"MuseumHouseModel", "holdsShort", "(I)Z"⟩, 27) := ⟨⟨by decide +kernel, by decide +kernel⟩, List.mem_of_getElem? (i := 938) (by decide +kernel), List.mem_of_getElem? (i := 1104) (by decide +kernel), List.mem_of_getElem? (i := 1105) (by decide +kernel)⟩
theorem lw_p23 : lw_okq (⟨"MuseumHouseModel", "isIn", "(II)Z"⟩, 27) := ⟨⟨by decide +kernel, by decide +kernel⟩, List.mem_of_getElem? (i := 938) (by decide +kernel), List.mem_of_getElem? (i := 1124) (by decide +kernel), List.mem_of_getElem? (i := 1125) (by decide +kernel)⟩
theorem lw_p24 : lw_okq (⟨"MuseumHouseModel", "moveAt", "(II)I"⟩, 27) := ⟨⟨by decide +kernel, by decide +kernel⟩, List.mem_of_getElem? (i := 938) (by decide +kernel), List.mem_of_getElem? (i := 1136) (by decide +kernel), List.mem_of_getElem? (i := 1137) (by decide +kernel)⟩
theorem lw_p25 : lw_okq (⟨"MuseumHouseModel", "dayOf", "(I)I"⟩, 27) := ⟨⟨by decide +kernel, by decide +kernel⟩, List.mem_of_getElem? (i := 938) (by decide +kernel), List.mem_of_getElem? (i := 1140) (by decide +kernel), List.mem_of_getElem? (i := 1141) (by decide +kernel)⟩
theorem lw_p26 : lw_okq (⟨"MuseumHouseModel", "loanAt", "(III)I"⟩, 27) := ⟨⟨by decide +kernel, by decide +kernel⟩, List.mem_of_getElem? (i := 938) (by decide +kernel), List.mem_of_getElem? (i := 1144) (by decide +kernel), List.mem_of_getElem? (i := 1145) (by decide +kernel)⟩
theorem lw_p27 : lw_okq (⟨"MuseumHouseModel", "placeOf", "(II)I"⟩, 27) := ⟨⟨by decide +kernel, by decide +kernel⟩, List.mem_of_getElem? (i := 938) (by decide +kernel), List.mem_of_getElem? (i := 1155) (by decide +kernel), List.mem_of_getElem? (i := 1156) (by decide +kernel)⟩
theorem lw_p28 : lw_okq (⟨"MuseumHouseModel", "isClaimed", "(I)Z"⟩, 27) := ⟨⟨by decide +kernel, by decide +kernel⟩, List.mem_of_getElem? (i := 938) (by decide +kernel), List.mem_of_getElem? (i := 1170) (by decide +kernel), List.mem_of_getElem? (i := 1171) (by decide +kernel)⟩
theorem lw_p29 : lw_okq (⟨"MuseumHouseModel", "showAt", "(IIII)I"⟩, 27) := ⟨⟨by decide +kernel, by decide +kernel⟩, List.mem_of_getElem? (i := 938) (by decide +kernel), List.mem_of_getElem? (i := 1174) (by decide +kernel), List.mem_of_getElem? (i := 1175) (by decide +kernel)⟩
def lw_privs_2 : List (MethodName × Nat) := [(⟨"MuseumHouseModel", "holds", "(I)Z"⟩, 27), (⟨"MuseumHouseModel", "made", "(I)I"⟩, 27), (⟨"MuseumHouseModel", "follow", "()V"⟩, 27), (⟨"MuseumHouseModel", "fits", "()Z"⟩, 27), (⟨"MuseumHouseModel", "earliest", "(I)I"⟩, 27), (⟨"MuseumHouseModel", "latest", "(I)I"⟩, 27), (⟨"MuseumHouseModel", "holdsShort", "(I)Z"⟩, 27), (⟨"MuseumHouseModel", "isIn", "(II)Z"⟩, 27), (⟨"MuseumHouseModel", "moveAt", "(II)I"⟩, 27), (⟨"MuseumHouseModel", "dayOf", "(I)I"⟩, 27), (⟨"MuseumHouseModel", "loanAt", "(III)I"⟩, 27), (⟨"MuseumHouseModel", "placeOf", "(II)I"⟩, 27), (⟨"MuseumHouseModel", "isClaimed", "(I)Z"⟩, 27), (⟨"MuseumHouseModel", "showAt", "(IIII)I"⟩, 27)]
theorem lw_r2 : ∀ q ∈ lw_privs_2, lw_okq q := List.forall_mem_cons.mpr ⟨lw_p16, List.forall_mem_cons.mpr ⟨lw_p17, List.forall_mem_cons.mpr ⟨lw_p18, List.forall_mem_cons.mpr ⟨lw_p19, List.forall_mem_cons.mpr ⟨lw_p20, List.forall_mem_cons.mpr ⟨lw_p21, List.forall_mem_cons.mpr ⟨lw_p22, List.forall_mem_cons.mpr ⟨lw_p23, List.forall_mem_cons.mpr ⟨lw_p24, List.forall_mem_cons.mpr ⟨lw_p25, List.forall_mem_cons.mpr ⟨lw_p26, List.forall_mem_cons.mpr ⟨lw_p27, List.forall_mem_cons.mpr ⟨lw_p28, List.forall_mem_cons.mpr ⟨lw_p29, fun _ h => absurd h List.not_mem_nil⟩⟩⟩⟩⟩⟩⟩⟩⟩⟩⟩⟩⟩⟩
def lw_privs : List (MethodName × Nat) := lw_privs_1 ++ (lw_privs_2)
def lw_tbl : List Cond := k2_sels lw_privs ++ tables_1
theorem lw_privs_ok : ∀ q ∈ lw_privs, lw_okq q := by
  show ∀ q ∈ lw_privs_1 ++ (lw_privs_2), lw_okq q
  exact List.forall_mem_append.mpr ⟨lw_r1, lw_r2⟩
def tG : List Cond := lw_tbl.filter goodWord
theorem tg0 {w : Cond} {i : Nat} (h : (k2_sels lw_privs)[i]? = some w) (hg : goodWord w = true) : w ∈ tG := List.mem_filter.mpr ⟨List.mem_append_left _ (List.mem_of_getElem? h), hg⟩
theorem tg1 {w : Cond} {i : Nat} (h : tables_1_1[i]? = some w) (hg : goodWord w = true) : w ∈ tG := List.mem_filter.mpr ⟨List.mem_append_right _ (List.mem_append_left _ (List.mem_of_getElem? h)), hg⟩
theorem tg2 {w : Cond} {i : Nat} (h : tables_1_2[i]? = some w) (hg : goodWord w = true) : w ∈ tG := List.mem_filter.mpr ⟨List.mem_append_right _ (List.mem_append_right _ (List.mem_append_left _ (List.mem_of_getElem? h))), hg⟩
theorem tg3 {w : Cond} {i : Nat} (h : tables_1_3[i]? = some w) (hg : goodWord w = true) : w ∈ tG := List.mem_filter.mpr ⟨List.mem_append_right _ (List.mem_append_right _ (List.mem_append_right _ (List.mem_append_left _ (List.mem_of_getElem? h)))), hg⟩
theorem tg4 {w : Cond} {i : Nat} (h : tables_1_4[i]? = some w) (hg : goodWord w = true) : w ∈ tG := List.mem_filter.mpr ⟨List.mem_append_right _ (List.mem_append_right _ (List.mem_append_right _ (List.mem_append_right _ (List.mem_append_left _ (List.mem_of_getElem? h))))), hg⟩
theorem tg5 {w : Cond} {i : Nat} (h : tables_1_5[i]? = some w) (hg : goodWord w = true) : w ∈ tG := List.mem_filter.mpr ⟨List.mem_append_right _ (List.mem_append_right _ (List.mem_append_right _ (List.mem_append_right _ (List.mem_append_right _ (List.mem_append_left _ (List.mem_of_getElem? h)))))), hg⟩
theorem tg6 {w : Cond} {i : Nat} (h : tables_1_6[i]? = some w) (hg : goodWord w = true) : w ∈ tG := List.mem_filter.mpr ⟨List.mem_append_right _ (List.mem_append_right _ (List.mem_append_right _ (List.mem_append_right _ (List.mem_append_right _ (List.mem_append_right _ (List.mem_of_getElem? h)))))), hg⟩
end
section
section
theorem wd_1_0 : (.initialized "MuseumHouseLaw" : Cond) ∈ tG := tg1 (i := 0) rfl rfl
theorem wd_1_1 : (.initialized "MuseumHouse" : Cond) ∈ tG := tg1 (i := 1) rfl rfl
theorem wd_1_2 : (.initialized "MuseumHouse$Register" : Cond) ∈ tG := tg1 (i := 2) rfl rfl
theorem wd_1_3 : (.initialized "MuseumHouse$Desks" : Cond) ∈ tG := tg1 (i := 3) rfl rfl
theorem wd_1_4 : (.initialized "MuseumHouse$Sites" : Cond) ∈ tG := tg1 (i := 4) rfl rfl
theorem wd_1_5 : (.initialized "MuseumHouse$Contexts" : Cond) ∈ tG := tg1 (i := 5) rfl rfl
theorem wd_1_6 : (.initialized "MuseumHouse$Finds" : Cond) ∈ tG := tg1 (i := 6) rfl rfl
theorem wd_1_7 : (.initialized "MuseumHouse$Items" : Cond) ∈ tG := tg1 (i := 7) rfl rfl
theorem wd_1_8 : (.initialized "MuseumHouse$Moves" : Cond) ∈ tG := tg1 (i := 8) rfl rfl
theorem wd_1_9 : (.initialized "MuseumHouse$Stores" : Cond) ∈ tG := tg1 (i := 9) rfl rfl
theorem wd_1_10 : (.initialized "MuseumHouse$Loans" : Cond) ∈ tG := tg1 (i := 10) rfl rfl
theorem wd_1_11 : (.initialized "MuseumHouse$Shows" : Cond) ∈ tG := tg1 (i := 11) rfl rfl
theorem wd_1_12 : (.initialized "MuseumHouse$Claims" : Cond) ∈ tG := tg1 (i := 12) rfl rfl
theorem wd_1_13 : (.initialized "MuseumHouseModel" : Cond) ∈ tG := tg1 (i := 13) rfl rfl
theorem wd_1_14 : (.initialized "java/lang/Throwable" : Cond) ∈ tG := tg1 (i := 14) rfl rfl
theorem wd_1_15 : (.initialized "java/lang/Exception" : Cond) ∈ tG := tg1 (i := 15) rfl rfl
theorem wd_1_16 : (.initialized "java/lang/RuntimeException" : Cond) ∈ tG := tg1 (i := 16) rfl rfl
theorem wd_1_17 : (.initialized "java/util/NoSuchElementException" : Cond) ∈ tG := tg1 (i := 17) rfl rfl
theorem wd_1_18 : (.initialized "java/lang/IllegalStateException" : Cond) ∈ tG := tg1 (i := 18) rfl rfl
theorem wd_1_19 : (.initialized "java/lang/IllegalArgumentException" : Cond) ∈ tG := tg1 (i := 19) rfl rfl
theorem wd_1_20 : (.initialized "java/lang/Math" : Cond) ∈ tG := tg1 (i := 20) rfl rfl
theorem wd_1_21 : (.classLink "MuseumHouseLaw" 8 "MuseumHouse" : Cond) ∈ tG := tg1 (i := 21) rfl rfl
theorem wd_1_22 : (.instantiable "MuseumHouse" 12 : Cond) ∈ tG := tg1 (i := 22) rfl rfl
theorem wd_1_23 : (.methodLink "MuseumHouseLaw" 103 ⟨"MuseumHouse", "<init>", "()V"⟩ : Cond) ∈ tG := tg1 (i := 23) rfl rfl
theorem wd_1_24 : (.instanceMethod ⟨"MuseumHouse", "<init>", "()V"⟩ : Cond) ∈ tG := tg1 (i := 24) rfl rfl
theorem wd_1_25 : (.code ⟨"MuseumHouse", "<init>", "()V"⟩ prog_1_method_1_code 1 (none : Option Jvm.ClassFile.FieldType) : Cond) ∈ tG := tg1 (i := 25) rfl rfl
theorem wd_1_26 : (.methodLink "MuseumHouse" 1 ⟨"java/lang/Object", "<init>", "()V"⟩ : Cond) ∈ tG := tg1 (i := 26) rfl rfl
theorem wd_1_27 : (.instanceMethod ⟨"java/lang/Object", "<init>", "()V"⟩ : Cond) ∈ tG := tg1 (i := 27) rfl rfl
theorem wd_1_28 : (.code ⟨"java/lang/Object", "<init>", "()V"⟩ object_method_1_code 1 (none : Option Jvm.ClassFile.FieldType) : Cond) ∈ tG := tg1 (i := 28) rfl rfl
theorem wd_1_29 : (.classLink "MuseumHouse" 7 "MuseumHouse$Desks" : Cond) ∈ tG := tg1 (i := 29) rfl rfl
theorem wd_1_30 : (.instantiable "MuseumHouse$Desks" 4 : Cond) ∈ tG := tg1 (i := 30) rfl rfl
theorem wd_1_31 : (.methodLink "MuseumHouse" 9 ⟨"MuseumHouse$Desks", "<init>", "()V"⟩ : Cond) ∈ tG := tg1 (i := 31) rfl rfl
theorem wd_1_32 : (.instanceMethod ⟨"MuseumHouse$Desks", "<init>", "()V"⟩ : Cond) ∈ tG := tg1 (i := 32) rfl rfl
theorem wd_1_33 : (.code ⟨"MuseumHouse$Desks", "<init>", "()V"⟩ prog_4_method_1_code 1 (none : Option Jvm.ClassFile.FieldType) : Cond) ∈ tG := tg1 (i := 33) rfl rfl
theorem wd_1_34 : (.methodLink "MuseumHouse$Desks" 3 ⟨"MuseumHouse$Register", "<init>", "(II)V"⟩ : Cond) ∈ tG := tg1 (i := 34) rfl rfl
theorem wd_1_35 : (.instanceMethod ⟨"MuseumHouse$Register", "<init>", "(II)V"⟩ : Cond) ∈ tG := tg1 (i := 35) rfl rfl
theorem wd_1_36 : (.code ⟨"MuseumHouse$Register", "<init>", "(II)V"⟩ prog_9_method_1_code 3 (none : Option Jvm.ClassFile.FieldType) : Cond) ∈ tG := tg1 (i := 36) rfl rfl
theorem wd_1_37 : (.methodLink "MuseumHouse$Register" 3 ⟨"java/lang/Object", "<init>", "()V"⟩ : Cond) ∈ tG := tg1 (i := 37) rfl rfl
theorem wd_1_38 : (.methodLink "MuseumHouse$Desks" 15 ⟨"MuseumHouse$Desks", "enter", "()I"⟩ : Cond) ∈ tG := tg1 (i := 38) rfl rfl
theorem wd_1_39 : (.sameMethod "MuseumHouse$Desks" "MuseumHouse$Register" "enter" "()I" : Cond) ∈ tG := tg1 (i := 39) rfl rfl
theorem wd_1_41 : (.selects "MuseumHouse$Desks" ⟨"MuseumHouse$Desks", "enter", "()I"⟩ ⟨"MuseumHouse$Register", "enter", "()I"⟩ : Cond) ∈ tG := tg1 (i := 41) rfl rfl
theorem wd_1_42 : (.instanceMethod ⟨"MuseumHouse$Register", "enter", "()I"⟩ : Cond) ∈ tG := tg1 (i := 42) rfl rfl
theorem wd_1_43 : (.code ⟨"MuseumHouse$Register", "enter", "()I"⟩ prog_9_method_6_code 2 (some .int) : Cond) ∈ tG := tg1 (i := 43) rfl rfl
theorem wd_1_44 : (.fieldLink "MuseumHouse$Desks" 9 "MuseumHouse$Desks" "rights" "[I" : Cond) ∈ tG := tg1 (i := 44) rfl rfl
theorem wd_1_45 : (.fieldLink "MuseumHouse$Register" 9 "MuseumHouse$Register" "firstHandle" "I" : Cond) ∈ tG := tg1 (i := 45) rfl rfl
theorem wd_1_46 : (.fieldLink "MuseumHouse$Register" 15 "MuseumHouse$Register" "room" "I" : Cond) ∈ tG := tg1 (i := 46) rfl rfl
theorem wd_1_47 : (.fieldLink "MuseumHouse$Register" 18 "MuseumHouse$Register" "made" "I" : Cond) ∈ tG := tg1 (i := 47) rfl rfl
theorem wd_1_48 : (.laysFinal "MuseumHouse$Desks" "MuseumHouse$Desks" "rights" "[I" : Cond) ∈ tG := tg1 (i := 48) rfl rfl
theorem wd_1_49 : (.soleField "MuseumHouse$Desks" "rights" : Cond) ∈ tG := tg1 (i := 49) rfl rfl
theorem wd_1_50 : (.laysFinal "MuseumHouse$Desks" "MuseumHouse$Register" "firstHandle" "I" : Cond) ∈ tG := tg1 (i := 50) rfl rfl
theorem wd_1_51 : (.soleField "MuseumHouse$Register" "firstHandle" : Cond) ∈ tG := tg1 (i := 51) rfl rfl
theorem wd_1_52 : (.laysFinal "MuseumHouse$Desks" "MuseumHouse$Register" "room" "I" : Cond) ∈ tG := tg1 (i := 52) rfl rfl
theorem wd_1_53 : (.soleField "MuseumHouse$Register" "room" : Cond) ∈ tG := tg1 (i := 53) rfl rfl
theorem wd_1_54 : (.lays "MuseumHouse$Desks" "MuseumHouse$Register" "made" "I" : Cond) ∈ tG := tg1 (i := 54) rfl rfl
theorem wd_1_55 : (.soleField "MuseumHouse$Register" "made" : Cond) ∈ tG := tg1 (i := 55) rfl rfl
theorem wd_1_56 : (.superclass "MuseumHouse$Desks" "MuseumHouse$Register" : Cond) ∈ tG := tg1 (i := 56) rfl rfl
theorem wd_1_57 : (.arrayClass .int : Cond) ∈ tG := tg1 (i := 57) rfl rfl
theorem wd_1_58 : (.classLink "MuseumHouse" 16 "MuseumHouse$Sites" : Cond) ∈ tG := tg1 (i := 58) rfl rfl
theorem wd_1_59 : (.instantiable "MuseumHouse$Sites" 3 : Cond) ∈ tG := tg1 (i := 59) rfl rfl
theorem wd_1_60 : (.methodLink "MuseumHouse" 18 ⟨"MuseumHouse$Sites", "<init>", "()V"⟩ : Cond) ∈ tG := tg1 (i := 60) rfl rfl
theorem wd_1_61 : (.instanceMethod ⟨"MuseumHouse$Sites", "<init>", "()V"⟩ : Cond) ∈ tG := tg1 (i := 61) rfl rfl
theorem wd_1_62 : (.code ⟨"MuseumHouse$Sites", "<init>", "()V"⟩ prog_11_method_1_code 1 (none : Option Jvm.ClassFile.FieldType) : Cond) ∈ tG := tg1 (i := 62) rfl rfl
theorem wd_1_63 : (.methodLink "MuseumHouse$Sites" 3 ⟨"MuseumHouse$Register", "<init>", "(II)V"⟩ : Cond) ∈ tG := tg1 (i := 63) rfl rfl
theorem wd_1_64 : (.laysFinal "MuseumHouse$Sites" "MuseumHouse$Register" "firstHandle" "I" : Cond) ∈ tG := tg1 (i := 64) rfl rfl
theorem wd_1_65 : (.laysFinal "MuseumHouse$Sites" "MuseumHouse$Register" "room" "I" : Cond) ∈ tG := tg1 (i := 65) rfl rfl
theorem wd_1_66 : (.lays "MuseumHouse$Sites" "MuseumHouse$Register" "made" "I" : Cond) ∈ tG := tg1 (i := 66) rfl rfl
theorem wd_1_67 : (.superclass "MuseumHouse$Sites" "MuseumHouse$Register" : Cond) ∈ tG := tg1 (i := 67) rfl rfl
theorem wd_1_68 : (.classLink "MuseumHouse" 23 "MuseumHouse$Contexts" : Cond) ∈ tG := tg1 (i := 68) rfl rfl
theorem wd_1_69 : (.instantiable "MuseumHouse$Contexts" 7 : Cond) ∈ tG := tg1 (i := 69) rfl rfl
theorem wd_1_70 : (.methodLink "MuseumHouse" 25 ⟨"MuseumHouse$Contexts", "<init>", "()V"⟩ : Cond) ∈ tG := tg1 (i := 70) rfl rfl
theorem wd_1_71 : (.instanceMethod ⟨"MuseumHouse$Contexts", "<init>", "()V"⟩ : Cond) ∈ tG := tg1 (i := 71) rfl rfl
theorem wd_1_72 : (.code ⟨"MuseumHouse$Contexts", "<init>", "()V"⟩ prog_3_method_1_code 1 (none : Option Jvm.ClassFile.FieldType) : Cond) ∈ tG := tg1 (i := 72) rfl rfl
theorem wd_1_73 : (.methodLink "MuseumHouse$Contexts" 3 ⟨"MuseumHouse$Register", "<init>", "(II)V"⟩ : Cond) ∈ tG := tg1 (i := 73) rfl rfl
theorem wd_1_74 : (.fieldLink "MuseumHouse$Contexts" 9 "MuseumHouse$Contexts" "site" "[I" : Cond) ∈ tG := tg1 (i := 74) rfl rfl
theorem wd_1_75 : (.fieldLink "MuseumHouse$Contexts" 15 "MuseumHouse$Contexts" "first" "[I" : Cond) ∈ tG := tg1 (i := 75) rfl rfl
theorem wd_1_76 : (.fieldLink "MuseumHouse$Contexts" 18 "MuseumHouse$Contexts" "last" "[I" : Cond) ∈ tG := tg1 (i := 76) rfl rfl
theorem wd_1_77 : (.fieldLink "MuseumHouse$Contexts" 21 "MuseumHouse$Contexts" "below" "[I" : Cond) ∈ tG := tg1 (i := 77) rfl rfl
theorem wd_1_78 : (.laysFinal "MuseumHouse$Contexts" "MuseumHouse$Contexts" "site" "[I" : Cond) ∈ tG := tg1 (i := 78) rfl rfl
theorem wd_1_79 : (.soleField "MuseumHouse$Contexts" "site" : Cond) ∈ tG := tg1 (i := 79) rfl rfl
theorem wd_1_80 : (.laysFinal "MuseumHouse$Contexts" "MuseumHouse$Contexts" "first" "[I" : Cond) ∈ tG := tg1 (i := 80) rfl rfl
theorem wd_1_81 : (.soleField "MuseumHouse$Contexts" "first" : Cond) ∈ tG := tg1 (i := 81) rfl rfl
theorem wd_1_82 : (.laysFinal "MuseumHouse$Contexts" "MuseumHouse$Contexts" "last" "[I" : Cond) ∈ tG := tg1 (i := 82) rfl rfl
theorem wd_1_83 : (.soleField "MuseumHouse$Contexts" "last" : Cond) ∈ tG := tg1 (i := 83) rfl rfl
theorem wd_1_84 : (.laysFinal "MuseumHouse$Contexts" "MuseumHouse$Contexts" "below" "[I" : Cond) ∈ tG := tg1 (i := 84) rfl rfl
theorem wd_1_85 : (.soleField "MuseumHouse$Contexts" "below" : Cond) ∈ tG := tg1 (i := 85) rfl rfl
theorem wd_1_86 : (.laysFinal "MuseumHouse$Contexts" "MuseumHouse$Register" "firstHandle" "I" : Cond) ∈ tG := tg1 (i := 86) rfl rfl
theorem wd_1_87 : (.laysFinal "MuseumHouse$Contexts" "MuseumHouse$Register" "room" "I" : Cond) ∈ tG := tg1 (i := 87) rfl rfl
theorem wd_1_88 : (.lays "MuseumHouse$Contexts" "MuseumHouse$Register" "made" "I" : Cond) ∈ tG := tg1 (i := 88) rfl rfl
theorem wd_1_89 : (.superclass "MuseumHouse$Contexts" "MuseumHouse$Register" : Cond) ∈ tG := tg1 (i := 89) rfl rfl
theorem wd_1_90 : (.classLink "MuseumHouse" 30 "MuseumHouse$Finds" : Cond) ∈ tG := tg1 (i := 90) rfl rfl
theorem wd_1_91 : (.instantiable "MuseumHouse$Finds" 5 : Cond) ∈ tG := tg1 (i := 91) rfl rfl
theorem wd_1_92 : (.methodLink "MuseumHouse" 32 ⟨"MuseumHouse$Finds", "<init>", "()V"⟩ : Cond) ∈ tG := tg1 (i := 92) rfl rfl
theorem wd_1_93 : (.instanceMethod ⟨"MuseumHouse$Finds", "<init>", "()V"⟩ : Cond) ∈ tG := tg1 (i := 93) rfl rfl
theorem wd_1_94 : (.code ⟨"MuseumHouse$Finds", "<init>", "()V"⟩ prog_5_method_1_code 1 (none : Option Jvm.ClassFile.FieldType) : Cond) ∈ tG := tg1 (i := 94) rfl rfl
theorem wd_1_95 : (.methodLink "MuseumHouse$Finds" 3 ⟨"MuseumHouse$Register", "<init>", "(II)V"⟩ : Cond) ∈ tG := tg1 (i := 95) rfl rfl
theorem wd_1_96 : (.fieldLink "MuseumHouse$Finds" 9 "MuseumHouse$Finds" "context" "[I" : Cond) ∈ tG := tg1 (i := 96) rfl rfl
theorem wd_1_97 : (.fieldLink "MuseumHouse$Finds" 15 "MuseumHouse$Finds" "foundOn" "[I" : Cond) ∈ tG := tg1 (i := 97) rfl rfl
theorem wd_1_98 : (.laysFinal "MuseumHouse$Finds" "MuseumHouse$Finds" "context" "[I" : Cond) ∈ tG := tg1 (i := 98) rfl rfl
theorem wd_1_99 : (.soleField "MuseumHouse$Finds" "context" : Cond) ∈ tG := tg1 (i := 99) rfl rfl
theorem wd_1_100 : (.laysFinal "MuseumHouse$Finds" "MuseumHouse$Finds" "foundOn" "[I" : Cond) ∈ tG := tg1 (i := 100) rfl rfl
theorem wd_1_101 : (.soleField "MuseumHouse$Finds" "foundOn" : Cond) ∈ tG := tg1 (i := 101) rfl rfl
theorem wd_1_102 : (.laysFinal "MuseumHouse$Finds" "MuseumHouse$Register" "firstHandle" "I" : Cond) ∈ tG := tg1 (i := 102) rfl rfl
theorem wd_1_103 : (.laysFinal "MuseumHouse$Finds" "MuseumHouse$Register" "room" "I" : Cond) ∈ tG := tg1 (i := 103) rfl rfl
theorem wd_1_104 : (.lays "MuseumHouse$Finds" "MuseumHouse$Register" "made" "I" : Cond) ∈ tG := tg1 (i := 104) rfl rfl
theorem wd_1_105 : (.superclass "MuseumHouse$Finds" "MuseumHouse$Register" : Cond) ∈ tG := tg1 (i := 105) rfl rfl
theorem wd_1_106 : (.classLink "MuseumHouse" 37 "MuseumHouse$Items" : Cond) ∈ tG := tg1 (i := 106) rfl rfl
theorem wd_1_107 : (.instantiable "MuseumHouse$Items" 5 : Cond) ∈ tG := tg1 (i := 107) rfl rfl
theorem wd_1_108 : (.methodLink "MuseumHouse" 39 ⟨"MuseumHouse$Items", "<init>", "()V"⟩ : Cond) ∈ tG := tg1 (i := 108) rfl rfl
theorem wd_1_109 : (.instanceMethod ⟨"MuseumHouse$Items", "<init>", "()V"⟩ : Cond) ∈ tG := tg1 (i := 109) rfl rfl
theorem wd_1_110 : (.code ⟨"MuseumHouse$Items", "<init>", "()V"⟩ prog_6_method_1_code 1 (none : Option Jvm.ClassFile.FieldType) : Cond) ∈ tG := tg1 (i := 110) rfl rfl
theorem wd_1_111 : (.methodLink "MuseumHouse$Items" 3 ⟨"MuseumHouse$Register", "<init>", "(II)V"⟩ : Cond) ∈ tG := tg1 (i := 111) rfl rfl
theorem wd_1_112 : (.fieldLink "MuseumHouse$Items" 9 "MuseumHouse$Items" "find" "[I" : Cond) ∈ tG := tg1 (i := 112) rfl rfl
theorem wd_1_113 : (.fieldLink "MuseumHouse$Items" 15 "MuseumHouse$Items" "foundOn" "[I" : Cond) ∈ tG := tg1 (i := 113) rfl rfl
theorem wd_1_114 : (.laysFinal "MuseumHouse$Items" "MuseumHouse$Items" "find" "[I" : Cond) ∈ tG := tg1 (i := 114) rfl rfl
theorem wd_1_115 : (.soleField "MuseumHouse$Items" "find" : Cond) ∈ tG := tg1 (i := 115) rfl rfl
theorem wd_1_116 : (.laysFinal "MuseumHouse$Items" "MuseumHouse$Items" "foundOn" "[I" : Cond) ∈ tG := tg1 (i := 116) rfl rfl
theorem wd_1_117 : (.soleField "MuseumHouse$Items" "foundOn" : Cond) ∈ tG := tg1 (i := 117) rfl rfl
theorem wd_1_118 : (.laysFinal "MuseumHouse$Items" "MuseumHouse$Register" "firstHandle" "I" : Cond) ∈ tG := tg1 (i := 118) rfl rfl
theorem wd_1_119 : (.laysFinal "MuseumHouse$Items" "MuseumHouse$Register" "room" "I" : Cond) ∈ tG := tg1 (i := 119) rfl rfl
theorem wd_1_120 : (.lays "MuseumHouse$Items" "MuseumHouse$Register" "made" "I" : Cond) ∈ tG := tg1 (i := 120) rfl rfl
theorem wd_1_121 : (.superclass "MuseumHouse$Items" "MuseumHouse$Register" : Cond) ∈ tG := tg1 (i := 121) rfl rfl
theorem wd_1_122 : (.classLink "MuseumHouse" 44 "MuseumHouse$Moves" : Cond) ∈ tG := tg1 (i := 122) rfl rfl
theorem wd_1_123 : (.instantiable "MuseumHouse$Moves" 3 : Cond) ∈ tG := tg1 (i := 123) rfl rfl
theorem wd_1_124 : (.methodLink "MuseumHouse" 46 ⟨"MuseumHouse$Moves", "<init>", "()V"⟩ : Cond) ∈ tG := tg1 (i := 124) rfl rfl
theorem wd_1_125 : (.instanceMethod ⟨"MuseumHouse$Moves", "<init>", "()V"⟩ : Cond) ∈ tG := tg1 (i := 125) rfl rfl
theorem wd_1_126 : (.code ⟨"MuseumHouse$Moves", "<init>", "()V"⟩ prog_8_method_1_code 1 (none : Option Jvm.ClassFile.FieldType) : Cond) ∈ tG := tg1 (i := 126) rfl rfl
theorem wd_1_127 : (.methodLink "MuseumHouse$Moves" 3 ⟨"java/lang/Object", "<init>", "()V"⟩ : Cond) ∈ tG := tg1 (i := 127) rfl rfl
theorem wd_1_128 : (.fieldLink "MuseumHouse$Moves" 9 "MuseumHouse$Moves" "movedOn" "[I" : Cond) ∈ tG := tg1 (i := 128) rfl rfl
theorem wd_1_129 : (.fieldLink "MuseumHouse$Moves" 15 "MuseumHouse$Moves" "target" "[I" : Cond) ∈ tG := tg1 (i := 129) rfl rfl
theorem wd_1_130 : (.fieldLink "MuseumHouse$Moves" 18 "MuseumHouse$Moves" "told" "[I" : Cond) ∈ tG := tg1 (i := 130) rfl rfl
theorem wd_1_131 : (.laysFinal "MuseumHouse$Moves" "MuseumHouse$Moves" "movedOn" "[I" : Cond) ∈ tG := tg1 (i := 131) rfl rfl
theorem wd_1_132 : (.soleField "MuseumHouse$Moves" "movedOn" : Cond) ∈ tG := tg1 (i := 132) rfl rfl
theorem wd_1_133 : (.laysFinal "MuseumHouse$Moves" "MuseumHouse$Moves" "target" "[I" : Cond) ∈ tG := tg1 (i := 133) rfl rfl
theorem wd_1_134 : (.soleField "MuseumHouse$Moves" "target" : Cond) ∈ tG := tg1 (i := 134) rfl rfl
theorem wd_1_135 : (.laysFinal "MuseumHouse$Moves" "MuseumHouse$Moves" "told" "[I" : Cond) ∈ tG := tg1 (i := 135) rfl rfl
theorem wd_1_136 : (.soleField "MuseumHouse$Moves" "told" : Cond) ∈ tG := tg1 (i := 136) rfl rfl
theorem wd_1_137 : (.superclass "MuseumHouse$Moves" "java/lang/Object" : Cond) ∈ tG := tg1 (i := 137) rfl rfl
theorem wd_1_138 : (.classLink "MuseumHouse" 51 "MuseumHouse$Stores" : Cond) ∈ tG := tg1 (i := 138) rfl rfl
theorem wd_1_139 : (.instantiable "MuseumHouse$Stores" 4 : Cond) ∈ tG := tg1 (i := 139) rfl rfl
theorem wd_1_140 : (.methodLink "MuseumHouse" 53 ⟨"MuseumHouse$Stores", "<init>", "()V"⟩ : Cond) ∈ tG := tg1 (i := 140) rfl rfl
theorem wd_1_141 : (.instanceMethod ⟨"MuseumHouse$Stores", "<init>", "()V"⟩ : Cond) ∈ tG := tg1 (i := 141) rfl rfl
theorem wd_1_142 : (.code ⟨"MuseumHouse$Stores", "<init>", "()V"⟩ prog_12_method_1_code 1 (none : Option Jvm.ClassFile.FieldType) : Cond) ∈ tG := tg1 (i := 142) rfl rfl
theorem wd_1_143 : (.methodLink "MuseumHouse$Stores" 3 ⟨"MuseumHouse$Register", "<init>", "(II)V"⟩ : Cond) ∈ tG := tg1 (i := 143) rfl rfl
theorem wd_1_144 : (.fieldLink "MuseumHouse$Stores" 9 "MuseumHouse$Stores" "parent" "[I" : Cond) ∈ tG := tg1 (i := 144) rfl rfl
theorem wd_1_145 : (.laysFinal "MuseumHouse$Stores" "MuseumHouse$Stores" "parent" "[I" : Cond) ∈ tG := tg1 (i := 145) rfl rfl
theorem wd_1_146 : (.soleField "MuseumHouse$Stores" "parent" : Cond) ∈ tG := tg1 (i := 146) rfl rfl
theorem wd_1_147 : (.laysFinal "MuseumHouse$Stores" "MuseumHouse$Register" "firstHandle" "I" : Cond) ∈ tG := tg1 (i := 147) rfl rfl
theorem wd_1_148 : (.laysFinal "MuseumHouse$Stores" "MuseumHouse$Register" "room" "I" : Cond) ∈ tG := tg1 (i := 148) rfl rfl
theorem wd_1_149 : (.lays "MuseumHouse$Stores" "MuseumHouse$Register" "made" "I" : Cond) ∈ tG := tg1 (i := 149) rfl rfl
theorem wd_1_150 : (.superclass "MuseumHouse$Stores" "MuseumHouse$Register" : Cond) ∈ tG := tg1 (i := 150) rfl rfl
theorem wd_1_151 : (.classLink "MuseumHouse" 58 "MuseumHouse$Loans" : Cond) ∈ tG := tg1 (i := 151) rfl rfl
theorem wd_1_152 : (.instantiable "MuseumHouse$Loans" 6 : Cond) ∈ tG := tg1 (i := 152) rfl rfl
theorem wd_1_153 : (.methodLink "MuseumHouse" 60 ⟨"MuseumHouse$Loans", "<init>", "()V"⟩ : Cond) ∈ tG := tg1 (i := 153) rfl rfl
theorem wd_1_154 : (.instanceMethod ⟨"MuseumHouse$Loans", "<init>", "()V"⟩ : Cond) ∈ tG := tg1 (i := 154) rfl rfl
theorem wd_1_155 : (.code ⟨"MuseumHouse$Loans", "<init>", "()V"⟩ prog_7_method_1_code 1 (none : Option Jvm.ClassFile.FieldType) : Cond) ∈ tG := tg1 (i := 155) rfl rfl
theorem wd_1_156 : (.methodLink "MuseumHouse$Loans" 3 ⟨"MuseumHouse$Register", "<init>", "(II)V"⟩ : Cond) ∈ tG := tg1 (i := 156) rfl rfl
theorem wd_1_157 : (.fieldLink "MuseumHouse$Loans" 9 "MuseumHouse$Loans" "item" "[I" : Cond) ∈ tG := tg1 (i := 157) rfl rfl
theorem wd_1_158 : (.fieldLink "MuseumHouse$Loans" 15 "MuseumHouse$Loans" "from" "[I" : Cond) ∈ tG := tg1 (i := 158) rfl rfl
theorem wd_1_159 : (.fieldLink "MuseumHouse$Loans" 18 "MuseumHouse$Loans" "to" "[I" : Cond) ∈ tG := tg1 (i := 159) rfl rfl
theorem wd_1_160 : (.laysFinal "MuseumHouse$Loans" "MuseumHouse$Loans" "item" "[I" : Cond) ∈ tG := tg1 (i := 160) rfl rfl
theorem wd_1_161 : (.soleField "MuseumHouse$Loans" "item" : Cond) ∈ tG := tg1 (i := 161) rfl rfl
theorem wd_1_162 : (.laysFinal "MuseumHouse$Loans" "MuseumHouse$Loans" "from" "[I" : Cond) ∈ tG := tg1 (i := 162) rfl rfl
theorem wd_1_163 : (.soleField "MuseumHouse$Loans" "from" : Cond) ∈ tG := tg1 (i := 163) rfl rfl
theorem wd_1_164 : (.laysFinal "MuseumHouse$Loans" "MuseumHouse$Loans" "to" "[I" : Cond) ∈ tG := tg1 (i := 164) rfl rfl
theorem wd_1_165 : (.soleField "MuseumHouse$Loans" "to" : Cond) ∈ tG := tg1 (i := 165) rfl rfl
theorem wd_1_166 : (.laysFinal "MuseumHouse$Loans" "MuseumHouse$Register" "firstHandle" "I" : Cond) ∈ tG := tg1 (i := 166) rfl rfl
theorem wd_1_167 : (.laysFinal "MuseumHouse$Loans" "MuseumHouse$Register" "room" "I" : Cond) ∈ tG := tg1 (i := 167) rfl rfl
theorem wd_1_168 : (.lays "MuseumHouse$Loans" "MuseumHouse$Register" "made" "I" : Cond) ∈ tG := tg1 (i := 168) rfl rfl
theorem wd_1_169 : (.superclass "MuseumHouse$Loans" "MuseumHouse$Register" : Cond) ∈ tG := tg1 (i := 169) rfl rfl
theorem wd_1_170 : (.classLink "MuseumHouse" 65 "MuseumHouse$Shows" : Cond) ∈ tG := tg1 (i := 170) rfl rfl
theorem wd_1_171 : (.instantiable "MuseumHouse$Shows" 7 : Cond) ∈ tG := tg1 (i := 171) rfl rfl
theorem wd_1_172 : (.methodLink "MuseumHouse" 67 ⟨"MuseumHouse$Shows", "<init>", "()V"⟩ : Cond) ∈ tG := tg1 (i := 172) rfl rfl
theorem wd_1_173 : (.instanceMethod ⟨"MuseumHouse$Shows", "<init>", "()V"⟩ : Cond) ∈ tG := tg1 (i := 173) rfl rfl
theorem wd_1_174 : (.code ⟨"MuseumHouse$Shows", "<init>", "()V"⟩ prog_10_method_1_code 1 (none : Option Jvm.ClassFile.FieldType) : Cond) ∈ tG := tg1 (i := 174) rfl rfl
theorem wd_1_175 : (.methodLink "MuseumHouse$Shows" 3 ⟨"MuseumHouse$Register", "<init>", "(II)V"⟩ : Cond) ∈ tG := tg1 (i := 175) rfl rfl
theorem wd_1_176 : (.fieldLink "MuseumHouse$Shows" 9 "MuseumHouse$Shows" "store" "[I" : Cond) ∈ tG := tg1 (i := 176) rfl rfl
theorem wd_1_177 : (.fieldLink "MuseumHouse$Shows" 15 "MuseumHouse$Shows" "from" "[I" : Cond) ∈ tG := tg1 (i := 177) rfl rfl
theorem wd_1_178 : (.fieldLink "MuseumHouse$Shows" 18 "MuseumHouse$Shows" "to" "[I" : Cond) ∈ tG := tg1 (i := 178) rfl rfl
theorem wd_1_179 : (.fieldLink "MuseumHouse$Shows" 21 "MuseumHouse$Shows" "hung" "[I" : Cond) ∈ tG := tg1 (i := 179) rfl rfl
theorem wd_1_180 : (.laysFinal "MuseumHouse$Shows" "MuseumHouse$Shows" "store" "[I" : Cond) ∈ tG := tg1 (i := 180) rfl rfl
theorem wd_1_181 : (.soleField "MuseumHouse$Shows" "store" : Cond) ∈ tG := tg1 (i := 181) rfl rfl
theorem wd_1_182 : (.laysFinal "MuseumHouse$Shows" "MuseumHouse$Shows" "from" "[I" : Cond) ∈ tG := tg1 (i := 182) rfl rfl
theorem wd_1_183 : (.soleField "MuseumHouse$Shows" "from" : Cond) ∈ tG := tg1 (i := 183) rfl rfl
theorem wd_1_184 : (.laysFinal "MuseumHouse$Shows" "MuseumHouse$Shows" "to" "[I" : Cond) ∈ tG := tg1 (i := 184) rfl rfl
theorem wd_1_185 : (.soleField "MuseumHouse$Shows" "to" : Cond) ∈ tG := tg1 (i := 185) rfl rfl
theorem wd_1_186 : (.laysFinal "MuseumHouse$Shows" "MuseumHouse$Shows" "hung" "[I" : Cond) ∈ tG := tg1 (i := 186) rfl rfl
theorem wd_1_187 : (.soleField "MuseumHouse$Shows" "hung" : Cond) ∈ tG := tg1 (i := 187) rfl rfl
theorem wd_1_188 : (.laysFinal "MuseumHouse$Shows" "MuseumHouse$Register" "firstHandle" "I" : Cond) ∈ tG := tg1 (i := 188) rfl rfl
theorem wd_1_189 : (.laysFinal "MuseumHouse$Shows" "MuseumHouse$Register" "room" "I" : Cond) ∈ tG := tg1 (i := 189) rfl rfl
theorem wd_1_190 : (.lays "MuseumHouse$Shows" "MuseumHouse$Register" "made" "I" : Cond) ∈ tG := tg1 (i := 190) rfl rfl
theorem wd_1_191 : (.superclass "MuseumHouse$Shows" "MuseumHouse$Register" : Cond) ∈ tG := tg1 (i := 191) rfl rfl
theorem wd_1_192 : (.classLink "MuseumHouse" 72 "MuseumHouse$Claims" : Cond) ∈ tG := tg1 (i := 192) rfl rfl
theorem wd_1_193 : (.instantiable "MuseumHouse$Claims" 6 : Cond) ∈ tG := tg1 (i := 193) rfl rfl
theorem wd_1_194 : (.methodLink "MuseumHouse" 74 ⟨"MuseumHouse$Claims", "<init>", "()V"⟩ : Cond) ∈ tG := tg1 (i := 194) rfl rfl
theorem wd_1_195 : (.instanceMethod ⟨"MuseumHouse$Claims", "<init>", "()V"⟩ : Cond) ∈ tG := tg1 (i := 195) rfl rfl
theorem wd_1_196 : (.code ⟨"MuseumHouse$Claims", "<init>", "()V"⟩ prog_2_method_1_code 1 (none : Option Jvm.ClassFile.FieldType) : Cond) ∈ tG := tg1 (i := 196) rfl rfl
theorem wd_1_197 : (.methodLink "MuseumHouse$Claims" 3 ⟨"MuseumHouse$Register", "<init>", "(II)V"⟩ : Cond) ∈ tG := tg1 (i := 197) rfl rfl
theorem wd_1_198 : (.fieldLink "MuseumHouse$Claims" 9 "MuseumHouse$Claims" "item" "[I" : Cond) ∈ tG := tg1 (i := 198) rfl rfl
theorem wd_1_199 : (.fieldLink "MuseumHouse$Claims" 15 "MuseumHouse$Claims" "source" "[I" : Cond) ∈ tG := tg1 (i := 199) rfl rfl
theorem wd_1_200 : (.fieldLink "MuseumHouse$Claims" 18 "MuseumHouse$Claims" "open" "[Z" : Cond) ∈ tG := tg1 (i := 200) rfl rfl
theorem wd_1_201 : (.laysFinal "MuseumHouse$Claims" "MuseumHouse$Claims" "item" "[I" : Cond) ∈ tG := tg1 (i := 201) rfl rfl
theorem wd_1_202 : (.soleField "MuseumHouse$Claims" "item" : Cond) ∈ tG := tg1 (i := 202) rfl rfl
theorem wd_1_203 : (.laysFinal "MuseumHouse$Claims" "MuseumHouse$Claims" "source" "[I" : Cond) ∈ tG := tg1 (i := 203) rfl rfl
theorem wd_1_204 : (.soleField "MuseumHouse$Claims" "source" : Cond) ∈ tG := tg1 (i := 204) rfl rfl
theorem wd_1_205 : (.laysFinal "MuseumHouse$Claims" "MuseumHouse$Claims" "open" "[Z" : Cond) ∈ tG := tg1 (i := 205) rfl rfl
theorem wd_1_206 : (.soleField "MuseumHouse$Claims" "open" : Cond) ∈ tG := tg1 (i := 206) rfl rfl
theorem wd_1_207 : (.laysFinal "MuseumHouse$Claims" "MuseumHouse$Register" "firstHandle" "I" : Cond) ∈ tG := tg1 (i := 207) rfl rfl
theorem wd_1_208 : (.laysFinal "MuseumHouse$Claims" "MuseumHouse$Register" "room" "I" : Cond) ∈ tG := tg1 (i := 208) rfl rfl
theorem wd_1_209 : (.lays "MuseumHouse$Claims" "MuseumHouse$Register" "made" "I" : Cond) ∈ tG := tg1 (i := 209) rfl rfl
theorem wd_1_210 : (.superclass "MuseumHouse$Claims" "MuseumHouse$Register" : Cond) ∈ tG := tg1 (i := 210) rfl rfl
theorem wd_1_211 : (.arrayClass .boolean : Cond) ∈ tG := tg1 (i := 211) rfl rfl
theorem wd_1_212 : (.fieldLink "MuseumHouse" 10 "MuseumHouse" "desks" "LMuseumHouse$Desks;" : Cond) ∈ tG := tg1 (i := 212) rfl rfl
theorem wd_1_213 : (.fieldLink "MuseumHouse" 19 "MuseumHouse" "sites" "LMuseumHouse$Sites;" : Cond) ∈ tG := tg1 (i := 213) rfl rfl
theorem wd_1_214 : (.fieldLink "MuseumHouse" 26 "MuseumHouse" "contexts" "LMuseumHouse$Contexts;" : Cond) ∈ tG := tg1 (i := 214) rfl rfl
theorem wd_1_215 : (.fieldLink "MuseumHouse" 33 "MuseumHouse" "finds" "LMuseumHouse$Finds;" : Cond) ∈ tG := tg1 (i := 215) rfl rfl
theorem wd_1_216 : (.fieldLink "MuseumHouse" 40 "MuseumHouse" "items" "LMuseumHouse$Items;" : Cond) ∈ tG := tg1 (i := 216) rfl rfl
theorem wd_1_217 : (.fieldLink "MuseumHouse" 47 "MuseumHouse" "moves" "LMuseumHouse$Moves;" : Cond) ∈ tG := tg1 (i := 217) rfl rfl
theorem wd_1_218 : (.fieldLink "MuseumHouse" 54 "MuseumHouse" "stores" "LMuseumHouse$Stores;" : Cond) ∈ tG := tg1 (i := 218) rfl rfl
theorem wd_1_219 : (.fieldLink "MuseumHouse" 61 "MuseumHouse" "loans" "LMuseumHouse$Loans;" : Cond) ∈ tG := tg1 (i := 219) rfl rfl
theorem wd_1_220 : (.fieldLink "MuseumHouse" 68 "MuseumHouse" "shows" "LMuseumHouse$Shows;" : Cond) ∈ tG := tg1 (i := 220) rfl rfl
theorem wd_1_221 : (.fieldLink "MuseumHouse" 75 "MuseumHouse" "claims" "LMuseumHouse$Claims;" : Cond) ∈ tG := tg1 (i := 221) rfl rfl
theorem wd_1_222 : (.fieldLink "MuseumHouse" 79 "MuseumHouse" "today" "I" : Cond) ∈ tG := tg1 (i := 222) rfl rfl
theorem wd_1_223 : (.fieldLink "MuseumHouse" 83 "MuseumHouse" "refusedBy" "I" : Cond) ∈ tG := tg1 (i := 223) rfl rfl
theorem wd_1_224 : (.laysFinal "MuseumHouse" "MuseumHouse" "desks" "LMuseumHouse$Desks;" : Cond) ∈ tG := tg1 (i := 224) rfl rfl
theorem wd_1_225 : (.soleField "MuseumHouse" "desks" : Cond) ∈ tG := tg1 (i := 225) rfl rfl
theorem wd_1_226 : (.laysFinal "MuseumHouse" "MuseumHouse" "sites" "LMuseumHouse$Sites;" : Cond) ∈ tG := tg1 (i := 226) rfl rfl
theorem wd_1_227 : (.soleField "MuseumHouse" "sites" : Cond) ∈ tG := tg1 (i := 227) rfl rfl
theorem wd_1_228 : (.laysFinal "MuseumHouse" "MuseumHouse" "contexts" "LMuseumHouse$Contexts;" : Cond) ∈ tG := tg1 (i := 228) rfl rfl
theorem wd_1_229 : (.soleField "MuseumHouse" "contexts" : Cond) ∈ tG := tg1 (i := 229) rfl rfl
theorem wd_1_230 : (.laysFinal "MuseumHouse" "MuseumHouse" "finds" "LMuseumHouse$Finds;" : Cond) ∈ tG := tg1 (i := 230) rfl rfl
theorem wd_1_231 : (.soleField "MuseumHouse" "finds" : Cond) ∈ tG := tg1 (i := 231) rfl rfl
theorem wd_1_232 : (.laysFinal "MuseumHouse" "MuseumHouse" "items" "LMuseumHouse$Items;" : Cond) ∈ tG := tg1 (i := 232) rfl rfl
theorem wd_1_233 : (.soleField "MuseumHouse" "items" : Cond) ∈ tG := tg1 (i := 233) rfl rfl
theorem wd_1_234 : (.laysFinal "MuseumHouse" "MuseumHouse" "moves" "LMuseumHouse$Moves;" : Cond) ∈ tG := tg1 (i := 234) rfl rfl
theorem wd_1_235 : (.soleField "MuseumHouse" "moves" : Cond) ∈ tG := tg1 (i := 235) rfl rfl
theorem wd_1_236 : (.laysFinal "MuseumHouse" "MuseumHouse" "stores" "LMuseumHouse$Stores;" : Cond) ∈ tG := tg1 (i := 236) rfl rfl
theorem wd_1_237 : (.soleField "MuseumHouse" "stores" : Cond) ∈ tG := tg1 (i := 237) rfl rfl
theorem wd_1_238 : (.laysFinal "MuseumHouse" "MuseumHouse" "loans" "LMuseumHouse$Loans;" : Cond) ∈ tG := tg1 (i := 238) rfl rfl
theorem wd_1_239 : (.soleField "MuseumHouse" "loans" : Cond) ∈ tG := tg1 (i := 239) rfl rfl
theorem wd_2_0 : (.laysFinal "MuseumHouse" "MuseumHouse" "shows" "LMuseumHouse$Shows;" : Cond) ∈ tG := tg2 (i := 0) rfl rfl
theorem wd_2_1 : (.soleField "MuseumHouse" "shows" : Cond) ∈ tG := tg2 (i := 1) rfl rfl
theorem wd_2_2 : (.laysFinal "MuseumHouse" "MuseumHouse" "claims" "LMuseumHouse$Claims;" : Cond) ∈ tG := tg2 (i := 2) rfl rfl
theorem wd_2_3 : (.soleField "MuseumHouse" "claims" : Cond) ∈ tG := tg2 (i := 3) rfl rfl
theorem wd_2_4 : (.lays "MuseumHouse" "MuseumHouse" "today" "I" : Cond) ∈ tG := tg2 (i := 4) rfl rfl
theorem wd_2_5 : (.soleField "MuseumHouse" "today" : Cond) ∈ tG := tg2 (i := 5) rfl rfl
theorem wd_2_6 : (.lays "MuseumHouse" "MuseumHouse" "refusedBy" "I" : Cond) ∈ tG := tg2 (i := 6) rfl rfl
theorem wd_2_7 : (.soleField "MuseumHouse" "refusedBy" : Cond) ∈ tG := tg2 (i := 7) rfl rfl
theorem wd_2_8 : (.superclass "MuseumHouse" "java/lang/Object" : Cond) ∈ tG := tg2 (i := 8) rfl rfl
theorem wd_2_9 : (.methodLink "MuseumHouseLaw" 195 ⟨"MuseumHouse", "rule", "()I"⟩ : Cond) ∈ tG := tg2 (i := 9) rfl rfl
theorem wd_2_10 : (.instanceMethod ⟨"MuseumHouse", "rule", "()I"⟩ : Cond) ∈ tG := tg2 (i := 10) rfl rfl
theorem wd_2_11 : (.selects "MuseumHouse" ⟨"MuseumHouse", "rule", "()I"⟩ ⟨"MuseumHouse", "rule", "()I"⟩ : Cond) ∈ tG := tg2 (i := 11) rfl rfl
theorem wd_2_12 : (.code ⟨"MuseumHouse", "rule", "()I"⟩ prog_1_method_28_code 1 (some .int) : Cond) ∈ tG := tg2 (i := 12) rfl rfl
theorem wd_2_13 : (.methodLink "MuseumHouseLaw" 107 ⟨"MuseumHouseLaw", "desk", "(LMuseumHouse;II[J)I"⟩ : Cond) ∈ tG := tg2 (i := 13) rfl rfl
theorem wd_2_14 : (.static ⟨"MuseumHouseLaw", "desk", "(LMuseumHouse;II[J)I"⟩ : Cond) ∈ tG := tg2 (i := 14) rfl rfl
theorem wd_2_15 : (.codeWith ⟨"MuseumHouseLaw", "desk", "(LMuseumHouse;II[J)I"⟩ method_3_code 5 (some .int) [(0, 10, 13, 13), (0, 10, 17, 15), (0, 10, 21, 17)] : Cond) ∈ tG := tg2 (i := 15) rfl rfl
theorem wd_2_16 : (.classLink "MuseumHouseLaw" 13 "java/util/NoSuchElementException" : Cond) ∈ tG := tg2 (i := 16) rfl rfl
theorem wd_2_17 : (.classLink "MuseumHouseLaw" 15 "java/lang/IllegalStateException" : Cond) ∈ tG := tg2 (i := 17) rfl rfl
theorem wd_2_18 : (.classLink "MuseumHouseLaw" 17 "java/lang/IllegalArgumentException" : Cond) ∈ tG := tg2 (i := 18) rfl rfl
theorem wd_2_19 : (.methodLink "MuseumHouseLaw" 7 ⟨"MuseumHouse", "desk", "(II)I"⟩ : Cond) ∈ tG := tg2 (i := 19) rfl rfl
theorem wd_2_20 : (.instanceMethod ⟨"MuseumHouse", "desk", "(II)I"⟩ : Cond) ∈ tG := tg2 (i := 20) rfl rfl
theorem wd_2_21 : (.selects "MuseumHouse" ⟨"MuseumHouse", "desk", "(II)I"⟩ ⟨"MuseumHouse", "desk", "(II)I"⟩ : Cond) ∈ tG := tg2 (i := 21) rfl rfl
theorem wd_2_22 : (.code ⟨"MuseumHouse", "desk", "(II)I"⟩ prog_1_method_2_code 4 (some .int) : Cond) ∈ tG := tg2 (i := 22) rfl rfl
theorem wd_2_23 : (.methodLink "MuseumHouse" 86 ⟨"MuseumHouse", "numberOf", "(LMuseumHouse$Register;I)I"⟩ : Cond) ∈ tG := tg2 (i := 23) rfl rfl
theorem wd_2_25 : (.instanceMethod ⟨"MuseumHouse", "numberOf", "(LMuseumHouse$Register;I)I"⟩ : Cond) ∈ tG := tg2 (i := 25) rfl rfl
theorem wd_2_26 : (.code ⟨"MuseumHouse", "numberOf", "(LMuseumHouse$Register;I)I"⟩ prog_1_method_30_code 4 (some .int) : Cond) ∈ tG := tg2 (i := 26) rfl rfl
theorem wd_2_27 : (.methodLink "MuseumHouse" 294 ⟨"MuseumHouse$Register", "numberFor", "(I)I"⟩ : Cond) ∈ tG := tg2 (i := 27) rfl rfl
theorem wd_2_28 : (.instanceMethod ⟨"MuseumHouse$Register", "numberFor", "(I)I"⟩ : Cond) ∈ tG := tg2 (i := 28) rfl rfl
theorem wd_2_29 : (.sameMethod "MuseumHouse$Register" "MuseumHouse$Register" "numberFor" "(I)I" : Cond) ∈ tG := tg2 (i := 29) rfl rfl
theorem wd_2_30 : (.selects "MuseumHouse$Claims" ⟨"MuseumHouse$Register", "numberFor", "(I)I"⟩ ⟨"MuseumHouse$Register", "numberFor", "(I)I"⟩ : Cond) ∈ tG := tg2 (i := 30) rfl rfl
theorem wd_2_31 : (.selects "MuseumHouse$Contexts" ⟨"MuseumHouse$Register", "numberFor", "(I)I"⟩ ⟨"MuseumHouse$Register", "numberFor", "(I)I"⟩ : Cond) ∈ tG := tg2 (i := 31) rfl rfl
theorem wd_2_32 : (.selects "MuseumHouse$Desks" ⟨"MuseumHouse$Register", "numberFor", "(I)I"⟩ ⟨"MuseumHouse$Register", "numberFor", "(I)I"⟩ : Cond) ∈ tG := tg2 (i := 32) rfl rfl
theorem wd_2_33 : (.selects "MuseumHouse$Finds" ⟨"MuseumHouse$Register", "numberFor", "(I)I"⟩ ⟨"MuseumHouse$Register", "numberFor", "(I)I"⟩ : Cond) ∈ tG := tg2 (i := 33) rfl rfl
theorem wd_2_34 : (.selects "MuseumHouse$Items" ⟨"MuseumHouse$Register", "numberFor", "(I)I"⟩ ⟨"MuseumHouse$Register", "numberFor", "(I)I"⟩ : Cond) ∈ tG := tg2 (i := 34) rfl rfl
theorem wd_2_35 : (.selects "MuseumHouse$Loans" ⟨"MuseumHouse$Register", "numberFor", "(I)I"⟩ ⟨"MuseumHouse$Register", "numberFor", "(I)I"⟩ : Cond) ∈ tG := tg2 (i := 35) rfl rfl
theorem wd_2_36 : (.selects "MuseumHouse$Shows" ⟨"MuseumHouse$Register", "numberFor", "(I)I"⟩ ⟨"MuseumHouse$Register", "numberFor", "(I)I"⟩ : Cond) ∈ tG := tg2 (i := 36) rfl rfl
theorem wd_2_37 : (.selects "MuseumHouse$Sites" ⟨"MuseumHouse$Register", "numberFor", "(I)I"⟩ ⟨"MuseumHouse$Register", "numberFor", "(I)I"⟩ : Cond) ∈ tG := tg2 (i := 37) rfl rfl
theorem wd_2_38 : (.selects "MuseumHouse$Stores" ⟨"MuseumHouse$Register", "numberFor", "(I)I"⟩ ⟨"MuseumHouse$Register", "numberFor", "(I)I"⟩ : Cond) ∈ tG := tg2 (i := 38) rfl rfl
theorem wd_2_39 : (.code ⟨"MuseumHouse$Register", "numberFor", "(I)I"⟩ prog_9_method_5_code 3 (some .int) : Cond) ∈ tG := tg2 (i := 39) rfl rfl
theorem wd_2_40 : (.classLink "MuseumHouse" 291 "java/util/NoSuchElementException" : Cond) ∈ tG := tg2 (i := 40) rfl rfl
theorem wd_2_41 : (.instantiable "java/util/NoSuchElementException" 6 : Cond) ∈ tG := tg2 (i := 41) rfl rfl
theorem wd_2_49 : (.selects "java/util/NoSuchElementException" ⟨"java/lang/Throwable", "fillInStackTrace", "(I)Ljava/lang/Throwable;"⟩ ⟨"java/lang/Throwable", "fillInStackTrace", "(I)Ljava/lang/Throwable;"⟩ : Cond) ∈ tG := tg2 (i := 49) rfl rfl
theorem wd_2_50 : (.selects "java/util/NoSuchElementException" ⟨"java/lang/Throwable", "fillInStackTrace", "()Ljava/lang/Throwable;"⟩ ⟨"java/lang/Throwable", "fillInStackTrace", "()Ljava/lang/Throwable;"⟩ : Cond) ∈ tG := tg2 (i := 50) rfl rfl
theorem wd_2_51 : (.lays "java/util/NoSuchElementException" "java/lang/Throwable" "cause" "Ljava/lang/Throwable;" : Cond) ∈ tG := tg2 (i := 51) rfl rfl
theorem wd_2_52 : (.lays "java/lang/Throwable" "java/lang/Throwable" "cause" "Ljava/lang/Throwable;" : Cond) ∈ tG := tg2 (i := 52) rfl rfl
theorem wd_2_53 : (.lays "java/util/NoSuchElementException" "java/lang/Throwable" "stackTrace" "[Ljava/lang/StackTraceElement;" : Cond) ∈ tG := tg2 (i := 53) rfl rfl
theorem wd_2_54 : (.lays "java/lang/Throwable" "java/lang/Throwable" "stackTrace" "[Ljava/lang/StackTraceElement;" : Cond) ∈ tG := tg2 (i := 54) rfl rfl
theorem wd_2_55 : (.lays "java/util/NoSuchElementException" "java/lang/Throwable" "suppressedExceptions" "Ljava/util/List;" : Cond) ∈ tG := tg2 (i := 55) rfl rfl
theorem wd_2_56 : (.lays "java/lang/Throwable" "java/lang/Throwable" "suppressedExceptions" "Ljava/util/List;" : Cond) ∈ tG := tg2 (i := 56) rfl rfl
theorem wd_2_57 : (.lays "java/util/NoSuchElementException" "java/lang/Throwable" "detailMessage" "Ljava/lang/String;" : Cond) ∈ tG := tg2 (i := 57) rfl rfl
theorem wd_2_58 : (.lays "java/lang/Throwable" "java/lang/Throwable" "detailMessage" "Ljava/lang/String;" : Cond) ∈ tG := tg2 (i := 58) rfl rfl
theorem wd_2_59 : (.lays "java/util/NoSuchElementException" "java/lang/Throwable" "backtrace" "Ljava/lang/Object;" : Cond) ∈ tG := tg2 (i := 59) rfl rfl
theorem wd_2_60 : (.lays "java/lang/Throwable" "java/lang/Throwable" "backtrace" "Ljava/lang/Object;" : Cond) ∈ tG := tg2 (i := 60) rfl rfl
theorem wd_2_61 : (.fieldLink "java/lang/Throwable" 198 "java/lang/Throwable" "backtrace" "Ljava/lang/Object;" : Cond) ∈ tG := tg2 (i := 61) rfl rfl
theorem wd_2_62 : (.superclass "java/lang/Throwable" "java/lang/Object" : Cond) ∈ tG := tg2 (i := 62) rfl rfl
theorem wd_2_63 : (.instanceMethod ⟨"java/lang/Throwable", "<init>", "()V"⟩ : Cond) ∈ tG := tg2 (i := 63) rfl rfl
theorem wd_2_64 : (.code ⟨"java/lang/Throwable", "<init>", "()V"⟩ prog_20_method_1_code 1 (none : Option Jvm.ClassFile.FieldType) : Cond) ∈ tG := tg2 (i := 64) rfl rfl
theorem wd_2_65 : (.methodLink "java/lang/Throwable" 1 ⟨"java/lang/Object", "<init>", "()V"⟩ : Cond) ∈ tG := tg2 (i := 65) rfl rfl
theorem wd_2_66 : (.fieldLink "java/lang/Throwable" 13 "java/lang/Throwable" "UNASSIGNED_STACK" "[Ljava/lang/StackTraceElement;" : Cond) ∈ tG := tg2 (i := 66) rfl rfl
theorem wd_2_68 : (.fieldLink "java/lang/Throwable" 20 "java/lang/Throwable" "SUPPRESSED_SENTINEL" "Ljava/util/List;" : Cond) ∈ tG := tg2 (i := 68) rfl rfl
theorem wd_2_70 : (.methodLink "java/lang/Throwable" 27 ⟨"java/lang/Throwable", "fillInStackTrace", "()Ljava/lang/Throwable;"⟩ : Cond) ∈ tG := tg2 (i := 70) rfl rfl
theorem wd_2_71 : (.instanceMethod ⟨"java/lang/Throwable", "fillInStackTrace", "()Ljava/lang/Throwable;"⟩ : Cond) ∈ tG := tg2 (i := 71) rfl rfl
theorem wd_2_72 : (.sameMethod "java/lang/Throwable" "java/lang/Throwable" "fillInStackTrace" "()Ljava/lang/Throwable;" : Cond) ∈ tG := tg2 (i := 72) rfl rfl
theorem wd_2_73 : (.selects "java/lang/IllegalArgumentException" ⟨"java/lang/Throwable", "fillInStackTrace", "()Ljava/lang/Throwable;"⟩ ⟨"java/lang/Throwable", "fillInStackTrace", "()Ljava/lang/Throwable;"⟩ : Cond) ∈ tG := tg2 (i := 73) rfl rfl
theorem wd_2_74 : (.selects "java/lang/IllegalStateException" ⟨"java/lang/Throwable", "fillInStackTrace", "()Ljava/lang/Throwable;"⟩ ⟨"java/lang/Throwable", "fillInStackTrace", "()Ljava/lang/Throwable;"⟩ : Cond) ∈ tG := tg2 (i := 74) rfl rfl
theorem wd_2_75 : (.codeSync ⟨"java/lang/Throwable", "fillInStackTrace", "()Ljava/lang/Throwable;"⟩ prog_20_method_18_code 1 (some (.object "java/lang/Throwable")) : Cond) ∈ tG := tg2 (i := 75) rfl rfl
theorem wd_2_76 : (.methodLink "java/lang/Throwable" 202 ⟨"java/lang/Throwable", "fillInStackTrace", "(I)Ljava/lang/Throwable;"⟩ : Cond) ∈ tG := tg2 (i := 76) rfl rfl
theorem wd_2_78 : (.instanceMethod ⟨"java/lang/Throwable", "fillInStackTrace", "(I)Ljava/lang/Throwable;"⟩ : Cond) ∈ tG := tg2 (i := 78) rfl rfl
theorem wd_2_79 : (.instantiable "java/lang/Throwable" 6 : Cond) ∈ tG := tg2 (i := 79) rfl rfl
theorem wd_2_80 : (.native ⟨"java/lang/Throwable", "fillInStackTrace", "(I)Ljava/lang/Throwable;"⟩ : Cond) ∈ tG := tg2 (i := 80) rfl rfl
theorem wd_2_81 : (.methodLink "MuseumHouse" 293 ⟨"java/util/NoSuchElementException", "<init>", "()V"⟩ : Cond) ∈ tG := tg2 (i := 81) rfl rfl
theorem wd_2_82 : (.instanceMethod ⟨"java/util/NoSuchElementException", "<init>", "()V"⟩ : Cond) ∈ tG := tg2 (i := 82) rfl rfl
theorem wd_2_83 : (.code ⟨"java/util/NoSuchElementException", "<init>", "()V"⟩ prog_21_method_1_code 1 (none : Option Jvm.ClassFile.FieldType) : Cond) ∈ tG := tg2 (i := 83) rfl rfl
theorem wd_2_84 : (.methodLink "java/util/NoSuchElementException" 1 ⟨"java/lang/RuntimeException", "<init>", "()V"⟩ : Cond) ∈ tG := tg2 (i := 84) rfl rfl
theorem wd_2_85 : (.instanceMethod ⟨"java/lang/RuntimeException", "<init>", "()V"⟩ : Cond) ∈ tG := tg2 (i := 85) rfl rfl
theorem wd_2_86 : (.code ⟨"java/lang/RuntimeException", "<init>", "()V"⟩ prog_19_method_1_code 1 (none : Option Jvm.ClassFile.FieldType) : Cond) ∈ tG := tg2 (i := 86) rfl rfl
theorem wd_2_87 : (.methodLink "java/lang/RuntimeException" 1 ⟨"java/lang/Exception", "<init>", "()V"⟩ : Cond) ∈ tG := tg2 (i := 87) rfl rfl
theorem wd_2_88 : (.instanceMethod ⟨"java/lang/Exception", "<init>", "()V"⟩ : Cond) ∈ tG := tg2 (i := 88) rfl rfl
theorem wd_2_89 : (.code ⟨"java/lang/Exception", "<init>", "()V"⟩ prog_15_method_1_code 1 (none : Option Jvm.ClassFile.FieldType) : Cond) ∈ tG := tg2 (i := 89) rfl rfl
theorem wd_2_90 : (.methodLink "java/lang/Exception" 1 ⟨"java/lang/Throwable", "<init>", "()V"⟩ : Cond) ∈ tG := tg2 (i := 90) rfl rfl
theorem wd_2_92 : (.fieldLink "java/lang/Throwable" 7 "java/lang/Throwable" "cause" "Ljava/lang/Throwable;" : Cond) ∈ tG := tg2 (i := 92) rfl rfl
theorem wd_2_93 : (.fieldLink "java/lang/Throwable" 17 "java/lang/Throwable" "stackTrace" "[Ljava/lang/StackTraceElement;" : Cond) ∈ tG := tg2 (i := 93) rfl rfl
theorem wd_2_94 : (.fieldLink "java/lang/Throwable" 24 "java/lang/Throwable" "suppressedExceptions" "Ljava/util/List;" : Cond) ∈ tG := tg2 (i := 94) rfl rfl
theorem wd_2_95 : (.soleField "java/lang/Throwable" "backtrace" : Cond) ∈ tG := tg2 (i := 95) rfl rfl
theorem wd_2_96 : (.soleField "java/lang/Throwable" "detailMessage" : Cond) ∈ tG := tg2 (i := 96) rfl rfl
theorem wd_2_97 : (.soleField "java/lang/Throwable" "cause" : Cond) ∈ tG := tg2 (i := 97) rfl rfl
theorem wd_2_98 : (.soleField "java/lang/Throwable" "stackTrace" : Cond) ∈ tG := tg2 (i := 98) rfl rfl
theorem wd_2_99 : (.lays "java/util/NoSuchElementException" "java/lang/Throwable" "depth" "I" : Cond) ∈ tG := tg2 (i := 99) rfl rfl
theorem wd_2_100 : (.soleField "java/lang/Throwable" "depth" : Cond) ∈ tG := tg2 (i := 100) rfl rfl
theorem wd_2_101 : (.soleField "java/lang/Throwable" "suppressedExceptions" : Cond) ∈ tG := tg2 (i := 101) rfl rfl
theorem wd_2_102 : (.superclass "java/util/NoSuchElementException" "java/lang/RuntimeException" : Cond) ∈ tG := tg2 (i := 102) rfl rfl
theorem wd_2_103 : (.methodLink "MuseumHouse" 90 ⟨"MuseumHouse", "askRight", "(II)V"⟩ : Cond) ∈ tG := tg2 (i := 103) rfl rfl
theorem wd_2_105 : (.instanceMethod ⟨"MuseumHouse", "askRight", "(II)V"⟩ : Cond) ∈ tG := tg2 (i := 105) rfl rfl
theorem wd_2_106 : (.code ⟨"MuseumHouse", "askRight", "(II)V"⟩ prog_1_method_32_code 3 (none : Option Jvm.ClassFile.FieldType) : Cond) ∈ tG := tg2 (i := 106) rfl rfl
theorem wd_2_107 : (.methodLink "MuseumHouse" 106 ⟨"MuseumHouse$Desks", "hasAll", "(II)Z"⟩ : Cond) ∈ tG := tg2 (i := 107) rfl rfl
theorem wd_2_108 : (.instanceMethod ⟨"MuseumHouse$Desks", "hasAll", "(II)Z"⟩ : Cond) ∈ tG := tg2 (i := 108) rfl rfl
theorem wd_2_109 : (.selects "MuseumHouse$Desks" ⟨"MuseumHouse$Desks", "hasAll", "(II)Z"⟩ ⟨"MuseumHouse$Desks", "hasAll", "(II)Z"⟩ : Cond) ∈ tG := tg2 (i := 109) rfl rfl
theorem wd_2_110 : (.code ⟨"MuseumHouse$Desks", "hasAll", "(II)Z"⟩ prog_4_method_3_code 3 (some .boolean) : Cond) ∈ tG := tg2 (i := 110) rfl rfl
theorem wd_2_111 : (.classLink "MuseumHouse" 297 "java/lang/IllegalStateException" : Cond) ∈ tG := tg2 (i := 111) rfl rfl
theorem wd_2_112 : (.instantiable "java/lang/IllegalStateException" 6 : Cond) ∈ tG := tg2 (i := 112) rfl rfl
theorem wd_2_114 : (.selects "java/lang/IllegalStateException" ⟨"java/lang/Throwable", "fillInStackTrace", "(I)Ljava/lang/Throwable;"⟩ ⟨"java/lang/Throwable", "fillInStackTrace", "(I)Ljava/lang/Throwable;"⟩ : Cond) ∈ tG := tg2 (i := 114) rfl rfl
theorem wd_2_115 : (.lays "java/lang/IllegalStateException" "java/lang/Throwable" "cause" "Ljava/lang/Throwable;" : Cond) ∈ tG := tg2 (i := 115) rfl rfl
theorem wd_2_116 : (.lays "java/lang/IllegalStateException" "java/lang/Throwable" "stackTrace" "[Ljava/lang/StackTraceElement;" : Cond) ∈ tG := tg2 (i := 116) rfl rfl
theorem wd_2_117 : (.lays "java/lang/IllegalStateException" "java/lang/Throwable" "suppressedExceptions" "Ljava/util/List;" : Cond) ∈ tG := tg2 (i := 117) rfl rfl
theorem wd_2_118 : (.lays "java/lang/IllegalStateException" "java/lang/Throwable" "detailMessage" "Ljava/lang/String;" : Cond) ∈ tG := tg2 (i := 118) rfl rfl
theorem wd_2_119 : (.lays "java/lang/IllegalStateException" "java/lang/Throwable" "backtrace" "Ljava/lang/Object;" : Cond) ∈ tG := tg2 (i := 119) rfl rfl
theorem wd_2_120 : (.methodLink "MuseumHouse" 299 ⟨"java/lang/IllegalStateException", "<init>", "()V"⟩ : Cond) ∈ tG := tg2 (i := 120) rfl rfl
theorem wd_2_121 : (.instanceMethod ⟨"java/lang/IllegalStateException", "<init>", "()V"⟩ : Cond) ∈ tG := tg2 (i := 121) rfl rfl
theorem wd_2_122 : (.code ⟨"java/lang/IllegalStateException", "<init>", "()V"⟩ prog_17_method_1_code 1 (none : Option Jvm.ClassFile.FieldType) : Cond) ∈ tG := tg2 (i := 122) rfl rfl
theorem wd_2_123 : (.methodLink "java/lang/IllegalStateException" 1 ⟨"java/lang/RuntimeException", "<init>", "()V"⟩ : Cond) ∈ tG := tg2 (i := 123) rfl rfl
theorem wd_2_124 : (.lays "java/lang/IllegalStateException" "java/lang/Throwable" "depth" "I" : Cond) ∈ tG := tg2 (i := 124) rfl rfl
theorem wd_2_125 : (.superclass "java/lang/IllegalStateException" "java/lang/RuntimeException" : Cond) ∈ tG := tg2 (i := 125) rfl rfl
theorem wd_2_126 : (.methodLink "MuseumHouse" 94 ⟨"MuseumHouse$Desks", "isFull", "()Z"⟩ : Cond) ∈ tG := tg2 (i := 126) rfl rfl
theorem wd_2_127 : (.sameMethod "MuseumHouse$Desks" "MuseumHouse$Register" "isFull" "()Z" : Cond) ∈ tG := tg2 (i := 127) rfl rfl
theorem wd_2_129 : (.selects "MuseumHouse$Desks" ⟨"MuseumHouse$Desks", "isFull", "()Z"⟩ ⟨"MuseumHouse$Register", "isFull", "()Z"⟩ : Cond) ∈ tG := tg2 (i := 129) rfl rfl
theorem wd_2_130 : (.instanceMethod ⟨"MuseumHouse$Register", "isFull", "()Z"⟩ : Cond) ∈ tG := tg2 (i := 130) rfl rfl
theorem wd_2_131 : (.code ⟨"MuseumHouse$Register", "isFull", "()Z"⟩ prog_9_method_3_code 1 (some .boolean) : Cond) ∈ tG := tg2 (i := 131) rfl rfl
theorem wd_2_132 : (.methodLink "MuseumHouse" 98 ⟨"MuseumHouse", "askRoom", "(Z)V"⟩ : Cond) ∈ tG := tg2 (i := 132) rfl rfl
theorem wd_2_134 : (.instanceMethod ⟨"MuseumHouse", "askRoom", "(Z)V"⟩ : Cond) ∈ tG := tg2 (i := 134) rfl rfl
theorem wd_2_135 : (.code ⟨"MuseumHouse", "askRoom", "(Z)V"⟩ prog_1_method_33_code 2 (none : Option Jvm.ClassFile.FieldType) : Cond) ∈ tG := tg2 (i := 135) rfl rfl
theorem wd_2_136 : (.methodLink "MuseumHouse" 102 ⟨"MuseumHouse", "ask", "(IZ)V"⟩ : Cond) ∈ tG := tg2 (i := 136) rfl rfl
theorem wd_2_138 : (.instanceMethod ⟨"MuseumHouse", "ask", "(IZ)V"⟩ : Cond) ∈ tG := tg2 (i := 138) rfl rfl
theorem wd_2_139 : (.code ⟨"MuseumHouse", "ask", "(IZ)V"⟩ prog_1_method_34_code 3 (none : Option Jvm.ClassFile.FieldType) : Cond) ∈ tG := tg2 (i := 139) rfl rfl
theorem wd_2_140 : (.classLink "MuseumHouse" 300 "java/lang/IllegalArgumentException" : Cond) ∈ tG := tg2 (i := 140) rfl rfl
theorem wd_2_141 : (.instantiable "java/lang/IllegalArgumentException" 6 : Cond) ∈ tG := tg2 (i := 141) rfl rfl
theorem wd_2_143 : (.selects "java/lang/IllegalArgumentException" ⟨"java/lang/Throwable", "fillInStackTrace", "(I)Ljava/lang/Throwable;"⟩ ⟨"java/lang/Throwable", "fillInStackTrace", "(I)Ljava/lang/Throwable;"⟩ : Cond) ∈ tG := tg2 (i := 143) rfl rfl
theorem wd_2_144 : (.lays "java/lang/IllegalArgumentException" "java/lang/Throwable" "cause" "Ljava/lang/Throwable;" : Cond) ∈ tG := tg2 (i := 144) rfl rfl
theorem wd_2_145 : (.lays "java/lang/IllegalArgumentException" "java/lang/Throwable" "stackTrace" "[Ljava/lang/StackTraceElement;" : Cond) ∈ tG := tg2 (i := 145) rfl rfl
theorem wd_2_146 : (.lays "java/lang/IllegalArgumentException" "java/lang/Throwable" "suppressedExceptions" "Ljava/util/List;" : Cond) ∈ tG := tg2 (i := 146) rfl rfl
theorem wd_2_147 : (.lays "java/lang/IllegalArgumentException" "java/lang/Throwable" "detailMessage" "Ljava/lang/String;" : Cond) ∈ tG := tg2 (i := 147) rfl rfl
theorem wd_2_148 : (.lays "java/lang/IllegalArgumentException" "java/lang/Throwable" "backtrace" "Ljava/lang/Object;" : Cond) ∈ tG := tg2 (i := 148) rfl rfl
theorem wd_2_149 : (.methodLink "MuseumHouse" 302 ⟨"java/lang/IllegalArgumentException", "<init>", "()V"⟩ : Cond) ∈ tG := tg2 (i := 149) rfl rfl
theorem wd_2_150 : (.instanceMethod ⟨"java/lang/IllegalArgumentException", "<init>", "()V"⟩ : Cond) ∈ tG := tg2 (i := 150) rfl rfl
theorem wd_2_151 : (.code ⟨"java/lang/IllegalArgumentException", "<init>", "()V"⟩ prog_16_method_1_code 1 (none : Option Jvm.ClassFile.FieldType) : Cond) ∈ tG := tg2 (i := 151) rfl rfl
theorem wd_2_152 : (.methodLink "java/lang/IllegalArgumentException" 1 ⟨"java/lang/RuntimeException", "<init>", "()V"⟩ : Cond) ∈ tG := tg2 (i := 152) rfl rfl
theorem wd_2_153 : (.lays "java/lang/IllegalArgumentException" "java/lang/Throwable" "depth" "I" : Cond) ∈ tG := tg2 (i := 153) rfl rfl
theorem wd_2_154 : (.superclass "java/lang/IllegalArgumentException" "java/lang/RuntimeException" : Cond) ∈ tG := tg2 (i := 154) rfl rfl
theorem wd_2_155 : (.methodLink "MuseumHouse" 110 ⟨"MuseumHouse$Desks", "open", "(I)I"⟩ : Cond) ∈ tG := tg2 (i := 155) rfl rfl
theorem wd_2_156 : (.instanceMethod ⟨"MuseumHouse$Desks", "open", "(I)I"⟩ : Cond) ∈ tG := tg2 (i := 156) rfl rfl
theorem wd_2_157 : (.selects "MuseumHouse$Desks" ⟨"MuseumHouse$Desks", "open", "(I)I"⟩ ⟨"MuseumHouse$Desks", "open", "(I)I"⟩ : Cond) ∈ tG := tg2 (i := 157) rfl rfl
theorem wd_2_158 : (.code ⟨"MuseumHouse$Desks", "open", "(I)I"⟩ prog_4_method_2_code 3 (some .int) : Cond) ∈ tG := tg2 (i := 158) rfl rfl
theorem wd_2_159 : (.methodLink "MuseumHouse$Desks" 19 ⟨"MuseumHouse$Desks", "handleOf", "(I)I"⟩ : Cond) ∈ tG := tg2 (i := 159) rfl rfl
theorem wd_2_160 : (.sameMethod "MuseumHouse$Desks" "MuseumHouse$Register" "handleOf" "(I)I" : Cond) ∈ tG := tg2 (i := 160) rfl rfl
theorem wd_2_162 : (.selects "MuseumHouse$Desks" ⟨"MuseumHouse$Desks", "handleOf", "(I)I"⟩ ⟨"MuseumHouse$Register", "handleOf", "(I)I"⟩ : Cond) ∈ tG := tg2 (i := 162) rfl rfl
theorem wd_2_163 : (.instanceMethod ⟨"MuseumHouse$Register", "handleOf", "(I)I"⟩ : Cond) ∈ tG := tg2 (i := 163) rfl rfl
theorem wd_2_164 : (.code ⟨"MuseumHouse$Register", "handleOf", "(I)I"⟩ prog_9_method_4_code 2 (some .int) : Cond) ∈ tG := tg2 (i := 164) rfl rfl
theorem wd_2_165 : (.methodLink "MuseumHouseLaw" 117 ⟨"MuseumHouseLaw", "day", "(LMuseumHouse;I[J)I"⟩ : Cond) ∈ tG := tg2 (i := 165) rfl rfl
theorem wd_2_166 : (.static ⟨"MuseumHouseLaw", "day", "(LMuseumHouse;I[J)I"⟩ : Cond) ∈ tG := tg2 (i := 166) rfl rfl
theorem wd_2_167 : (.codeWith ⟨"MuseumHouseLaw", "day", "(LMuseumHouse;I[J)I"⟩ method_4_code 4 (some .int) [(0, 9, 12, 17)] : Cond) ∈ tG := tg2 (i := 167) rfl rfl
theorem wd_2_168 : (.methodLink "MuseumHouseLaw" 19 ⟨"MuseumHouse", "day", "(I)I"⟩ : Cond) ∈ tG := tg2 (i := 168) rfl rfl
theorem wd_2_169 : (.instanceMethod ⟨"MuseumHouse", "day", "(I)I"⟩ : Cond) ∈ tG := tg2 (i := 169) rfl rfl
theorem wd_2_170 : (.selects "MuseumHouse" ⟨"MuseumHouse", "day", "(I)I"⟩ ⟨"MuseumHouse", "day", "(I)I"⟩ : Cond) ∈ tG := tg2 (i := 170) rfl rfl
theorem wd_2_171 : (.code ⟨"MuseumHouse", "day", "(I)I"⟩ prog_1_method_3_code 2 (some .int) : Cond) ∈ tG := tg2 (i := 171) rfl rfl
theorem wd_2_172 : (.methodLink "MuseumHouseLaw" 121 ⟨"MuseumHouseLaw", "site", "(LMuseumHouse;I[J)I"⟩ : Cond) ∈ tG := tg2 (i := 172) rfl rfl
theorem wd_2_173 : (.static ⟨"MuseumHouseLaw", "site", "(LMuseumHouse;I[J)I"⟩ : Cond) ∈ tG := tg2 (i := 173) rfl rfl
theorem wd_2_174 : (.codeWith ⟨"MuseumHouseLaw", "site", "(LMuseumHouse;I[J)I"⟩ method_5_code 4 (some .int) [(0, 9, 12, 13), (0, 9, 15, 15)] : Cond) ∈ tG := tg2 (i := 174) rfl rfl
theorem wd_2_175 : (.methodLink "MuseumHouseLaw" 23 ⟨"MuseumHouse", "site", "(I)I"⟩ : Cond) ∈ tG := tg2 (i := 175) rfl rfl
theorem wd_2_176 : (.instanceMethod ⟨"MuseumHouse", "site", "(I)I"⟩ : Cond) ∈ tG := tg2 (i := 176) rfl rfl
theorem wd_2_177 : (.selects "MuseumHouse" ⟨"MuseumHouse", "site", "(I)I"⟩ ⟨"MuseumHouse", "site", "(I)I"⟩ : Cond) ∈ tG := tg2 (i := 177) rfl rfl
theorem wd_2_178 : (.code ⟨"MuseumHouse", "site", "(I)I"⟩ prog_1_method_4_code 3 (some .int) : Cond) ∈ tG := tg2 (i := 178) rfl rfl
theorem wd_2_179 : (.methodLink "MuseumHouse" 114 ⟨"MuseumHouse$Sites", "isFull", "()Z"⟩ : Cond) ∈ tG := tg2 (i := 179) rfl rfl
theorem wd_2_180 : (.sameMethod "MuseumHouse$Sites" "MuseumHouse$Register" "isFull" "()Z" : Cond) ∈ tG := tg2 (i := 180) rfl rfl
theorem wd_2_181 : (.selects "MuseumHouse$Sites" ⟨"MuseumHouse$Sites", "isFull", "()Z"⟩ ⟨"MuseumHouse$Register", "isFull", "()Z"⟩ : Cond) ∈ tG := tg2 (i := 181) rfl rfl
theorem wd_2_182 : (.methodLink "MuseumHouse" 115 ⟨"MuseumHouse$Sites", "stakeOut", "()I"⟩ : Cond) ∈ tG := tg2 (i := 182) rfl rfl
theorem wd_2_183 : (.instanceMethod ⟨"MuseumHouse$Sites", "stakeOut", "()I"⟩ : Cond) ∈ tG := tg2 (i := 183) rfl rfl
theorem wd_2_184 : (.selects "MuseumHouse$Sites" ⟨"MuseumHouse$Sites", "stakeOut", "()I"⟩ ⟨"MuseumHouse$Sites", "stakeOut", "()I"⟩ : Cond) ∈ tG := tg2 (i := 184) rfl rfl
theorem wd_2_185 : (.code ⟨"MuseumHouse$Sites", "stakeOut", "()I"⟩ prog_11_method_2_code 1 (some .int) : Cond) ∈ tG := tg2 (i := 185) rfl rfl
theorem wd_2_186 : (.methodLink "MuseumHouse$Sites" 9 ⟨"MuseumHouse$Sites", "enter", "()I"⟩ : Cond) ∈ tG := tg2 (i := 186) rfl rfl
theorem wd_2_187 : (.sameMethod "MuseumHouse$Sites" "MuseumHouse$Register" "enter" "()I" : Cond) ∈ tG := tg2 (i := 187) rfl rfl
theorem wd_2_188 : (.selects "MuseumHouse$Sites" ⟨"MuseumHouse$Sites", "enter", "()I"⟩ ⟨"MuseumHouse$Register", "enter", "()I"⟩ : Cond) ∈ tG := tg2 (i := 188) rfl rfl
theorem wd_2_189 : (.methodLink "MuseumHouse$Sites" 15 ⟨"MuseumHouse$Sites", "handleOf", "(I)I"⟩ : Cond) ∈ tG := tg2 (i := 189) rfl rfl
theorem wd_2_190 : (.sameMethod "MuseumHouse$Sites" "MuseumHouse$Register" "handleOf" "(I)I" : Cond) ∈ tG := tg2 (i := 190) rfl rfl
theorem wd_2_191 : (.selects "MuseumHouse$Sites" ⟨"MuseumHouse$Sites", "handleOf", "(I)I"⟩ ⟨"MuseumHouse$Register", "handleOf", "(I)I"⟩ : Cond) ∈ tG := tg2 (i := 191) rfl rfl
theorem wd_2_192 : (.methodLink "MuseumHouseLaw" 124 ⟨"MuseumHouseLaw", "context", "(LMuseumHouse;II[J)I"⟩ : Cond) ∈ tG := tg2 (i := 192) rfl rfl
theorem wd_2_193 : (.static ⟨"MuseumHouseLaw", "context", "(LMuseumHouse;II[J)I"⟩ : Cond) ∈ tG := tg2 (i := 193) rfl rfl
theorem wd_2_194 : (.codeWith ⟨"MuseumHouseLaw", "context", "(LMuseumHouse;II[J)I"⟩ method_6_code 5 (some .int) [(0, 10, 13, 13), (0, 10, 17, 15)] : Cond) ∈ tG := tg2 (i := 194) rfl rfl
theorem wd_2_195 : (.methodLink "MuseumHouseLaw" 26 ⟨"MuseumHouse", "context", "(II)I"⟩ : Cond) ∈ tG := tg2 (i := 195) rfl rfl
theorem wd_2_196 : (.instanceMethod ⟨"MuseumHouse", "context", "(II)I"⟩ : Cond) ∈ tG := tg2 (i := 196) rfl rfl
theorem wd_2_197 : (.selects "MuseumHouse" ⟨"MuseumHouse", "context", "(II)I"⟩ ⟨"MuseumHouse", "context", "(II)I"⟩ : Cond) ∈ tG := tg2 (i := 197) rfl rfl
theorem wd_2_198 : (.code ⟨"MuseumHouse", "context", "(II)I"⟩ prog_1_method_5_code 5 (some .int) : Cond) ∈ tG := tg2 (i := 198) rfl rfl
theorem wd_2_199 : (.methodLink "MuseumHouse" 119 ⟨"MuseumHouse$Contexts", "isFull", "()Z"⟩ : Cond) ∈ tG := tg2 (i := 199) rfl rfl
theorem wd_2_200 : (.sameMethod "MuseumHouse$Contexts" "MuseumHouse$Register" "isFull" "()Z" : Cond) ∈ tG := tg2 (i := 200) rfl rfl
theorem wd_2_201 : (.selects "MuseumHouse$Contexts" ⟨"MuseumHouse$Contexts", "isFull", "()Z"⟩ ⟨"MuseumHouse$Register", "isFull", "()Z"⟩ : Cond) ∈ tG := tg2 (i := 201) rfl rfl
theorem wd_2_202 : (.methodLink "MuseumHouse" 120 ⟨"MuseumHouse$Contexts", "dig", "(I)I"⟩ : Cond) ∈ tG := tg2 (i := 202) rfl rfl
theorem wd_2_203 : (.instanceMethod ⟨"MuseumHouse$Contexts", "dig", "(I)I"⟩ : Cond) ∈ tG := tg2 (i := 203) rfl rfl
theorem wd_2_204 : (.selects "MuseumHouse$Contexts" ⟨"MuseumHouse$Contexts", "dig", "(I)I"⟩ ⟨"MuseumHouse$Contexts", "dig", "(I)I"⟩ : Cond) ∈ tG := tg2 (i := 204) rfl rfl
theorem wd_2_205 : (.code ⟨"MuseumHouse$Contexts", "dig", "(I)I"⟩ prog_3_method_2_code 3 (some .int) : Cond) ∈ tG := tg2 (i := 205) rfl rfl
theorem wd_2_206 : (.methodLink "MuseumHouse$Contexts" 24 ⟨"MuseumHouse$Contexts", "enter", "()I"⟩ : Cond) ∈ tG := tg2 (i := 206) rfl rfl
theorem wd_2_207 : (.sameMethod "MuseumHouse$Contexts" "MuseumHouse$Register" "enter" "()I" : Cond) ∈ tG := tg2 (i := 207) rfl rfl
theorem wd_2_208 : (.selects "MuseumHouse$Contexts" ⟨"MuseumHouse$Contexts", "enter", "()I"⟩ ⟨"MuseumHouse$Register", "enter", "()I"⟩ : Cond) ∈ tG := tg2 (i := 208) rfl rfl
theorem wd_2_209 : (.methodLink "MuseumHouse$Contexts" 28 ⟨"MuseumHouse$Contexts", "handleOf", "(I)I"⟩ : Cond) ∈ tG := tg2 (i := 209) rfl rfl
theorem wd_2_210 : (.sameMethod "MuseumHouse$Contexts" "MuseumHouse$Register" "handleOf" "(I)I" : Cond) ∈ tG := tg2 (i := 210) rfl rfl
theorem wd_2_211 : (.selects "MuseumHouse$Contexts" ⟨"MuseumHouse$Contexts", "handleOf", "(I)I"⟩ ⟨"MuseumHouse$Register", "handleOf", "(I)I"⟩ : Cond) ∈ tG := tg2 (i := 211) rfl rfl
theorem wd_2_212 : (.methodLink "MuseumHouseLaw" 127 ⟨"MuseumHouseLaw", "above", "(LMuseumHouse;III[J)I"⟩ : Cond) ∈ tG := tg2 (i := 212) rfl rfl
theorem wd_2_213 : (.static ⟨"MuseumHouseLaw", "above", "(LMuseumHouse;III[J)I"⟩ : Cond) ∈ tG := tg2 (i := 213) rfl rfl
theorem wd_2_214 : (.codeWith ⟨"MuseumHouseLaw", "above", "(LMuseumHouse;III[J)I"⟩ method_7_code 6 (some .int) [(0, 19, 22, 13), (0, 19, 26, 15), (0, 19, 30, 17)] : Cond) ∈ tG := tg2 (i := 214) rfl rfl
theorem wd_2_215 : (.methodLink "MuseumHouseLaw" 29 ⟨"MuseumHouse", "above", "(III)Z"⟩ : Cond) ∈ tG := tg2 (i := 215) rfl rfl
theorem wd_2_216 : (.instanceMethod ⟨"MuseumHouse", "above", "(III)Z"⟩ : Cond) ∈ tG := tg2 (i := 216) rfl rfl
theorem wd_2_217 : (.selects "MuseumHouse" ⟨"MuseumHouse", "above", "(III)Z"⟩ ⟨"MuseumHouse", "above", "(III)Z"⟩ : Cond) ∈ tG := tg2 (i := 217) rfl rfl
theorem wd_2_218 : (.code ⟨"MuseumHouse", "above", "(III)Z"⟩ prog_1_method_6_code 8 (some .boolean) : Cond) ∈ tG := tg2 (i := 218) rfl rfl
theorem wd_2_219 : (.methodLink "MuseumHouse" 123 ⟨"MuseumHouse$Contexts", "siteOf", "(I)I"⟩ : Cond) ∈ tG := tg2 (i := 219) rfl rfl
theorem wd_2_220 : (.instanceMethod ⟨"MuseumHouse$Contexts", "siteOf", "(I)I"⟩ : Cond) ∈ tG := tg2 (i := 220) rfl rfl
theorem wd_2_221 : (.selects "MuseumHouse$Contexts" ⟨"MuseumHouse$Contexts", "siteOf", "(I)I"⟩ ⟨"MuseumHouse$Contexts", "siteOf", "(I)I"⟩ : Cond) ∈ tG := tg2 (i := 221) rfl rfl
theorem wd_2_222 : (.code ⟨"MuseumHouse$Contexts", "siteOf", "(I)I"⟩ prog_3_method_3_code 2 (some .int) : Cond) ∈ tG := tg2 (i := 222) rfl rfl
theorem wd_2_223 : (.methodLink "MuseumHouse" 126 ⟨"MuseumHouse$Contexts", "isOver", "(II)Z"⟩ : Cond) ∈ tG := tg2 (i := 223) rfl rfl
theorem wd_2_224 : (.instanceMethod ⟨"MuseumHouse$Contexts", "isOver", "(II)Z"⟩ : Cond) ∈ tG := tg2 (i := 224) rfl rfl
theorem wd_2_225 : (.selects "MuseumHouse$Contexts" ⟨"MuseumHouse$Contexts", "isOver", "(II)Z"⟩ ⟨"MuseumHouse$Contexts", "isOver", "(II)Z"⟩ : Cond) ∈ tG := tg2 (i := 225) rfl rfl
theorem wd_2_226 : (.code ⟨"MuseumHouse$Contexts", "isOver", "(II)Z"⟩ prog_3_method_4_code 3 (some .boolean) : Cond) ∈ tG := tg2 (i := 226) rfl rfl
theorem wd_2_227 : (.methodLink "MuseumHouse" 129 ⟨"MuseumHouse$Contexts", "yearsLetOver", "(II)Z"⟩ : Cond) ∈ tG := tg2 (i := 227) rfl rfl
theorem wd_2_228 : (.instanceMethod ⟨"MuseumHouse$Contexts", "yearsLetOver", "(II)Z"⟩ : Cond) ∈ tG := tg2 (i := 228) rfl rfl
theorem wd_2_229 : (.selects "MuseumHouse$Contexts" ⟨"MuseumHouse$Contexts", "yearsLetOver", "(II)Z"⟩ ⟨"MuseumHouse$Contexts", "yearsLetOver", "(II)Z"⟩ : Cond) ∈ tG := tg2 (i := 229) rfl rfl
theorem wd_2_230 : (.code ⟨"MuseumHouse$Contexts", "yearsLetOver", "(II)Z"⟩ prog_3_method_9_code 3 (some .boolean) : Cond) ∈ tG := tg2 (i := 230) rfl rfl
theorem wd_2_231 : (.methodLink "MuseumHouse$Contexts" 54 ⟨"MuseumHouse$Contexts", "earliest", "(I)I"⟩ : Cond) ∈ tG := tg2 (i := 231) rfl rfl
theorem wd_2_232 : (.instanceMethod ⟨"MuseumHouse$Contexts", "earliest", "(I)I"⟩ : Cond) ∈ tG := tg2 (i := 232) rfl rfl
theorem wd_2_233 : (.selects "MuseumHouse$Contexts" ⟨"MuseumHouse$Contexts", "earliest", "(I)I"⟩ ⟨"MuseumHouse$Contexts", "earliest", "(I)I"⟩ : Cond) ∈ tG := tg2 (i := 233) rfl rfl
theorem wd_2_234 : (.code ⟨"MuseumHouse$Contexts", "earliest", "(I)I"⟩ prog_3_method_7_code 2 (some .int) : Cond) ∈ tG := tg2 (i := 234) rfl rfl
theorem wd_2_235 : (.methodLink "MuseumHouse$Contexts" 39 ⟨"MuseumHouse$Contexts", "greatestFirstBelow", "(I)I"⟩ : Cond) ∈ tG := tg2 (i := 235) rfl rfl
theorem wd_2_237 : (.instanceMethod ⟨"MuseumHouse$Contexts", "greatestFirstBelow", "(I)I"⟩ : Cond) ∈ tG := tg2 (i := 237) rfl rfl
theorem wd_2_238 : (.code ⟨"MuseumHouse$Contexts", "greatestFirstBelow", "(I)I"⟩ prog_3_method_11_code 4 (some .int) : Cond) ∈ tG := tg2 (i := 238) rfl rfl
theorem wd_2_239 : (.methodLink "MuseumHouse$Contexts" 32 ⟨"MuseumHouse$Contexts", "size", "()I"⟩ : Cond) ∈ tG := tg2 (i := 239) rfl rfl
theorem wd_3_0 : (.sameMethod "MuseumHouse$Contexts" "MuseumHouse$Register" "size" "()I" : Cond) ∈ tG := tg3 (i := 0) rfl rfl
theorem wd_3_2 : (.selects "MuseumHouse$Contexts" ⟨"MuseumHouse$Contexts", "size", "()I"⟩ ⟨"MuseumHouse$Register", "size", "()I"⟩ : Cond) ∈ tG := tg3 (i := 2) rfl rfl
theorem wd_3_3 : (.instanceMethod ⟨"MuseumHouse$Register", "size", "()I"⟩ : Cond) ∈ tG := tg3 (i := 3) rfl rfl
theorem wd_3_4 : (.code ⟨"MuseumHouse$Register", "size", "()I"⟩ prog_9_method_2_code 1 (some .int) : Cond) ∈ tG := tg3 (i := 4) rfl rfl
theorem wd_3_5 : (.methodLink "MuseumHouse$Contexts" 35 ⟨"MuseumHouse$Contexts", "isOver", "(II)Z"⟩ : Cond) ∈ tG := tg3 (i := 5) rfl rfl
theorem wd_3_6 : (.methodLink "MuseumHouse$Contexts" 42 ⟨"java/lang/Math", "max", "(II)I"⟩ : Cond) ∈ tG := tg3 (i := 6) rfl rfl
theorem wd_3_7 : (.static ⟨"java/lang/Math", "max", "(II)I"⟩ : Cond) ∈ tG := tg3 (i := 7) rfl rfl
theorem wd_3_8 : (.code ⟨"java/lang/Math", "max", "(II)I"⟩ prog_18_method_65_code 2 (some .int) : Cond) ∈ tG := tg3 (i := 8) rfl rfl
theorem wd_3_9 : (.methodLink "MuseumHouse$Contexts" 57 ⟨"MuseumHouse$Contexts", "latest", "(I)I"⟩ : Cond) ∈ tG := tg3 (i := 9) rfl rfl
theorem wd_3_10 : (.instanceMethod ⟨"MuseumHouse$Contexts", "latest", "(I)I"⟩ : Cond) ∈ tG := tg3 (i := 10) rfl rfl
theorem wd_3_11 : (.selects "MuseumHouse$Contexts" ⟨"MuseumHouse$Contexts", "latest", "(I)I"⟩ ⟨"MuseumHouse$Contexts", "latest", "(I)I"⟩ : Cond) ∈ tG := tg3 (i := 11) rfl rfl
theorem wd_3_12 : (.code ⟨"MuseumHouse$Contexts", "latest", "(I)I"⟩ prog_3_method_8_code 2 (some .int) : Cond) ∈ tG := tg3 (i := 12) rfl rfl
theorem wd_3_13 : (.methodLink "MuseumHouse$Contexts" 48 ⟨"MuseumHouse$Contexts", "leastLastAbove", "(I)I"⟩ : Cond) ∈ tG := tg3 (i := 13) rfl rfl
theorem wd_3_15 : (.instanceMethod ⟨"MuseumHouse$Contexts", "leastLastAbove", "(I)I"⟩ : Cond) ∈ tG := tg3 (i := 15) rfl rfl
theorem wd_3_16 : (.code ⟨"MuseumHouse$Contexts", "leastLastAbove", "(I)I"⟩ prog_3_method_12_code 4 (some .int) : Cond) ∈ tG := tg3 (i := 16) rfl rfl
theorem wd_3_17 : (.methodLink "MuseumHouse$Contexts" 51 ⟨"java/lang/Math", "min", "(II)I"⟩ : Cond) ∈ tG := tg3 (i := 17) rfl rfl
theorem wd_3_18 : (.static ⟨"java/lang/Math", "min", "(II)I"⟩ : Cond) ∈ tG := tg3 (i := 18) rfl rfl
theorem wd_3_19 : (.code ⟨"java/lang/Math", "min", "(II)I"⟩ prog_18_method_69_code 2 (some .int) : Cond) ∈ tG := tg3 (i := 19) rfl rfl
theorem wd_3_20 : (.methodLink "MuseumHouse" 132 ⟨"MuseumHouse$Contexts", "putOver", "(II)V"⟩ : Cond) ∈ tG := tg3 (i := 20) rfl rfl
theorem wd_3_21 : (.instanceMethod ⟨"MuseumHouse$Contexts", "putOver", "(II)V"⟩ : Cond) ∈ tG := tg3 (i := 21) rfl rfl
theorem wd_3_22 : (.selects "MuseumHouse$Contexts" ⟨"MuseumHouse$Contexts", "putOver", "(II)V"⟩ ⟨"MuseumHouse$Contexts", "putOver", "(II)V"⟩ : Cond) ∈ tG := tg3 (i := 22) rfl rfl
theorem wd_3_23 : (.code ⟨"MuseumHouse$Contexts", "putOver", "(II)V"⟩ prog_3_method_5_code 5 (none : Option Jvm.ClassFile.FieldType) : Cond) ∈ tG := tg3 (i := 23) rfl rfl
theorem wd_3_24 : (.methodLink "MuseumHouseLaw" 131 ⟨"MuseumHouseLaw", "span", "(LMuseumHouse;IIII[J)I"⟩ : Cond) ∈ tG := tg3 (i := 24) rfl rfl
theorem wd_3_25 : (.static ⟨"MuseumHouseLaw", "span", "(LMuseumHouse;IIII[J)I"⟩ : Cond) ∈ tG := tg3 (i := 25) rfl rfl
theorem wd_3_26 : (.codeWith ⟨"MuseumHouseLaw", "span", "(LMuseumHouse;IIII[J)I"⟩ method_8_code 7 (some .int) [(0, 14, 17, 13), (0, 14, 21, 15), (0, 14, 25, 17)] : Cond) ∈ tG := tg3 (i := 26) rfl rfl
theorem wd_3_27 : (.methodLink "MuseumHouseLaw" 33 ⟨"MuseumHouse", "span", "(IIII)I"⟩ : Cond) ∈ tG := tg3 (i := 27) rfl rfl
theorem wd_3_28 : (.instanceMethod ⟨"MuseumHouse", "span", "(IIII)I"⟩ : Cond) ∈ tG := tg3 (i := 28) rfl rfl
theorem wd_3_29 : (.selects "MuseumHouse" ⟨"MuseumHouse", "span", "(IIII)I"⟩ ⟨"MuseumHouse", "span", "(IIII)I"⟩ : Cond) ∈ tG := tg3 (i := 29) rfl rfl
theorem wd_3_30 : (.code ⟨"MuseumHouse", "span", "(IIII)I"⟩ prog_1_method_7_code 7 (some .int) : Cond) ∈ tG := tg3 (i := 30) rfl rfl
theorem wd_3_31 : (.methodLink "MuseumHouse" 135 ⟨"MuseumHouse$Contexts", "yearsLetSpan", "(III)Z"⟩ : Cond) ∈ tG := tg3 (i := 31) rfl rfl
theorem wd_3_32 : (.instanceMethod ⟨"MuseumHouse$Contexts", "yearsLetSpan", "(III)Z"⟩ : Cond) ∈ tG := tg3 (i := 32) rfl rfl
theorem wd_3_33 : (.selects "MuseumHouse$Contexts" ⟨"MuseumHouse$Contexts", "yearsLetSpan", "(III)Z"⟩ ⟨"MuseumHouse$Contexts", "yearsLetSpan", "(III)Z"⟩ : Cond) ∈ tG := tg3 (i := 33) rfl rfl
theorem wd_3_34 : (.code ⟨"MuseumHouse$Contexts", "yearsLetSpan", "(III)Z"⟩ prog_3_method_10_code 4 (some .boolean) : Cond) ∈ tG := tg3 (i := 34) rfl rfl
theorem wd_3_35 : (.methodLink "MuseumHouse" 139 ⟨"MuseumHouse$Contexts", "setSpan", "(III)V"⟩ : Cond) ∈ tG := tg3 (i := 35) rfl rfl
theorem wd_3_36 : (.instanceMethod ⟨"MuseumHouse$Contexts", "setSpan", "(III)V"⟩ : Cond) ∈ tG := tg3 (i := 36) rfl rfl
theorem wd_3_37 : (.selects "MuseumHouse$Contexts" ⟨"MuseumHouse$Contexts", "setSpan", "(III)V"⟩ ⟨"MuseumHouse$Contexts", "setSpan", "(III)V"⟩ : Cond) ∈ tG := tg3 (i := 37) rfl rfl
theorem wd_3_38 : (.code ⟨"MuseumHouse$Contexts", "setSpan", "(III)V"⟩ prog_3_method_6_code 4 (none : Option Jvm.ClassFile.FieldType) : Cond) ∈ tG := tg3 (i := 38) rfl rfl
theorem wd_3_39 : (.methodLink "MuseumHouse" 143 ⟨"MuseumHouse$Contexts", "earliest", "(I)I"⟩ : Cond) ∈ tG := tg3 (i := 39) rfl rfl
theorem wd_3_40 : (.methodLink "MuseumHouseLaw" 135 ⟨"MuseumHouseLaw", "isAbove", "(LMuseumHouse;II[J)I"⟩ : Cond) ∈ tG := tg3 (i := 40) rfl rfl
theorem wd_3_41 : (.static ⟨"MuseumHouseLaw", "isAbove", "(LMuseumHouse;II[J)I"⟩ : Cond) ∈ tG := tg3 (i := 41) rfl rfl
theorem wd_3_42 : (.codeWith ⟨"MuseumHouseLaw", "isAbove", "(LMuseumHouse;II[J)I"⟩ method_9_code 5 (some .int) [(0, 17, 20, 13)] : Cond) ∈ tG := tg3 (i := 42) rfl rfl
theorem wd_3_43 : (.methodLink "MuseumHouseLaw" 37 ⟨"MuseumHouse", "isAbove", "(II)Z"⟩ : Cond) ∈ tG := tg3 (i := 43) rfl rfl
theorem wd_3_44 : (.instanceMethod ⟨"MuseumHouse", "isAbove", "(II)Z"⟩ : Cond) ∈ tG := tg3 (i := 44) rfl rfl
theorem wd_3_45 : (.selects "MuseumHouse" ⟨"MuseumHouse", "isAbove", "(II)Z"⟩ ⟨"MuseumHouse", "isAbove", "(II)Z"⟩ : Cond) ∈ tG := tg3 (i := 45) rfl rfl
theorem wd_3_46 : (.code ⟨"MuseumHouse", "isAbove", "(II)Z"⟩ prog_1_method_8_code 5 (some .boolean) : Cond) ∈ tG := tg3 (i := 46) rfl rfl
theorem wd_3_47 : (.methodLink "MuseumHouseLaw" 138 ⟨"MuseumHouseLaw", "year", "(LMuseumHouse;II[J)I"⟩ : Cond) ∈ tG := tg3 (i := 47) rfl rfl
theorem wd_3_48 : (.static ⟨"MuseumHouseLaw", "year", "(LMuseumHouse;II[J)I"⟩ : Cond) ∈ tG := tg3 (i := 48) rfl rfl
theorem wd_3_49 : (.codeWith ⟨"MuseumHouseLaw", "year", "(LMuseumHouse;II[J)I"⟩ method_10_code 5 (some .int) [(0, 10, 13, 13), (0, 10, 17, 17)] : Cond) ∈ tG := tg3 (i := 49) rfl rfl
theorem wd_3_50 : (.methodLink "MuseumHouseLaw" 41 ⟨"MuseumHouse", "year", "(II)I"⟩ : Cond) ∈ tG := tg3 (i := 50) rfl rfl
theorem wd_3_51 : (.instanceMethod ⟨"MuseumHouse", "year", "(II)I"⟩ : Cond) ∈ tG := tg3 (i := 51) rfl rfl
theorem wd_3_52 : (.selects "MuseumHouse" ⟨"MuseumHouse", "year", "(II)I"⟩ ⟨"MuseumHouse", "year", "(II)I"⟩ : Cond) ∈ tG := tg3 (i := 52) rfl rfl
theorem wd_3_53 : (.code ⟨"MuseumHouse", "year", "(II)I"⟩ prog_1_method_9_code 4 (some .int) : Cond) ∈ tG := tg3 (i := 53) rfl rfl
theorem wd_3_54 : (.methodLink "MuseumHouse" 146 ⟨"MuseumHouse$Contexts", "latest", "(I)I"⟩ : Cond) ∈ tG := tg3 (i := 54) rfl rfl
theorem wd_3_55 : (.methodLink "MuseumHouseLaw" 141 ⟨"MuseumHouseLaw", "find", "(LMuseumHouse;III[J)I"⟩ : Cond) ∈ tG := tg3 (i := 55) rfl rfl
theorem wd_3_56 : (.static ⟨"MuseumHouseLaw", "find", "(LMuseumHouse;III[J)I"⟩ : Cond) ∈ tG := tg3 (i := 56) rfl rfl
theorem wd_3_57 : (.codeWith ⟨"MuseumHouseLaw", "find", "(LMuseumHouse;III[J)I"⟩ method_11_code 6 (some .int) [(0, 12, 15, 13), (0, 12, 19, 15), (0, 12, 23, 17)] : Cond) ∈ tG := tg3 (i := 57) rfl rfl
theorem wd_3_58 : (.methodLink "MuseumHouseLaw" 44 ⟨"MuseumHouse", "find", "(III)I"⟩ : Cond) ∈ tG := tg3 (i := 58) rfl rfl
theorem wd_3_59 : (.instanceMethod ⟨"MuseumHouse", "find", "(III)I"⟩ : Cond) ∈ tG := tg3 (i := 59) rfl rfl
theorem wd_3_60 : (.selects "MuseumHouse" ⟨"MuseumHouse", "find", "(III)I"⟩ ⟨"MuseumHouse", "find", "(III)I"⟩ : Cond) ∈ tG := tg3 (i := 60) rfl rfl
theorem wd_3_61 : (.code ⟨"MuseumHouse", "find", "(III)I"⟩ prog_1_method_10_code 6 (some .int) : Cond) ∈ tG := tg3 (i := 61) rfl rfl
theorem wd_3_62 : (.methodLink "MuseumHouse" 149 ⟨"MuseumHouse$Finds", "isFull", "()Z"⟩ : Cond) ∈ tG := tg3 (i := 62) rfl rfl
theorem wd_3_63 : (.sameMethod "MuseumHouse$Finds" "MuseumHouse$Register" "isFull" "()Z" : Cond) ∈ tG := tg3 (i := 63) rfl rfl
theorem wd_3_64 : (.selects "MuseumHouse$Finds" ⟨"MuseumHouse$Finds", "isFull", "()Z"⟩ ⟨"MuseumHouse$Register", "isFull", "()Z"⟩ : Cond) ∈ tG := tg3 (i := 64) rfl rfl
theorem wd_3_65 : (.methodLink "MuseumHouse" 150 ⟨"MuseumHouse", "isDay", "(I)Z"⟩ : Cond) ∈ tG := tg3 (i := 65) rfl rfl
theorem wd_3_66 : (.static ⟨"MuseumHouse", "isDay", "(I)Z"⟩ : Cond) ∈ tG := tg3 (i := 66) rfl rfl
theorem wd_3_67 : (.code ⟨"MuseumHouse", "isDay", "(I)Z"⟩ prog_1_method_37_code 1 (some .boolean) : Cond) ∈ tG := tg3 (i := 67) rfl rfl
theorem wd_3_68 : (.methodLink "MuseumHouse" 154 ⟨"MuseumHouse$Finds", "bringUp", "(II)I"⟩ : Cond) ∈ tG := tg3 (i := 68) rfl rfl
theorem wd_3_69 : (.instanceMethod ⟨"MuseumHouse$Finds", "bringUp", "(II)I"⟩ : Cond) ∈ tG := tg3 (i := 69) rfl rfl
theorem wd_3_70 : (.selects "MuseumHouse$Finds" ⟨"MuseumHouse$Finds", "bringUp", "(II)I"⟩ ⟨"MuseumHouse$Finds", "bringUp", "(II)I"⟩ : Cond) ∈ tG := tg3 (i := 70) rfl rfl
theorem wd_3_71 : (.code ⟨"MuseumHouse$Finds", "bringUp", "(II)I"⟩ prog_5_method_2_code 4 (some .int) : Cond) ∈ tG := tg3 (i := 71) rfl rfl
theorem wd_3_72 : (.methodLink "MuseumHouse$Finds" 18 ⟨"MuseumHouse$Finds", "enter", "()I"⟩ : Cond) ∈ tG := tg3 (i := 72) rfl rfl
theorem wd_3_73 : (.sameMethod "MuseumHouse$Finds" "MuseumHouse$Register" "enter" "()I" : Cond) ∈ tG := tg3 (i := 73) rfl rfl
theorem wd_3_74 : (.selects "MuseumHouse$Finds" ⟨"MuseumHouse$Finds", "enter", "()I"⟩ ⟨"MuseumHouse$Register", "enter", "()I"⟩ : Cond) ∈ tG := tg3 (i := 74) rfl rfl
theorem wd_3_75 : (.methodLink "MuseumHouse$Finds" 22 ⟨"MuseumHouse$Finds", "handleOf", "(I)I"⟩ : Cond) ∈ tG := tg3 (i := 75) rfl rfl
theorem wd_3_76 : (.sameMethod "MuseumHouse$Finds" "MuseumHouse$Register" "handleOf" "(I)I" : Cond) ∈ tG := tg3 (i := 76) rfl rfl
theorem wd_3_77 : (.selects "MuseumHouse$Finds" ⟨"MuseumHouse$Finds", "handleOf", "(I)I"⟩ ⟨"MuseumHouse$Register", "handleOf", "(I)I"⟩ : Cond) ∈ tG := tg3 (i := 77) rfl rfl
theorem wd_3_78 : (.methodLink "MuseumHouseLaw" 144 ⟨"MuseumHouseLaw", "object", "(LMuseumHouse;II[J)I"⟩ : Cond) ∈ tG := tg3 (i := 78) rfl rfl
theorem wd_3_79 : (.static ⟨"MuseumHouseLaw", "object", "(LMuseumHouse;II[J)I"⟩ : Cond) ∈ tG := tg3 (i := 79) rfl rfl
theorem wd_3_80 : (.codeWith ⟨"MuseumHouseLaw", "object", "(LMuseumHouse;II[J)I"⟩ method_12_code 5 (some .int) [(0, 10, 13, 13), (0, 10, 17, 15), (0, 10, 21, 17)] : Cond) ∈ tG := tg3 (i := 80) rfl rfl
theorem wd_3_81 : (.methodLink "MuseumHouseLaw" 48 ⟨"MuseumHouse", "object", "(II)I"⟩ : Cond) ∈ tG := tg3 (i := 81) rfl rfl
theorem wd_3_82 : (.instanceMethod ⟨"MuseumHouse", "object", "(II)I"⟩ : Cond) ∈ tG := tg3 (i := 82) rfl rfl
theorem wd_3_83 : (.selects "MuseumHouse" ⟨"MuseumHouse", "object", "(II)I"⟩ ⟨"MuseumHouse", "object", "(II)I"⟩ : Cond) ∈ tG := tg3 (i := 83) rfl rfl
theorem wd_3_84 : (.code ⟨"MuseumHouse", "object", "(II)I"⟩ prog_1_method_11_code 5 (some .int) : Cond) ∈ tG := tg3 (i := 84) rfl rfl
theorem wd_3_85 : (.methodLink "MuseumHouse" 158 ⟨"MuseumHouse$Items", "isFull", "()Z"⟩ : Cond) ∈ tG := tg3 (i := 85) rfl rfl
theorem wd_3_86 : (.sameMethod "MuseumHouse$Items" "MuseumHouse$Register" "isFull" "()Z" : Cond) ∈ tG := tg3 (i := 86) rfl rfl
theorem wd_3_87 : (.selects "MuseumHouse$Items" ⟨"MuseumHouse$Items", "isFull", "()Z"⟩ ⟨"MuseumHouse$Register", "isFull", "()Z"⟩ : Cond) ∈ tG := tg3 (i := 87) rfl rfl
theorem wd_3_88 : (.methodLink "MuseumHouse" 159 ⟨"MuseumHouse$Items", "hasFind", "(I)Z"⟩ : Cond) ∈ tG := tg3 (i := 88) rfl rfl
theorem wd_3_89 : (.instanceMethod ⟨"MuseumHouse$Items", "hasFind", "(I)Z"⟩ : Cond) ∈ tG := tg3 (i := 89) rfl rfl
theorem wd_3_90 : (.selects "MuseumHouse$Items" ⟨"MuseumHouse$Items", "hasFind", "(I)Z"⟩ ⟨"MuseumHouse$Items", "hasFind", "(I)Z"⟩ : Cond) ∈ tG := tg3 (i := 90) rfl rfl
theorem wd_3_91 : (.code ⟨"MuseumHouse$Items", "hasFind", "(I)Z"⟩ prog_6_method_3_code 3 (some .boolean) : Cond) ∈ tG := tg3 (i := 91) rfl rfl
theorem wd_3_92 : (.methodLink "MuseumHouse$Items" 26 ⟨"MuseumHouse$Items", "size", "()I"⟩ : Cond) ∈ tG := tg3 (i := 92) rfl rfl
theorem wd_3_93 : (.sameMethod "MuseumHouse$Items" "MuseumHouse$Register" "size" "()I" : Cond) ∈ tG := tg3 (i := 93) rfl rfl
theorem wd_3_94 : (.selects "MuseumHouse$Items" ⟨"MuseumHouse$Items", "size", "()I"⟩ ⟨"MuseumHouse$Register", "size", "()I"⟩ : Cond) ∈ tG := tg3 (i := 94) rfl rfl
theorem wd_3_95 : (.methodLink "MuseumHouse" 162 ⟨"MuseumHouse$Finds", "dayOf", "(I)I"⟩ : Cond) ∈ tG := tg3 (i := 95) rfl rfl
theorem wd_3_96 : (.instanceMethod ⟨"MuseumHouse$Finds", "dayOf", "(I)I"⟩ : Cond) ∈ tG := tg3 (i := 96) rfl rfl
theorem wd_3_97 : (.selects "MuseumHouse$Finds" ⟨"MuseumHouse$Finds", "dayOf", "(I)I"⟩ ⟨"MuseumHouse$Finds", "dayOf", "(I)I"⟩ : Cond) ∈ tG := tg3 (i := 97) rfl rfl
theorem wd_3_98 : (.code ⟨"MuseumHouse$Finds", "dayOf", "(I)I"⟩ prog_5_method_4_code 2 (some .int) : Cond) ∈ tG := tg3 (i := 98) rfl rfl
theorem wd_3_99 : (.methodLink "MuseumHouse" 165 ⟨"MuseumHouse$Items", "accept", "(II)I"⟩ : Cond) ∈ tG := tg3 (i := 99) rfl rfl
theorem wd_3_100 : (.instanceMethod ⟨"MuseumHouse$Items", "accept", "(II)I"⟩ : Cond) ∈ tG := tg3 (i := 100) rfl rfl
theorem wd_3_101 : (.selects "MuseumHouse$Items" ⟨"MuseumHouse$Items", "accept", "(II)I"⟩ ⟨"MuseumHouse$Items", "accept", "(II)I"⟩ : Cond) ∈ tG := tg3 (i := 101) rfl rfl
theorem wd_3_102 : (.code ⟨"MuseumHouse$Items", "accept", "(II)I"⟩ prog_6_method_2_code 4 (some .int) : Cond) ∈ tG := tg3 (i := 102) rfl rfl
theorem wd_3_103 : (.methodLink "MuseumHouse$Items" 18 ⟨"MuseumHouse$Items", "enter", "()I"⟩ : Cond) ∈ tG := tg3 (i := 103) rfl rfl
theorem wd_3_104 : (.sameMethod "MuseumHouse$Items" "MuseumHouse$Register" "enter" "()I" : Cond) ∈ tG := tg3 (i := 104) rfl rfl
theorem wd_3_105 : (.selects "MuseumHouse$Items" ⟨"MuseumHouse$Items", "enter", "()I"⟩ ⟨"MuseumHouse$Register", "enter", "()I"⟩ : Cond) ∈ tG := tg3 (i := 105) rfl rfl
theorem wd_3_106 : (.methodLink "MuseumHouse$Items" 22 ⟨"MuseumHouse$Items", "handleOf", "(I)I"⟩ : Cond) ∈ tG := tg3 (i := 106) rfl rfl
theorem wd_3_107 : (.sameMethod "MuseumHouse$Items" "MuseumHouse$Register" "handleOf" "(I)I" : Cond) ∈ tG := tg3 (i := 107) rfl rfl
theorem wd_3_108 : (.selects "MuseumHouse$Items" ⟨"MuseumHouse$Items", "handleOf", "(I)I"⟩ ⟨"MuseumHouse$Register", "handleOf", "(I)I"⟩ : Cond) ∈ tG := tg3 (i := 108) rfl rfl
theorem wd_3_109 : (.methodLink "MuseumHouseLaw" 147 ⟨"MuseumHouseLaw", "store", "(LMuseumHouse;II[J)I"⟩ : Cond) ∈ tG := tg3 (i := 109) rfl rfl
theorem wd_3_110 : (.static ⟨"MuseumHouseLaw", "store", "(LMuseumHouse;II[J)I"⟩ : Cond) ∈ tG := tg3 (i := 110) rfl rfl
theorem wd_3_111 : (.codeWith ⟨"MuseumHouseLaw", "store", "(LMuseumHouse;II[J)I"⟩ method_13_code 5 (some .int) [(0, 10, 13, 13), (0, 10, 17, 15)] : Cond) ∈ tG := tg3 (i := 111) rfl rfl
theorem wd_3_112 : (.methodLink "MuseumHouseLaw" 51 ⟨"MuseumHouse", "store", "(II)I"⟩ : Cond) ∈ tG := tg3 (i := 112) rfl rfl
theorem wd_3_113 : (.instanceMethod ⟨"MuseumHouse", "store", "(II)I"⟩ : Cond) ∈ tG := tg3 (i := 113) rfl rfl
theorem wd_3_114 : (.selects "MuseumHouse" ⟨"MuseumHouse", "store", "(II)I"⟩ ⟨"MuseumHouse", "store", "(II)I"⟩ : Cond) ∈ tG := tg3 (i := 114) rfl rfl
theorem wd_3_115 : (.code ⟨"MuseumHouse", "store", "(II)I"⟩ prog_1_method_12_code 5 (some .int) : Cond) ∈ tG := tg3 (i := 115) rfl rfl
theorem wd_3_116 : (.methodLink "MuseumHouse" 168 ⟨"MuseumHouse", "parentNumberOf", "(I)I"⟩ : Cond) ∈ tG := tg3 (i := 116) rfl rfl
theorem wd_3_118 : (.instanceMethod ⟨"MuseumHouse", "parentNumberOf", "(I)I"⟩ : Cond) ∈ tG := tg3 (i := 118) rfl rfl
theorem wd_3_119 : (.code ⟨"MuseumHouse", "parentNumberOf", "(I)I"⟩ prog_1_method_31_code 2 (some .int) : Cond) ∈ tG := tg3 (i := 119) rfl rfl
theorem wd_3_120 : (.methodLink "MuseumHouse" 171 ⟨"MuseumHouse$Stores", "isFull", "()Z"⟩ : Cond) ∈ tG := tg3 (i := 120) rfl rfl
theorem wd_3_121 : (.sameMethod "MuseumHouse$Stores" "MuseumHouse$Register" "isFull" "()Z" : Cond) ∈ tG := tg3 (i := 121) rfl rfl
theorem wd_3_122 : (.selects "MuseumHouse$Stores" ⟨"MuseumHouse$Stores", "isFull", "()Z"⟩ ⟨"MuseumHouse$Register", "isFull", "()Z"⟩ : Cond) ∈ tG := tg3 (i := 122) rfl rfl
theorem wd_3_123 : (.methodLink "MuseumHouse" 172 ⟨"MuseumHouse$Stores", "build", "(I)I"⟩ : Cond) ∈ tG := tg3 (i := 123) rfl rfl
theorem wd_3_124 : (.instanceMethod ⟨"MuseumHouse$Stores", "build", "(I)I"⟩ : Cond) ∈ tG := tg3 (i := 124) rfl rfl
theorem wd_3_125 : (.selects "MuseumHouse$Stores" ⟨"MuseumHouse$Stores", "build", "(I)I"⟩ ⟨"MuseumHouse$Stores", "build", "(I)I"⟩ : Cond) ∈ tG := tg3 (i := 125) rfl rfl
theorem wd_3_126 : (.code ⟨"MuseumHouse$Stores", "build", "(I)I"⟩ prog_12_method_2_code 3 (some .int) : Cond) ∈ tG := tg3 (i := 126) rfl rfl
theorem wd_3_127 : (.methodLink "MuseumHouse$Stores" 15 ⟨"MuseumHouse$Stores", "enter", "()I"⟩ : Cond) ∈ tG := tg3 (i := 127) rfl rfl
theorem wd_3_128 : (.sameMethod "MuseumHouse$Stores" "MuseumHouse$Register" "enter" "()I" : Cond) ∈ tG := tg3 (i := 128) rfl rfl
theorem wd_3_129 : (.selects "MuseumHouse$Stores" ⟨"MuseumHouse$Stores", "enter", "()I"⟩ ⟨"MuseumHouse$Register", "enter", "()I"⟩ : Cond) ∈ tG := tg3 (i := 129) rfl rfl
theorem wd_3_130 : (.methodLink "MuseumHouse$Stores" 19 ⟨"MuseumHouse$Stores", "handleOf", "(I)I"⟩ : Cond) ∈ tG := tg3 (i := 130) rfl rfl
theorem wd_3_131 : (.sameMethod "MuseumHouse$Stores" "MuseumHouse$Register" "handleOf" "(I)I" : Cond) ∈ tG := tg3 (i := 131) rfl rfl
theorem wd_3_132 : (.selects "MuseumHouse$Stores" ⟨"MuseumHouse$Stores", "handleOf", "(I)I"⟩ ⟨"MuseumHouse$Register", "handleOf", "(I)I"⟩ : Cond) ∈ tG := tg3 (i := 132) rfl rfl
theorem wd_3_133 : (.methodLink "MuseumHouseLaw" 150 ⟨"MuseumHouseLaw", "carry", "(LMuseumHouse;III[J)I"⟩ : Cond) ∈ tG := tg3 (i := 133) rfl rfl
theorem wd_3_134 : (.static ⟨"MuseumHouseLaw", "carry", "(LMuseumHouse;III[J)I"⟩ : Cond) ∈ tG := tg3 (i := 134) rfl rfl
theorem wd_3_135 : (.codeWith ⟨"MuseumHouseLaw", "carry", "(LMuseumHouse;III[J)I"⟩ method_14_code 6 (some .int) [(0, 19, 22, 13), (0, 19, 26, 15), (0, 19, 30, 17)] : Cond) ∈ tG := tg3 (i := 135) rfl rfl
theorem wd_3_136 : (.methodLink "MuseumHouseLaw" 54 ⟨"MuseumHouse", "carry", "(III)Z"⟩ : Cond) ∈ tG := tg3 (i := 136) rfl rfl
theorem wd_3_137 : (.instanceMethod ⟨"MuseumHouse", "carry", "(III)Z"⟩ : Cond) ∈ tG := tg3 (i := 137) rfl rfl
theorem wd_3_138 : (.selects "MuseumHouse" ⟨"MuseumHouse", "carry", "(III)Z"⟩ ⟨"MuseumHouse", "carry", "(III)Z"⟩ : Cond) ∈ tG := tg3 (i := 138) rfl rfl
theorem wd_3_139 : (.code ⟨"MuseumHouse", "carry", "(III)Z"⟩ prog_1_method_13_code 8 (some .boolean) : Cond) ∈ tG := tg3 (i := 139) rfl rfl
theorem wd_3_140 : (.methodLink "MuseumHouse" 175 ⟨"MuseumHouse$Stores", "isAtOrIn", "(II)Z"⟩ : Cond) ∈ tG := tg3 (i := 140) rfl rfl
theorem wd_3_141 : (.instanceMethod ⟨"MuseumHouse$Stores", "isAtOrIn", "(II)Z"⟩ : Cond) ∈ tG := tg3 (i := 141) rfl rfl
theorem wd_3_142 : (.selects "MuseumHouse$Stores" ⟨"MuseumHouse$Stores", "isAtOrIn", "(II)Z"⟩ ⟨"MuseumHouse$Stores", "isAtOrIn", "(II)Z"⟩ : Cond) ∈ tG := tg3 (i := 142) rfl rfl
theorem wd_3_143 : (.code ⟨"MuseumHouse$Stores", "isAtOrIn", "(II)Z"⟩ prog_12_method_6_code 3 (some .boolean) : Cond) ∈ tG := tg3 (i := 143) rfl rfl
theorem wd_3_144 : (.methodLink "MuseumHouse$Stores" 23 ⟨"MuseumHouse$Stores", "isIn", "(II)Z"⟩ : Cond) ∈ tG := tg3 (i := 144) rfl rfl
theorem wd_3_145 : (.instanceMethod ⟨"MuseumHouse$Stores", "isIn", "(II)Z"⟩ : Cond) ∈ tG := tg3 (i := 145) rfl rfl
theorem wd_3_146 : (.selects "MuseumHouse$Stores" ⟨"MuseumHouse$Stores", "isIn", "(II)Z"⟩ ⟨"MuseumHouse$Stores", "isIn", "(II)Z"⟩ : Cond) ∈ tG := tg3 (i := 146) rfl rfl
theorem wd_3_147 : (.code ⟨"MuseumHouse$Stores", "isIn", "(II)Z"⟩ prog_12_method_5_code 5 (some .boolean) : Cond) ∈ tG := tg3 (i := 147) rfl rfl
theorem wd_3_148 : (.methodLink "MuseumHouse" 178 ⟨"MuseumHouse$Stores", "parentOf", "(I)I"⟩ : Cond) ∈ tG := tg3 (i := 148) rfl rfl
theorem wd_3_149 : (.instanceMethod ⟨"MuseumHouse$Stores", "parentOf", "(I)I"⟩ : Cond) ∈ tG := tg3 (i := 149) rfl rfl
theorem wd_3_150 : (.selects "MuseumHouse$Stores" ⟨"MuseumHouse$Stores", "parentOf", "(I)I"⟩ ⟨"MuseumHouse$Stores", "parentOf", "(I)I"⟩ : Cond) ∈ tG := tg3 (i := 150) rfl rfl
theorem wd_3_151 : (.code ⟨"MuseumHouse$Stores", "parentOf", "(I)I"⟩ prog_12_method_3_code 2 (some .int) : Cond) ∈ tG := tg3 (i := 151) rfl rfl
theorem wd_3_152 : (.methodLink "MuseumHouse" 181 ⟨"MuseumHouse$Stores", "setParent", "(II)V"⟩ : Cond) ∈ tG := tg3 (i := 152) rfl rfl
theorem wd_3_153 : (.instanceMethod ⟨"MuseumHouse$Stores", "setParent", "(II)V"⟩ : Cond) ∈ tG := tg3 (i := 153) rfl rfl
theorem wd_3_154 : (.selects "MuseumHouse$Stores" ⟨"MuseumHouse$Stores", "setParent", "(II)V"⟩ ⟨"MuseumHouse$Stores", "setParent", "(II)V"⟩ : Cond) ∈ tG := tg3 (i := 154) rfl rfl
theorem wd_3_155 : (.code ⟨"MuseumHouse$Stores", "setParent", "(II)V"⟩ prog_12_method_4_code 3 (none : Option Jvm.ClassFile.FieldType) : Cond) ∈ tG := tg3 (i := 155) rfl rfl
theorem wd_3_156 : (.methodLink "MuseumHouseLaw" 153 ⟨"MuseumHouseLaw", "within", "(LMuseumHouse;II[J)I"⟩ : Cond) ∈ tG := tg3 (i := 156) rfl rfl
theorem wd_3_157 : (.static ⟨"MuseumHouseLaw", "within", "(LMuseumHouse;II[J)I"⟩ : Cond) ∈ tG := tg3 (i := 157) rfl rfl
theorem wd_3_158 : (.codeWith ⟨"MuseumHouseLaw", "within", "(LMuseumHouse;II[J)I"⟩ method_15_code 5 (some .int) [(0, 17, 20, 13)] : Cond) ∈ tG := tg3 (i := 158) rfl rfl
theorem wd_3_159 : (.methodLink "MuseumHouseLaw" 57 ⟨"MuseumHouse", "within", "(II)Z"⟩ : Cond) ∈ tG := tg3 (i := 159) rfl rfl
theorem wd_3_160 : (.instanceMethod ⟨"MuseumHouse", "within", "(II)Z"⟩ : Cond) ∈ tG := tg3 (i := 160) rfl rfl
theorem wd_3_161 : (.selects "MuseumHouse" ⟨"MuseumHouse", "within", "(II)Z"⟩ ⟨"MuseumHouse", "within", "(II)Z"⟩ : Cond) ∈ tG := tg3 (i := 161) rfl rfl
theorem wd_3_162 : (.code ⟨"MuseumHouse", "within", "(II)Z"⟩ prog_1_method_14_code 5 (some .boolean) : Cond) ∈ tG := tg3 (i := 162) rfl rfl
theorem wd_3_163 : (.methodLink "MuseumHouse" 184 ⟨"MuseumHouse$Stores", "isIn", "(II)Z"⟩ : Cond) ∈ tG := tg3 (i := 163) rfl rfl
theorem wd_3_164 : (.methodLink "MuseumHouseLaw" 156 ⟨"MuseumHouseLaw", "move", "(LMuseumHouse;IIII[J)I"⟩ : Cond) ∈ tG := tg3 (i := 164) rfl rfl
theorem wd_3_165 : (.static ⟨"MuseumHouseLaw", "move", "(LMuseumHouse;IIII[J)I"⟩ : Cond) ∈ tG := tg3 (i := 165) rfl rfl
theorem wd_3_166 : (.codeWith ⟨"MuseumHouseLaw", "move", "(LMuseumHouse;IIII[J)I"⟩ method_16_code 7 (some .int) [(0, 21, 24, 13), (0, 21, 28, 15), (0, 21, 32, 17)] : Cond) ∈ tG := tg3 (i := 166) rfl rfl
theorem wd_3_167 : (.methodLink "MuseumHouseLaw" 60 ⟨"MuseumHouse", "move", "(IIII)Z"⟩ : Cond) ∈ tG := tg3 (i := 167) rfl rfl
theorem wd_3_168 : (.instanceMethod ⟨"MuseumHouse", "move", "(IIII)Z"⟩ : Cond) ∈ tG := tg3 (i := 168) rfl rfl
theorem wd_3_169 : (.selects "MuseumHouse" ⟨"MuseumHouse", "move", "(IIII)Z"⟩ ⟨"MuseumHouse", "move", "(IIII)Z"⟩ : Cond) ∈ tG := tg3 (i := 169) rfl rfl
theorem wd_3_170 : (.code ⟨"MuseumHouse", "move", "(IIII)Z"⟩ prog_1_method_15_code 9 (some .boolean) : Cond) ∈ tG := tg3 (i := 170) rfl rfl
theorem wd_3_171 : (.methodLink "MuseumHouse" 187 ⟨"MuseumHouse$Moves", "hasDay", "(II)Z"⟩ : Cond) ∈ tG := tg3 (i := 171) rfl rfl
theorem wd_3_172 : (.instanceMethod ⟨"MuseumHouse$Moves", "hasDay", "(II)Z"⟩ : Cond) ∈ tG := tg3 (i := 172) rfl rfl
theorem wd_3_173 : (.selects "MuseumHouse$Moves" ⟨"MuseumHouse$Moves", "hasDay", "(II)Z"⟩ ⟨"MuseumHouse$Moves", "hasDay", "(II)Z"⟩ : Cond) ∈ tG := tg3 (i := 173) rfl rfl
theorem wd_3_174 : (.code ⟨"MuseumHouse$Moves", "hasDay", "(II)Z"⟩ prog_8_method_3_code 3 (some .boolean) : Cond) ∈ tG := tg3 (i := 174) rfl rfl
theorem wd_3_175 : (.methodLink "MuseumHouse$Moves" 21 ⟨"MuseumHouse$Moves", "slotOf", "(II)I"⟩ : Cond) ∈ tG := tg3 (i := 175) rfl rfl
theorem wd_3_177 : (.instanceMethod ⟨"MuseumHouse$Moves", "slotOf", "(II)I"⟩ : Cond) ∈ tG := tg3 (i := 177) rfl rfl
theorem wd_3_178 : (.code ⟨"MuseumHouse$Moves", "slotOf", "(II)I"⟩ prog_8_method_6_code 5 (some .int) : Cond) ∈ tG := tg3 (i := 178) rfl rfl
theorem wd_3_179 : (.methodLink "MuseumHouse$Moves" 25 ⟨"MuseumHouse$Moves", "endOfSlots", "(I)I"⟩ : Cond) ∈ tG := tg3 (i := 179) rfl rfl
theorem wd_3_181 : (.instanceMethod ⟨"MuseumHouse$Moves", "endOfSlots", "(I)I"⟩ : Cond) ∈ tG := tg3 (i := 181) rfl rfl
theorem wd_3_182 : (.code ⟨"MuseumHouse$Moves", "endOfSlots", "(I)I"⟩ prog_8_method_8_code 2 (some .int) : Cond) ∈ tG := tg3 (i := 182) rfl rfl
theorem wd_3_183 : (.methodLink "MuseumHouse$Moves" 29 ⟨"MuseumHouse$Moves", "firstSlot", "(I)I"⟩ : Cond) ∈ tG := tg3 (i := 183) rfl rfl
theorem wd_3_185 : (.instanceMethod ⟨"MuseumHouse$Moves", "firstSlot", "(I)I"⟩ : Cond) ∈ tG := tg3 (i := 185) rfl rfl
theorem wd_3_186 : (.code ⟨"MuseumHouse$Moves", "firstSlot", "(I)I"⟩ prog_8_method_7_code 2 (some .int) : Cond) ∈ tG := tg3 (i := 186) rfl rfl
theorem wd_3_187 : (.methodLink "MuseumHouse" 190 ⟨"MuseumHouse$Moves", "isFullFor", "(I)Z"⟩ : Cond) ∈ tG := tg3 (i := 187) rfl rfl
theorem wd_3_188 : (.instanceMethod ⟨"MuseumHouse$Moves", "isFullFor", "(I)Z"⟩ : Cond) ∈ tG := tg3 (i := 188) rfl rfl
theorem wd_3_189 : (.selects "MuseumHouse$Moves" ⟨"MuseumHouse$Moves", "isFullFor", "(I)Z"⟩ ⟨"MuseumHouse$Moves", "isFullFor", "(I)Z"⟩ : Cond) ∈ tG := tg3 (i := 189) rfl rfl
theorem wd_3_190 : (.code ⟨"MuseumHouse$Moves", "isFullFor", "(I)Z"⟩ prog_8_method_2_code 2 (some .boolean) : Cond) ∈ tG := tg3 (i := 190) rfl rfl
theorem wd_3_191 : (.methodLink "MuseumHouse" 193 ⟨"MuseumHouse$Items", "dayOf", "(I)I"⟩ : Cond) ∈ tG := tg3 (i := 191) rfl rfl
theorem wd_3_192 : (.instanceMethod ⟨"MuseumHouse$Items", "dayOf", "(I)I"⟩ : Cond) ∈ tG := tg3 (i := 192) rfl rfl
theorem wd_3_193 : (.selects "MuseumHouse$Items" ⟨"MuseumHouse$Items", "dayOf", "(I)I"⟩ ⟨"MuseumHouse$Items", "dayOf", "(I)I"⟩ : Cond) ∈ tG := tg3 (i := 193) rfl rfl
theorem wd_3_194 : (.code ⟨"MuseumHouse$Items", "dayOf", "(I)I"⟩ prog_6_method_5_code 2 (some .int) : Cond) ∈ tG := tg3 (i := 194) rfl rfl
theorem wd_3_195 : (.methodLink "MuseumHouse" 194 ⟨"MuseumHouse$Loans", "having", "(III)I"⟩ : Cond) ∈ tG := tg3 (i := 195) rfl rfl
theorem wd_3_196 : (.instanceMethod ⟨"MuseumHouse$Loans", "having", "(III)I"⟩ : Cond) ∈ tG := tg3 (i := 196) rfl rfl
theorem wd_3_197 : (.selects "MuseumHouse$Loans" ⟨"MuseumHouse$Loans", "having", "(III)I"⟩ ⟨"MuseumHouse$Loans", "having", "(III)I"⟩ : Cond) ∈ tG := tg3 (i := 197) rfl rfl
theorem wd_3_198 : (.code ⟨"MuseumHouse$Loans", "having", "(III)I"⟩ prog_7_method_6_code 5 (some .int) : Cond) ∈ tG := tg3 (i := 198) rfl rfl
theorem wd_3_199 : (.methodLink "MuseumHouse$Loans" 29 ⟨"MuseumHouse$Loans", "size", "()I"⟩ : Cond) ∈ tG := tg3 (i := 199) rfl rfl
theorem wd_3_200 : (.sameMethod "MuseumHouse$Loans" "MuseumHouse$Register" "size" "()I" : Cond) ∈ tG := tg3 (i := 200) rfl rfl
theorem wd_3_201 : (.selects "MuseumHouse$Loans" ⟨"MuseumHouse$Loans", "size", "()I"⟩ ⟨"MuseumHouse$Register", "size", "()I"⟩ : Cond) ∈ tG := tg3 (i := 201) rfl rfl
theorem wd_3_203 : (.static ⟨"MuseumHouse", "daysMeet", "(IIII)Z"⟩ : Cond) ∈ tG := tg3 (i := 203) rfl rfl
theorem wd_3_204 : (.code ⟨"MuseumHouse", "daysMeet", "(IIII)Z"⟩ prog_1_method_38_code 4 (some .boolean) : Cond) ∈ tG := tg3 (i := 204) rfl rfl
theorem wd_3_205 : (.methodLink "MuseumHouse" 198 ⟨"MuseumHouse$Moves", "tell", "(III)V"⟩ : Cond) ∈ tG := tg3 (i := 205) rfl rfl
theorem wd_3_206 : (.instanceMethod ⟨"MuseumHouse$Moves", "tell", "(III)V"⟩ : Cond) ∈ tG := tg3 (i := 206) rfl rfl
theorem wd_3_207 : (.selects "MuseumHouse$Moves" ⟨"MuseumHouse$Moves", "tell", "(III)V"⟩ ⟨"MuseumHouse$Moves", "tell", "(III)V"⟩ : Cond) ∈ tG := tg3 (i := 207) rfl rfl
theorem wd_3_208 : (.code ⟨"MuseumHouse$Moves", "tell", "(III)V"⟩ prog_8_method_4_code 5 (none : Option Jvm.ClassFile.FieldType) : Cond) ∈ tG := tg3 (i := 208) rfl rfl
theorem wd_3_209 : (.methodLink "MuseumHouseLaw" 159 ⟨"MuseumHouseLaw", "place", "(LMuseumHouse;II[J)I"⟩ : Cond) ∈ tG := tg3 (i := 209) rfl rfl
theorem wd_3_210 : (.static ⟨"MuseumHouseLaw", "place", "(LMuseumHouse;II[J)I"⟩ : Cond) ∈ tG := tg3 (i := 210) rfl rfl
theorem wd_3_211 : (.codeWith ⟨"MuseumHouseLaw", "place", "(LMuseumHouse;II[J)I"⟩ method_17_code 5 (some .int) [(0, 10, 13, 13), (0, 10, 17, 17)] : Cond) ∈ tG := tg3 (i := 211) rfl rfl
theorem wd_3_212 : (.methodLink "MuseumHouseLaw" 64 ⟨"MuseumHouse", "place", "(II)I"⟩ : Cond) ∈ tG := tg3 (i := 212) rfl rfl
theorem wd_3_213 : (.instanceMethod ⟨"MuseumHouse", "place", "(II)I"⟩ : Cond) ∈ tG := tg3 (i := 213) rfl rfl
theorem wd_3_214 : (.selects "MuseumHouse" ⟨"MuseumHouse", "place", "(II)I"⟩ ⟨"MuseumHouse", "place", "(II)I"⟩ : Cond) ∈ tG := tg3 (i := 214) rfl rfl
theorem wd_3_215 : (.code ⟨"MuseumHouse", "place", "(II)I"⟩ prog_1_method_16_code 4 (some .int) : Cond) ∈ tG := tg3 (i := 215) rfl rfl
theorem wd_3_216 : (.methodLink "MuseumHouse" 201 ⟨"MuseumHouse", "placeHandle", "(II)I"⟩ : Cond) ∈ tG := tg3 (i := 216) rfl rfl
theorem wd_3_218 : (.instanceMethod ⟨"MuseumHouse", "placeHandle", "(II)I"⟩ : Cond) ∈ tG := tg3 (i := 218) rfl rfl
theorem wd_3_219 : (.code ⟨"MuseumHouse", "placeHandle", "(II)I"⟩ prog_1_method_36_code 4 (some .int) : Cond) ∈ tG := tg3 (i := 219) rfl rfl
theorem wd_3_220 : (.methodLink "MuseumHouse" 207 ⟨"MuseumHouse$Moves", "storeOn", "(II)I"⟩ : Cond) ∈ tG := tg3 (i := 220) rfl rfl
theorem wd_3_221 : (.instanceMethod ⟨"MuseumHouse$Moves", "storeOn", "(II)I"⟩ : Cond) ∈ tG := tg3 (i := 221) rfl rfl
theorem wd_3_222 : (.selects "MuseumHouse$Moves" ⟨"MuseumHouse$Moves", "storeOn", "(II)I"⟩ ⟨"MuseumHouse$Moves", "storeOn", "(II)I"⟩ : Cond) ∈ tG := tg3 (i := 222) rfl rfl
theorem wd_3_223 : (.code ⟨"MuseumHouse$Moves", "storeOn", "(II)I"⟩ prog_8_method_5_code 7 (some .int) : Cond) ∈ tG := tg3 (i := 223) rfl rfl
theorem wd_3_224 : (.methodLink "MuseumHouse" 282 ⟨"MuseumHouse$Stores", "handleOf", "(I)I"⟩ : Cond) ∈ tG := tg3 (i := 224) rfl rfl
theorem wd_3_225 : (.methodLink "MuseumHouseLaw" 162 ⟨"MuseumHouseLaw", "stored", "(LMuseumHouse;II[J)I"⟩ : Cond) ∈ tG := tg3 (i := 225) rfl rfl
theorem wd_3_226 : (.static ⟨"MuseumHouseLaw", "stored", "(LMuseumHouse;II[J)I"⟩ : Cond) ∈ tG := tg3 (i := 226) rfl rfl
theorem wd_3_227 : (.codeWith ⟨"MuseumHouseLaw", "stored", "(LMuseumHouse;II[J)I"⟩ method_18_code 5 (some .int) [(0, 10, 13, 13), (0, 10, 17, 17)] : Cond) ∈ tG := tg3 (i := 227) rfl rfl
theorem wd_3_228 : (.methodLink "MuseumHouseLaw" 67 ⟨"MuseumHouse", "stored", "(II)I"⟩ : Cond) ∈ tG := tg3 (i := 228) rfl rfl
theorem wd_3_229 : (.instanceMethod ⟨"MuseumHouse", "stored", "(II)I"⟩ : Cond) ∈ tG := tg3 (i := 229) rfl rfl
theorem wd_3_230 : (.selects "MuseumHouse" ⟨"MuseumHouse", "stored", "(II)I"⟩ ⟨"MuseumHouse", "stored", "(II)I"⟩ : Cond) ∈ tG := tg3 (i := 230) rfl rfl
theorem wd_3_231 : (.code ⟨"MuseumHouse", "stored", "(II)I"⟩ prog_1_method_17_code 7 (some .int) : Cond) ∈ tG := tg3 (i := 231) rfl rfl
theorem wd_3_232 : (.methodLink "MuseumHouse" 204 ⟨"MuseumHouse$Items", "size", "()I"⟩ : Cond) ∈ tG := tg3 (i := 232) rfl rfl
theorem wd_3_233 : (.methodLink "MuseumHouseLaw" 165 ⟨"MuseumHouseLaw", "loan", "(LMuseumHouse;IIII[J)I"⟩ : Cond) ∈ tG := tg3 (i := 233) rfl rfl
theorem wd_3_234 : (.static ⟨"MuseumHouseLaw", "loan", "(LMuseumHouse;IIII[J)I"⟩ : Cond) ∈ tG := tg3 (i := 234) rfl rfl
theorem wd_3_235 : (.codeWith ⟨"MuseumHouseLaw", "loan", "(LMuseumHouse;IIII[J)I"⟩ method_19_code 7 (some .int) [(0, 14, 17, 13), (0, 14, 21, 15), (0, 14, 25, 17)] : Cond) ∈ tG := tg3 (i := 235) rfl rfl
theorem wd_3_236 : (.methodLink "MuseumHouseLaw" 70 ⟨"MuseumHouse", "loan", "(IIII)I"⟩ : Cond) ∈ tG := tg3 (i := 236) rfl rfl
theorem wd_3_237 : (.instanceMethod ⟨"MuseumHouse", "loan", "(IIII)I"⟩ : Cond) ∈ tG := tg3 (i := 237) rfl rfl
theorem wd_3_238 : (.selects "MuseumHouse" ⟨"MuseumHouse", "loan", "(IIII)I"⟩ ⟨"MuseumHouse", "loan", "(IIII)I"⟩ : Cond) ∈ tG := tg3 (i := 238) rfl rfl
theorem wd_3_239 : (.code ⟨"MuseumHouse", "loan", "(IIII)I"⟩ prog_1_method_18_code 7 (some .int) : Cond) ∈ tG := tg3 (i := 239) rfl rfl
theorem wd_4_0 : (.methodLink "MuseumHouse" 210 ⟨"MuseumHouse$Loans", "isFull", "()Z"⟩ : Cond) ∈ tG := tg4 (i := 0) rfl rfl
theorem wd_4_1 : (.sameMethod "MuseumHouse$Loans" "MuseumHouse$Register" "isFull" "()Z" : Cond) ∈ tG := tg4 (i := 1) rfl rfl
theorem wd_4_2 : (.selects "MuseumHouse$Loans" ⟨"MuseumHouse$Loans", "isFull", "()Z"⟩ ⟨"MuseumHouse$Register", "isFull", "()Z"⟩ : Cond) ∈ tG := tg4 (i := 2) rfl rfl
theorem wd_4_3 : (.methodLink "MuseumHouse" 211 ⟨"MuseumHouse", "askFree", "(III)V"⟩ : Cond) ∈ tG := tg4 (i := 3) rfl rfl
theorem wd_4_5 : (.instanceMethod ⟨"MuseumHouse", "askFree", "(III)V"⟩ : Cond) ∈ tG := tg4 (i := 5) rfl rfl
theorem wd_4_6 : (.code ⟨"MuseumHouse", "askFree", "(III)V"⟩ prog_1_method_35_code 4 (none : Option Jvm.ClassFile.FieldType) : Cond) ∈ tG := tg4 (i := 6) rfl rfl
theorem wd_4_7 : (.methodLink "MuseumHouse" 258 ⟨"MuseumHouse$Claims", "openFor", "(I)I"⟩ : Cond) ∈ tG := tg4 (i := 7) rfl rfl
theorem wd_4_8 : (.instanceMethod ⟨"MuseumHouse$Claims", "openFor", "(I)I"⟩ : Cond) ∈ tG := tg4 (i := 8) rfl rfl
theorem wd_4_9 : (.selects "MuseumHouse$Claims" ⟨"MuseumHouse$Claims", "openFor", "(I)I"⟩ ⟨"MuseumHouse$Claims", "openFor", "(I)I"⟩ : Cond) ∈ tG := tg4 (i := 9) rfl rfl
theorem wd_4_10 : (.code ⟨"MuseumHouse$Claims", "openFor", "(I)I"⟩ prog_2_method_7_code 4 (some .int) : Cond) ∈ tG := tg4 (i := 10) rfl rfl
theorem wd_4_11 : (.methodLink "MuseumHouse$Claims" 30 ⟨"MuseumHouse$Claims", "size", "()I"⟩ : Cond) ∈ tG := tg4 (i := 11) rfl rfl
theorem wd_4_12 : (.sameMethod "MuseumHouse$Claims" "MuseumHouse$Register" "size" "()I" : Cond) ∈ tG := tg4 (i := 12) rfl rfl
theorem wd_4_13 : (.selects "MuseumHouse$Claims" ⟨"MuseumHouse$Claims", "size", "()I"⟩ ⟨"MuseumHouse$Register", "size", "()I"⟩ : Cond) ∈ tG := tg4 (i := 13) rfl rfl
theorem wd_4_14 : (.methodLink "MuseumHouse" 264 ⟨"MuseumHouse$Shows", "having", "(III)I"⟩ : Cond) ∈ tG := tg4 (i := 14) rfl rfl
theorem wd_4_15 : (.instanceMethod ⟨"MuseumHouse$Shows", "having", "(III)I"⟩ : Cond) ∈ tG := tg4 (i := 15) rfl rfl
theorem wd_4_16 : (.selects "MuseumHouse$Shows" ⟨"MuseumHouse$Shows", "having", "(III)I"⟩ ⟨"MuseumHouse$Shows", "having", "(III)I"⟩ : Cond) ∈ tG := tg4 (i := 16) rfl rfl
theorem wd_4_17 : (.code ⟨"MuseumHouse$Shows", "having", "(III)I"⟩ prog_10_method_9_code 5 (some .int) : Cond) ∈ tG := tg4 (i := 17) rfl rfl
theorem wd_4_18 : (.methodLink "MuseumHouse$Shows" 32 ⟨"MuseumHouse$Shows", "size", "()I"⟩ : Cond) ∈ tG := tg4 (i := 18) rfl rfl
theorem wd_4_19 : (.sameMethod "MuseumHouse$Shows" "MuseumHouse$Register" "size" "()I" : Cond) ∈ tG := tg4 (i := 19) rfl rfl
theorem wd_4_20 : (.selects "MuseumHouse$Shows" ⟨"MuseumHouse$Shows", "size", "()I"⟩ ⟨"MuseumHouse$Register", "size", "()I"⟩ : Cond) ∈ tG := tg4 (i := 20) rfl rfl
theorem wd_4_21 : (.methodLink "MuseumHouse$Shows" 35 ⟨"MuseumHouse$Shows", "holds", "(II)Z"⟩ : Cond) ∈ tG := tg4 (i := 21) rfl rfl
theorem wd_4_22 : (.instanceMethod ⟨"MuseumHouse$Shows", "holds", "(II)Z"⟩ : Cond) ∈ tG := tg4 (i := 22) rfl rfl
theorem wd_4_23 : (.selects "MuseumHouse$Shows" ⟨"MuseumHouse$Shows", "holds", "(II)Z"⟩ ⟨"MuseumHouse$Shows", "holds", "(II)Z"⟩ : Cond) ∈ tG := tg4 (i := 23) rfl rfl
theorem wd_4_24 : (.code ⟨"MuseumHouse$Shows", "holds", "(II)Z"⟩ prog_10_method_6_code 3 (some .boolean) : Cond) ∈ tG := tg4 (i := 24) rfl rfl
theorem wd_4_26 : (.methodLink "MuseumHouse" 214 ⟨"MuseumHouse$Loans", "lend", "(III)I"⟩ : Cond) ∈ tG := tg4 (i := 26) rfl rfl
theorem wd_4_27 : (.instanceMethod ⟨"MuseumHouse$Loans", "lend", "(III)I"⟩ : Cond) ∈ tG := tg4 (i := 27) rfl rfl
theorem wd_4_28 : (.selects "MuseumHouse$Loans" ⟨"MuseumHouse$Loans", "lend", "(III)I"⟩ ⟨"MuseumHouse$Loans", "lend", "(III)I"⟩ : Cond) ∈ tG := tg4 (i := 28) rfl rfl
theorem wd_4_29 : (.code ⟨"MuseumHouse$Loans", "lend", "(III)I"⟩ prog_7_method_2_code 5 (some .int) : Cond) ∈ tG := tg4 (i := 29) rfl rfl
theorem wd_4_30 : (.methodLink "MuseumHouse$Loans" 21 ⟨"MuseumHouse$Loans", "enter", "()I"⟩ : Cond) ∈ tG := tg4 (i := 30) rfl rfl
theorem wd_4_31 : (.sameMethod "MuseumHouse$Loans" "MuseumHouse$Register" "enter" "()I" : Cond) ∈ tG := tg4 (i := 31) rfl rfl
theorem wd_4_32 : (.selects "MuseumHouse$Loans" ⟨"MuseumHouse$Loans", "enter", "()I"⟩ ⟨"MuseumHouse$Register", "enter", "()I"⟩ : Cond) ∈ tG := tg4 (i := 32) rfl rfl
theorem wd_4_33 : (.methodLink "MuseumHouse$Loans" 25 ⟨"MuseumHouse$Loans", "handleOf", "(I)I"⟩ : Cond) ∈ tG := tg4 (i := 33) rfl rfl
theorem wd_4_34 : (.sameMethod "MuseumHouse$Loans" "MuseumHouse$Register" "handleOf" "(I)I" : Cond) ∈ tG := tg4 (i := 34) rfl rfl
theorem wd_4_35 : (.selects "MuseumHouse$Loans" ⟨"MuseumHouse$Loans", "handleOf", "(I)I"⟩ ⟨"MuseumHouse$Register", "handleOf", "(I)I"⟩ : Cond) ∈ tG := tg4 (i := 35) rfl rfl
theorem wd_4_36 : (.methodLink "MuseumHouseLaw" 168 ⟨"MuseumHouseLaw", "back", "(LMuseumHouse;III[J)I"⟩ : Cond) ∈ tG := tg4 (i := 36) rfl rfl
theorem wd_4_37 : (.static ⟨"MuseumHouseLaw", "back", "(LMuseumHouse;III[J)I"⟩ : Cond) ∈ tG := tg4 (i := 37) rfl rfl
theorem wd_4_38 : (.codeWith ⟨"MuseumHouseLaw", "back", "(LMuseumHouse;III[J)I"⟩ method_20_code 6 (some .int) [(0, 12, 15, 13), (0, 12, 19, 15), (0, 12, 23, 17)] : Cond) ∈ tG := tg4 (i := 38) rfl rfl
theorem wd_4_39 : (.methodLink "MuseumHouseLaw" 73 ⟨"MuseumHouse", "back", "(III)I"⟩ : Cond) ∈ tG := tg4 (i := 39) rfl rfl
theorem wd_4_40 : (.instanceMethod ⟨"MuseumHouse", "back", "(III)I"⟩ : Cond) ∈ tG := tg4 (i := 40) rfl rfl
theorem wd_4_41 : (.selects "MuseumHouse" ⟨"MuseumHouse", "back", "(III)I"⟩ ⟨"MuseumHouse", "back", "(III)I"⟩ : Cond) ∈ tG := tg4 (i := 41) rfl rfl
theorem wd_4_42 : (.code ⟨"MuseumHouse", "back", "(III)I"⟩ prog_1_method_19_code 7 (some .int) : Cond) ∈ tG := tg4 (i := 42) rfl rfl
theorem wd_4_43 : (.methodLink "MuseumHouse" 217 ⟨"MuseumHouse$Loans", "hasDay", "(II)Z"⟩ : Cond) ∈ tG := tg4 (i := 43) rfl rfl
theorem wd_4_44 : (.instanceMethod ⟨"MuseumHouse$Loans", "hasDay", "(II)Z"⟩ : Cond) ∈ tG := tg4 (i := 44) rfl rfl
theorem wd_4_45 : (.selects "MuseumHouse$Loans" ⟨"MuseumHouse$Loans", "hasDay", "(II)Z"⟩ ⟨"MuseumHouse$Loans", "hasDay", "(II)Z"⟩ : Cond) ∈ tG := tg4 (i := 45) rfl rfl
theorem wd_4_46 : (.code ⟨"MuseumHouse$Loans", "hasDay", "(II)Z"⟩ prog_7_method_3_code 3 (some .boolean) : Cond) ∈ tG := tg4 (i := 46) rfl rfl
theorem wd_4_47 : (.methodLink "MuseumHouse" 218 ⟨"MuseumHouse$Loans", "lastDayOf", "(I)I"⟩ : Cond) ∈ tG := tg4 (i := 47) rfl rfl
theorem wd_4_48 : (.instanceMethod ⟨"MuseumHouse$Loans", "lastDayOf", "(I)I"⟩ : Cond) ∈ tG := tg4 (i := 48) rfl rfl
theorem wd_4_49 : (.selects "MuseumHouse$Loans" ⟨"MuseumHouse$Loans", "lastDayOf", "(I)I"⟩ ⟨"MuseumHouse$Loans", "lastDayOf", "(I)I"⟩ : Cond) ∈ tG := tg4 (i := 49) rfl rfl
theorem wd_4_50 : (.code ⟨"MuseumHouse$Loans", "lastDayOf", "(I)I"⟩ prog_7_method_4_code 2 (some .int) : Cond) ∈ tG := tg4 (i := 50) rfl rfl
theorem wd_4_51 : (.methodLink "MuseumHouse" 221 ⟨"MuseumHouse$Loans", "endOn", "(II)V"⟩ : Cond) ∈ tG := tg4 (i := 51) rfl rfl
theorem wd_4_52 : (.instanceMethod ⟨"MuseumHouse$Loans", "endOn", "(II)V"⟩ : Cond) ∈ tG := tg4 (i := 52) rfl rfl
theorem wd_4_53 : (.selects "MuseumHouse$Loans" ⟨"MuseumHouse$Loans", "endOn", "(II)V"⟩ ⟨"MuseumHouse$Loans", "endOn", "(II)V"⟩ : Cond) ∈ tG := tg4 (i := 53) rfl rfl
theorem wd_4_54 : (.code ⟨"MuseumHouse$Loans", "endOn", "(II)V"⟩ prog_7_method_5_code 3 (none : Option Jvm.ClassFile.FieldType) : Cond) ∈ tG := tg4 (i := 54) rfl rfl
theorem wd_4_55 : (.methodLink "MuseumHouseLaw" 171 ⟨"MuseumHouseLaw", "show", "(LMuseumHouse;IIII[J)I"⟩ : Cond) ∈ tG := tg4 (i := 55) rfl rfl
theorem wd_4_56 : (.static ⟨"MuseumHouseLaw", "show", "(LMuseumHouse;IIII[J)I"⟩ : Cond) ∈ tG := tg4 (i := 56) rfl rfl
theorem wd_4_57 : (.codeWith ⟨"MuseumHouseLaw", "show", "(LMuseumHouse;IIII[J)I"⟩ method_21_code 7 (some .int) [(0, 14, 17, 13), (0, 14, 21, 15), (0, 14, 25, 17)] : Cond) ∈ tG := tg4 (i := 57) rfl rfl
theorem wd_4_58 : (.methodLink "MuseumHouseLaw" 76 ⟨"MuseumHouse", "show", "(IIII)I"⟩ : Cond) ∈ tG := tg4 (i := 58) rfl rfl
theorem wd_4_59 : (.instanceMethod ⟨"MuseumHouse", "show", "(IIII)I"⟩ : Cond) ∈ tG := tg4 (i := 59) rfl rfl
theorem wd_4_60 : (.selects "MuseumHouse" ⟨"MuseumHouse", "show", "(IIII)I"⟩ ⟨"MuseumHouse", "show", "(IIII)I"⟩ : Cond) ∈ tG := tg4 (i := 60) rfl rfl
theorem wd_4_61 : (.code ⟨"MuseumHouse", "show", "(IIII)I"⟩ prog_1_method_20_code 7 (some .int) : Cond) ∈ tG := tg4 (i := 61) rfl rfl
theorem wd_4_62 : (.methodLink "MuseumHouse" 224 ⟨"MuseumHouse$Shows", "isFull", "()Z"⟩ : Cond) ∈ tG := tg4 (i := 62) rfl rfl
theorem wd_4_63 : (.sameMethod "MuseumHouse$Shows" "MuseumHouse$Register" "isFull" "()Z" : Cond) ∈ tG := tg4 (i := 63) rfl rfl
theorem wd_4_64 : (.selects "MuseumHouse$Shows" ⟨"MuseumHouse$Shows", "isFull", "()Z"⟩ ⟨"MuseumHouse$Register", "isFull", "()Z"⟩ : Cond) ∈ tG := tg4 (i := 64) rfl rfl
theorem wd_4_65 : (.methodLink "MuseumHouse" 225 ⟨"MuseumHouse$Shows", "plan", "(III)I"⟩ : Cond) ∈ tG := tg4 (i := 65) rfl rfl
theorem wd_4_66 : (.instanceMethod ⟨"MuseumHouse$Shows", "plan", "(III)I"⟩ : Cond) ∈ tG := tg4 (i := 66) rfl rfl
theorem wd_4_67 : (.selects "MuseumHouse$Shows" ⟨"MuseumHouse$Shows", "plan", "(III)I"⟩ ⟨"MuseumHouse$Shows", "plan", "(III)I"⟩ : Cond) ∈ tG := tg4 (i := 67) rfl rfl
theorem wd_4_68 : (.code ⟨"MuseumHouse$Shows", "plan", "(III)I"⟩ prog_10_method_2_code 5 (some .int) : Cond) ∈ tG := tg4 (i := 68) rfl rfl
theorem wd_4_69 : (.methodLink "MuseumHouse$Shows" 24 ⟨"MuseumHouse$Shows", "enter", "()I"⟩ : Cond) ∈ tG := tg4 (i := 69) rfl rfl
theorem wd_4_70 : (.sameMethod "MuseumHouse$Shows" "MuseumHouse$Register" "enter" "()I" : Cond) ∈ tG := tg4 (i := 70) rfl rfl
theorem wd_4_71 : (.selects "MuseumHouse$Shows" ⟨"MuseumHouse$Shows", "enter", "()I"⟩ ⟨"MuseumHouse$Register", "enter", "()I"⟩ : Cond) ∈ tG := tg4 (i := 71) rfl rfl
theorem wd_4_72 : (.methodLink "MuseumHouse$Shows" 28 ⟨"MuseumHouse$Shows", "handleOf", "(I)I"⟩ : Cond) ∈ tG := tg4 (i := 72) rfl rfl
theorem wd_4_73 : (.sameMethod "MuseumHouse$Shows" "MuseumHouse$Register" "handleOf" "(I)I" : Cond) ∈ tG := tg4 (i := 73) rfl rfl
theorem wd_4_74 : (.selects "MuseumHouse$Shows" ⟨"MuseumHouse$Shows", "handleOf", "(I)I"⟩ ⟨"MuseumHouse$Register", "handleOf", "(I)I"⟩ : Cond) ∈ tG := tg4 (i := 74) rfl rfl
theorem wd_4_75 : (.methodLink "MuseumHouseLaw" 174 ⟨"MuseumHouseLaw", "hang", "(LMuseumHouse;III[J)I"⟩ : Cond) ∈ tG := tg4 (i := 75) rfl rfl
theorem wd_4_76 : (.static ⟨"MuseumHouseLaw", "hang", "(LMuseumHouse;III[J)I"⟩ : Cond) ∈ tG := tg4 (i := 76) rfl rfl
theorem wd_4_77 : (.codeWith ⟨"MuseumHouseLaw", "hang", "(LMuseumHouse;III[J)I"⟩ method_22_code 6 (some .int) [(0, 19, 22, 13), (0, 19, 26, 15), (0, 19, 30, 17)] : Cond) ∈ tG := tg4 (i := 77) rfl rfl
theorem wd_4_78 : (.methodLink "MuseumHouseLaw" 79 ⟨"MuseumHouse", "hang", "(III)Z"⟩ : Cond) ∈ tG := tg4 (i := 78) rfl rfl
theorem wd_4_79 : (.instanceMethod ⟨"MuseumHouse", "hang", "(III)Z"⟩ : Cond) ∈ tG := tg4 (i := 79) rfl rfl
theorem wd_4_80 : (.selects "MuseumHouse" ⟨"MuseumHouse", "hang", "(III)Z"⟩ ⟨"MuseumHouse", "hang", "(III)Z"⟩ : Cond) ∈ tG := tg4 (i := 80) rfl rfl
theorem wd_4_81 : (.code ⟨"MuseumHouse", "hang", "(III)Z"⟩ prog_1_method_21_code 7 (some .boolean) : Cond) ∈ tG := tg4 (i := 81) rfl rfl
theorem wd_4_82 : (.methodLink "MuseumHouse" 228 ⟨"MuseumHouse$Shows", "holds", "(II)Z"⟩ : Cond) ∈ tG := tg4 (i := 82) rfl rfl
theorem wd_4_83 : (.methodLink "MuseumHouse" 231 ⟨"MuseumHouse$Shows", "firstDayOf", "(I)I"⟩ : Cond) ∈ tG := tg4 (i := 83) rfl rfl
theorem wd_4_84 : (.instanceMethod ⟨"MuseumHouse$Shows", "firstDayOf", "(I)I"⟩ : Cond) ∈ tG := tg4 (i := 84) rfl rfl
theorem wd_4_85 : (.selects "MuseumHouse$Shows" ⟨"MuseumHouse$Shows", "firstDayOf", "(I)I"⟩ ⟨"MuseumHouse$Shows", "firstDayOf", "(I)I"⟩ : Cond) ∈ tG := tg4 (i := 85) rfl rfl
theorem wd_4_86 : (.code ⟨"MuseumHouse$Shows", "firstDayOf", "(I)I"⟩ prog_10_method_4_code 2 (some .int) : Cond) ∈ tG := tg4 (i := 86) rfl rfl
theorem wd_4_87 : (.methodLink "MuseumHouse" 234 ⟨"MuseumHouse$Shows", "lastDayOf", "(I)I"⟩ : Cond) ∈ tG := tg4 (i := 87) rfl rfl
theorem wd_4_88 : (.instanceMethod ⟨"MuseumHouse$Shows", "lastDayOf", "(I)I"⟩ : Cond) ∈ tG := tg4 (i := 88) rfl rfl
theorem wd_4_89 : (.selects "MuseumHouse$Shows" ⟨"MuseumHouse$Shows", "lastDayOf", "(I)I"⟩ ⟨"MuseumHouse$Shows", "lastDayOf", "(I)I"⟩ : Cond) ∈ tG := tg4 (i := 89) rfl rfl
theorem wd_4_90 : (.code ⟨"MuseumHouse$Shows", "lastDayOf", "(I)I"⟩ prog_10_method_5_code 2 (some .int) : Cond) ∈ tG := tg4 (i := 90) rfl rfl
theorem wd_4_91 : (.methodLink "MuseumHouse" 235 ⟨"MuseumHouse$Shows", "putIn", "(II)V"⟩ : Cond) ∈ tG := tg4 (i := 91) rfl rfl
theorem wd_4_92 : (.instanceMethod ⟨"MuseumHouse$Shows", "putIn", "(II)V"⟩ : Cond) ∈ tG := tg4 (i := 92) rfl rfl
theorem wd_4_93 : (.selects "MuseumHouse$Shows" ⟨"MuseumHouse$Shows", "putIn", "(II)V"⟩ ⟨"MuseumHouse$Shows", "putIn", "(II)V"⟩ : Cond) ∈ tG := tg4 (i := 93) rfl rfl
theorem wd_4_94 : (.code ⟨"MuseumHouse$Shows", "putIn", "(II)V"⟩ prog_10_method_7_code 3 (none : Option Jvm.ClassFile.FieldType) : Cond) ∈ tG := tg4 (i := 94) rfl rfl
theorem wd_4_95 : (.methodLink "MuseumHouseLaw" 177 ⟨"MuseumHouseLaw", "take", "(LMuseumHouse;III[J)I"⟩ : Cond) ∈ tG := tg4 (i := 95) rfl rfl
theorem wd_4_96 : (.static ⟨"MuseumHouseLaw", "take", "(LMuseumHouse;III[J)I"⟩ : Cond) ∈ tG := tg4 (i := 96) rfl rfl
theorem wd_4_97 : (.codeWith ⟨"MuseumHouseLaw", "take", "(LMuseumHouse;III[J)I"⟩ method_23_code 6 (some .int) [(0, 19, 22, 13), (0, 19, 26, 15)] : Cond) ∈ tG := tg4 (i := 97) rfl rfl
theorem wd_4_98 : (.methodLink "MuseumHouseLaw" 82 ⟨"MuseumHouse", "take", "(III)Z"⟩ : Cond) ∈ tG := tg4 (i := 98) rfl rfl
theorem wd_4_99 : (.instanceMethod ⟨"MuseumHouse", "take", "(III)Z"⟩ : Cond) ∈ tG := tg4 (i := 99) rfl rfl
theorem wd_4_100 : (.selects "MuseumHouse" ⟨"MuseumHouse", "take", "(III)Z"⟩ ⟨"MuseumHouse", "take", "(III)Z"⟩ : Cond) ∈ tG := tg4 (i := 100) rfl rfl
theorem wd_4_101 : (.code ⟨"MuseumHouse", "take", "(III)Z"⟩ prog_1_method_22_code 8 (some .boolean) : Cond) ∈ tG := tg4 (i := 101) rfl rfl
theorem wd_4_102 : (.methodLink "MuseumHouse" 238 ⟨"MuseumHouse$Shows", "putOut", "(II)V"⟩ : Cond) ∈ tG := tg4 (i := 102) rfl rfl
theorem wd_4_103 : (.instanceMethod ⟨"MuseumHouse$Shows", "putOut", "(II)V"⟩ : Cond) ∈ tG := tg4 (i := 103) rfl rfl
theorem wd_4_104 : (.selects "MuseumHouse$Shows" ⟨"MuseumHouse$Shows", "putOut", "(II)V"⟩ ⟨"MuseumHouse$Shows", "putOut", "(II)V"⟩ : Cond) ∈ tG := tg4 (i := 104) rfl rfl
theorem wd_4_105 : (.code ⟨"MuseumHouse$Shows", "putOut", "(II)V"⟩ prog_10_method_8_code 3 (none : Option Jvm.ClassFile.FieldType) : Cond) ∈ tG := tg4 (i := 105) rfl rfl
theorem wd_4_106 : (.methodLink "MuseumHouseLaw" 180 ⟨"MuseumHouseLaw", "claim", "(LMuseumHouse;III[J)I"⟩ : Cond) ∈ tG := tg4 (i := 106) rfl rfl
theorem wd_4_107 : (.static ⟨"MuseumHouseLaw", "claim", "(LMuseumHouse;III[J)I"⟩ : Cond) ∈ tG := tg4 (i := 107) rfl rfl
theorem wd_4_108 : (.codeWith ⟨"MuseumHouseLaw", "claim", "(LMuseumHouse;III[J)I"⟩ method_24_code 6 (some .int) [(0, 12, 15, 13), (0, 12, 19, 15), (0, 12, 23, 17)] : Cond) ∈ tG := tg4 (i := 108) rfl rfl
theorem wd_4_109 : (.methodLink "MuseumHouseLaw" 85 ⟨"MuseumHouse", "claim", "(III)I"⟩ : Cond) ∈ tG := tg4 (i := 109) rfl rfl
theorem wd_4_110 : (.instanceMethod ⟨"MuseumHouse", "claim", "(III)I"⟩ : Cond) ∈ tG := tg4 (i := 110) rfl rfl
theorem wd_4_111 : (.selects "MuseumHouse" ⟨"MuseumHouse", "claim", "(III)I"⟩ ⟨"MuseumHouse", "claim", "(III)I"⟩ : Cond) ∈ tG := tg4 (i := 111) rfl rfl
theorem wd_4_112 : (.code ⟨"MuseumHouse", "claim", "(III)I"⟩ prog_1_method_23_code 6 (some .int) : Cond) ∈ tG := tg4 (i := 112) rfl rfl
theorem wd_4_113 : (.methodLink "MuseumHouse" 241 ⟨"MuseumHouse$Claims", "isFull", "()Z"⟩ : Cond) ∈ tG := tg4 (i := 113) rfl rfl
theorem wd_4_114 : (.sameMethod "MuseumHouse$Claims" "MuseumHouse$Register" "isFull" "()Z" : Cond) ∈ tG := tg4 (i := 114) rfl rfl
theorem wd_4_115 : (.selects "MuseumHouse$Claims" ⟨"MuseumHouse$Claims", "isFull", "()Z"⟩ ⟨"MuseumHouse$Register", "isFull", "()Z"⟩ : Cond) ∈ tG := tg4 (i := 115) rfl rfl
theorem wd_4_116 : (.methodLink "MuseumHouse" 242 ⟨"MuseumHouse$Claims", "hasOpenOf", "(II)Z"⟩ : Cond) ∈ tG := tg4 (i := 116) rfl rfl
theorem wd_4_117 : (.instanceMethod ⟨"MuseumHouse$Claims", "hasOpenOf", "(II)Z"⟩ : Cond) ∈ tG := tg4 (i := 117) rfl rfl
theorem wd_4_118 : (.selects "MuseumHouse$Claims" ⟨"MuseumHouse$Claims", "hasOpenOf", "(II)Z"⟩ ⟨"MuseumHouse$Claims", "hasOpenOf", "(II)Z"⟩ : Cond) ∈ tG := tg4 (i := 118) rfl rfl
theorem wd_4_119 : (.code ⟨"MuseumHouse$Claims", "hasOpenOf", "(II)Z"⟩ prog_2_method_6_code 4 (some .boolean) : Cond) ∈ tG := tg4 (i := 119) rfl rfl
theorem wd_4_120 : (.methodLink "MuseumHouse" 245 ⟨"MuseumHouse$Claims", "raise", "(II)I"⟩ : Cond) ∈ tG := tg4 (i := 120) rfl rfl
theorem wd_4_121 : (.instanceMethod ⟨"MuseumHouse$Claims", "raise", "(II)I"⟩ : Cond) ∈ tG := tg4 (i := 121) rfl rfl
theorem wd_4_122 : (.selects "MuseumHouse$Claims" ⟨"MuseumHouse$Claims", "raise", "(II)I"⟩ ⟨"MuseumHouse$Claims", "raise", "(II)I"⟩ : Cond) ∈ tG := tg4 (i := 122) rfl rfl
theorem wd_4_123 : (.code ⟨"MuseumHouse$Claims", "raise", "(II)I"⟩ prog_2_method_2_code 4 (some .int) : Cond) ∈ tG := tg4 (i := 123) rfl rfl
theorem wd_4_124 : (.methodLink "MuseumHouse$Claims" 22 ⟨"MuseumHouse$Claims", "enter", "()I"⟩ : Cond) ∈ tG := tg4 (i := 124) rfl rfl
theorem wd_4_125 : (.sameMethod "MuseumHouse$Claims" "MuseumHouse$Register" "enter" "()I" : Cond) ∈ tG := tg4 (i := 125) rfl rfl
theorem wd_4_126 : (.selects "MuseumHouse$Claims" ⟨"MuseumHouse$Claims", "enter", "()I"⟩ ⟨"MuseumHouse$Register", "enter", "()I"⟩ : Cond) ∈ tG := tg4 (i := 126) rfl rfl
theorem wd_4_127 : (.methodLink "MuseumHouse$Claims" 26 ⟨"MuseumHouse$Claims", "handleOf", "(I)I"⟩ : Cond) ∈ tG := tg4 (i := 127) rfl rfl
theorem wd_4_128 : (.sameMethod "MuseumHouse$Claims" "MuseumHouse$Register" "handleOf" "(I)I" : Cond) ∈ tG := tg4 (i := 128) rfl rfl
theorem wd_4_129 : (.selects "MuseumHouse$Claims" ⟨"MuseumHouse$Claims", "handleOf", "(I)I"⟩ ⟨"MuseumHouse$Register", "handleOf", "(I)I"⟩ : Cond) ∈ tG := tg4 (i := 129) rfl rfl
theorem wd_4_130 : (.methodLink "MuseumHouseLaw" 183 ⟨"MuseumHouseLaw", "close", "(LMuseumHouse;II[J)I"⟩ : Cond) ∈ tG := tg4 (i := 130) rfl rfl
theorem wd_4_131 : (.static ⟨"MuseumHouseLaw", "close", "(LMuseumHouse;II[J)I"⟩ : Cond) ∈ tG := tg4 (i := 131) rfl rfl
theorem wd_4_132 : (.codeWith ⟨"MuseumHouseLaw", "close", "(LMuseumHouse;II[J)I"⟩ method_25_code 5 (some .int) [(0, 10, 13, 13), (0, 10, 17, 15), (0, 10, 21, 17)] : Cond) ∈ tG := tg4 (i := 132) rfl rfl
theorem wd_4_133 : (.methodLink "MuseumHouseLaw" 88 ⟨"MuseumHouse", "close", "(II)I"⟩ : Cond) ∈ tG := tg4 (i := 133) rfl rfl
theorem wd_4_134 : (.instanceMethod ⟨"MuseumHouse", "close", "(II)I"⟩ : Cond) ∈ tG := tg4 (i := 134) rfl rfl
theorem wd_4_135 : (.selects "MuseumHouse" ⟨"MuseumHouse", "close", "(II)I"⟩ ⟨"MuseumHouse", "close", "(II)I"⟩ : Cond) ∈ tG := tg4 (i := 135) rfl rfl
theorem wd_4_136 : (.code ⟨"MuseumHouse", "close", "(II)I"⟩ prog_1_method_24_code 5 (some .int) : Cond) ∈ tG := tg4 (i := 136) rfl rfl
theorem wd_4_137 : (.methodLink "MuseumHouse" 248 ⟨"MuseumHouse$Claims", "isOpen", "(I)Z"⟩ : Cond) ∈ tG := tg4 (i := 137) rfl rfl
theorem wd_4_138 : (.instanceMethod ⟨"MuseumHouse$Claims", "isOpen", "(I)Z"⟩ : Cond) ∈ tG := tg4 (i := 138) rfl rfl
theorem wd_4_139 : (.selects "MuseumHouse$Claims" ⟨"MuseumHouse$Claims", "isOpen", "(I)Z"⟩ ⟨"MuseumHouse$Claims", "isOpen", "(I)Z"⟩ : Cond) ∈ tG := tg4 (i := 139) rfl rfl
theorem wd_4_140 : (.code ⟨"MuseumHouse$Claims", "isOpen", "(I)Z"⟩ prog_2_method_4_code 2 (some .boolean) : Cond) ∈ tG := tg4 (i := 140) rfl rfl
theorem wd_4_141 : (.methodLink "MuseumHouse" 251 ⟨"MuseumHouse$Claims", "settle", "(I)V"⟩ : Cond) ∈ tG := tg4 (i := 141) rfl rfl
theorem wd_4_142 : (.instanceMethod ⟨"MuseumHouse$Claims", "settle", "(I)V"⟩ : Cond) ∈ tG := tg4 (i := 142) rfl rfl
theorem wd_4_143 : (.selects "MuseumHouse$Claims" ⟨"MuseumHouse$Claims", "settle", "(I)V"⟩ ⟨"MuseumHouse$Claims", "settle", "(I)V"⟩ : Cond) ∈ tG := tg4 (i := 143) rfl rfl
theorem wd_4_144 : (.code ⟨"MuseumHouse$Claims", "settle", "(I)V"⟩ prog_2_method_5_code 2 (none : Option Jvm.ClassFile.FieldType) : Cond) ∈ tG := tg4 (i := 144) rfl rfl
theorem wd_4_145 : (.methodLink "MuseumHouse" 255 ⟨"MuseumHouse$Claims", "itemOf", "(I)I"⟩ : Cond) ∈ tG := tg4 (i := 145) rfl rfl
theorem wd_4_146 : (.instanceMethod ⟨"MuseumHouse$Claims", "itemOf", "(I)I"⟩ : Cond) ∈ tG := tg4 (i := 146) rfl rfl
theorem wd_4_147 : (.selects "MuseumHouse$Claims" ⟨"MuseumHouse$Claims", "itemOf", "(I)I"⟩ ⟨"MuseumHouse$Claims", "itemOf", "(I)I"⟩ : Cond) ∈ tG := tg4 (i := 147) rfl rfl
theorem wd_4_148 : (.code ⟨"MuseumHouse$Claims", "itemOf", "(I)I"⟩ prog_2_method_3_code 2 (some .int) : Cond) ∈ tG := tg4 (i := 148) rfl rfl
theorem wd_4_149 : (.methodLink "MuseumHouseLaw" 186 ⟨"MuseumHouseLaw", "where", "(LMuseumHouse;II[J)I"⟩ : Cond) ∈ tG := tg4 (i := 149) rfl rfl
theorem wd_4_150 : (.static ⟨"MuseumHouseLaw", "where", "(LMuseumHouse;II[J)I"⟩ : Cond) ∈ tG := tg4 (i := 150) rfl rfl
theorem wd_4_151 : (.codeWith ⟨"MuseumHouseLaw", "where", "(LMuseumHouse;II[J)I"⟩ method_26_code 5 (some .int) [(0, 10, 13, 13), (0, 10, 17, 17)] : Cond) ∈ tG := tg4 (i := 151) rfl rfl
theorem wd_4_152 : (.methodLink "MuseumHouseLaw" 91 ⟨"MuseumHouse", "where", "(II)I"⟩ : Cond) ∈ tG := tg4 (i := 152) rfl rfl
theorem wd_4_153 : (.instanceMethod ⟨"MuseumHouse", "where", "(II)I"⟩ : Cond) ∈ tG := tg4 (i := 153) rfl rfl
theorem wd_4_154 : (.selects "MuseumHouse" ⟨"MuseumHouse", "where", "(II)I"⟩ ⟨"MuseumHouse", "where", "(II)I"⟩ : Cond) ∈ tG := tg4 (i := 154) rfl rfl
theorem wd_4_155 : (.code ⟨"MuseumHouse", "where", "(II)I"⟩ prog_1_method_25_code 7 (some .int) : Cond) ∈ tG := tg4 (i := 155) rfl rfl
theorem wd_4_156 : (.methodLink "MuseumHouse" 261 ⟨"MuseumHouse$Loans", "handleOf", "(I)I"⟩ : Cond) ∈ tG := tg4 (i := 156) rfl rfl
theorem wd_4_157 : (.methodLink "MuseumHouse" 265 ⟨"MuseumHouse$Shows", "handleOf", "(I)I"⟩ : Cond) ∈ tG := tg4 (i := 157) rfl rfl
theorem wd_4_158 : (.methodLink "MuseumHouseLaw" 189 ⟨"MuseumHouseLaw", "origin", "(LMuseumHouse;I[J)I"⟩ : Cond) ∈ tG := tg4 (i := 158) rfl rfl
theorem wd_4_159 : (.static ⟨"MuseumHouseLaw", "origin", "(LMuseumHouse;I[J)I"⟩ : Cond) ∈ tG := tg4 (i := 159) rfl rfl
theorem wd_4_160 : (.codeWith ⟨"MuseumHouseLaw", "origin", "(LMuseumHouse;I[J)I"⟩ method_27_code 4 (some .int) [(0, 9, 12, 13)] : Cond) ∈ tG := tg4 (i := 160) rfl rfl
theorem wd_4_161 : (.methodLink "MuseumHouseLaw" 94 ⟨"MuseumHouse", "origin", "(I)I"⟩ : Cond) ∈ tG := tg4 (i := 161) rfl rfl
theorem wd_4_162 : (.instanceMethod ⟨"MuseumHouse", "origin", "(I)I"⟩ : Cond) ∈ tG := tg4 (i := 162) rfl rfl
theorem wd_4_163 : (.selects "MuseumHouse" ⟨"MuseumHouse", "origin", "(I)I"⟩ ⟨"MuseumHouse", "origin", "(I)I"⟩ : Cond) ∈ tG := tg4 (i := 163) rfl rfl
theorem wd_4_164 : (.code ⟨"MuseumHouse", "origin", "(I)I"⟩ prog_1_method_26_code 5 (some .int) : Cond) ∈ tG := tg4 (i := 164) rfl rfl
theorem wd_4_165 : (.methodLink "MuseumHouse" 266 ⟨"MuseumHouse$Contexts", "numberFor", "(I)I"⟩ : Cond) ∈ tG := tg4 (i := 165) rfl rfl
theorem wd_4_166 : (.sameMethod "MuseumHouse$Contexts" "MuseumHouse$Register" "numberFor" "(I)I" : Cond) ∈ tG := tg4 (i := 166) rfl rfl
theorem wd_4_168 : (.selects "MuseumHouse$Contexts" ⟨"MuseumHouse$Contexts", "numberFor", "(I)I"⟩ ⟨"MuseumHouse$Register", "numberFor", "(I)I"⟩ : Cond) ∈ tG := tg4 (i := 168) rfl rfl
theorem wd_4_169 : (.methodLink "MuseumHouse" 269 ⟨"MuseumHouse$Sites", "handleOf", "(I)I"⟩ : Cond) ∈ tG := tg4 (i := 169) rfl rfl
theorem wd_4_170 : (.methodLink "MuseumHouse" 270 ⟨"MuseumHouse$Finds", "numberFor", "(I)I"⟩ : Cond) ∈ tG := tg4 (i := 170) rfl rfl
theorem wd_4_171 : (.sameMethod "MuseumHouse$Finds" "MuseumHouse$Register" "numberFor" "(I)I" : Cond) ∈ tG := tg4 (i := 171) rfl rfl
theorem wd_4_172 : (.selects "MuseumHouse$Finds" ⟨"MuseumHouse$Finds", "numberFor", "(I)I"⟩ ⟨"MuseumHouse$Register", "numberFor", "(I)I"⟩ : Cond) ∈ tG := tg4 (i := 172) rfl rfl
theorem wd_4_173 : (.methodLink "MuseumHouse" 271 ⟨"MuseumHouse$Finds", "contextOf", "(I)I"⟩ : Cond) ∈ tG := tg4 (i := 173) rfl rfl
theorem wd_4_174 : (.instanceMethod ⟨"MuseumHouse$Finds", "contextOf", "(I)I"⟩ : Cond) ∈ tG := tg4 (i := 174) rfl rfl
theorem wd_4_175 : (.selects "MuseumHouse$Finds" ⟨"MuseumHouse$Finds", "contextOf", "(I)I"⟩ ⟨"MuseumHouse$Finds", "contextOf", "(I)I"⟩ : Cond) ∈ tG := tg4 (i := 175) rfl rfl
theorem wd_4_176 : (.code ⟨"MuseumHouse$Finds", "contextOf", "(I)I"⟩ prog_5_method_3_code 2 (some .int) : Cond) ∈ tG := tg4 (i := 176) rfl rfl
theorem wd_4_177 : (.methodLink "MuseumHouse" 274 ⟨"MuseumHouse$Contexts", "handleOf", "(I)I"⟩ : Cond) ∈ tG := tg4 (i := 177) rfl rfl
theorem wd_4_178 : (.methodLink "MuseumHouse" 275 ⟨"MuseumHouse$Items", "findOf", "(I)I"⟩ : Cond) ∈ tG := tg4 (i := 178) rfl rfl
theorem wd_4_179 : (.instanceMethod ⟨"MuseumHouse$Items", "findOf", "(I)I"⟩ : Cond) ∈ tG := tg4 (i := 179) rfl rfl
theorem wd_4_180 : (.selects "MuseumHouse$Items" ⟨"MuseumHouse$Items", "findOf", "(I)I"⟩ ⟨"MuseumHouse$Items", "findOf", "(I)I"⟩ : Cond) ∈ tG := tg4 (i := 180) rfl rfl
theorem wd_4_181 : (.code ⟨"MuseumHouse$Items", "findOf", "(I)I"⟩ prog_6_method_4_code 2 (some .int) : Cond) ∈ tG := tg4 (i := 181) rfl rfl
theorem wd_4_182 : (.methodLink "MuseumHouse" 278 ⟨"MuseumHouse$Finds", "handleOf", "(I)I"⟩ : Cond) ∈ tG := tg4 (i := 182) rfl rfl
theorem wd_4_183 : (.methodLink "MuseumHouseLaw" 192 ⟨"MuseumHouseLaw", "hall", "(LMuseumHouse;I[J)I"⟩ : Cond) ∈ tG := tg4 (i := 183) rfl rfl
theorem wd_4_184 : (.static ⟨"MuseumHouseLaw", "hall", "(LMuseumHouse;I[J)I"⟩ : Cond) ∈ tG := tg4 (i := 184) rfl rfl
theorem wd_4_185 : (.codeWith ⟨"MuseumHouseLaw", "hall", "(LMuseumHouse;I[J)I"⟩ method_28_code 4 (some .int) [(0, 9, 12, 13)] : Cond) ∈ tG := tg4 (i := 185) rfl rfl
theorem wd_4_186 : (.methodLink "MuseumHouseLaw" 97 ⟨"MuseumHouse", "hall", "(I)I"⟩ : Cond) ∈ tG := tg4 (i := 186) rfl rfl
theorem wd_4_187 : (.instanceMethod ⟨"MuseumHouse", "hall", "(I)I"⟩ : Cond) ∈ tG := tg4 (i := 187) rfl rfl
theorem wd_4_188 : (.selects "MuseumHouse" ⟨"MuseumHouse", "hall", "(I)I"⟩ ⟨"MuseumHouse", "hall", "(I)I"⟩ : Cond) ∈ tG := tg4 (i := 188) rfl rfl
theorem wd_4_189 : (.code ⟨"MuseumHouse", "hall", "(I)I"⟩ prog_1_method_27_code 3 (some .int) : Cond) ∈ tG := tg4 (i := 189) rfl rfl
theorem wd_4_190 : (.methodLink "MuseumHouse" 279 ⟨"MuseumHouse$Shows", "storeOf", "(I)I"⟩ : Cond) ∈ tG := tg4 (i := 190) rfl rfl
theorem wd_4_191 : (.instanceMethod ⟨"MuseumHouse$Shows", "storeOf", "(I)I"⟩ : Cond) ∈ tG := tg4 (i := 191) rfl rfl
theorem wd_4_192 : (.selects "MuseumHouse$Shows" ⟨"MuseumHouse$Shows", "storeOf", "(I)I"⟩ ⟨"MuseumHouse$Shows", "storeOf", "(I)I"⟩ : Cond) ∈ tG := tg4 (i := 192) rfl rfl
theorem wd_4_193 : (.code ⟨"MuseumHouse$Shows", "storeOf", "(I)I"⟩ prog_10_method_3_code 2 (some .int) : Cond) ∈ tG := tg4 (i := 193) rfl rfl
theorem wd_4_194 : (.methodLink "MuseumHouseLaw" 199 ⟨"MuseumHouseLaw", "count", "(LMuseumHouse;I[J)I"⟩ : Cond) ∈ tG := tg4 (i := 194) rfl rfl
theorem wd_4_195 : (.static ⟨"MuseumHouseLaw", "count", "(LMuseumHouse;I[J)I"⟩ : Cond) ∈ tG := tg4 (i := 195) rfl rfl
theorem wd_4_196 : (.codeWith ⟨"MuseumHouseLaw", "count", "(LMuseumHouse;I[J)I"⟩ method_29_code 4 (some .int) [(0, 9, 12, 13)] : Cond) ∈ tG := tg4 (i := 196) rfl rfl
theorem wd_4_197 : (.methodLink "MuseumHouseLaw" 100 ⟨"MuseumHouse", "count", "(I)I"⟩ : Cond) ∈ tG := tg4 (i := 197) rfl rfl
theorem wd_4_198 : (.instanceMethod ⟨"MuseumHouse", "count", "(I)I"⟩ : Cond) ∈ tG := tg4 (i := 198) rfl rfl
theorem wd_4_199 : (.selects "MuseumHouse" ⟨"MuseumHouse", "count", "(I)I"⟩ ⟨"MuseumHouse", "count", "(I)I"⟩ : Cond) ∈ tG := tg4 (i := 199) rfl rfl
theorem wd_4_200 : (.code ⟨"MuseumHouse", "count", "(I)I"⟩ prog_1_method_29_code 2 (some .int) : Cond) ∈ tG := tg4 (i := 200) rfl rfl
theorem wd_4_201 : (.methodLink "MuseumHouse" 283 ⟨"MuseumHouse$Desks", "size", "()I"⟩ : Cond) ∈ tG := tg4 (i := 201) rfl rfl
theorem wd_4_202 : (.sameMethod "MuseumHouse$Desks" "MuseumHouse$Register" "size" "()I" : Cond) ∈ tG := tg4 (i := 202) rfl rfl
theorem wd_4_203 : (.selects "MuseumHouse$Desks" ⟨"MuseumHouse$Desks", "size", "()I"⟩ ⟨"MuseumHouse$Register", "size", "()I"⟩ : Cond) ∈ tG := tg4 (i := 203) rfl rfl
theorem wd_4_204 : (.methodLink "MuseumHouse" 284 ⟨"MuseumHouse$Sites", "size", "()I"⟩ : Cond) ∈ tG := tg4 (i := 204) rfl rfl
theorem wd_4_205 : (.sameMethod "MuseumHouse$Sites" "MuseumHouse$Register" "size" "()I" : Cond) ∈ tG := tg4 (i := 205) rfl rfl
theorem wd_4_206 : (.selects "MuseumHouse$Sites" ⟨"MuseumHouse$Sites", "size", "()I"⟩ ⟨"MuseumHouse$Register", "size", "()I"⟩ : Cond) ∈ tG := tg4 (i := 206) rfl rfl
theorem wd_4_207 : (.methodLink "MuseumHouse" 285 ⟨"MuseumHouse$Contexts", "size", "()I"⟩ : Cond) ∈ tG := tg4 (i := 207) rfl rfl
theorem wd_4_208 : (.methodLink "MuseumHouse" 286 ⟨"MuseumHouse$Finds", "size", "()I"⟩ : Cond) ∈ tG := tg4 (i := 208) rfl rfl
theorem wd_4_209 : (.sameMethod "MuseumHouse$Finds" "MuseumHouse$Register" "size" "()I" : Cond) ∈ tG := tg4 (i := 209) rfl rfl
theorem wd_4_210 : (.selects "MuseumHouse$Finds" ⟨"MuseumHouse$Finds", "size", "()I"⟩ ⟨"MuseumHouse$Register", "size", "()I"⟩ : Cond) ∈ tG := tg4 (i := 210) rfl rfl
theorem wd_4_211 : (.methodLink "MuseumHouse" 287 ⟨"MuseumHouse$Stores", "size", "()I"⟩ : Cond) ∈ tG := tg4 (i := 211) rfl rfl
theorem wd_4_212 : (.sameMethod "MuseumHouse$Stores" "MuseumHouse$Register" "size" "()I" : Cond) ∈ tG := tg4 (i := 212) rfl rfl
theorem wd_4_213 : (.selects "MuseumHouse$Stores" ⟨"MuseumHouse$Stores", "size", "()I"⟩ ⟨"MuseumHouse$Register", "size", "()I"⟩ : Cond) ∈ tG := tg4 (i := 213) rfl rfl
theorem wd_4_214 : (.methodLink "MuseumHouse" 288 ⟨"MuseumHouse$Loans", "size", "()I"⟩ : Cond) ∈ tG := tg4 (i := 214) rfl rfl
theorem wd_4_215 : (.methodLink "MuseumHouse" 289 ⟨"MuseumHouse$Shows", "size", "()I"⟩ : Cond) ∈ tG := tg4 (i := 215) rfl rfl
theorem wd_4_216 : (.methodLink "MuseumHouse" 290 ⟨"MuseumHouse$Claims", "size", "()I"⟩ : Cond) ∈ tG := tg4 (i := 216) rfl rfl
theorem wd_4_217 : (.classLink "MuseumHouseLaw" 104 "MuseumHouseModel" : Cond) ∈ tG := tg4 (i := 217) rfl rfl
theorem wd_4_218 : (.instantiable "MuseumHouseModel" 27 : Cond) ∈ tG := tg4 (i := 218) rfl rfl
theorem wd_4_219 : (.methodLink "MuseumHouseLaw" 106 ⟨"MuseumHouseModel", "<init>", "()V"⟩ : Cond) ∈ tG := tg4 (i := 219) rfl rfl
theorem wd_4_220 : (.instanceMethod ⟨"MuseumHouseModel", "<init>", "()V"⟩ : Cond) ∈ tG := tg4 (i := 220) rfl rfl
theorem wd_4_221 : (.code ⟨"MuseumHouseModel", "<init>", "()V"⟩ prog_14_method_1_code 1 (none : Option Jvm.ClassFile.FieldType) : Cond) ∈ tG := tg4 (i := 221) rfl rfl
theorem wd_4_222 : (.methodLink "MuseumHouseModel" 1 ⟨"java/lang/Object", "<init>", "()V"⟩ : Cond) ∈ tG := tg4 (i := 222) rfl rfl
theorem wd_4_223 : (.fieldLink "MuseumHouseModel" 83 "MuseumHouseModel" "thrown" "I" : Cond) ∈ tG := tg4 (i := 223) rfl rfl
theorem wd_4_224 : (.fieldLink "MuseumHouseModel" 87 "MuseumHouseModel" "rule" "I" : Cond) ∈ tG := tg4 (i := 224) rfl rfl
theorem wd_4_225 : (.fieldLink "MuseumHouseModel" 117 "MuseumHouseModel" "today" "I" : Cond) ∈ tG := tg4 (i := 225) rfl rfl
theorem wd_4_226 : (.fieldLink "MuseumHouseModel" 7 "MuseumHouseModel" "many" "[I" : Cond) ∈ tG := tg4 (i := 226) rfl rfl
theorem wd_4_227 : (.fieldLink "MuseumHouseModel" 13 "MuseumHouseModel" "rights" "[I" : Cond) ∈ tG := tg4 (i := 227) rfl rfl
theorem wd_4_228 : (.fieldLink "MuseumHouseModel" 16 "MuseumHouseModel" "siteOf" "[I" : Cond) ∈ tG := tg4 (i := 228) rfl rfl
theorem wd_4_229 : (.fieldLink "MuseumHouseModel" 19 "MuseumHouseModel" "firsts" "[I" : Cond) ∈ tG := tg4 (i := 229) rfl rfl
theorem wd_4_230 : (.fieldLink "MuseumHouseModel" 22 "MuseumHouseModel" "lasts" "[I" : Cond) ∈ tG := tg4 (i := 230) rfl rfl
theorem wd_4_231 : (.fieldLink "MuseumHouseModel" 25 "MuseumHouseModel" "told" "[Z" : Cond) ∈ tG := tg4 (i := 231) rfl rfl
theorem wd_4_232 : (.fieldLink "MuseumHouseModel" 29 "MuseumHouseModel" "over" "[Z" : Cond) ∈ tG := tg4 (i := 232) rfl rfl
theorem wd_4_233 : (.fieldLink "MuseumHouseModel" 32 "MuseumHouseModel" "contextOf" "[I" : Cond) ∈ tG := tg4 (i := 233) rfl rfl
theorem wd_4_234 : (.fieldLink "MuseumHouseModel" 35 "MuseumHouseModel" "findDay" "[I" : Cond) ∈ tG := tg4 (i := 234) rfl rfl
theorem wd_4_235 : (.fieldLink "MuseumHouseModel" 38 "MuseumHouseModel" "findOf" "[I" : Cond) ∈ tG := tg4 (i := 235) rfl rfl
theorem wd_4_236 : (.fieldLink "MuseumHouseModel" 41 "MuseumHouseModel" "parents" "[I" : Cond) ∈ tG := tg4 (i := 236) rfl rfl
theorem wd_4_237 : (.fieldLink "MuseumHouseModel" 44 "MuseumHouseModel" "moves" "[I" : Cond) ∈ tG := tg4 (i := 237) rfl rfl
theorem wd_4_238 : (.fieldLink "MuseumHouseModel" 47 "MuseumHouseModel" "moveDays" "[I" : Cond) ∈ tG := tg4 (i := 238) rfl rfl
theorem wd_4_239 : (.fieldLink "MuseumHouseModel" 50 "MuseumHouseModel" "moveStores" "[I" : Cond) ∈ tG := tg4 (i := 239) rfl rfl
theorem wd_5_0 : (.fieldLink "MuseumHouseModel" 53 "MuseumHouseModel" "loanOf" "[I" : Cond) ∈ tG := tg5 (i := 0) rfl rfl
theorem wd_5_1 : (.fieldLink "MuseumHouseModel" 56 "MuseumHouseModel" "loanFrom" "[I" : Cond) ∈ tG := tg5 (i := 1) rfl rfl
theorem wd_5_2 : (.fieldLink "MuseumHouseModel" 59 "MuseumHouseModel" "loanTo" "[I" : Cond) ∈ tG := tg5 (i := 2) rfl rfl
theorem wd_5_3 : (.fieldLink "MuseumHouseModel" 62 "MuseumHouseModel" "halls" "[I" : Cond) ∈ tG := tg5 (i := 3) rfl rfl
theorem wd_5_4 : (.fieldLink "MuseumHouseModel" 65 "MuseumHouseModel" "showFrom" "[I" : Cond) ∈ tG := tg5 (i := 4) rfl rfl
theorem wd_5_5 : (.fieldLink "MuseumHouseModel" 68 "MuseumHouseModel" "showTo" "[I" : Cond) ∈ tG := tg5 (i := 5) rfl rfl
theorem wd_5_6 : (.fieldLink "MuseumHouseModel" 71 "MuseumHouseModel" "hung" "[Z" : Cond) ∈ tG := tg5 (i := 6) rfl rfl
theorem wd_5_7 : (.fieldLink "MuseumHouseModel" 74 "MuseumHouseModel" "claimOf" "[I" : Cond) ∈ tG := tg5 (i := 7) rfl rfl
theorem wd_5_8 : (.fieldLink "MuseumHouseModel" 77 "MuseumHouseModel" "sources" "[I" : Cond) ∈ tG := tg5 (i := 8) rfl rfl
theorem wd_5_9 : (.fieldLink "MuseumHouseModel" 80 "MuseumHouseModel" "open" "[Z" : Cond) ∈ tG := tg5 (i := 9) rfl rfl
theorem wd_5_10 : (.lays "MuseumHouseModel" "MuseumHouseModel" "thrown" "I" : Cond) ∈ tG := tg5 (i := 10) rfl rfl
theorem wd_5_11 : (.soleField "MuseumHouseModel" "thrown" : Cond) ∈ tG := tg5 (i := 11) rfl rfl
theorem wd_5_12 : (.lays "MuseumHouseModel" "MuseumHouseModel" "rule" "I" : Cond) ∈ tG := tg5 (i := 12) rfl rfl
theorem wd_5_13 : (.soleField "MuseumHouseModel" "rule" : Cond) ∈ tG := tg5 (i := 13) rfl rfl
theorem wd_5_14 : (.lays "MuseumHouseModel" "MuseumHouseModel" "today" "I" : Cond) ∈ tG := tg5 (i := 14) rfl rfl
theorem wd_5_15 : (.soleField "MuseumHouseModel" "today" : Cond) ∈ tG := tg5 (i := 15) rfl rfl
theorem wd_5_16 : (.laysFinal "MuseumHouseModel" "MuseumHouseModel" "many" "[I" : Cond) ∈ tG := tg5 (i := 16) rfl rfl
theorem wd_5_17 : (.soleField "MuseumHouseModel" "many" : Cond) ∈ tG := tg5 (i := 17) rfl rfl
theorem wd_5_18 : (.laysFinal "MuseumHouseModel" "MuseumHouseModel" "rights" "[I" : Cond) ∈ tG := tg5 (i := 18) rfl rfl
theorem wd_5_19 : (.soleField "MuseumHouseModel" "rights" : Cond) ∈ tG := tg5 (i := 19) rfl rfl
theorem wd_5_20 : (.laysFinal "MuseumHouseModel" "MuseumHouseModel" "siteOf" "[I" : Cond) ∈ tG := tg5 (i := 20) rfl rfl
theorem wd_5_21 : (.soleField "MuseumHouseModel" "siteOf" : Cond) ∈ tG := tg5 (i := 21) rfl rfl
theorem wd_5_22 : (.laysFinal "MuseumHouseModel" "MuseumHouseModel" "firsts" "[I" : Cond) ∈ tG := tg5 (i := 22) rfl rfl
theorem wd_5_23 : (.soleField "MuseumHouseModel" "firsts" : Cond) ∈ tG := tg5 (i := 23) rfl rfl
theorem wd_5_24 : (.laysFinal "MuseumHouseModel" "MuseumHouseModel" "lasts" "[I" : Cond) ∈ tG := tg5 (i := 24) rfl rfl
theorem wd_5_25 : (.soleField "MuseumHouseModel" "lasts" : Cond) ∈ tG := tg5 (i := 25) rfl rfl
theorem wd_5_26 : (.laysFinal "MuseumHouseModel" "MuseumHouseModel" "told" "[Z" : Cond) ∈ tG := tg5 (i := 26) rfl rfl
theorem wd_5_27 : (.soleField "MuseumHouseModel" "told" : Cond) ∈ tG := tg5 (i := 27) rfl rfl
theorem wd_5_28 : (.laysFinal "MuseumHouseModel" "MuseumHouseModel" "over" "[Z" : Cond) ∈ tG := tg5 (i := 28) rfl rfl
theorem wd_5_29 : (.soleField "MuseumHouseModel" "over" : Cond) ∈ tG := tg5 (i := 29) rfl rfl
theorem wd_5_30 : (.laysFinal "MuseumHouseModel" "MuseumHouseModel" "contextOf" "[I" : Cond) ∈ tG := tg5 (i := 30) rfl rfl
theorem wd_5_31 : (.soleField "MuseumHouseModel" "contextOf" : Cond) ∈ tG := tg5 (i := 31) rfl rfl
theorem wd_5_32 : (.laysFinal "MuseumHouseModel" "MuseumHouseModel" "findDay" "[I" : Cond) ∈ tG := tg5 (i := 32) rfl rfl
theorem wd_5_33 : (.soleField "MuseumHouseModel" "findDay" : Cond) ∈ tG := tg5 (i := 33) rfl rfl
theorem wd_5_34 : (.laysFinal "MuseumHouseModel" "MuseumHouseModel" "findOf" "[I" : Cond) ∈ tG := tg5 (i := 34) rfl rfl
theorem wd_5_35 : (.soleField "MuseumHouseModel" "findOf" : Cond) ∈ tG := tg5 (i := 35) rfl rfl
theorem wd_5_36 : (.laysFinal "MuseumHouseModel" "MuseumHouseModel" "parents" "[I" : Cond) ∈ tG := tg5 (i := 36) rfl rfl
theorem wd_5_37 : (.soleField "MuseumHouseModel" "parents" : Cond) ∈ tG := tg5 (i := 37) rfl rfl
theorem wd_5_38 : (.laysFinal "MuseumHouseModel" "MuseumHouseModel" "moves" "[I" : Cond) ∈ tG := tg5 (i := 38) rfl rfl
theorem wd_5_39 : (.soleField "MuseumHouseModel" "moves" : Cond) ∈ tG := tg5 (i := 39) rfl rfl
theorem wd_5_40 : (.laysFinal "MuseumHouseModel" "MuseumHouseModel" "moveDays" "[I" : Cond) ∈ tG := tg5 (i := 40) rfl rfl
theorem wd_5_41 : (.soleField "MuseumHouseModel" "moveDays" : Cond) ∈ tG := tg5 (i := 41) rfl rfl
theorem wd_5_42 : (.laysFinal "MuseumHouseModel" "MuseumHouseModel" "moveStores" "[I" : Cond) ∈ tG := tg5 (i := 42) rfl rfl
theorem wd_5_43 : (.soleField "MuseumHouseModel" "moveStores" : Cond) ∈ tG := tg5 (i := 43) rfl rfl
theorem wd_5_44 : (.laysFinal "MuseumHouseModel" "MuseumHouseModel" "loanOf" "[I" : Cond) ∈ tG := tg5 (i := 44) rfl rfl
theorem wd_5_45 : (.soleField "MuseumHouseModel" "loanOf" : Cond) ∈ tG := tg5 (i := 45) rfl rfl
theorem wd_5_46 : (.laysFinal "MuseumHouseModel" "MuseumHouseModel" "loanFrom" "[I" : Cond) ∈ tG := tg5 (i := 46) rfl rfl
theorem wd_5_47 : (.soleField "MuseumHouseModel" "loanFrom" : Cond) ∈ tG := tg5 (i := 47) rfl rfl
theorem wd_5_48 : (.laysFinal "MuseumHouseModel" "MuseumHouseModel" "loanTo" "[I" : Cond) ∈ tG := tg5 (i := 48) rfl rfl
theorem wd_5_49 : (.soleField "MuseumHouseModel" "loanTo" : Cond) ∈ tG := tg5 (i := 49) rfl rfl
theorem wd_5_50 : (.laysFinal "MuseumHouseModel" "MuseumHouseModel" "halls" "[I" : Cond) ∈ tG := tg5 (i := 50) rfl rfl
theorem wd_5_51 : (.soleField "MuseumHouseModel" "halls" : Cond) ∈ tG := tg5 (i := 51) rfl rfl
theorem wd_5_52 : (.laysFinal "MuseumHouseModel" "MuseumHouseModel" "showFrom" "[I" : Cond) ∈ tG := tg5 (i := 52) rfl rfl
theorem wd_5_53 : (.soleField "MuseumHouseModel" "showFrom" : Cond) ∈ tG := tg5 (i := 53) rfl rfl
theorem wd_5_54 : (.laysFinal "MuseumHouseModel" "MuseumHouseModel" "showTo" "[I" : Cond) ∈ tG := tg5 (i := 54) rfl rfl
theorem wd_5_55 : (.soleField "MuseumHouseModel" "showTo" : Cond) ∈ tG := tg5 (i := 55) rfl rfl
theorem wd_5_56 : (.laysFinal "MuseumHouseModel" "MuseumHouseModel" "hung" "[Z" : Cond) ∈ tG := tg5 (i := 56) rfl rfl
theorem wd_5_57 : (.soleField "MuseumHouseModel" "hung" : Cond) ∈ tG := tg5 (i := 57) rfl rfl
theorem wd_5_58 : (.laysFinal "MuseumHouseModel" "MuseumHouseModel" "claimOf" "[I" : Cond) ∈ tG := tg5 (i := 58) rfl rfl
theorem wd_5_59 : (.soleField "MuseumHouseModel" "claimOf" : Cond) ∈ tG := tg5 (i := 59) rfl rfl
theorem wd_5_60 : (.laysFinal "MuseumHouseModel" "MuseumHouseModel" "sources" "[I" : Cond) ∈ tG := tg5 (i := 60) rfl rfl
theorem wd_5_61 : (.soleField "MuseumHouseModel" "sources" : Cond) ∈ tG := tg5 (i := 61) rfl rfl
theorem wd_5_62 : (.laysFinal "MuseumHouseModel" "MuseumHouseModel" "open" "[Z" : Cond) ∈ tG := tg5 (i := 62) rfl rfl
theorem wd_5_63 : (.soleField "MuseumHouseModel" "open" : Cond) ∈ tG := tg5 (i := 63) rfl rfl
theorem wd_5_64 : (.superclass "MuseumHouseModel" "java/lang/Object" : Cond) ∈ tG := tg5 (i := 64) rfl rfl
theorem wd_5_65 : (.methodLink "MuseumHouseLaw" 113 ⟨"MuseumHouseModel", "thrown", "()I"⟩ : Cond) ∈ tG := tg5 (i := 65) rfl rfl
theorem wd_5_66 : (.instanceMethod ⟨"MuseumHouseModel", "thrown", "()I"⟩ : Cond) ∈ tG := tg5 (i := 66) rfl rfl
theorem wd_5_67 : (.selects "MuseumHouseModel" ⟨"MuseumHouseModel", "thrown", "()I"⟩ ⟨"MuseumHouseModel", "thrown", "()I"⟩ : Cond) ∈ tG := tg5 (i := 67) rfl rfl
theorem wd_5_68 : (.code ⟨"MuseumHouseModel", "thrown", "()I"⟩ prog_14_method_2_code 1 (some .int) : Cond) ∈ tG := tg5 (i := 68) rfl rfl
theorem wd_5_69 : (.methodLink "MuseumHouseLaw" 112 ⟨"MuseumHouseModel", "desk", "(II)I"⟩ : Cond) ∈ tG := tg5 (i := 69) rfl rfl
theorem wd_5_70 : (.instanceMethod ⟨"MuseumHouseModel", "desk", "(II)I"⟩ : Cond) ∈ tG := tg5 (i := 70) rfl rfl
theorem wd_5_71 : (.selects "MuseumHouseModel" ⟨"MuseumHouseModel", "desk", "(II)I"⟩ ⟨"MuseumHouseModel", "desk", "(II)I"⟩ : Cond) ∈ tG := tg5 (i := 71) rfl rfl
theorem wd_5_72 : (.code ⟨"MuseumHouseModel", "desk", "(II)I"⟩ prog_14_method_12_code 4 (some .int) : Cond) ∈ tG := tg5 (i := 72) rfl rfl
theorem wd_5_73 : (.methodLink "MuseumHouseModel" 97 ⟨"MuseumHouseModel", "first", "(ZIIZ)I"⟩ : Cond) ∈ tG := tg5 (i := 73) rfl rfl
theorem wd_5_75 : (.instanceMethod ⟨"MuseumHouseModel", "first", "(ZIIZ)I"⟩ : Cond) ∈ tG := tg5 (i := 75) rfl rfl
theorem wd_5_76 : (.code ⟨"MuseumHouseModel", "first", "(ZIIZ)I"⟩ prog_14_method_9_code 5 (some .int) : Cond) ∈ tG := tg5 (i := 76) rfl rfl
theorem wd_5_77 : (.methodLink "MuseumHouseModel" 90 ⟨"MuseumHouseModel", "is", "(II)Z"⟩ : Cond) ∈ tG := tg5 (i := 77) rfl rfl
theorem wd_5_79 : (.instanceMethod ⟨"MuseumHouseModel", "is", "(II)Z"⟩ : Cond) ∈ tG := tg5 (i := 79) rfl rfl
theorem wd_5_80 : (.code ⟨"MuseumHouseModel", "is", "(II)Z"⟩ prog_14_method_5_code 3 (some .boolean) : Cond) ∈ tG := tg5 (i := 80) rfl rfl
theorem wd_5_81 : (.methodLink "MuseumHouseModel" 94 ⟨"MuseumHouseModel", "may", "(II)Z"⟩ : Cond) ∈ tG := tg5 (i := 81) rfl rfl
theorem wd_5_83 : (.instanceMethod ⟨"MuseumHouseModel", "may", "(II)Z"⟩ : Cond) ∈ tG := tg5 (i := 83) rfl rfl
theorem wd_5_84 : (.code ⟨"MuseumHouseModel", "may", "(II)Z"⟩ prog_14_method_6_code 3 (some .boolean) : Cond) ∈ tG := tg5 (i := 84) rfl rfl
theorem wd_5_85 : (.methodLink "MuseumHouseModel" 101 ⟨"MuseumHouseModel", "lies", "(III)Z"⟩ : Cond) ∈ tG := tg5 (i := 85) rfl rfl
theorem wd_5_86 : (.static ⟨"MuseumHouseModel", "lies", "(III)Z"⟩ : Cond) ∈ tG := tg5 (i := 86) rfl rfl
theorem wd_5_87 : (.code ⟨"MuseumHouseModel", "lies", "(III)Z"⟩ prog_14_method_7_code 3 (some .boolean) : Cond) ∈ tG := tg5 (i := 87) rfl rfl
theorem wd_5_88 : (.methodLink "MuseumHouseModel" 105 ⟨"MuseumHouseModel", "then", "(IZI)I"⟩ : Cond) ∈ tG := tg5 (i := 88) rfl rfl
theorem wd_5_89 : (.static ⟨"MuseumHouseModel", "then", "(IZI)I"⟩ : Cond) ∈ tG := tg5 (i := 89) rfl rfl
theorem wd_5_90 : (.code ⟨"MuseumHouseModel", "then", "(IZI)I"⟩ prog_14_method_10_code 3 (some .int) : Cond) ∈ tG := tg5 (i := 90) rfl rfl
theorem wd_5_91 : (.methodLink "MuseumHouseModel" 109 ⟨"MuseumHouseModel", "holds", "(I)Z"⟩ : Cond) ∈ tG := tg5 (i := 91) rfl rfl
theorem wd_5_93 : (.instanceMethod ⟨"MuseumHouseModel", "holds", "(I)Z"⟩ : Cond) ∈ tG := tg5 (i := 93) rfl rfl
theorem wd_5_94 : (.code ⟨"MuseumHouseModel", "holds", "(I)Z"⟩ prog_14_method_3_code 2 (some .boolean) : Cond) ∈ tG := tg5 (i := 94) rfl rfl
theorem wd_5_95 : (.methodLink "MuseumHouseModel" 113 ⟨"MuseumHouseModel", "made", "(I)I"⟩ : Cond) ∈ tG := tg5 (i := 95) rfl rfl
theorem wd_5_97 : (.instanceMethod ⟨"MuseumHouseModel", "made", "(I)I"⟩ : Cond) ∈ tG := tg5 (i := 97) rfl rfl
theorem wd_5_98 : (.code ⟨"MuseumHouseModel", "made", "(I)I"⟩ prog_14_method_11_code 2 (some .int) : Cond) ∈ tG := tg5 (i := 98) rfl rfl
theorem wd_5_99 : (.methodLink "MuseumHouseLaw" 120 ⟨"MuseumHouseModel", "day", "(I)I"⟩ : Cond) ∈ tG := tg5 (i := 99) rfl rfl
theorem wd_5_100 : (.instanceMethod ⟨"MuseumHouseModel", "day", "(I)I"⟩ : Cond) ∈ tG := tg5 (i := 100) rfl rfl
theorem wd_5_101 : (.selects "MuseumHouseModel" ⟨"MuseumHouseModel", "day", "(I)I"⟩ ⟨"MuseumHouseModel", "day", "(I)I"⟩ : Cond) ∈ tG := tg5 (i := 101) rfl rfl
theorem wd_5_102 : (.code ⟨"MuseumHouseModel", "day", "(I)I"⟩ prog_14_method_13_code 3 (some .int) : Cond) ∈ tG := tg5 (i := 102) rfl rfl
theorem wd_5_103 : (.methodLink "MuseumHouseLaw" 123 ⟨"MuseumHouseModel", "site", "(I)I"⟩ : Cond) ∈ tG := tg5 (i := 103) rfl rfl
theorem wd_5_104 : (.instanceMethod ⟨"MuseumHouseModel", "site", "(I)I"⟩ : Cond) ∈ tG := tg5 (i := 104) rfl rfl
theorem wd_5_105 : (.selects "MuseumHouseModel" ⟨"MuseumHouseModel", "site", "(I)I"⟩ ⟨"MuseumHouseModel", "site", "(I)I"⟩ : Cond) ∈ tG := tg5 (i := 105) rfl rfl
theorem wd_5_106 : (.code ⟨"MuseumHouseModel", "site", "(I)I"⟩ prog_14_method_14_code 2 (some .int) : Cond) ∈ tG := tg5 (i := 106) rfl rfl
theorem wd_5_107 : (.methodLink "MuseumHouseLaw" 126 ⟨"MuseumHouseModel", "context", "(II)I"⟩ : Cond) ∈ tG := tg5 (i := 107) rfl rfl
theorem wd_5_108 : (.instanceMethod ⟨"MuseumHouseModel", "context", "(II)I"⟩ : Cond) ∈ tG := tg5 (i := 108) rfl rfl
theorem wd_5_109 : (.selects "MuseumHouseModel" ⟨"MuseumHouseModel", "context", "(II)I"⟩ ⟨"MuseumHouseModel", "context", "(II)I"⟩ : Cond) ∈ tG := tg5 (i := 109) rfl rfl
theorem wd_5_110 : (.code ⟨"MuseumHouseModel", "context", "(II)I"⟩ prog_14_method_15_code 3 (some .int) : Cond) ∈ tG := tg5 (i := 110) rfl rfl
theorem wd_5_111 : (.methodLink "MuseumHouseLaw" 130 ⟨"MuseumHouseModel", "above", "(III)Z"⟩ : Cond) ∈ tG := tg5 (i := 111) rfl rfl
theorem wd_5_112 : (.instanceMethod ⟨"MuseumHouseModel", "above", "(III)Z"⟩ : Cond) ∈ tG := tg5 (i := 112) rfl rfl
theorem wd_5_113 : (.selects "MuseumHouseModel" ⟨"MuseumHouseModel", "above", "(III)Z"⟩ ⟨"MuseumHouseModel", "above", "(III)Z"⟩ : Cond) ∈ tG := tg5 (i := 113) rfl rfl
theorem wd_5_114 : (.code ⟨"MuseumHouseModel", "above", "(III)Z"⟩ prog_14_method_20_code 9 (some .boolean) : Cond) ∈ tG := tg5 (i := 114) rfl rfl
theorem wd_5_115 : (.methodLink "MuseumHouseModel" 120 ⟨"MuseumHouseModel", "follow", "()V"⟩ : Cond) ∈ tG := tg5 (i := 115) rfl rfl
theorem wd_5_117 : (.instanceMethod ⟨"MuseumHouseModel", "follow", "()V"⟩ : Cond) ∈ tG := tg5 (i := 117) rfl rfl
theorem wd_5_118 : (.code ⟨"MuseumHouseModel", "follow", "()V"⟩ prog_14_method_16_code 6 (none : Option Jvm.ClassFile.FieldType) : Cond) ∈ tG := tg5 (i := 118) rfl rfl
theorem wd_5_119 : (.methodLink "MuseumHouseModel" 129 ⟨"MuseumHouseModel", "fits", "()Z"⟩ : Cond) ∈ tG := tg5 (i := 119) rfl rfl
theorem wd_5_121 : (.instanceMethod ⟨"MuseumHouseModel", "fits", "()Z"⟩ : Cond) ∈ tG := tg5 (i := 121) rfl rfl
theorem wd_5_122 : (.code ⟨"MuseumHouseModel", "fits", "()Z"⟩ prog_14_method_19_code 3 (some .boolean) : Cond) ∈ tG := tg5 (i := 122) rfl rfl
theorem wd_5_123 : (.methodLink "MuseumHouseModel" 123 ⟨"MuseumHouseModel", "earliest", "(I)I"⟩ : Cond) ∈ tG := tg5 (i := 123) rfl rfl
theorem wd_5_125 : (.instanceMethod ⟨"MuseumHouseModel", "earliest", "(I)I"⟩ : Cond) ∈ tG := tg5 (i := 125) rfl rfl
theorem wd_5_126 : (.code ⟨"MuseumHouseModel", "earliest", "(I)I"⟩ prog_14_method_17_code 4 (some .int) : Cond) ∈ tG := tg5 (i := 126) rfl rfl
theorem wd_5_127 : (.methodLink "MuseumHouseModel" 126 ⟨"MuseumHouseModel", "latest", "(I)I"⟩ : Cond) ∈ tG := tg5 (i := 127) rfl rfl
theorem wd_5_129 : (.instanceMethod ⟨"MuseumHouseModel", "latest", "(I)I"⟩ : Cond) ∈ tG := tg5 (i := 129) rfl rfl
theorem wd_5_130 : (.code ⟨"MuseumHouseModel", "latest", "(I)I"⟩ prog_14_method_18_code 4 (some .int) : Cond) ∈ tG := tg5 (i := 130) rfl rfl
theorem wd_5_131 : (.methodLink "MuseumHouseLaw" 134 ⟨"MuseumHouseModel", "span", "(IIII)I"⟩ : Cond) ∈ tG := tg5 (i := 131) rfl rfl
theorem wd_5_132 : (.instanceMethod ⟨"MuseumHouseModel", "span", "(IIII)I"⟩ : Cond) ∈ tG := tg5 (i := 132) rfl rfl
theorem wd_5_133 : (.selects "MuseumHouseModel" ⟨"MuseumHouseModel", "span", "(IIII)I"⟩ ⟨"MuseumHouseModel", "span", "(IIII)I"⟩ : Cond) ∈ tG := tg5 (i := 133) rfl rfl
theorem wd_5_134 : (.code ⟨"MuseumHouseModel", "span", "(IIII)I"⟩ prog_14_method_21_code 9 (some .int) : Cond) ∈ tG := tg5 (i := 134) rfl rfl
theorem wd_5_135 : (.methodLink "MuseumHouseLaw" 137 ⟨"MuseumHouseModel", "isAbove", "(II)Z"⟩ : Cond) ∈ tG := tg5 (i := 135) rfl rfl
theorem wd_5_136 : (.instanceMethod ⟨"MuseumHouseModel", "isAbove", "(II)Z"⟩ : Cond) ∈ tG := tg5 (i := 136) rfl rfl
theorem wd_5_137 : (.selects "MuseumHouseModel" ⟨"MuseumHouseModel", "isAbove", "(II)Z"⟩ ⟨"MuseumHouseModel", "isAbove", "(II)Z"⟩ : Cond) ∈ tG := tg5 (i := 137) rfl rfl
theorem wd_5_138 : (.code ⟨"MuseumHouseModel", "isAbove", "(II)Z"⟩ prog_14_method_22_code 3 (some .boolean) : Cond) ∈ tG := tg5 (i := 138) rfl rfl
theorem wd_5_139 : (.methodLink "MuseumHouseLaw" 140 ⟨"MuseumHouseModel", "year", "(II)I"⟩ : Cond) ∈ tG := tg5 (i := 139) rfl rfl
theorem wd_5_140 : (.instanceMethod ⟨"MuseumHouseModel", "year", "(II)I"⟩ : Cond) ∈ tG := tg5 (i := 140) rfl rfl
theorem wd_5_141 : (.selects "MuseumHouseModel" ⟨"MuseumHouseModel", "year", "(II)I"⟩ ⟨"MuseumHouseModel", "year", "(II)I"⟩ : Cond) ∈ tG := tg5 (i := 141) rfl rfl
theorem wd_5_142 : (.code ⟨"MuseumHouseModel", "year", "(II)I"⟩ prog_14_method_23_code 4 (some .int) : Cond) ∈ tG := tg5 (i := 142) rfl rfl
theorem wd_5_143 : (.methodLink "MuseumHouseModel" 133 ⟨"MuseumHouseModel", "holdsShort", "(I)Z"⟩ : Cond) ∈ tG := tg5 (i := 143) rfl rfl
theorem wd_5_145 : (.instanceMethod ⟨"MuseumHouseModel", "holdsShort", "(I)Z"⟩ : Cond) ∈ tG := tg5 (i := 145) rfl rfl
theorem wd_5_146 : (.code ⟨"MuseumHouseModel", "holdsShort", "(I)Z"⟩ prog_14_method_4_code 2 (some .boolean) : Cond) ∈ tG := tg5 (i := 146) rfl rfl
theorem wd_5_147 : (.methodLink "MuseumHouseLaw" 143 ⟨"MuseumHouseModel", "find", "(III)I"⟩ : Cond) ∈ tG := tg5 (i := 147) rfl rfl
theorem wd_5_148 : (.instanceMethod ⟨"MuseumHouseModel", "find", "(III)I"⟩ : Cond) ∈ tG := tg5 (i := 148) rfl rfl
theorem wd_5_149 : (.selects "MuseumHouseModel" ⟨"MuseumHouseModel", "find", "(III)I"⟩ ⟨"MuseumHouseModel", "find", "(III)I"⟩ : Cond) ∈ tG := tg5 (i := 149) rfl rfl
theorem wd_5_150 : (.code ⟨"MuseumHouseModel", "find", "(III)I"⟩ prog_14_method_24_code 5 (some .int) : Cond) ∈ tG := tg5 (i := 150) rfl rfl
theorem wd_5_151 : (.methodLink "MuseumHouseLaw" 146 ⟨"MuseumHouseModel", "object", "(II)I"⟩ : Cond) ∈ tG := tg5 (i := 151) rfl rfl
theorem wd_5_152 : (.instanceMethod ⟨"MuseumHouseModel", "object", "(II)I"⟩ : Cond) ∈ tG := tg5 (i := 152) rfl rfl
theorem wd_5_153 : (.selects "MuseumHouseModel" ⟨"MuseumHouseModel", "object", "(II)I"⟩ ⟨"MuseumHouseModel", "object", "(II)I"⟩ : Cond) ∈ tG := tg5 (i := 153) rfl rfl
theorem wd_5_154 : (.code ⟨"MuseumHouseModel", "object", "(II)I"⟩ prog_14_method_25_code 6 (some .int) : Cond) ∈ tG := tg5 (i := 154) rfl rfl
theorem wd_5_155 : (.methodLink "MuseumHouseLaw" 149 ⟨"MuseumHouseModel", "store", "(II)I"⟩ : Cond) ∈ tG := tg5 (i := 155) rfl rfl
theorem wd_5_156 : (.instanceMethod ⟨"MuseumHouseModel", "store", "(II)I"⟩ : Cond) ∈ tG := tg5 (i := 156) rfl rfl
theorem wd_5_157 : (.selects "MuseumHouseModel" ⟨"MuseumHouseModel", "store", "(II)I"⟩ ⟨"MuseumHouseModel", "store", "(II)I"⟩ : Cond) ∈ tG := tg5 (i := 157) rfl rfl
theorem wd_5_158 : (.code ⟨"MuseumHouseModel", "store", "(II)I"⟩ prog_14_method_27_code 3 (some .int) : Cond) ∈ tG := tg5 (i := 158) rfl rfl
theorem wd_5_159 : (.methodLink "MuseumHouseLaw" 152 ⟨"MuseumHouseModel", "carry", "(III)Z"⟩ : Cond) ∈ tG := tg5 (i := 159) rfl rfl
theorem wd_5_160 : (.instanceMethod ⟨"MuseumHouseModel", "carry", "(III)Z"⟩ : Cond) ∈ tG := tg5 (i := 160) rfl rfl
theorem wd_5_161 : (.selects "MuseumHouseModel" ⟨"MuseumHouseModel", "carry", "(III)Z"⟩ ⟨"MuseumHouseModel", "carry", "(III)Z"⟩ : Cond) ∈ tG := tg5 (i := 161) rfl rfl
theorem wd_5_162 : (.code ⟨"MuseumHouseModel", "carry", "(III)Z"⟩ prog_14_method_29_code 8 (some .boolean) : Cond) ∈ tG := tg5 (i := 162) rfl rfl
theorem wd_5_163 : (.methodLink "MuseumHouseModel" 136 ⟨"MuseumHouseModel", "isIn", "(II)Z"⟩ : Cond) ∈ tG := tg5 (i := 163) rfl rfl
theorem wd_5_165 : (.instanceMethod ⟨"MuseumHouseModel", "isIn", "(II)Z"⟩ : Cond) ∈ tG := tg5 (i := 165) rfl rfl
theorem wd_5_166 : (.code ⟨"MuseumHouseModel", "isIn", "(II)Z"⟩ prog_14_method_28_code 4 (some .boolean) : Cond) ∈ tG := tg5 (i := 166) rfl rfl
theorem wd_5_167 : (.methodLink "MuseumHouseLaw" 155 ⟨"MuseumHouseModel", "within", "(II)Z"⟩ : Cond) ∈ tG := tg5 (i := 167) rfl rfl
theorem wd_5_168 : (.instanceMethod ⟨"MuseumHouseModel", "within", "(II)Z"⟩ : Cond) ∈ tG := tg5 (i := 168) rfl rfl
theorem wd_5_169 : (.selects "MuseumHouseModel" ⟨"MuseumHouseModel", "within", "(II)Z"⟩ ⟨"MuseumHouseModel", "within", "(II)Z"⟩ : Cond) ∈ tG := tg5 (i := 169) rfl rfl
theorem wd_5_170 : (.code ⟨"MuseumHouseModel", "within", "(II)Z"⟩ prog_14_method_30_code 3 (some .boolean) : Cond) ∈ tG := tg5 (i := 170) rfl rfl
theorem wd_5_171 : (.methodLink "MuseumHouseLaw" 158 ⟨"MuseumHouseModel", "move", "(IIII)Z"⟩ : Cond) ∈ tG := tg5 (i := 171) rfl rfl
theorem wd_5_172 : (.instanceMethod ⟨"MuseumHouseModel", "move", "(IIII)Z"⟩ : Cond) ∈ tG := tg5 (i := 172) rfl rfl
theorem wd_5_173 : (.selects "MuseumHouseModel" ⟨"MuseumHouseModel", "move", "(IIII)Z"⟩ ⟨"MuseumHouseModel", "move", "(IIII)Z"⟩ : Cond) ∈ tG := tg5 (i := 173) rfl rfl
theorem wd_5_174 : (.code ⟨"MuseumHouseModel", "move", "(IIII)Z"⟩ prog_14_method_35_code 10 (some .boolean) : Cond) ∈ tG := tg5 (i := 174) rfl rfl
theorem wd_5_175 : (.methodLink "MuseumHouseModel" 139 ⟨"MuseumHouseModel", "moveAt", "(II)I"⟩ : Cond) ∈ tG := tg5 (i := 175) rfl rfl
theorem wd_5_177 : (.instanceMethod ⟨"MuseumHouseModel", "moveAt", "(II)I"⟩ : Cond) ∈ tG := tg5 (i := 177) rfl rfl
theorem wd_5_178 : (.code ⟨"MuseumHouseModel", "moveAt", "(II)I"⟩ prog_14_method_31_code 5 (some .int) : Cond) ∈ tG := tg5 (i := 178) rfl rfl
theorem wd_5_179 : (.methodLink "MuseumHouseModel" 143 ⟨"MuseumHouseModel", "dayOf", "(I)I"⟩ : Cond) ∈ tG := tg5 (i := 179) rfl rfl
theorem wd_5_181 : (.instanceMethod ⟨"MuseumHouseModel", "dayOf", "(I)I"⟩ : Cond) ∈ tG := tg5 (i := 181) rfl rfl
theorem wd_5_182 : (.code ⟨"MuseumHouseModel", "dayOf", "(I)I"⟩ prog_14_method_26_code 2 (some .int) : Cond) ∈ tG := tg5 (i := 182) rfl rfl
theorem wd_5_183 : (.methodLink "MuseumHouseModel" 146 ⟨"MuseumHouseModel", "loanAt", "(III)I"⟩ : Cond) ∈ tG := tg5 (i := 183) rfl rfl
theorem wd_5_185 : (.instanceMethod ⟨"MuseumHouseModel", "loanAt", "(III)I"⟩ : Cond) ∈ tG := tg5 (i := 185) rfl rfl
theorem wd_5_186 : (.code ⟨"MuseumHouseModel", "loanAt", "(III)I"⟩ prog_14_method_32_code 6 (some .int) : Cond) ∈ tG := tg5 (i := 186) rfl rfl
theorem wd_5_187 : (.methodLink "MuseumHouseLaw" 161 ⟨"MuseumHouseModel", "place", "(II)I"⟩ : Cond) ∈ tG := tg5 (i := 187) rfl rfl
theorem wd_5_188 : (.instanceMethod ⟨"MuseumHouseModel", "place", "(II)I"⟩ : Cond) ∈ tG := tg5 (i := 188) rfl rfl
theorem wd_5_189 : (.selects "MuseumHouseModel" ⟨"MuseumHouseModel", "place", "(II)I"⟩ ⟨"MuseumHouseModel", "place", "(II)I"⟩ : Cond) ∈ tG := tg5 (i := 189) rfl rfl
theorem wd_5_190 : (.code ⟨"MuseumHouseModel", "place", "(II)I"⟩ prog_14_method_38_code 3 (some .int) : Cond) ∈ tG := tg5 (i := 190) rfl rfl
theorem wd_5_191 : (.methodLink "MuseumHouseModel" 150 ⟨"MuseumHouseModel", "isDay", "(I)Z"⟩ : Cond) ∈ tG := tg5 (i := 191) rfl rfl
theorem wd_5_192 : (.static ⟨"MuseumHouseModel", "isDay", "(I)Z"⟩ : Cond) ∈ tG := tg5 (i := 192) rfl rfl
theorem wd_5_193 : (.code ⟨"MuseumHouseModel", "isDay", "(I)Z"⟩ prog_14_method_37_code 1 (some .boolean) : Cond) ∈ tG := tg5 (i := 193) rfl rfl
theorem wd_5_194 : (.methodLink "MuseumHouseModel" 153 ⟨"MuseumHouseModel", "placeOf", "(II)I"⟩ : Cond) ∈ tG := tg5 (i := 194) rfl rfl
theorem wd_5_196 : (.instanceMethod ⟨"MuseumHouseModel", "placeOf", "(II)I"⟩ : Cond) ∈ tG := tg5 (i := 196) rfl rfl
theorem wd_5_197 : (.code ⟨"MuseumHouseModel", "placeOf", "(II)I"⟩ prog_14_method_36_code 5 (some .int) : Cond) ∈ tG := tg5 (i := 197) rfl rfl
theorem wd_5_198 : (.methodLink "MuseumHouseLaw" 164 ⟨"MuseumHouseModel", "stored", "(II)I"⟩ : Cond) ∈ tG := tg5 (i := 198) rfl rfl
theorem wd_5_199 : (.instanceMethod ⟨"MuseumHouseModel", "stored", "(II)I"⟩ : Cond) ∈ tG := tg5 (i := 199) rfl rfl
theorem wd_5_200 : (.selects "MuseumHouseModel" ⟨"MuseumHouseModel", "stored", "(II)I"⟩ ⟨"MuseumHouseModel", "stored", "(II)I"⟩ : Cond) ∈ tG := tg5 (i := 200) rfl rfl
theorem wd_5_201 : (.code ⟨"MuseumHouseModel", "stored", "(II)I"⟩ prog_14_method_39_code 6 (some .int) : Cond) ∈ tG := tg5 (i := 201) rfl rfl
theorem wd_5_202 : (.methodLink "MuseumHouseLaw" 167 ⟨"MuseumHouseModel", "loan", "(IIII)I"⟩ : Cond) ∈ tG := tg5 (i := 202) rfl rfl
theorem wd_5_203 : (.instanceMethod ⟨"MuseumHouseModel", "loan", "(IIII)I"⟩ : Cond) ∈ tG := tg5 (i := 203) rfl rfl
theorem wd_5_204 : (.selects "MuseumHouseModel" ⟨"MuseumHouseModel", "loan", "(IIII)I"⟩ ⟨"MuseumHouseModel", "loan", "(IIII)I"⟩ : Cond) ∈ tG := tg5 (i := 204) rfl rfl
theorem wd_5_205 : (.code ⟨"MuseumHouseModel", "loan", "(IIII)I"⟩ prog_14_method_40_code 6 (some .int) : Cond) ∈ tG := tg5 (i := 205) rfl rfl
theorem wd_5_206 : (.methodLink "MuseumHouseModel" 156 ⟨"MuseumHouseModel", "isSpan", "(II)Z"⟩ : Cond) ∈ tG := tg5 (i := 206) rfl rfl
theorem wd_5_207 : (.static ⟨"MuseumHouseModel", "isSpan", "(II)Z"⟩ : Cond) ∈ tG := tg5 (i := 207) rfl rfl
theorem wd_5_208 : (.code ⟨"MuseumHouseModel", "isSpan", "(II)Z"⟩ prog_14_method_8_code 2 (some .boolean) : Cond) ∈ tG := tg5 (i := 208) rfl rfl
theorem wd_5_209 : (.methodLink "MuseumHouseModel" 159 ⟨"MuseumHouseModel", "isClaimed", "(I)Z"⟩ : Cond) ∈ tG := tg5 (i := 209) rfl rfl
theorem wd_5_211 : (.instanceMethod ⟨"MuseumHouseModel", "isClaimed", "(I)Z"⟩ : Cond) ∈ tG := tg5 (i := 211) rfl rfl
theorem wd_5_212 : (.code ⟨"MuseumHouseModel", "isClaimed", "(I)Z"⟩ prog_14_method_34_code 4 (some .boolean) : Cond) ∈ tG := tg5 (i := 212) rfl rfl
theorem wd_5_213 : (.methodLink "MuseumHouseModel" 162 ⟨"MuseumHouseModel", "showAt", "(IIII)I"⟩ : Cond) ∈ tG := tg5 (i := 213) rfl rfl
theorem wd_5_215 : (.instanceMethod ⟨"MuseumHouseModel", "showAt", "(IIII)I"⟩ : Cond) ∈ tG := tg5 (i := 215) rfl rfl
theorem wd_5_216 : (.code ⟨"MuseumHouseModel", "showAt", "(IIII)I"⟩ prog_14_method_33_code 7 (some .int) : Cond) ∈ tG := tg5 (i := 216) rfl rfl
theorem wd_5_217 : (.methodLink "MuseumHouseLaw" 170 ⟨"MuseumHouseModel", "back", "(III)I"⟩ : Cond) ∈ tG := tg5 (i := 217) rfl rfl
theorem wd_5_218 : (.instanceMethod ⟨"MuseumHouseModel", "back", "(III)I"⟩ : Cond) ∈ tG := tg5 (i := 218) rfl rfl
theorem wd_5_219 : (.selects "MuseumHouseModel" ⟨"MuseumHouseModel", "back", "(III)I"⟩ ⟨"MuseumHouseModel", "back", "(III)I"⟩ : Cond) ∈ tG := tg5 (i := 219) rfl rfl
theorem wd_5_220 : (.code ⟨"MuseumHouseModel", "back", "(III)I"⟩ prog_14_method_41_code 8 (some .int) : Cond) ∈ tG := tg5 (i := 220) rfl rfl
theorem wd_5_221 : (.methodLink "MuseumHouseLaw" 173 ⟨"MuseumHouseModel", "show", "(IIII)I"⟩ : Cond) ∈ tG := tg5 (i := 221) rfl rfl
theorem wd_5_222 : (.instanceMethod ⟨"MuseumHouseModel", "show", "(IIII)I"⟩ : Cond) ∈ tG := tg5 (i := 222) rfl rfl
theorem wd_5_223 : (.selects "MuseumHouseModel" ⟨"MuseumHouseModel", "show", "(IIII)I"⟩ ⟨"MuseumHouseModel", "show", "(IIII)I"⟩ : Cond) ∈ tG := tg5 (i := 223) rfl rfl
theorem wd_5_224 : (.code ⟨"MuseumHouseModel", "show", "(IIII)I"⟩ prog_14_method_42_code 6 (some .int) : Cond) ∈ tG := tg5 (i := 224) rfl rfl
theorem wd_5_225 : (.methodLink "MuseumHouseLaw" 176 ⟨"MuseumHouseModel", "hang", "(III)Z"⟩ : Cond) ∈ tG := tg5 (i := 225) rfl rfl
theorem wd_5_226 : (.instanceMethod ⟨"MuseumHouseModel", "hang", "(III)Z"⟩ : Cond) ∈ tG := tg5 (i := 226) rfl rfl
theorem wd_5_227 : (.selects "MuseumHouseModel" ⟨"MuseumHouseModel", "hang", "(III)Z"⟩ ⟨"MuseumHouseModel", "hang", "(III)Z"⟩ : Cond) ∈ tG := tg5 (i := 227) rfl rfl
theorem wd_5_228 : (.code ⟨"MuseumHouseModel", "hang", "(III)Z"⟩ prog_14_method_43_code 7 (some .boolean) : Cond) ∈ tG := tg5 (i := 228) rfl rfl
theorem wd_5_229 : (.methodLink "MuseumHouseLaw" 179 ⟨"MuseumHouseModel", "take", "(III)Z"⟩ : Cond) ∈ tG := tg5 (i := 229) rfl rfl
theorem wd_5_230 : (.instanceMethod ⟨"MuseumHouseModel", "take", "(III)Z"⟩ : Cond) ∈ tG := tg5 (i := 230) rfl rfl
theorem wd_5_231 : (.selects "MuseumHouseModel" ⟨"MuseumHouseModel", "take", "(III)Z"⟩ ⟨"MuseumHouseModel", "take", "(III)Z"⟩ : Cond) ∈ tG := tg5 (i := 231) rfl rfl
theorem wd_5_232 : (.code ⟨"MuseumHouseModel", "take", "(III)Z"⟩ prog_14_method_44_code 6 (some .boolean) : Cond) ∈ tG := tg5 (i := 232) rfl rfl
theorem wd_5_233 : (.methodLink "MuseumHouseLaw" 182 ⟨"MuseumHouseModel", "claim", "(III)I"⟩ : Cond) ∈ tG := tg5 (i := 233) rfl rfl
theorem wd_5_234 : (.instanceMethod ⟨"MuseumHouseModel", "claim", "(III)I"⟩ : Cond) ∈ tG := tg5 (i := 234) rfl rfl
theorem wd_5_235 : (.selects "MuseumHouseModel" ⟨"MuseumHouseModel", "claim", "(III)I"⟩ ⟨"MuseumHouseModel", "claim", "(III)I"⟩ : Cond) ∈ tG := tg5 (i := 235) rfl rfl
theorem wd_5_236 : (.code ⟨"MuseumHouseModel", "claim", "(III)I"⟩ prog_14_method_45_code 7 (some .int) : Cond) ∈ tG := tg5 (i := 236) rfl rfl
theorem wd_5_237 : (.methodLink "MuseumHouseLaw" 185 ⟨"MuseumHouseModel", "close", "(II)I"⟩ : Cond) ∈ tG := tg5 (i := 237) rfl rfl
theorem wd_5_238 : (.instanceMethod ⟨"MuseumHouseModel", "close", "(II)I"⟩ : Cond) ∈ tG := tg5 (i := 238) rfl rfl
theorem wd_5_239 : (.selects "MuseumHouseModel" ⟨"MuseumHouseModel", "close", "(II)I"⟩ ⟨"MuseumHouseModel", "close", "(II)I"⟩ : Cond) ∈ tG := tg5 (i := 239) rfl rfl
theorem wd_6_0 : (.code ⟨"MuseumHouseModel", "close", "(II)I"⟩ prog_14_method_46_code 7 (some .int) : Cond) ∈ tG := tg6 (i := 0) rfl rfl
theorem wd_6_1 : (.methodLink "MuseumHouseLaw" 188 ⟨"MuseumHouseModel", "where", "(II)I"⟩ : Cond) ∈ tG := tg6 (i := 1) rfl rfl
theorem wd_6_2 : (.instanceMethod ⟨"MuseumHouseModel", "where", "(II)I"⟩ : Cond) ∈ tG := tg6 (i := 2) rfl rfl
theorem wd_6_3 : (.selects "MuseumHouseModel" ⟨"MuseumHouseModel", "where", "(II)I"⟩ ⟨"MuseumHouseModel", "where", "(II)I"⟩ : Cond) ∈ tG := tg6 (i := 3) rfl rfl
theorem wd_6_4 : (.code ⟨"MuseumHouseModel", "where", "(II)I"⟩ prog_14_method_47_code 6 (some .int) : Cond) ∈ tG := tg6 (i := 4) rfl rfl
theorem wd_6_5 : (.methodLink "MuseumHouseLaw" 191 ⟨"MuseumHouseModel", "origin", "(I)I"⟩ : Cond) ∈ tG := tg6 (i := 5) rfl rfl
theorem wd_6_6 : (.instanceMethod ⟨"MuseumHouseModel", "origin", "(I)I"⟩ : Cond) ∈ tG := tg6 (i := 6) rfl rfl
theorem wd_6_7 : (.selects "MuseumHouseModel" ⟨"MuseumHouseModel", "origin", "(I)I"⟩ ⟨"MuseumHouseModel", "origin", "(I)I"⟩ : Cond) ∈ tG := tg6 (i := 7) rfl rfl
theorem wd_6_8 : (.code ⟨"MuseumHouseModel", "origin", "(I)I"⟩ prog_14_method_48_code 2 (some .int) : Cond) ∈ tG := tg6 (i := 8) rfl rfl
theorem wd_6_9 : (.methodLink "MuseumHouseLaw" 194 ⟨"MuseumHouseModel", "hall", "(I)I"⟩ : Cond) ∈ tG := tg6 (i := 9) rfl rfl
theorem wd_6_10 : (.instanceMethod ⟨"MuseumHouseModel", "hall", "(I)I"⟩ : Cond) ∈ tG := tg6 (i := 10) rfl rfl
theorem wd_6_11 : (.selects "MuseumHouseModel" ⟨"MuseumHouseModel", "hall", "(I)I"⟩ ⟨"MuseumHouseModel", "hall", "(I)I"⟩ : Cond) ∈ tG := tg6 (i := 11) rfl rfl
theorem wd_6_12 : (.code ⟨"MuseumHouseModel", "hall", "(I)I"⟩ prog_14_method_49_code 2 (some .int) : Cond) ∈ tG := tg6 (i := 12) rfl rfl
theorem wd_6_13 : (.methodLink "MuseumHouseLaw" 198 ⟨"MuseumHouseModel", "rule", "()I"⟩ : Cond) ∈ tG := tg6 (i := 13) rfl rfl
theorem wd_6_14 : (.instanceMethod ⟨"MuseumHouseModel", "rule", "()I"⟩ : Cond) ∈ tG := tg6 (i := 14) rfl rfl
theorem wd_6_15 : (.selects "MuseumHouseModel" ⟨"MuseumHouseModel", "rule", "()I"⟩ ⟨"MuseumHouseModel", "rule", "()I"⟩ : Cond) ∈ tG := tg6 (i := 15) rfl rfl
theorem wd_6_16 : (.code ⟨"MuseumHouseModel", "rule", "()I"⟩ prog_14_method_50_code 1 (some .int) : Cond) ∈ tG := tg6 (i := 16) rfl rfl
theorem wd_6_17 : (.methodLink "MuseumHouseLaw" 201 ⟨"MuseumHouseModel", "count", "(I)I"⟩ : Cond) ∈ tG := tg6 (i := 17) rfl rfl
theorem wd_6_18 : (.instanceMethod ⟨"MuseumHouseModel", "count", "(I)I"⟩ : Cond) ∈ tG := tg6 (i := 18) rfl rfl
theorem wd_6_19 : (.selects "MuseumHouseModel" ⟨"MuseumHouseModel", "count", "(I)I"⟩ ⟨"MuseumHouseModel", "count", "(I)I"⟩ : Cond) ∈ tG := tg6 (i := 19) rfl rfl
theorem wd_6_20 : (.code ⟨"MuseumHouseModel", "count", "(I)I"⟩ prog_14_method_51_code 2 (some .int) : Cond) ∈ tG := tg6 (i := 20) rfl rfl
theorem wd_6_21 : (.arrayClass .long : Cond) ∈ tG := tg6 (i := 21) rfl rfl
theorem wd_6_22 : (.sameMethod "java/lang/Throwable" "java/lang/Throwable" "fillInStackTrace" "(I)Ljava/lang/Throwable;" : Cond) ∈ tG := tg6 (i := 22) rfl rfl
theorem wd_0_0 : (.selects "MuseumHouse" ⟨"MuseumHouse", "numberOf", "(LMuseumHouse$Register;I)I"⟩ ⟨"MuseumHouse", "numberOf", "(LMuseumHouse$Register;I)I"⟩ : Cond) ∈ tG := tg0 (i := 0) rfl rfl
theorem wd_0_1 : (.selects "java/lang/Throwable" ⟨"java/lang/Throwable", "fillInStackTrace", "(I)Ljava/lang/Throwable;"⟩ ⟨"java/lang/Throwable", "fillInStackTrace", "(I)Ljava/lang/Throwable;"⟩ : Cond) ∈ tG := tg0 (i := 1) rfl rfl
theorem wd_0_2 : (.selects "MuseumHouse" ⟨"MuseumHouse", "askRight", "(II)V"⟩ ⟨"MuseumHouse", "askRight", "(II)V"⟩ : Cond) ∈ tG := tg0 (i := 2) rfl rfl
theorem wd_0_3 : (.selects "MuseumHouse" ⟨"MuseumHouse", "askRoom", "(Z)V"⟩ ⟨"MuseumHouse", "askRoom", "(Z)V"⟩ : Cond) ∈ tG := tg0 (i := 3) rfl rfl
theorem wd_0_4 : (.selects "MuseumHouse" ⟨"MuseumHouse", "ask", "(IZ)V"⟩ ⟨"MuseumHouse", "ask", "(IZ)V"⟩ : Cond) ∈ tG := tg0 (i := 4) rfl rfl
theorem wd_0_5 : (.selects "MuseumHouse$Contexts" ⟨"MuseumHouse$Contexts", "greatestFirstBelow", "(I)I"⟩ ⟨"MuseumHouse$Contexts", "greatestFirstBelow", "(I)I"⟩ : Cond) ∈ tG := tg0 (i := 5) rfl rfl
theorem wd_0_6 : (.selects "MuseumHouse$Contexts" ⟨"MuseumHouse$Contexts", "leastLastAbove", "(I)I"⟩ ⟨"MuseumHouse$Contexts", "leastLastAbove", "(I)I"⟩ : Cond) ∈ tG := tg0 (i := 6) rfl rfl
theorem wd_0_7 : (.selects "MuseumHouse" ⟨"MuseumHouse", "parentNumberOf", "(I)I"⟩ ⟨"MuseumHouse", "parentNumberOf", "(I)I"⟩ : Cond) ∈ tG := tg0 (i := 7) rfl rfl
theorem wd_0_8 : (.selects "MuseumHouse$Moves" ⟨"MuseumHouse$Moves", "slotOf", "(II)I"⟩ ⟨"MuseumHouse$Moves", "slotOf", "(II)I"⟩ : Cond) ∈ tG := tg0 (i := 8) rfl rfl
theorem wd_0_9 : (.selects "MuseumHouse$Moves" ⟨"MuseumHouse$Moves", "endOfSlots", "(I)I"⟩ ⟨"MuseumHouse$Moves", "endOfSlots", "(I)I"⟩ : Cond) ∈ tG := tg0 (i := 9) rfl rfl
theorem wd_0_10 : (.selects "MuseumHouse$Moves" ⟨"MuseumHouse$Moves", "firstSlot", "(I)I"⟩ ⟨"MuseumHouse$Moves", "firstSlot", "(I)I"⟩ : Cond) ∈ tG := tg0 (i := 10) rfl rfl
theorem wd_0_11 : (.selects "MuseumHouse" ⟨"MuseumHouse", "placeHandle", "(II)I"⟩ ⟨"MuseumHouse", "placeHandle", "(II)I"⟩ : Cond) ∈ tG := tg0 (i := 11) rfl rfl
theorem wd_0_12 : (.selects "MuseumHouse" ⟨"MuseumHouse", "askFree", "(III)V"⟩ ⟨"MuseumHouse", "askFree", "(III)V"⟩ : Cond) ∈ tG := tg0 (i := 12) rfl rfl
theorem wd_0_13 : (.selects "MuseumHouseModel" ⟨"MuseumHouseModel", "first", "(ZIIZ)I"⟩ ⟨"MuseumHouseModel", "first", "(ZIIZ)I"⟩ : Cond) ∈ tG := tg0 (i := 13) rfl rfl
theorem wd_0_14 : (.selects "MuseumHouseModel" ⟨"MuseumHouseModel", "is", "(II)Z"⟩ ⟨"MuseumHouseModel", "is", "(II)Z"⟩ : Cond) ∈ tG := tg0 (i := 14) rfl rfl
theorem wd_0_15 : (.selects "MuseumHouseModel" ⟨"MuseumHouseModel", "may", "(II)Z"⟩ ⟨"MuseumHouseModel", "may", "(II)Z"⟩ : Cond) ∈ tG := tg0 (i := 15) rfl rfl
theorem wd_0_16 : (.selects "MuseumHouseModel" ⟨"MuseumHouseModel", "holds", "(I)Z"⟩ ⟨"MuseumHouseModel", "holds", "(I)Z"⟩ : Cond) ∈ tG := tg0 (i := 16) rfl rfl
theorem wd_0_17 : (.selects "MuseumHouseModel" ⟨"MuseumHouseModel", "made", "(I)I"⟩ ⟨"MuseumHouseModel", "made", "(I)I"⟩ : Cond) ∈ tG := tg0 (i := 17) rfl rfl
theorem wd_0_18 : (.selects "MuseumHouseModel" ⟨"MuseumHouseModel", "follow", "()V"⟩ ⟨"MuseumHouseModel", "follow", "()V"⟩ : Cond) ∈ tG := tg0 (i := 18) rfl rfl
theorem wd_0_19 : (.selects "MuseumHouseModel" ⟨"MuseumHouseModel", "fits", "()Z"⟩ ⟨"MuseumHouseModel", "fits", "()Z"⟩ : Cond) ∈ tG := tg0 (i := 19) rfl rfl
theorem wd_0_20 : (.selects "MuseumHouseModel" ⟨"MuseumHouseModel", "earliest", "(I)I"⟩ ⟨"MuseumHouseModel", "earliest", "(I)I"⟩ : Cond) ∈ tG := tg0 (i := 20) rfl rfl
theorem wd_0_21 : (.selects "MuseumHouseModel" ⟨"MuseumHouseModel", "latest", "(I)I"⟩ ⟨"MuseumHouseModel", "latest", "(I)I"⟩ : Cond) ∈ tG := tg0 (i := 21) rfl rfl
theorem wd_0_22 : (.selects "MuseumHouseModel" ⟨"MuseumHouseModel", "holdsShort", "(I)Z"⟩ ⟨"MuseumHouseModel", "holdsShort", "(I)Z"⟩ : Cond) ∈ tG := tg0 (i := 22) rfl rfl
theorem wd_0_23 : (.selects "MuseumHouseModel" ⟨"MuseumHouseModel", "isIn", "(II)Z"⟩ ⟨"MuseumHouseModel", "isIn", "(II)Z"⟩ : Cond) ∈ tG := tg0 (i := 23) rfl rfl
theorem wd_0_24 : (.selects "MuseumHouseModel" ⟨"MuseumHouseModel", "moveAt", "(II)I"⟩ ⟨"MuseumHouseModel", "moveAt", "(II)I"⟩ : Cond) ∈ tG := tg0 (i := 24) rfl rfl
theorem wd_0_25 : (.selects "MuseumHouseModel" ⟨"MuseumHouseModel", "dayOf", "(I)I"⟩ ⟨"MuseumHouseModel", "dayOf", "(I)I"⟩ : Cond) ∈ tG := tg0 (i := 25) rfl rfl
theorem wd_0_26 : (.selects "MuseumHouseModel" ⟨"MuseumHouseModel", "loanAt", "(III)I"⟩ ⟨"MuseumHouseModel", "loanAt", "(III)I"⟩ : Cond) ∈ tG := tg0 (i := 26) rfl rfl
theorem wd_0_27 : (.selects "MuseumHouseModel" ⟨"MuseumHouseModel", "placeOf", "(II)I"⟩ ⟨"MuseumHouseModel", "placeOf", "(II)I"⟩ : Cond) ∈ tG := tg0 (i := 27) rfl rfl
theorem wd_0_28 : (.selects "MuseumHouseModel" ⟨"MuseumHouseModel", "isClaimed", "(I)Z"⟩ ⟨"MuseumHouseModel", "isClaimed", "(I)Z"⟩ : Cond) ∈ tG := tg0 (i := 28) rfl rfl
theorem wd_0_29 : (.selects "MuseumHouseModel" ⟨"MuseumHouseModel", "showAt", "(IIII)I"⟩ ⟨"MuseumHouseModel", "showAt", "(IIII)I"⟩ : Cond) ∈ tG := tg0 (i := 29) rfl rfl
end
end
section
def R_H : String := "MuseumHouse"
def T_H : u_T := fun k => match k with
  | 0 => ("MuseumHouse", "desks", "LMuseumHouse$Desks;", true)
  | 1 => ("MuseumHouse", "sites", "LMuseumHouse$Sites;", true)
  | 2 => ("MuseumHouse", "contexts", "LMuseumHouse$Contexts;", true)
  | 3 => ("MuseumHouse", "finds", "LMuseumHouse$Finds;", true)
  | 4 => ("MuseumHouse", "items", "LMuseumHouse$Items;", true)
  | 5 => ("MuseumHouse", "moves", "LMuseumHouse$Moves;", true)
  | 6 => ("MuseumHouse", "stores", "LMuseumHouse$Stores;", true)
  | 7 => ("MuseumHouse", "loans", "LMuseumHouse$Loans;", true)
  | 8 => ("MuseumHouse", "shows", "LMuseumHouse$Shows;", true)
  | 9 => ("MuseumHouse", "claims", "LMuseumHouse$Claims;", true)
  | 10 => ("MuseumHouse", "today", "I", false)
  | _ => ("MuseumHouse", "refusedBy", "I", false)
def ty_H : Nat → FieldType := fun k => match k with
  | 0 => .object "MuseumHouse$Desks"
  | 1 => .object "MuseumHouse$Sites"
  | 2 => .object "MuseumHouse$Contexts"
  | 3 => .object "MuseumHouse$Finds"
  | 4 => .object "MuseumHouse$Items"
  | 5 => .object "MuseumHouse$Moves"
  | 6 => .object "MuseumHouse$Stores"
  | 7 => .object "MuseumHouse$Loans"
  | 8 => .object "MuseumHouse$Shows"
  | 9 => .object "MuseumHouse$Claims"
  | 10 => .int
  | _ => .int
theorem nm_H : ∀ a, a < 12 → ∀ b, b < 12 → a ≠ b → (T_H a).2.1 ≠ (T_H b).2.1 := by decide +kernel
theorem to_H : ∀ k, k < 12 → parseFieldDescriptor (T_H k).2.2.1 = some (ty_H k) := by decide +kernel
theorem iw_H : ∀ w ∈ u_ws R_H T_H 12, w ∈ tG := by
  intro w hw
  have h : w ∈ [u_lay R_H T_H 0, u_lay R_H T_H 1, u_lay R_H T_H 2, u_lay R_H T_H 3, u_lay R_H T_H 4, u_lay R_H T_H 5, u_lay R_H T_H 6, u_lay R_H T_H 7, u_lay R_H T_H 8, u_lay R_H T_H 9, u_lay R_H T_H 10, u_lay R_H T_H 11] := hw
  exact (List.forall_mem_cons.mpr ⟨wd_1_224, List.forall_mem_cons.mpr ⟨wd_1_226, List.forall_mem_cons.mpr ⟨wd_1_228, List.forall_mem_cons.mpr ⟨wd_1_230, List.forall_mem_cons.mpr ⟨wd_1_232, List.forall_mem_cons.mpr ⟨wd_1_234, List.forall_mem_cons.mpr ⟨wd_1_236, List.forall_mem_cons.mpr ⟨wd_1_238, List.forall_mem_cons.mpr ⟨wd_2_0, List.forall_mem_cons.mpr ⟨wd_2_2, List.forall_mem_cons.mpr ⟨wd_2_4, List.forall_mem_cons.mpr ⟨wd_2_6, fun _ h => absurd h List.not_mem_nil⟩⟩⟩⟩⟩⟩⟩⟩⟩⟩⟩⟩ : ∀ w ∈ [u_lay R_H T_H 0, u_lay R_H T_H 1, u_lay R_H T_H 2, u_lay R_H T_H 3, u_lay R_H T_H 4, u_lay R_H T_H 5, u_lay R_H T_H 6, u_lay R_H T_H 7, u_lay R_H T_H 8, u_lay R_H T_H 9, u_lay R_H T_H 10, u_lay R_H T_H 11], w ∈ tG) w h
def R_De : String := "MuseumHouse$Desks"
def T_De : u_T := fun k => match k with
  | 0 => ("MuseumHouse$Register", "firstHandle", "I", true)
  | 1 => ("MuseumHouse$Register", "room", "I", true)
  | 2 => ("MuseumHouse$Register", "made", "I", false)
  | _ => ("MuseumHouse$Desks", "rights", "[I", true)
def ty_De : Nat → FieldType := fun k => match k with
  | 0 => .int
  | 1 => .int
  | 2 => .int
  | _ => .array .int
theorem nm_De : ∀ a, a < 4 → ∀ b, b < 4 → a ≠ b → (T_De a).2.1 ≠ (T_De b).2.1 := by decide +kernel
theorem to_De : ∀ k, k < 4 → parseFieldDescriptor (T_De k).2.2.1 = some (ty_De k) := by decide +kernel
theorem iw_De : ∀ w ∈ u_ws R_De T_De 4, w ∈ tG := by
  intro w hw
  have h : w ∈ [u_lay R_De T_De 0, u_lay R_De T_De 1, u_lay R_De T_De 2, u_lay R_De T_De 3] := hw
  exact (List.forall_mem_cons.mpr ⟨wd_1_50, List.forall_mem_cons.mpr ⟨wd_1_52, List.forall_mem_cons.mpr ⟨wd_1_54, List.forall_mem_cons.mpr ⟨wd_1_48, fun _ h => absurd h List.not_mem_nil⟩⟩⟩⟩ : ∀ w ∈ [u_lay R_De T_De 0, u_lay R_De T_De 1, u_lay R_De T_De 2, u_lay R_De T_De 3], w ∈ tG) w h
def R_Si : String := "MuseumHouse$Sites"
def T_Si : u_T := fun k => match k with
  | 0 => ("MuseumHouse$Register", "firstHandle", "I", true)
  | 1 => ("MuseumHouse$Register", "room", "I", true)
  | _ => ("MuseumHouse$Register", "made", "I", false)
def ty_Si : Nat → FieldType := fun k => match k with
  | 0 => .int
  | 1 => .int
  | _ => .int
theorem nm_Si : ∀ a, a < 3 → ∀ b, b < 3 → a ≠ b → (T_Si a).2.1 ≠ (T_Si b).2.1 := by decide +kernel
theorem to_Si : ∀ k, k < 3 → parseFieldDescriptor (T_Si k).2.2.1 = some (ty_Si k) := by decide +kernel
theorem iw_Si : ∀ w ∈ u_ws R_Si T_Si 3, w ∈ tG := by
  intro w hw
  have h : w ∈ [u_lay R_Si T_Si 0, u_lay R_Si T_Si 1, u_lay R_Si T_Si 2] := hw
  exact (List.forall_mem_cons.mpr ⟨wd_1_64, List.forall_mem_cons.mpr ⟨wd_1_65, List.forall_mem_cons.mpr ⟨wd_1_66, fun _ h => absurd h List.not_mem_nil⟩⟩⟩ : ∀ w ∈ [u_lay R_Si T_Si 0, u_lay R_Si T_Si 1, u_lay R_Si T_Si 2], w ∈ tG) w h
def R_Co : String := "MuseumHouse$Contexts"
def T_Co : u_T := fun k => match k with
  | 0 => ("MuseumHouse$Register", "firstHandle", "I", true)
  | 1 => ("MuseumHouse$Register", "room", "I", true)
  | 2 => ("MuseumHouse$Register", "made", "I", false)
  | 3 => ("MuseumHouse$Contexts", "site", "[I", true)
  | 4 => ("MuseumHouse$Contexts", "first", "[I", true)
  | 5 => ("MuseumHouse$Contexts", "last", "[I", true)
  | _ => ("MuseumHouse$Contexts", "below", "[I", true)
def ty_Co : Nat → FieldType := fun k => match k with
  | 0 => .int
  | 1 => .int
  | 2 => .int
  | 3 => .array .int
  | 4 => .array .int
  | 5 => .array .int
  | _ => .array .int
theorem nm_Co : ∀ a, a < 7 → ∀ b, b < 7 → a ≠ b → (T_Co a).2.1 ≠ (T_Co b).2.1 := by decide +kernel
theorem to_Co : ∀ k, k < 7 → parseFieldDescriptor (T_Co k).2.2.1 = some (ty_Co k) := by decide +kernel
theorem iw_Co : ∀ w ∈ u_ws R_Co T_Co 7, w ∈ tG := by
  intro w hw
  have h : w ∈ [u_lay R_Co T_Co 0, u_lay R_Co T_Co 1, u_lay R_Co T_Co 2, u_lay R_Co T_Co 3, u_lay R_Co T_Co 4, u_lay R_Co T_Co 5, u_lay R_Co T_Co 6] := hw
  exact (List.forall_mem_cons.mpr ⟨wd_1_86, List.forall_mem_cons.mpr ⟨wd_1_87, List.forall_mem_cons.mpr ⟨wd_1_88, List.forall_mem_cons.mpr ⟨wd_1_78, List.forall_mem_cons.mpr ⟨wd_1_80, List.forall_mem_cons.mpr ⟨wd_1_82, List.forall_mem_cons.mpr ⟨wd_1_84, fun _ h => absurd h List.not_mem_nil⟩⟩⟩⟩⟩⟩⟩ : ∀ w ∈ [u_lay R_Co T_Co 0, u_lay R_Co T_Co 1, u_lay R_Co T_Co 2, u_lay R_Co T_Co 3, u_lay R_Co T_Co 4, u_lay R_Co T_Co 5, u_lay R_Co T_Co 6], w ∈ tG) w h
def R_Fi : String := "MuseumHouse$Finds"
def T_Fi : u_T := fun k => match k with
  | 0 => ("MuseumHouse$Register", "firstHandle", "I", true)
  | 1 => ("MuseumHouse$Register", "room", "I", true)
  | 2 => ("MuseumHouse$Register", "made", "I", false)
  | 3 => ("MuseumHouse$Finds", "context", "[I", true)
  | _ => ("MuseumHouse$Finds", "foundOn", "[I", true)
def ty_Fi : Nat → FieldType := fun k => match k with
  | 0 => .int
  | 1 => .int
  | 2 => .int
  | 3 => .array .int
  | _ => .array .int
theorem nm_Fi : ∀ a, a < 5 → ∀ b, b < 5 → a ≠ b → (T_Fi a).2.1 ≠ (T_Fi b).2.1 := by decide +kernel
theorem to_Fi : ∀ k, k < 5 → parseFieldDescriptor (T_Fi k).2.2.1 = some (ty_Fi k) := by decide +kernel
theorem iw_Fi : ∀ w ∈ u_ws R_Fi T_Fi 5, w ∈ tG := by
  intro w hw
  have h : w ∈ [u_lay R_Fi T_Fi 0, u_lay R_Fi T_Fi 1, u_lay R_Fi T_Fi 2, u_lay R_Fi T_Fi 3, u_lay R_Fi T_Fi 4] := hw
  exact (List.forall_mem_cons.mpr ⟨wd_1_102, List.forall_mem_cons.mpr ⟨wd_1_103, List.forall_mem_cons.mpr ⟨wd_1_104, List.forall_mem_cons.mpr ⟨wd_1_98, List.forall_mem_cons.mpr ⟨wd_1_100, fun _ h => absurd h List.not_mem_nil⟩⟩⟩⟩⟩ : ∀ w ∈ [u_lay R_Fi T_Fi 0, u_lay R_Fi T_Fi 1, u_lay R_Fi T_Fi 2, u_lay R_Fi T_Fi 3, u_lay R_Fi T_Fi 4], w ∈ tG) w h
def R_It : String := "MuseumHouse$Items"
def T_It : u_T := fun k => match k with
  | 0 => ("MuseumHouse$Register", "firstHandle", "I", true)
  | 1 => ("MuseumHouse$Register", "room", "I", true)
  | 2 => ("MuseumHouse$Register", "made", "I", false)
  | 3 => ("MuseumHouse$Items", "find", "[I", true)
  | _ => ("MuseumHouse$Items", "foundOn", "[I", true)
def ty_It : Nat → FieldType := fun k => match k with
  | 0 => .int
  | 1 => .int
  | 2 => .int
  | 3 => .array .int
  | _ => .array .int
theorem nm_It : ∀ a, a < 5 → ∀ b, b < 5 → a ≠ b → (T_It a).2.1 ≠ (T_It b).2.1 := by decide +kernel
theorem to_It : ∀ k, k < 5 → parseFieldDescriptor (T_It k).2.2.1 = some (ty_It k) := by decide +kernel
theorem iw_It : ∀ w ∈ u_ws R_It T_It 5, w ∈ tG := by
  intro w hw
  have h : w ∈ [u_lay R_It T_It 0, u_lay R_It T_It 1, u_lay R_It T_It 2, u_lay R_It T_It 3, u_lay R_It T_It 4] := hw
  exact (List.forall_mem_cons.mpr ⟨wd_1_118, List.forall_mem_cons.mpr ⟨wd_1_119, List.forall_mem_cons.mpr ⟨wd_1_120, List.forall_mem_cons.mpr ⟨wd_1_114, List.forall_mem_cons.mpr ⟨wd_1_116, fun _ h => absurd h List.not_mem_nil⟩⟩⟩⟩⟩ : ∀ w ∈ [u_lay R_It T_It 0, u_lay R_It T_It 1, u_lay R_It T_It 2, u_lay R_It T_It 3, u_lay R_It T_It 4], w ∈ tG) w h
def R_Mo : String := "MuseumHouse$Moves"
def T_Mo : u_T := fun k => match k with
  | 0 => ("MuseumHouse$Moves", "movedOn", "[I", true)
  | 1 => ("MuseumHouse$Moves", "target", "[I", true)
  | _ => ("MuseumHouse$Moves", "told", "[I", true)
def ty_Mo : Nat → FieldType := fun k => match k with
  | 0 => .array .int
  | 1 => .array .int
  | _ => .array .int
theorem nm_Mo : ∀ a, a < 3 → ∀ b, b < 3 → a ≠ b → (T_Mo a).2.1 ≠ (T_Mo b).2.1 := by decide +kernel
theorem to_Mo : ∀ k, k < 3 → parseFieldDescriptor (T_Mo k).2.2.1 = some (ty_Mo k) := by decide +kernel
theorem iw_Mo : ∀ w ∈ u_ws R_Mo T_Mo 3, w ∈ tG := by
  intro w hw
  have h : w ∈ [u_lay R_Mo T_Mo 0, u_lay R_Mo T_Mo 1, u_lay R_Mo T_Mo 2] := hw
  exact (List.forall_mem_cons.mpr ⟨wd_1_131, List.forall_mem_cons.mpr ⟨wd_1_133, List.forall_mem_cons.mpr ⟨wd_1_135, fun _ h => absurd h List.not_mem_nil⟩⟩⟩ : ∀ w ∈ [u_lay R_Mo T_Mo 0, u_lay R_Mo T_Mo 1, u_lay R_Mo T_Mo 2], w ∈ tG) w h
def R_So : String := "MuseumHouse$Stores"
def T_So : u_T := fun k => match k with
  | 0 => ("MuseumHouse$Register", "firstHandle", "I", true)
  | 1 => ("MuseumHouse$Register", "room", "I", true)
  | 2 => ("MuseumHouse$Register", "made", "I", false)
  | _ => ("MuseumHouse$Stores", "parent", "[I", true)
def ty_So : Nat → FieldType := fun k => match k with
  | 0 => .int
  | 1 => .int
  | 2 => .int
  | _ => .array .int
theorem nm_So : ∀ a, a < 4 → ∀ b, b < 4 → a ≠ b → (T_So a).2.1 ≠ (T_So b).2.1 := by decide +kernel
theorem to_So : ∀ k, k < 4 → parseFieldDescriptor (T_So k).2.2.1 = some (ty_So k) := by decide +kernel
theorem iw_So : ∀ w ∈ u_ws R_So T_So 4, w ∈ tG := by
  intro w hw
  have h : w ∈ [u_lay R_So T_So 0, u_lay R_So T_So 1, u_lay R_So T_So 2, u_lay R_So T_So 3] := hw
  exact (List.forall_mem_cons.mpr ⟨wd_1_147, List.forall_mem_cons.mpr ⟨wd_1_148, List.forall_mem_cons.mpr ⟨wd_1_149, List.forall_mem_cons.mpr ⟨wd_1_145, fun _ h => absurd h List.not_mem_nil⟩⟩⟩⟩ : ∀ w ∈ [u_lay R_So T_So 0, u_lay R_So T_So 1, u_lay R_So T_So 2, u_lay R_So T_So 3], w ∈ tG) w h
def R_Lo : String := "MuseumHouse$Loans"
def T_Lo : u_T := fun k => match k with
  | 0 => ("MuseumHouse$Register", "firstHandle", "I", true)
  | 1 => ("MuseumHouse$Register", "room", "I", true)
  | 2 => ("MuseumHouse$Register", "made", "I", false)
  | 3 => ("MuseumHouse$Loans", "item", "[I", true)
  | 4 => ("MuseumHouse$Loans", "from", "[I", true)
  | _ => ("MuseumHouse$Loans", "to", "[I", true)
def ty_Lo : Nat → FieldType := fun k => match k with
  | 0 => .int
  | 1 => .int
  | 2 => .int
  | 3 => .array .int
  | 4 => .array .int
  | _ => .array .int
theorem nm_Lo : ∀ a, a < 6 → ∀ b, b < 6 → a ≠ b → (T_Lo a).2.1 ≠ (T_Lo b).2.1 := by decide +kernel
theorem to_Lo : ∀ k, k < 6 → parseFieldDescriptor (T_Lo k).2.2.1 = some (ty_Lo k) := by decide +kernel
theorem iw_Lo : ∀ w ∈ u_ws R_Lo T_Lo 6, w ∈ tG := by
  intro w hw
  have h : w ∈ [u_lay R_Lo T_Lo 0, u_lay R_Lo T_Lo 1, u_lay R_Lo T_Lo 2, u_lay R_Lo T_Lo 3, u_lay R_Lo T_Lo 4, u_lay R_Lo T_Lo 5] := hw
  exact (List.forall_mem_cons.mpr ⟨wd_1_166, List.forall_mem_cons.mpr ⟨wd_1_167, List.forall_mem_cons.mpr ⟨wd_1_168, List.forall_mem_cons.mpr ⟨wd_1_160, List.forall_mem_cons.mpr ⟨wd_1_162, List.forall_mem_cons.mpr ⟨wd_1_164, fun _ h => absurd h List.not_mem_nil⟩⟩⟩⟩⟩⟩ : ∀ w ∈ [u_lay R_Lo T_Lo 0, u_lay R_Lo T_Lo 1, u_lay R_Lo T_Lo 2, u_lay R_Lo T_Lo 3, u_lay R_Lo T_Lo 4, u_lay R_Lo T_Lo 5], w ∈ tG) w h
def R_Sh : String := "MuseumHouse$Shows"
def T_Sh : u_T := fun k => match k with
  | 0 => ("MuseumHouse$Register", "firstHandle", "I", true)
  | 1 => ("MuseumHouse$Register", "room", "I", true)
  | 2 => ("MuseumHouse$Register", "made", "I", false)
  | 3 => ("MuseumHouse$Shows", "store", "[I", true)
  | 4 => ("MuseumHouse$Shows", "from", "[I", true)
  | 5 => ("MuseumHouse$Shows", "to", "[I", true)
  | _ => ("MuseumHouse$Shows", "hung", "[I", true)
def ty_Sh : Nat → FieldType := fun k => match k with
  | 0 => .int
  | 1 => .int
  | 2 => .int
  | 3 => .array .int
  | 4 => .array .int
  | 5 => .array .int
  | _ => .array .int
theorem nm_Sh : ∀ a, a < 7 → ∀ b, b < 7 → a ≠ b → (T_Sh a).2.1 ≠ (T_Sh b).2.1 := by decide +kernel
theorem to_Sh : ∀ k, k < 7 → parseFieldDescriptor (T_Sh k).2.2.1 = some (ty_Sh k) := by decide +kernel
theorem iw_Sh : ∀ w ∈ u_ws R_Sh T_Sh 7, w ∈ tG := by
  intro w hw
  have h : w ∈ [u_lay R_Sh T_Sh 0, u_lay R_Sh T_Sh 1, u_lay R_Sh T_Sh 2, u_lay R_Sh T_Sh 3, u_lay R_Sh T_Sh 4, u_lay R_Sh T_Sh 5, u_lay R_Sh T_Sh 6] := hw
  exact (List.forall_mem_cons.mpr ⟨wd_1_188, List.forall_mem_cons.mpr ⟨wd_1_189, List.forall_mem_cons.mpr ⟨wd_1_190, List.forall_mem_cons.mpr ⟨wd_1_180, List.forall_mem_cons.mpr ⟨wd_1_182, List.forall_mem_cons.mpr ⟨wd_1_184, List.forall_mem_cons.mpr ⟨wd_1_186, fun _ h => absurd h List.not_mem_nil⟩⟩⟩⟩⟩⟩⟩ : ∀ w ∈ [u_lay R_Sh T_Sh 0, u_lay R_Sh T_Sh 1, u_lay R_Sh T_Sh 2, u_lay R_Sh T_Sh 3, u_lay R_Sh T_Sh 4, u_lay R_Sh T_Sh 5, u_lay R_Sh T_Sh 6], w ∈ tG) w h
def R_Cl : String := "MuseumHouse$Claims"
def T_Cl : u_T := fun k => match k with
  | 0 => ("MuseumHouse$Register", "firstHandle", "I", true)
  | 1 => ("MuseumHouse$Register", "room", "I", true)
  | 2 => ("MuseumHouse$Register", "made", "I", false)
  | 3 => ("MuseumHouse$Claims", "item", "[I", true)
  | 4 => ("MuseumHouse$Claims", "source", "[I", true)
  | _ => ("MuseumHouse$Claims", "open", "[Z", true)
def ty_Cl : Nat → FieldType := fun k => match k with
  | 0 => .int
  | 1 => .int
  | 2 => .int
  | 3 => .array .int
  | 4 => .array .int
  | _ => .array .boolean
theorem nm_Cl : ∀ a, a < 6 → ∀ b, b < 6 → a ≠ b → (T_Cl a).2.1 ≠ (T_Cl b).2.1 := by decide +kernel
theorem to_Cl : ∀ k, k < 6 → parseFieldDescriptor (T_Cl k).2.2.1 = some (ty_Cl k) := by decide +kernel
theorem iw_Cl : ∀ w ∈ u_ws R_Cl T_Cl 6, w ∈ tG := by
  intro w hw
  have h : w ∈ [u_lay R_Cl T_Cl 0, u_lay R_Cl T_Cl 1, u_lay R_Cl T_Cl 2, u_lay R_Cl T_Cl 3, u_lay R_Cl T_Cl 4, u_lay R_Cl T_Cl 5] := hw
  exact (List.forall_mem_cons.mpr ⟨wd_1_207, List.forall_mem_cons.mpr ⟨wd_1_208, List.forall_mem_cons.mpr ⟨wd_1_209, List.forall_mem_cons.mpr ⟨wd_1_201, List.forall_mem_cons.mpr ⟨wd_1_203, List.forall_mem_cons.mpr ⟨wd_1_205, fun _ h => absurd h List.not_mem_nil⟩⟩⟩⟩⟩⟩ : ∀ w ∈ [u_lay R_Cl T_Cl 0, u_lay R_Cl T_Cl 1, u_lay R_Cl T_Cl 2, u_lay R_Cl T_Cl 3, u_lay R_Cl T_Cl 4, u_lay R_Cl T_Cl 5], w ∈ tG) w h
def R_Md : String := "MuseumHouseModel"
def T_Md : u_T := fun k => match k with
  | 0 => ("MuseumHouseModel", "thrown", "I", false)
  | 1 => ("MuseumHouseModel", "rule", "I", false)
  | 2 => ("MuseumHouseModel", "today", "I", false)
  | 3 => ("MuseumHouseModel", "many", "[I", true)
  | 4 => ("MuseumHouseModel", "rights", "[I", true)
  | 5 => ("MuseumHouseModel", "siteOf", "[I", true)
  | 6 => ("MuseumHouseModel", "firsts", "[I", true)
  | 7 => ("MuseumHouseModel", "lasts", "[I", true)
  | 8 => ("MuseumHouseModel", "told", "[Z", true)
  | 9 => ("MuseumHouseModel", "over", "[Z", true)
  | 10 => ("MuseumHouseModel", "contextOf", "[I", true)
  | 11 => ("MuseumHouseModel", "findDay", "[I", true)
  | 12 => ("MuseumHouseModel", "findOf", "[I", true)
  | 13 => ("MuseumHouseModel", "parents", "[I", true)
  | 14 => ("MuseumHouseModel", "moves", "[I", true)
  | 15 => ("MuseumHouseModel", "moveDays", "[I", true)
  | 16 => ("MuseumHouseModel", "moveStores", "[I", true)
  | 17 => ("MuseumHouseModel", "loanOf", "[I", true)
  | 18 => ("MuseumHouseModel", "loanFrom", "[I", true)
  | 19 => ("MuseumHouseModel", "loanTo", "[I", true)
  | 20 => ("MuseumHouseModel", "halls", "[I", true)
  | 21 => ("MuseumHouseModel", "showFrom", "[I", true)
  | 22 => ("MuseumHouseModel", "showTo", "[I", true)
  | 23 => ("MuseumHouseModel", "hung", "[Z", true)
  | 24 => ("MuseumHouseModel", "claimOf", "[I", true)
  | 25 => ("MuseumHouseModel", "sources", "[I", true)
  | _ => ("MuseumHouseModel", "open", "[Z", true)
def ty_Md : Nat → FieldType := fun k => match k with
  | 0 => .int
  | 1 => .int
  | 2 => .int
  | 3 => .array .int
  | 4 => .array .int
  | 5 => .array .int
  | 6 => .array .int
  | 7 => .array .int
  | 8 => .array .boolean
  | 9 => .array .boolean
  | 10 => .array .int
  | 11 => .array .int
  | 12 => .array .int
  | 13 => .array .int
  | 14 => .array .int
  | 15 => .array .int
  | 16 => .array .int
  | 17 => .array .int
  | 18 => .array .int
  | 19 => .array .int
  | 20 => .array .int
  | 21 => .array .int
  | 22 => .array .int
  | 23 => .array .boolean
  | 24 => .array .int
  | 25 => .array .int
  | _ => .array .boolean
theorem nm_Md : ∀ a, a < 27 → ∀ b, b < 27 → a ≠ b → (T_Md a).2.1 ≠ (T_Md b).2.1 := by decide +kernel
theorem to_Md : ∀ k, k < 27 → parseFieldDescriptor (T_Md k).2.2.1 = some (ty_Md k) := by decide +kernel
theorem iw_Md : ∀ w ∈ u_ws R_Md T_Md 27, w ∈ tG := by
  intro w hw
  have h : w ∈ [u_lay R_Md T_Md 0, u_lay R_Md T_Md 1, u_lay R_Md T_Md 2, u_lay R_Md T_Md 3, u_lay R_Md T_Md 4, u_lay R_Md T_Md 5, u_lay R_Md T_Md 6, u_lay R_Md T_Md 7, u_lay R_Md T_Md 8, u_lay R_Md T_Md 9, u_lay R_Md T_Md 10, u_lay R_Md T_Md 11, u_lay R_Md T_Md 12, u_lay R_Md T_Md 13, u_lay R_Md T_Md 14, u_lay R_Md T_Md 15, u_lay R_Md T_Md 16, u_lay R_Md T_Md 17, u_lay R_Md T_Md 18, u_lay R_Md T_Md 19, u_lay R_Md T_Md 20, u_lay R_Md T_Md 21, u_lay R_Md T_Md 22, u_lay R_Md T_Md 23, u_lay R_Md T_Md 24, u_lay R_Md T_Md 25, u_lay R_Md T_Md 26] := hw
  exact (List.forall_mem_cons.mpr ⟨wd_5_10, List.forall_mem_cons.mpr ⟨wd_5_12, List.forall_mem_cons.mpr ⟨wd_5_14, List.forall_mem_cons.mpr ⟨wd_5_16, List.forall_mem_cons.mpr ⟨wd_5_18, List.forall_mem_cons.mpr ⟨wd_5_20, List.forall_mem_cons.mpr ⟨wd_5_22, List.forall_mem_cons.mpr ⟨wd_5_24, List.forall_mem_cons.mpr ⟨wd_5_26, List.forall_mem_cons.mpr ⟨wd_5_28, List.forall_mem_cons.mpr ⟨wd_5_30, List.forall_mem_cons.mpr ⟨wd_5_32, List.forall_mem_cons.mpr ⟨wd_5_34, List.forall_mem_cons.mpr ⟨wd_5_36, List.forall_mem_cons.mpr ⟨wd_5_38, List.forall_mem_cons.mpr ⟨wd_5_40, List.forall_mem_cons.mpr ⟨wd_5_42, List.forall_mem_cons.mpr ⟨wd_5_44, List.forall_mem_cons.mpr ⟨wd_5_46, List.forall_mem_cons.mpr ⟨wd_5_48, List.forall_mem_cons.mpr ⟨wd_5_50, List.forall_mem_cons.mpr ⟨wd_5_52, List.forall_mem_cons.mpr ⟨wd_5_54, List.forall_mem_cons.mpr ⟨wd_5_56, List.forall_mem_cons.mpr ⟨wd_5_58, List.forall_mem_cons.mpr ⟨wd_5_60, List.forall_mem_cons.mpr ⟨wd_5_62, fun _ h => absurd h List.not_mem_nil⟩⟩⟩⟩⟩⟩⟩⟩⟩⟩⟩⟩⟩⟩⟩⟩⟩⟩⟩⟩⟩⟩⟩⟩⟩⟩⟩ : ∀ w ∈ [u_lay R_Md T_Md 0, u_lay R_Md T_Md 1, u_lay R_Md T_Md 2, u_lay R_Md T_Md 3, u_lay R_Md T_Md 4, u_lay R_Md T_Md 5, u_lay R_Md T_Md 6, u_lay R_Md T_Md 7, u_lay R_Md T_Md 8, u_lay R_Md T_Md 9, u_lay R_Md T_Md 10, u_lay R_Md T_Md 11, u_lay R_Md T_Md 12, u_lay R_Md T_Md 13, u_lay R_Md T_Md 14, u_lay R_Md T_Md 15, u_lay R_Md T_Md 16, u_lay R_Md T_Md 17, u_lay R_Md T_Md 18, u_lay R_Md T_Md 19, u_lay R_Md T_Md 20, u_lay R_Md T_Md 21, u_lay R_Md T_Md 22, u_lay R_Md T_Md 23, u_lay R_Md T_Md 24, u_lay R_Md T_Md 25, u_lay R_Md T_Md 26], w ∈ tG) w h
abbrev hcl : List vw_C := [(R_H, T_H, 12), (R_De, T_De, 4), (R_Si, T_Si, 3), (R_Co, T_Co, 7), (R_Fi, T_Fi, 5), (R_It, T_It, 5), (R_Mo, T_Mo, 3), (R_So, T_So, 4), (R_Lo, T_Lo, 6), (R_Sh, T_Sh, 7), (R_Cl, T_Cl, 6), (R_Md, T_Md, 27)]
abbrev b_H_init : ByteArray := prog_1_method_1_code
def y_H_init : MethodName := ⟨"MuseumHouse", "<init>", "()V"⟩
abbrev b_H_desk : ByteArray := prog_1_method_2_code
def y_H_desk : MethodName := ⟨"MuseumHouse", "desk", "(II)I"⟩
abbrev b_H_day : ByteArray := prog_1_method_3_code
def y_H_day : MethodName := ⟨"MuseumHouse", "day", "(I)I"⟩
abbrev b_H_site : ByteArray := prog_1_method_4_code
def y_H_site : MethodName := ⟨"MuseumHouse", "site", "(I)I"⟩
abbrev b_H_context : ByteArray := prog_1_method_5_code
def y_H_context : MethodName := ⟨"MuseumHouse", "context", "(II)I"⟩
abbrev b_H_above : ByteArray := prog_1_method_6_code
def y_H_above : MethodName := ⟨"MuseumHouse", "above", "(III)Z"⟩
abbrev b_H_span : ByteArray := prog_1_method_7_code
def y_H_span : MethodName := ⟨"MuseumHouse", "span", "(IIII)I"⟩
abbrev b_H_isAbove : ByteArray := prog_1_method_8_code
def y_H_isAbove : MethodName := ⟨"MuseumHouse", "isAbove", "(II)Z"⟩
abbrev b_H_year : ByteArray := prog_1_method_9_code
def y_H_year : MethodName := ⟨"MuseumHouse", "year", "(II)I"⟩
abbrev b_H_find : ByteArray := prog_1_method_10_code
def y_H_find : MethodName := ⟨"MuseumHouse", "find", "(III)I"⟩
abbrev b_H_object : ByteArray := prog_1_method_11_code
def y_H_object : MethodName := ⟨"MuseumHouse", "object", "(II)I"⟩
abbrev b_H_store : ByteArray := prog_1_method_12_code
def y_H_store : MethodName := ⟨"MuseumHouse", "store", "(II)I"⟩
abbrev b_H_carry : ByteArray := prog_1_method_13_code
def y_H_carry : MethodName := ⟨"MuseumHouse", "carry", "(III)Z"⟩
abbrev b_H_within : ByteArray := prog_1_method_14_code
def y_H_within : MethodName := ⟨"MuseumHouse", "within", "(II)Z"⟩
abbrev b_H_move : ByteArray := prog_1_method_15_code
def y_H_move : MethodName := ⟨"MuseumHouse", "move", "(IIII)Z"⟩
abbrev b_H_place : ByteArray := prog_1_method_16_code
def y_H_place : MethodName := ⟨"MuseumHouse", "place", "(II)I"⟩
abbrev b_H_stored : ByteArray := prog_1_method_17_code
def y_H_stored : MethodName := ⟨"MuseumHouse", "stored", "(II)I"⟩
abbrev b_H_loan : ByteArray := prog_1_method_18_code
def y_H_loan : MethodName := ⟨"MuseumHouse", "loan", "(IIII)I"⟩
abbrev b_H_back : ByteArray := prog_1_method_19_code
def y_H_back : MethodName := ⟨"MuseumHouse", "back", "(III)I"⟩
abbrev b_H_show : ByteArray := prog_1_method_20_code
def y_H_show : MethodName := ⟨"MuseumHouse", "show", "(IIII)I"⟩
abbrev b_H_hang : ByteArray := prog_1_method_21_code
def y_H_hang : MethodName := ⟨"MuseumHouse", "hang", "(III)Z"⟩
abbrev b_H_take : ByteArray := prog_1_method_22_code
def y_H_take : MethodName := ⟨"MuseumHouse", "take", "(III)Z"⟩
abbrev b_H_claim : ByteArray := prog_1_method_23_code
def y_H_claim : MethodName := ⟨"MuseumHouse", "claim", "(III)I"⟩
abbrev b_H_close : ByteArray := prog_1_method_24_code
def y_H_close : MethodName := ⟨"MuseumHouse", "close", "(II)I"⟩
abbrev b_H_where : ByteArray := prog_1_method_25_code
def y_H_where : MethodName := ⟨"MuseumHouse", "where", "(II)I"⟩
abbrev b_H_origin : ByteArray := prog_1_method_26_code
def y_H_origin : MethodName := ⟨"MuseumHouse", "origin", "(I)I"⟩
abbrev b_H_hall : ByteArray := prog_1_method_27_code
def y_H_hall : MethodName := ⟨"MuseumHouse", "hall", "(I)I"⟩
abbrev b_H_rule : ByteArray := prog_1_method_28_code
def y_H_rule : MethodName := ⟨"MuseumHouse", "rule", "()I"⟩
abbrev b_H_count : ByteArray := prog_1_method_29_code
def y_H_count : MethodName := ⟨"MuseumHouse", "count", "(I)I"⟩
abbrev b_H_numberOf : ByteArray := prog_1_method_30_code
def y_H_numberOf : MethodName := ⟨"MuseumHouse", "numberOf", "(LMuseumHouse$Register;I)I"⟩
abbrev b_H_parentNumberOf : ByteArray := prog_1_method_31_code
def y_H_parentNumberOf : MethodName := ⟨"MuseumHouse", "parentNumberOf", "(I)I"⟩
abbrev b_H_askRight : ByteArray := prog_1_method_32_code
def y_H_askRight : MethodName := ⟨"MuseumHouse", "askRight", "(II)V"⟩
abbrev b_H_askRoom : ByteArray := prog_1_method_33_code
def y_H_askRoom : MethodName := ⟨"MuseumHouse", "askRoom", "(Z)V"⟩
abbrev b_H_ask : ByteArray := prog_1_method_34_code
def y_H_ask : MethodName := ⟨"MuseumHouse", "ask", "(IZ)V"⟩
abbrev b_H_askFree : ByteArray := prog_1_method_35_code
def y_H_askFree : MethodName := ⟨"MuseumHouse", "askFree", "(III)V"⟩
abbrev b_H_placeHandle : ByteArray := prog_1_method_36_code
def y_H_placeHandle : MethodName := ⟨"MuseumHouse", "placeHandle", "(II)I"⟩
abbrev b_H_isDay : ByteArray := prog_1_method_37_code
def y_H_isDay : MethodName := ⟨"MuseumHouse", "isDay", "(I)Z"⟩
abbrev b_H_daysMeet : ByteArray := prog_1_method_38_code
def y_H_daysMeet : MethodName := ⟨"MuseumHouse", "daysMeet", "(IIII)Z"⟩
abbrev b_Md_init : ByteArray := prog_14_method_1_code
def y_Md_init : MethodName := ⟨"MuseumHouseModel", "<init>", "()V"⟩
abbrev b_Md_thrown : ByteArray := prog_14_method_2_code
def y_Md_thrown : MethodName := ⟨"MuseumHouseModel", "thrown", "()I"⟩
abbrev b_Md_holds : ByteArray := prog_14_method_3_code
def y_Md_holds : MethodName := ⟨"MuseumHouseModel", "holds", "(I)Z"⟩
abbrev b_Md_holdsShort : ByteArray := prog_14_method_4_code
def y_Md_holdsShort : MethodName := ⟨"MuseumHouseModel", "holdsShort", "(I)Z"⟩
abbrev b_Md_is : ByteArray := prog_14_method_5_code
def y_Md_is : MethodName := ⟨"MuseumHouseModel", "is", "(II)Z"⟩
abbrev b_Md_may : ByteArray := prog_14_method_6_code
def y_Md_may : MethodName := ⟨"MuseumHouseModel", "may", "(II)Z"⟩
abbrev b_Md_lies : ByteArray := prog_14_method_7_code
def y_Md_lies : MethodName := ⟨"MuseumHouseModel", "lies", "(III)Z"⟩
abbrev b_Md_isSpan : ByteArray := prog_14_method_8_code
def y_Md_isSpan : MethodName := ⟨"MuseumHouseModel", "isSpan", "(II)Z"⟩
abbrev b_Md_first : ByteArray := prog_14_method_9_code
def y_Md_first : MethodName := ⟨"MuseumHouseModel", "first", "(ZIIZ)I"⟩
abbrev b_Md_then : ByteArray := prog_14_method_10_code
def y_Md_then : MethodName := ⟨"MuseumHouseModel", "then", "(IZI)I"⟩
abbrev b_Md_made : ByteArray := prog_14_method_11_code
def y_Md_made : MethodName := ⟨"MuseumHouseModel", "made", "(I)I"⟩
abbrev b_Md_desk : ByteArray := prog_14_method_12_code
def y_Md_desk : MethodName := ⟨"MuseumHouseModel", "desk", "(II)I"⟩
abbrev b_Md_day : ByteArray := prog_14_method_13_code
def y_Md_day : MethodName := ⟨"MuseumHouseModel", "day", "(I)I"⟩
abbrev b_Md_site : ByteArray := prog_14_method_14_code
def y_Md_site : MethodName := ⟨"MuseumHouseModel", "site", "(I)I"⟩
abbrev b_Md_context : ByteArray := prog_14_method_15_code
def y_Md_context : MethodName := ⟨"MuseumHouseModel", "context", "(II)I"⟩
abbrev b_Md_follow : ByteArray := prog_14_method_16_code
def y_Md_follow : MethodName := ⟨"MuseumHouseModel", "follow", "()V"⟩
abbrev b_Md_earliest : ByteArray := prog_14_method_17_code
def y_Md_earliest : MethodName := ⟨"MuseumHouseModel", "earliest", "(I)I"⟩
abbrev b_Md_latest : ByteArray := prog_14_method_18_code
def y_Md_latest : MethodName := ⟨"MuseumHouseModel", "latest", "(I)I"⟩
abbrev b_Md_fits : ByteArray := prog_14_method_19_code
def y_Md_fits : MethodName := ⟨"MuseumHouseModel", "fits", "()Z"⟩
abbrev b_Md_above : ByteArray := prog_14_method_20_code
def y_Md_above : MethodName := ⟨"MuseumHouseModel", "above", "(III)Z"⟩
abbrev b_Md_span : ByteArray := prog_14_method_21_code
def y_Md_span : MethodName := ⟨"MuseumHouseModel", "span", "(IIII)I"⟩
abbrev b_Md_isAbove : ByteArray := prog_14_method_22_code
def y_Md_isAbove : MethodName := ⟨"MuseumHouseModel", "isAbove", "(II)Z"⟩
abbrev b_Md_year : ByteArray := prog_14_method_23_code
def y_Md_year : MethodName := ⟨"MuseumHouseModel", "year", "(II)I"⟩
abbrev b_Md_find : ByteArray := prog_14_method_24_code
def y_Md_find : MethodName := ⟨"MuseumHouseModel", "find", "(III)I"⟩
abbrev b_Md_object : ByteArray := prog_14_method_25_code
def y_Md_object : MethodName := ⟨"MuseumHouseModel", "object", "(II)I"⟩
abbrev b_Md_dayOf : ByteArray := prog_14_method_26_code
def y_Md_dayOf : MethodName := ⟨"MuseumHouseModel", "dayOf", "(I)I"⟩
abbrev b_Md_store : ByteArray := prog_14_method_27_code
def y_Md_store : MethodName := ⟨"MuseumHouseModel", "store", "(II)I"⟩
abbrev b_Md_isIn : ByteArray := prog_14_method_28_code
def y_Md_isIn : MethodName := ⟨"MuseumHouseModel", "isIn", "(II)Z"⟩
abbrev b_Md_carry : ByteArray := prog_14_method_29_code
def y_Md_carry : MethodName := ⟨"MuseumHouseModel", "carry", "(III)Z"⟩
abbrev b_Md_within : ByteArray := prog_14_method_30_code
def y_Md_within : MethodName := ⟨"MuseumHouseModel", "within", "(II)Z"⟩
abbrev b_Md_moveAt : ByteArray := prog_14_method_31_code
def y_Md_moveAt : MethodName := ⟨"MuseumHouseModel", "moveAt", "(II)I"⟩
abbrev b_Md_loanAt : ByteArray := prog_14_method_32_code
def y_Md_loanAt : MethodName := ⟨"MuseumHouseModel", "loanAt", "(III)I"⟩
abbrev b_Md_showAt : ByteArray := prog_14_method_33_code
def y_Md_showAt : MethodName := ⟨"MuseumHouseModel", "showAt", "(IIII)I"⟩
abbrev b_Md_isClaimed : ByteArray := prog_14_method_34_code
def y_Md_isClaimed : MethodName := ⟨"MuseumHouseModel", "isClaimed", "(I)Z"⟩
abbrev b_Md_move : ByteArray := prog_14_method_35_code
def y_Md_move : MethodName := ⟨"MuseumHouseModel", "move", "(IIII)Z"⟩
abbrev b_Md_placeOf : ByteArray := prog_14_method_36_code
def y_Md_placeOf : MethodName := ⟨"MuseumHouseModel", "placeOf", "(II)I"⟩
abbrev b_Md_isDay : ByteArray := prog_14_method_37_code
def y_Md_isDay : MethodName := ⟨"MuseumHouseModel", "isDay", "(I)Z"⟩
abbrev b_Md_place : ByteArray := prog_14_method_38_code
def y_Md_place : MethodName := ⟨"MuseumHouseModel", "place", "(II)I"⟩
abbrev b_Md_stored : ByteArray := prog_14_method_39_code
def y_Md_stored : MethodName := ⟨"MuseumHouseModel", "stored", "(II)I"⟩
abbrev b_Md_loan : ByteArray := prog_14_method_40_code
def y_Md_loan : MethodName := ⟨"MuseumHouseModel", "loan", "(IIII)I"⟩
abbrev b_Md_back : ByteArray := prog_14_method_41_code
def y_Md_back : MethodName := ⟨"MuseumHouseModel", "back", "(III)I"⟩
abbrev b_Md_show : ByteArray := prog_14_method_42_code
def y_Md_show : MethodName := ⟨"MuseumHouseModel", "show", "(IIII)I"⟩
abbrev b_Md_hang : ByteArray := prog_14_method_43_code
def y_Md_hang : MethodName := ⟨"MuseumHouseModel", "hang", "(III)Z"⟩
abbrev b_Md_take : ByteArray := prog_14_method_44_code
def y_Md_take : MethodName := ⟨"MuseumHouseModel", "take", "(III)Z"⟩
abbrev b_Md_claim : ByteArray := prog_14_method_45_code
def y_Md_claim : MethodName := ⟨"MuseumHouseModel", "claim", "(III)I"⟩
abbrev b_Md_close : ByteArray := prog_14_method_46_code
def y_Md_close : MethodName := ⟨"MuseumHouseModel", "close", "(II)I"⟩
abbrev b_Md_where : ByteArray := prog_14_method_47_code
def y_Md_where : MethodName := ⟨"MuseumHouseModel", "where", "(II)I"⟩
abbrev b_Md_origin : ByteArray := prog_14_method_48_code
def y_Md_origin : MethodName := ⟨"MuseumHouseModel", "origin", "(I)I"⟩
abbrev b_Md_hall : ByteArray := prog_14_method_49_code
def y_Md_hall : MethodName := ⟨"MuseumHouseModel", "hall", "(I)I"⟩
abbrev b_Md_rule : ByteArray := prog_14_method_50_code
def y_Md_rule : MethodName := ⟨"MuseumHouseModel", "rule", "()I"⟩
abbrev b_Md_count : ByteArray := prog_14_method_51_code
def y_Md_count : MethodName := ⟨"MuseumHouseModel", "count", "(I)I"⟩
abbrev b_Cl_init : ByteArray := prog_2_method_1_code
def y_Cl_init : MethodName := ⟨"MuseumHouse$Claims", "<init>", "()V"⟩
abbrev b_Cl_raise : ByteArray := prog_2_method_2_code
def y_Cl_raise : MethodName := ⟨"MuseumHouse$Claims", "raise", "(II)I"⟩
abbrev b_Cl_itemOf : ByteArray := prog_2_method_3_code
def y_Cl_itemOf : MethodName := ⟨"MuseumHouse$Claims", "itemOf", "(I)I"⟩
abbrev b_Cl_isOpen : ByteArray := prog_2_method_4_code
def y_Cl_isOpen : MethodName := ⟨"MuseumHouse$Claims", "isOpen", "(I)Z"⟩
abbrev b_Cl_settle : ByteArray := prog_2_method_5_code
def y_Cl_settle : MethodName := ⟨"MuseumHouse$Claims", "settle", "(I)V"⟩
abbrev b_Cl_hasOpenOf : ByteArray := prog_2_method_6_code
def y_Cl_hasOpenOf : MethodName := ⟨"MuseumHouse$Claims", "hasOpenOf", "(II)Z"⟩
abbrev b_Cl_openFor : ByteArray := prog_2_method_7_code
def y_Cl_openFor : MethodName := ⟨"MuseumHouse$Claims", "openFor", "(I)I"⟩
abbrev b_Co_init : ByteArray := prog_3_method_1_code
def y_Co_init : MethodName := ⟨"MuseumHouse$Contexts", "<init>", "()V"⟩
abbrev b_Co_dig : ByteArray := prog_3_method_2_code
def y_Co_dig : MethodName := ⟨"MuseumHouse$Contexts", "dig", "(I)I"⟩
abbrev b_Co_siteOf : ByteArray := prog_3_method_3_code
def y_Co_siteOf : MethodName := ⟨"MuseumHouse$Contexts", "siteOf", "(I)I"⟩
abbrev b_Co_isOver : ByteArray := prog_3_method_4_code
def y_Co_isOver : MethodName := ⟨"MuseumHouse$Contexts", "isOver", "(II)Z"⟩
abbrev b_Co_putOver : ByteArray := prog_3_method_5_code
def y_Co_putOver : MethodName := ⟨"MuseumHouse$Contexts", "putOver", "(II)V"⟩
abbrev b_Co_setSpan : ByteArray := prog_3_method_6_code
def y_Co_setSpan : MethodName := ⟨"MuseumHouse$Contexts", "setSpan", "(III)V"⟩
abbrev b_Co_earliest : ByteArray := prog_3_method_7_code
def y_Co_earliest : MethodName := ⟨"MuseumHouse$Contexts", "earliest", "(I)I"⟩
abbrev b_Co_latest : ByteArray := prog_3_method_8_code
def y_Co_latest : MethodName := ⟨"MuseumHouse$Contexts", "latest", "(I)I"⟩
abbrev b_Co_yearsLetOver : ByteArray := prog_3_method_9_code
def y_Co_yearsLetOver : MethodName := ⟨"MuseumHouse$Contexts", "yearsLetOver", "(II)Z"⟩
abbrev b_Co_yearsLetSpan : ByteArray := prog_3_method_10_code
def y_Co_yearsLetSpan : MethodName := ⟨"MuseumHouse$Contexts", "yearsLetSpan", "(III)Z"⟩
abbrev b_Co_greatestFirstBelow : ByteArray := prog_3_method_11_code
def y_Co_greatestFirstBelow : MethodName := ⟨"MuseumHouse$Contexts", "greatestFirstBelow", "(I)I"⟩
abbrev b_Co_leastLastAbove : ByteArray := prog_3_method_12_code
def y_Co_leastLastAbove : MethodName := ⟨"MuseumHouse$Contexts", "leastLastAbove", "(I)I"⟩
abbrev b_De_init : ByteArray := prog_4_method_1_code
def y_De_init : MethodName := ⟨"MuseumHouse$Desks", "<init>", "()V"⟩
abbrev b_De_open : ByteArray := prog_4_method_2_code
def y_De_open : MethodName := ⟨"MuseumHouse$Desks", "open", "(I)I"⟩
abbrev b_De_hasAll : ByteArray := prog_4_method_3_code
def y_De_hasAll : MethodName := ⟨"MuseumHouse$Desks", "hasAll", "(II)Z"⟩
abbrev b_Fi_init : ByteArray := prog_5_method_1_code
def y_Fi_init : MethodName := ⟨"MuseumHouse$Finds", "<init>", "()V"⟩
abbrev b_Fi_bringUp : ByteArray := prog_5_method_2_code
def y_Fi_bringUp : MethodName := ⟨"MuseumHouse$Finds", "bringUp", "(II)I"⟩
abbrev b_Fi_contextOf : ByteArray := prog_5_method_3_code
def y_Fi_contextOf : MethodName := ⟨"MuseumHouse$Finds", "contextOf", "(I)I"⟩
abbrev b_Fi_dayOf : ByteArray := prog_5_method_4_code
def y_Fi_dayOf : MethodName := ⟨"MuseumHouse$Finds", "dayOf", "(I)I"⟩
abbrev b_It_init : ByteArray := prog_6_method_1_code
def y_It_init : MethodName := ⟨"MuseumHouse$Items", "<init>", "()V"⟩
abbrev b_It_accept : ByteArray := prog_6_method_2_code
def y_It_accept : MethodName := ⟨"MuseumHouse$Items", "accept", "(II)I"⟩
abbrev b_It_hasFind : ByteArray := prog_6_method_3_code
def y_It_hasFind : MethodName := ⟨"MuseumHouse$Items", "hasFind", "(I)Z"⟩
abbrev b_It_findOf : ByteArray := prog_6_method_4_code
def y_It_findOf : MethodName := ⟨"MuseumHouse$Items", "findOf", "(I)I"⟩
abbrev b_It_dayOf : ByteArray := prog_6_method_5_code
def y_It_dayOf : MethodName := ⟨"MuseumHouse$Items", "dayOf", "(I)I"⟩
abbrev b_Lo_init : ByteArray := prog_7_method_1_code
def y_Lo_init : MethodName := ⟨"MuseumHouse$Loans", "<init>", "()V"⟩
abbrev b_Lo_lend : ByteArray := prog_7_method_2_code
def y_Lo_lend : MethodName := ⟨"MuseumHouse$Loans", "lend", "(III)I"⟩
abbrev b_Lo_hasDay : ByteArray := prog_7_method_3_code
def y_Lo_hasDay : MethodName := ⟨"MuseumHouse$Loans", "hasDay", "(II)Z"⟩
abbrev b_Lo_lastDayOf : ByteArray := prog_7_method_4_code
def y_Lo_lastDayOf : MethodName := ⟨"MuseumHouse$Loans", "lastDayOf", "(I)I"⟩
abbrev b_Lo_endOn : ByteArray := prog_7_method_5_code
def y_Lo_endOn : MethodName := ⟨"MuseumHouse$Loans", "endOn", "(II)V"⟩
abbrev b_Lo_having : ByteArray := prog_7_method_6_code
def y_Lo_having : MethodName := ⟨"MuseumHouse$Loans", "having", "(III)I"⟩
abbrev b_Mo_init : ByteArray := prog_8_method_1_code
def y_Mo_init : MethodName := ⟨"MuseumHouse$Moves", "<init>", "()V"⟩
abbrev b_Mo_isFullFor : ByteArray := prog_8_method_2_code
def y_Mo_isFullFor : MethodName := ⟨"MuseumHouse$Moves", "isFullFor", "(I)Z"⟩
abbrev b_Mo_hasDay : ByteArray := prog_8_method_3_code
def y_Mo_hasDay : MethodName := ⟨"MuseumHouse$Moves", "hasDay", "(II)Z"⟩
abbrev b_Mo_tell : ByteArray := prog_8_method_4_code
def y_Mo_tell : MethodName := ⟨"MuseumHouse$Moves", "tell", "(III)V"⟩
abbrev b_Mo_storeOn : ByteArray := prog_8_method_5_code
def y_Mo_storeOn : MethodName := ⟨"MuseumHouse$Moves", "storeOn", "(II)I"⟩
abbrev b_Mo_slotOf : ByteArray := prog_8_method_6_code
def y_Mo_slotOf : MethodName := ⟨"MuseumHouse$Moves", "slotOf", "(II)I"⟩
abbrev b_Mo_firstSlot : ByteArray := prog_8_method_7_code
def y_Mo_firstSlot : MethodName := ⟨"MuseumHouse$Moves", "firstSlot", "(I)I"⟩
abbrev b_Mo_endOfSlots : ByteArray := prog_8_method_8_code
def y_Mo_endOfSlots : MethodName := ⟨"MuseumHouse$Moves", "endOfSlots", "(I)I"⟩
abbrev b_Rg_init : ByteArray := prog_9_method_1_code
def y_Rg_init : MethodName := ⟨"MuseumHouse$Register", "<init>", "(II)V"⟩
abbrev b_Rg_size : ByteArray := prog_9_method_2_code
def y_Rg_size : MethodName := ⟨"MuseumHouse$Register", "size", "()I"⟩
abbrev b_Rg_isFull : ByteArray := prog_9_method_3_code
def y_Rg_isFull : MethodName := ⟨"MuseumHouse$Register", "isFull", "()Z"⟩
abbrev b_Rg_handleOf : ByteArray := prog_9_method_4_code
def y_Rg_handleOf : MethodName := ⟨"MuseumHouse$Register", "handleOf", "(I)I"⟩
abbrev b_Rg_numberFor : ByteArray := prog_9_method_5_code
def y_Rg_numberFor : MethodName := ⟨"MuseumHouse$Register", "numberFor", "(I)I"⟩
abbrev b_Rg_enter : ByteArray := prog_9_method_6_code
def y_Rg_enter : MethodName := ⟨"MuseumHouse$Register", "enter", "()I"⟩
abbrev b_Sh_init : ByteArray := prog_10_method_1_code
def y_Sh_init : MethodName := ⟨"MuseumHouse$Shows", "<init>", "()V"⟩
abbrev b_Sh_plan : ByteArray := prog_10_method_2_code
def y_Sh_plan : MethodName := ⟨"MuseumHouse$Shows", "plan", "(III)I"⟩
abbrev b_Sh_storeOf : ByteArray := prog_10_method_3_code
def y_Sh_storeOf : MethodName := ⟨"MuseumHouse$Shows", "storeOf", "(I)I"⟩
abbrev b_Sh_firstDayOf : ByteArray := prog_10_method_4_code
def y_Sh_firstDayOf : MethodName := ⟨"MuseumHouse$Shows", "firstDayOf", "(I)I"⟩
abbrev b_Sh_lastDayOf : ByteArray := prog_10_method_5_code
def y_Sh_lastDayOf : MethodName := ⟨"MuseumHouse$Shows", "lastDayOf", "(I)I"⟩
abbrev b_Sh_holds : ByteArray := prog_10_method_6_code
def y_Sh_holds : MethodName := ⟨"MuseumHouse$Shows", "holds", "(II)Z"⟩
abbrev b_Sh_putIn : ByteArray := prog_10_method_7_code
def y_Sh_putIn : MethodName := ⟨"MuseumHouse$Shows", "putIn", "(II)V"⟩
abbrev b_Sh_putOut : ByteArray := prog_10_method_8_code
def y_Sh_putOut : MethodName := ⟨"MuseumHouse$Shows", "putOut", "(II)V"⟩
abbrev b_Sh_having : ByteArray := prog_10_method_9_code
def y_Sh_having : MethodName := ⟨"MuseumHouse$Shows", "having", "(III)I"⟩
abbrev b_Si_init : ByteArray := prog_11_method_1_code
def y_Si_init : MethodName := ⟨"MuseumHouse$Sites", "<init>", "()V"⟩
abbrev b_Si_stakeOut : ByteArray := prog_11_method_2_code
def y_Si_stakeOut : MethodName := ⟨"MuseumHouse$Sites", "stakeOut", "()I"⟩
abbrev b_So_init : ByteArray := prog_12_method_1_code
def y_So_init : MethodName := ⟨"MuseumHouse$Stores", "<init>", "()V"⟩
abbrev b_So_build : ByteArray := prog_12_method_2_code
def y_So_build : MethodName := ⟨"MuseumHouse$Stores", "build", "(I)I"⟩
abbrev b_So_parentOf : ByteArray := prog_12_method_3_code
def y_So_parentOf : MethodName := ⟨"MuseumHouse$Stores", "parentOf", "(I)I"⟩
abbrev b_So_setParent : ByteArray := prog_12_method_4_code
def y_So_setParent : MethodName := ⟨"MuseumHouse$Stores", "setParent", "(II)V"⟩
abbrev b_So_isIn : ByteArray := prog_12_method_5_code
def y_So_isIn : MethodName := ⟨"MuseumHouse$Stores", "isIn", "(II)Z"⟩
abbrev b_So_isAtOrIn : ByteArray := prog_12_method_6_code
def y_So_isAtOrIn : MethodName := ⟨"MuseumHouse$Stores", "isAtOrIn", "(II)Z"⟩
abbrev b_Lw_desk : ByteArray := method_3_code
def y_Lw_desk : MethodName := ⟨"MuseumHouseLaw", "desk", "(LMuseumHouse;II[J)I"⟩
abbrev b_Lw_day : ByteArray := method_4_code
def y_Lw_day : MethodName := ⟨"MuseumHouseLaw", "day", "(LMuseumHouse;I[J)I"⟩
abbrev b_Lw_site : ByteArray := method_5_code
def y_Lw_site : MethodName := ⟨"MuseumHouseLaw", "site", "(LMuseumHouse;I[J)I"⟩
abbrev b_Lw_context : ByteArray := method_6_code
def y_Lw_context : MethodName := ⟨"MuseumHouseLaw", "context", "(LMuseumHouse;II[J)I"⟩
abbrev b_Lw_above : ByteArray := method_7_code
def y_Lw_above : MethodName := ⟨"MuseumHouseLaw", "above", "(LMuseumHouse;III[J)I"⟩
abbrev b_Lw_span : ByteArray := method_8_code
def y_Lw_span : MethodName := ⟨"MuseumHouseLaw", "span", "(LMuseumHouse;IIII[J)I"⟩
abbrev b_Lw_isAbove : ByteArray := method_9_code
def y_Lw_isAbove : MethodName := ⟨"MuseumHouseLaw", "isAbove", "(LMuseumHouse;II[J)I"⟩
abbrev b_Lw_year : ByteArray := method_10_code
def y_Lw_year : MethodName := ⟨"MuseumHouseLaw", "year", "(LMuseumHouse;II[J)I"⟩
abbrev b_Lw_find : ByteArray := method_11_code
def y_Lw_find : MethodName := ⟨"MuseumHouseLaw", "find", "(LMuseumHouse;III[J)I"⟩
abbrev b_Lw_object : ByteArray := method_12_code
def y_Lw_object : MethodName := ⟨"MuseumHouseLaw", "object", "(LMuseumHouse;II[J)I"⟩
abbrev b_Lw_store : ByteArray := method_13_code
def y_Lw_store : MethodName := ⟨"MuseumHouseLaw", "store", "(LMuseumHouse;II[J)I"⟩
abbrev b_Lw_carry : ByteArray := method_14_code
def y_Lw_carry : MethodName := ⟨"MuseumHouseLaw", "carry", "(LMuseumHouse;III[J)I"⟩
abbrev b_Lw_within : ByteArray := method_15_code
def y_Lw_within : MethodName := ⟨"MuseumHouseLaw", "within", "(LMuseumHouse;II[J)I"⟩
abbrev b_Lw_move : ByteArray := method_16_code
def y_Lw_move : MethodName := ⟨"MuseumHouseLaw", "move", "(LMuseumHouse;IIII[J)I"⟩
abbrev b_Lw_place : ByteArray := method_17_code
def y_Lw_place : MethodName := ⟨"MuseumHouseLaw", "place", "(LMuseumHouse;II[J)I"⟩
abbrev b_Lw_stored : ByteArray := method_18_code
def y_Lw_stored : MethodName := ⟨"MuseumHouseLaw", "stored", "(LMuseumHouse;II[J)I"⟩
abbrev b_Lw_loan : ByteArray := method_19_code
def y_Lw_loan : MethodName := ⟨"MuseumHouseLaw", "loan", "(LMuseumHouse;IIII[J)I"⟩
abbrev b_Lw_back : ByteArray := method_20_code
def y_Lw_back : MethodName := ⟨"MuseumHouseLaw", "back", "(LMuseumHouse;III[J)I"⟩
abbrev b_Lw_show : ByteArray := method_21_code
def y_Lw_show : MethodName := ⟨"MuseumHouseLaw", "show", "(LMuseumHouse;IIII[J)I"⟩
abbrev b_Lw_hang : ByteArray := method_22_code
def y_Lw_hang : MethodName := ⟨"MuseumHouseLaw", "hang", "(LMuseumHouse;III[J)I"⟩
abbrev b_Lw_take : ByteArray := method_23_code
def y_Lw_take : MethodName := ⟨"MuseumHouseLaw", "take", "(LMuseumHouse;III[J)I"⟩
abbrev b_Lw_claim : ByteArray := method_24_code
def y_Lw_claim : MethodName := ⟨"MuseumHouseLaw", "claim", "(LMuseumHouse;III[J)I"⟩
abbrev b_Lw_close : ByteArray := method_25_code
def y_Lw_close : MethodName := ⟨"MuseumHouseLaw", "close", "(LMuseumHouse;II[J)I"⟩
abbrev b_Lw_where : ByteArray := method_26_code
def y_Lw_where : MethodName := ⟨"MuseumHouseLaw", "where", "(LMuseumHouse;II[J)I"⟩
abbrev b_Lw_origin : ByteArray := method_27_code
def y_Lw_origin : MethodName := ⟨"MuseumHouseLaw", "origin", "(LMuseumHouse;I[J)I"⟩
abbrev b_Lw_hall : ByteArray := method_28_code
def y_Lw_hall : MethodName := ⟨"MuseumHouseLaw", "hall", "(LMuseumHouse;I[J)I"⟩
abbrev b_Lw_count : ByteArray := method_29_code
def y_Lw_count : MethodName := ⟨"MuseumHouseLaw", "count", "(LMuseumHouse;I[J)I"⟩
end
section
theorem d_H_init_0 : decode b_H_init 0 = .ok (.aload_n 0, 1) := by decide +kernel
theorem d_H_init_1 : decode b_H_init 1 = .ok (.invokespecial 1, 3) := by decide +kernel
theorem d_H_init_4 : decode b_H_init 4 = .ok (.aload_n 0, 1) := by decide +kernel
theorem d_H_init_5 : decode b_H_init 5 = .ok (.new 7, 3) := by decide +kernel
theorem d_H_init_8 : decode b_H_init 8 = .ok (.dup, 1) := by decide +kernel
theorem d_H_init_9 : decode b_H_init 9 = .ok (.invokespecial 9, 3) := by decide +kernel
theorem d_H_init_12 : decode b_H_init 12 = .ok (.putfield 10, 3) := by decide +kernel
theorem d_H_init_15 : decode b_H_init 15 = .ok (.aload_n 0, 1) := by decide +kernel
theorem d_H_init_16 : decode b_H_init 16 = .ok (.new 16, 3) := by decide +kernel
theorem d_H_init_19 : decode b_H_init 19 = .ok (.dup, 1) := by decide +kernel
theorem d_H_init_20 : decode b_H_init 20 = .ok (.invokespecial 18, 3) := by decide +kernel
theorem d_H_init_23 : decode b_H_init 23 = .ok (.putfield 19, 3) := by decide +kernel
theorem d_H_init_26 : decode b_H_init 26 = .ok (.aload_n 0, 1) := by decide +kernel
theorem d_H_init_27 : decode b_H_init 27 = .ok (.new 23, 3) := by decide +kernel
theorem d_H_init_30 : decode b_H_init 30 = .ok (.dup, 1) := by decide +kernel
theorem d_H_init_31 : decode b_H_init 31 = .ok (.invokespecial 25, 3) := by decide +kernel
theorem d_H_init_34 : decode b_H_init 34 = .ok (.putfield 26, 3) := by decide +kernel
theorem d_H_init_37 : decode b_H_init 37 = .ok (.aload_n 0, 1) := by decide +kernel
theorem d_H_init_38 : decode b_H_init 38 = .ok (.new 30, 3) := by decide +kernel
theorem d_H_init_41 : decode b_H_init 41 = .ok (.dup, 1) := by decide +kernel
theorem d_H_init_42 : decode b_H_init 42 = .ok (.invokespecial 32, 3) := by decide +kernel
theorem d_H_init_45 : decode b_H_init 45 = .ok (.putfield 33, 3) := by decide +kernel
theorem d_H_init_48 : decode b_H_init 48 = .ok (.aload_n 0, 1) := by decide +kernel
theorem d_H_init_49 : decode b_H_init 49 = .ok (.new 37, 3) := by decide +kernel
theorem d_H_init_52 : decode b_H_init 52 = .ok (.dup, 1) := by decide +kernel
theorem d_H_init_53 : decode b_H_init 53 = .ok (.invokespecial 39, 3) := by decide +kernel
theorem d_H_init_56 : decode b_H_init 56 = .ok (.putfield 40, 3) := by decide +kernel
theorem d_H_init_59 : decode b_H_init 59 = .ok (.aload_n 0, 1) := by decide +kernel
theorem d_H_init_60 : decode b_H_init 60 = .ok (.new 44, 3) := by decide +kernel
theorem d_H_init_63 : decode b_H_init 63 = .ok (.dup, 1) := by decide +kernel
theorem d_H_init_64 : decode b_H_init 64 = .ok (.invokespecial 46, 3) := by decide +kernel
theorem d_H_init_67 : decode b_H_init 67 = .ok (.putfield 47, 3) := by decide +kernel
theorem d_H_init_70 : decode b_H_init 70 = .ok (.aload_n 0, 1) := by decide +kernel
theorem d_H_init_71 : decode b_H_init 71 = .ok (.new 51, 3) := by decide +kernel
theorem d_H_init_74 : decode b_H_init 74 = .ok (.dup, 1) := by decide +kernel
theorem d_H_init_75 : decode b_H_init 75 = .ok (.invokespecial 53, 3) := by decide +kernel
theorem d_H_init_78 : decode b_H_init 78 = .ok (.putfield 54, 3) := by decide +kernel
theorem d_H_init_81 : decode b_H_init 81 = .ok (.aload_n 0, 1) := by decide +kernel
theorem d_H_init_82 : decode b_H_init 82 = .ok (.new 58, 3) := by decide +kernel
theorem d_H_init_85 : decode b_H_init 85 = .ok (.dup, 1) := by decide +kernel
theorem d_H_init_86 : decode b_H_init 86 = .ok (.invokespecial 60, 3) := by decide +kernel
theorem d_H_init_89 : decode b_H_init 89 = .ok (.putfield 61, 3) := by decide +kernel
theorem d_H_init_92 : decode b_H_init 92 = .ok (.aload_n 0, 1) := by decide +kernel
theorem d_H_init_93 : decode b_H_init 93 = .ok (.new 65, 3) := by decide +kernel
theorem d_H_init_96 : decode b_H_init 96 = .ok (.dup, 1) := by decide +kernel
theorem d_H_init_97 : decode b_H_init 97 = .ok (.invokespecial 67, 3) := by decide +kernel
theorem d_H_init_100 : decode b_H_init 100 = .ok (.putfield 68, 3) := by decide +kernel
theorem d_H_init_103 : decode b_H_init 103 = .ok (.aload_n 0, 1) := by decide +kernel
theorem d_H_init_104 : decode b_H_init 104 = .ok (.new 72, 3) := by decide +kernel
theorem d_H_init_107 : decode b_H_init 107 = .ok (.dup, 1) := by decide +kernel
theorem d_H_init_108 : decode b_H_init 108 = .ok (.invokespecial 74, 3) := by decide +kernel
theorem d_H_init_111 : decode b_H_init 111 = .ok (.putfield 75, 3) := by decide +kernel
theorem d_H_init_114 : decode b_H_init 114 = .ok (.aload_n 0, 1) := by decide +kernel
theorem d_H_init_115 : decode b_H_init 115 = .ok (.iconst 0, 1) := by decide +kernel
theorem d_H_init_116 : decode b_H_init 116 = .ok (.putfield 79, 3) := by decide +kernel
theorem d_H_init_119 : decode b_H_init 119 = .ok (.aload_n 0, 1) := by decide +kernel
theorem d_H_init_120 : decode b_H_init 120 = .ok (.iconst 0, 1) := by decide +kernel
theorem d_H_init_121 : decode b_H_init 121 = .ok (.putfield 83, 3) := by decide +kernel
theorem d_H_init_124 : decode b_H_init 124 = .ok (.return_, 1) := by decide +kernel
theorem d_H_desk_0 : decode b_H_desk 0 = .ok (.aload_n 0, 1) := by decide +kernel
theorem d_H_desk_1 : decode b_H_desk 1 = .ok (.aload_n 0, 1) := by decide +kernel
theorem d_H_desk_2 : decode b_H_desk 2 = .ok (.getfield 10, 3) := by decide +kernel
theorem d_H_desk_5 : decode b_H_desk 5 = .ok (.iload_n 1, 1) := by decide +kernel
theorem d_H_desk_6 : decode b_H_desk 6 = .ok (.invokevirtual 86, 3) := by decide +kernel
theorem d_H_desk_9 : decode b_H_desk 9 = .ok (.istore_n 3, 1) := by decide +kernel
theorem d_H_desk_10 : decode b_H_desk 10 = .ok (.aload_n 0, 1) := by decide +kernel
theorem d_H_desk_11 : decode b_H_desk 11 = .ok (.iload_n 3, 1) := by decide +kernel
theorem d_H_desk_12 : decode b_H_desk 12 = .ok (.iconst 1, 1) := by decide +kernel
theorem d_H_desk_13 : decode b_H_desk 13 = .ok (.invokevirtual 90, 3) := by decide +kernel
theorem d_H_desk_16 : decode b_H_desk 16 = .ok (.aload_n 0, 1) := by decide +kernel
theorem d_H_desk_17 : decode b_H_desk 17 = .ok (.aload_n 0, 1) := by decide +kernel
theorem d_H_desk_18 : decode b_H_desk 18 = .ok (.getfield 10, 3) := by decide +kernel
theorem d_H_desk_21 : decode b_H_desk 21 = .ok (.invokevirtual 94, 3) := by decide +kernel
theorem d_H_desk_24 : decode b_H_desk 24 = .ok (.ifCond .ne 7, 3) := by decide +kernel
theorem d_H_desk_27 : decode b_H_desk 27 = .ok (.iconst 1, 1) := by decide +kernel
theorem d_H_desk_28 : decode b_H_desk 28 = .ok (.goto 4, 3) := by decide +kernel
theorem d_H_desk_31 : decode b_H_desk 31 = .ok (.iconst 0, 1) := by decide +kernel
theorem d_H_desk_32 : decode b_H_desk 32 = .ok (.invokevirtual 98, 3) := by decide +kernel
theorem d_H_desk_35 : decode b_H_desk 35 = .ok (.aload_n 0, 1) := by decide +kernel
theorem d_H_desk_36 : decode b_H_desk 36 = .ok (.iconst 4, 1) := by decide +kernel
theorem d_H_desk_37 : decode b_H_desk 37 = .ok (.iload_n 2, 1) := by decide +kernel
theorem d_H_desk_38 : decode b_H_desk 38 = .ok (.ifCond .lt 13, 3) := by decide +kernel
theorem d_H_desk_41 : decode b_H_desk 41 = .ok (.iload_n 2, 1) := by decide +kernel
theorem d_H_desk_42 : decode b_H_desk 42 = .ok (.bipush 63, 2) := by decide +kernel
theorem d_H_desk_44 : decode b_H_desk 44 = .ok (.if_icmp .gt 7, 3) := by decide +kernel
theorem d_H_desk_47 : decode b_H_desk 47 = .ok (.iconst 1, 1) := by decide +kernel
theorem d_H_desk_48 : decode b_H_desk 48 = .ok (.goto 4, 3) := by decide +kernel
theorem d_H_desk_51 : decode b_H_desk 51 = .ok (.iconst 0, 1) := by decide +kernel
theorem d_H_desk_52 : decode b_H_desk 52 = .ok (.invokevirtual 102, 3) := by decide +kernel
theorem d_H_desk_55 : decode b_H_desk 55 = .ok (.aload_n 0, 1) := by decide +kernel
theorem d_H_desk_56 : decode b_H_desk 56 = .ok (.iconst 5, 1) := by decide +kernel
theorem d_H_desk_57 : decode b_H_desk 57 = .ok (.aload_n 0, 1) := by decide +kernel
theorem d_H_desk_58 : decode b_H_desk 58 = .ok (.getfield 10, 3) := by decide +kernel
theorem d_H_desk_61 : decode b_H_desk 61 = .ok (.iload_n 3, 1) := by decide +kernel
theorem d_H_desk_62 : decode b_H_desk 62 = .ok (.iload_n 2, 1) := by decide +kernel
theorem d_H_desk_63 : decode b_H_desk 63 = .ok (.invokevirtual 106, 3) := by decide +kernel
theorem d_H_desk_66 : decode b_H_desk 66 = .ok (.invokevirtual 102, 3) := by decide +kernel
theorem d_H_desk_69 : decode b_H_desk 69 = .ok (.aload_n 0, 1) := by decide +kernel
theorem d_H_desk_70 : decode b_H_desk 70 = .ok (.getfield 10, 3) := by decide +kernel
theorem d_H_desk_73 : decode b_H_desk 73 = .ok (.iload_n 2, 1) := by decide +kernel
theorem d_H_desk_74 : decode b_H_desk 74 = .ok (.invokevirtual 110, 3) := by decide +kernel
theorem d_H_desk_77 : decode b_H_desk 77 = .ok (.ireturn, 1) := by decide +kernel
theorem d_H_day_0 : decode b_H_day 0 = .ok (.aload_n 0, 1) := by decide +kernel
theorem d_H_day_1 : decode b_H_day 1 = .ok (.iconst 4, 1) := by decide +kernel
theorem d_H_day_2 : decode b_H_day 2 = .ok (.iload_n 1, 1) := by decide +kernel
theorem d_H_day_3 : decode b_H_day 3 = .ok (.ifCond .lt 26, 3) := by decide +kernel
theorem d_H_day_6 : decode b_H_day 6 = .ok (.iload_n 1, 1) := by decide +kernel
theorem d_H_day_7 : decode b_H_day 7 = .ok (.sipush 1000, 3) := by decide +kernel
theorem d_H_day_10 : decode b_H_day 10 = .ok (.if_icmp .gt 19, 3) := by decide +kernel
theorem d_H_day_13 : decode b_H_day 13 = .ok (.iload_n 1, 1) := by decide +kernel
theorem d_H_day_14 : decode b_H_day 14 = .ok (.sipush 9999, 3) := by decide +kernel
theorem d_H_day_17 : decode b_H_day 17 = .ok (.aload_n 0, 1) := by decide +kernel
theorem d_H_day_18 : decode b_H_day 18 = .ok (.getfield 79, 3) := by decide +kernel
theorem d_H_day_21 : decode b_H_day 21 = .ok (.isub, 1) := by decide +kernel
theorem d_H_day_22 : decode b_H_day 22 = .ok (.if_icmp .gt 7, 3) := by decide +kernel
theorem d_H_day_25 : decode b_H_day 25 = .ok (.iconst 1, 1) := by decide +kernel
theorem d_H_day_26 : decode b_H_day 26 = .ok (.goto 4, 3) := by decide +kernel
theorem d_H_day_29 : decode b_H_day 29 = .ok (.iconst 0, 1) := by decide +kernel
theorem d_H_day_30 : decode b_H_day 30 = .ok (.invokevirtual 102, 3) := by decide +kernel
theorem d_H_day_33 : decode b_H_day 33 = .ok (.aload_n 0, 1) := by decide +kernel
theorem d_H_day_34 : decode b_H_day 34 = .ok (.dup, 1) := by decide +kernel
theorem d_H_day_35 : decode b_H_day 35 = .ok (.getfield 79, 3) := by decide +kernel
theorem d_H_day_38 : decode b_H_day 38 = .ok (.iload_n 1, 1) := by decide +kernel
theorem d_H_day_39 : decode b_H_day 39 = .ok (.iadd, 1) := by decide +kernel
theorem d_H_day_40 : decode b_H_day 40 = .ok (.putfield 79, 3) := by decide +kernel
theorem d_H_day_43 : decode b_H_day 43 = .ok (.aload_n 0, 1) := by decide +kernel
theorem d_H_day_44 : decode b_H_day 44 = .ok (.getfield 79, 3) := by decide +kernel
theorem d_H_day_47 : decode b_H_day 47 = .ok (.ireturn, 1) := by decide +kernel
theorem d_H_site_0 : decode b_H_site 0 = .ok (.aload_n 0, 1) := by decide +kernel
theorem d_H_site_1 : decode b_H_site 1 = .ok (.aload_n 0, 1) := by decide +kernel
theorem d_H_site_2 : decode b_H_site 2 = .ok (.getfield 10, 3) := by decide +kernel
theorem d_H_site_5 : decode b_H_site 5 = .ok (.iload_n 1, 1) := by decide +kernel
theorem d_H_site_6 : decode b_H_site 6 = .ok (.invokevirtual 86, 3) := by decide +kernel
theorem d_H_site_9 : decode b_H_site 9 = .ok (.istore_n 2, 1) := by decide +kernel
theorem d_H_site_10 : decode b_H_site 10 = .ok (.aload_n 0, 1) := by decide +kernel
theorem d_H_site_11 : decode b_H_site 11 = .ok (.iload_n 2, 1) := by decide +kernel
theorem d_H_site_12 : decode b_H_site 12 = .ok (.iconst 2, 1) := by decide +kernel
theorem d_H_site_13 : decode b_H_site 13 = .ok (.invokevirtual 90, 3) := by decide +kernel
theorem d_H_site_16 : decode b_H_site 16 = .ok (.aload_n 0, 1) := by decide +kernel
theorem d_H_site_17 : decode b_H_site 17 = .ok (.aload_n 0, 1) := by decide +kernel
theorem d_H_site_18 : decode b_H_site 18 = .ok (.getfield 19, 3) := by decide +kernel
theorem d_H_site_21 : decode b_H_site 21 = .ok (.invokevirtual 114, 3) := by decide +kernel
theorem d_H_site_24 : decode b_H_site 24 = .ok (.ifCond .ne 7, 3) := by decide +kernel
theorem d_H_site_27 : decode b_H_site 27 = .ok (.iconst 1, 1) := by decide +kernel
theorem d_H_site_28 : decode b_H_site 28 = .ok (.goto 4, 3) := by decide +kernel
theorem d_H_site_31 : decode b_H_site 31 = .ok (.iconst 0, 1) := by decide +kernel
theorem d_H_site_32 : decode b_H_site 32 = .ok (.invokevirtual 98, 3) := by decide +kernel
theorem d_H_site_35 : decode b_H_site 35 = .ok (.aload_n 0, 1) := by decide +kernel
theorem d_H_site_36 : decode b_H_site 36 = .ok (.getfield 19, 3) := by decide +kernel
theorem d_H_site_39 : decode b_H_site 39 = .ok (.invokevirtual 115, 3) := by decide +kernel
theorem d_H_site_42 : decode b_H_site 42 = .ok (.ireturn, 1) := by decide +kernel
theorem d_H_context_0 : decode b_H_context 0 = .ok (.aload_n 0, 1) := by decide +kernel
theorem d_H_context_1 : decode b_H_context 1 = .ok (.aload_n 0, 1) := by decide +kernel
theorem d_H_context_2 : decode b_H_context 2 = .ok (.getfield 10, 3) := by decide +kernel
theorem d_H_context_5 : decode b_H_context 5 = .ok (.iload_n 1, 1) := by decide +kernel
theorem d_H_context_6 : decode b_H_context 6 = .ok (.invokevirtual 86, 3) := by decide +kernel
theorem d_H_context_9 : decode b_H_context 9 = .ok (.istore_n 3, 1) := by decide +kernel
theorem d_H_context_10 : decode b_H_context 10 = .ok (.aload_n 0, 1) := by decide +kernel
theorem d_H_context_11 : decode b_H_context 11 = .ok (.aload_n 0, 1) := by decide +kernel
theorem d_H_context_12 : decode b_H_context 12 = .ok (.getfield 19, 3) := by decide +kernel
theorem d_H_context_15 : decode b_H_context 15 = .ok (.iload_n 2, 1) := by decide +kernel
theorem d_H_context_16 : decode b_H_context 16 = .ok (.invokevirtual 86, 3) := by decide +kernel
theorem d_H_context_19 : decode b_H_context 19 = .ok (.istore 4, 2) := by decide +kernel
theorem d_H_context_21 : decode b_H_context 21 = .ok (.aload_n 0, 1) := by decide +kernel
theorem d_H_context_22 : decode b_H_context 22 = .ok (.iload_n 3, 1) := by decide +kernel
theorem d_H_context_23 : decode b_H_context 23 = .ok (.iconst 2, 1) := by decide +kernel
theorem d_H_context_24 : decode b_H_context 24 = .ok (.invokevirtual 90, 3) := by decide +kernel
theorem d_H_context_27 : decode b_H_context 27 = .ok (.aload_n 0, 1) := by decide +kernel
theorem d_H_context_28 : decode b_H_context 28 = .ok (.aload_n 0, 1) := by decide +kernel
theorem d_H_context_29 : decode b_H_context 29 = .ok (.getfield 26, 3) := by decide +kernel
theorem d_H_context_32 : decode b_H_context 32 = .ok (.invokevirtual 119, 3) := by decide +kernel
theorem d_H_context_35 : decode b_H_context 35 = .ok (.ifCond .ne 7, 3) := by decide +kernel
theorem d_H_context_38 : decode b_H_context 38 = .ok (.iconst 1, 1) := by decide +kernel
theorem d_H_context_39 : decode b_H_context 39 = .ok (.goto 4, 3) := by decide +kernel
theorem d_H_context_42 : decode b_H_context 42 = .ok (.iconst 0, 1) := by decide +kernel
theorem d_H_context_43 : decode b_H_context 43 = .ok (.invokevirtual 98, 3) := by decide +kernel
theorem d_H_context_46 : decode b_H_context 46 = .ok (.aload_n 0, 1) := by decide +kernel
theorem d_H_context_47 : decode b_H_context 47 = .ok (.getfield 26, 3) := by decide +kernel
theorem d_H_context_50 : decode b_H_context 50 = .ok (.iload 4, 2) := by decide +kernel
theorem d_H_context_52 : decode b_H_context 52 = .ok (.invokevirtual 120, 3) := by decide +kernel
theorem d_H_context_55 : decode b_H_context 55 = .ok (.ireturn, 1) := by decide +kernel
theorem d_H_above_0 : decode b_H_above 0 = .ok (.aload_n 0, 1) := by decide +kernel
theorem d_H_above_1 : decode b_H_above 1 = .ok (.aload_n 0, 1) := by decide +kernel
theorem d_H_above_2 : decode b_H_above 2 = .ok (.getfield 10, 3) := by decide +kernel
theorem d_H_above_5 : decode b_H_above 5 = .ok (.iload_n 1, 1) := by decide +kernel
theorem d_H_above_6 : decode b_H_above 6 = .ok (.invokevirtual 86, 3) := by decide +kernel
theorem d_H_above_9 : decode b_H_above 9 = .ok (.istore 4, 2) := by decide +kernel
theorem d_H_above_11 : decode b_H_above 11 = .ok (.aload_n 0, 1) := by decide +kernel
theorem d_H_above_12 : decode b_H_above 12 = .ok (.aload_n 0, 1) := by decide +kernel
theorem d_H_above_13 : decode b_H_above 13 = .ok (.getfield 26, 3) := by decide +kernel
theorem d_H_above_16 : decode b_H_above 16 = .ok (.iload_n 2, 1) := by decide +kernel
theorem d_H_above_17 : decode b_H_above 17 = .ok (.invokevirtual 86, 3) := by decide +kernel
theorem d_H_above_20 : decode b_H_above 20 = .ok (.istore 5, 2) := by decide +kernel
theorem d_H_above_22 : decode b_H_above 22 = .ok (.aload_n 0, 1) := by decide +kernel
theorem d_H_above_23 : decode b_H_above 23 = .ok (.aload_n 0, 1) := by decide +kernel
theorem d_H_above_24 : decode b_H_above 24 = .ok (.getfield 26, 3) := by decide +kernel
theorem d_H_above_27 : decode b_H_above 27 = .ok (.iload_n 3, 1) := by decide +kernel
theorem d_H_above_28 : decode b_H_above 28 = .ok (.invokevirtual 86, 3) := by decide +kernel
theorem d_H_above_31 : decode b_H_above 31 = .ok (.istore 6, 2) := by decide +kernel
theorem d_H_above_33 : decode b_H_above 33 = .ok (.aload_n 0, 1) := by decide +kernel
theorem d_H_above_34 : decode b_H_above 34 = .ok (.iload 4, 2) := by decide +kernel
theorem d_H_above_36 : decode b_H_above 36 = .ok (.iconst 2, 1) := by decide +kernel
theorem d_H_above_37 : decode b_H_above 37 = .ok (.invokevirtual 90, 3) := by decide +kernel
theorem d_H_above_40 : decode b_H_above 40 = .ok (.aload_n 0, 1) := by decide +kernel
theorem d_H_above_41 : decode b_H_above 41 = .ok (.bipush 6, 2) := by decide +kernel
theorem d_H_above_43 : decode b_H_above 43 = .ok (.aload_n 0, 1) := by decide +kernel
theorem d_H_above_44 : decode b_H_above 44 = .ok (.getfield 26, 3) := by decide +kernel
theorem d_H_above_47 : decode b_H_above 47 = .ok (.iload 5, 2) := by decide +kernel
theorem d_H_above_49 : decode b_H_above 49 = .ok (.invokevirtual 123, 3) := by decide +kernel
theorem d_H_above_52 : decode b_H_above 52 = .ok (.aload_n 0, 1) := by decide +kernel
theorem d_H_above_53 : decode b_H_above 53 = .ok (.getfield 26, 3) := by decide +kernel
theorem d_H_above_56 : decode b_H_above 56 = .ok (.iload 6, 2) := by decide +kernel
theorem d_H_above_58 : decode b_H_above 58 = .ok (.invokevirtual 123, 3) := by decide +kernel
theorem d_H_above_61 : decode b_H_above 61 = .ok (.if_icmp .ne 7, 3) := by decide +kernel
theorem d_H_above_64 : decode b_H_above 64 = .ok (.iconst 1, 1) := by decide +kernel
theorem d_H_above_65 : decode b_H_above 65 = .ok (.goto 4, 3) := by decide +kernel
theorem d_H_above_68 : decode b_H_above 68 = .ok (.iconst 0, 1) := by decide +kernel
theorem d_H_above_69 : decode b_H_above 69 = .ok (.invokevirtual 102, 3) := by decide +kernel
theorem d_H_above_72 : decode b_H_above 72 = .ok (.aload_n 0, 1) := by decide +kernel
theorem d_H_above_73 : decode b_H_above 73 = .ok (.bipush 7, 2) := by decide +kernel
theorem d_H_above_75 : decode b_H_above 75 = .ok (.iload 5, 2) := by decide +kernel
theorem d_H_above_77 : decode b_H_above 77 = .ok (.iload 6, 2) := by decide +kernel
theorem d_H_above_79 : decode b_H_above 79 = .ok (.if_icmp .eq 21, 3) := by decide +kernel
theorem d_H_above_82 : decode b_H_above 82 = .ok (.aload_n 0, 1) := by decide +kernel
theorem d_H_above_83 : decode b_H_above 83 = .ok (.getfield 26, 3) := by decide +kernel
theorem d_H_above_86 : decode b_H_above 86 = .ok (.iload 6, 2) := by decide +kernel
theorem d_H_above_88 : decode b_H_above 88 = .ok (.iload 5, 2) := by decide +kernel
theorem d_H_above_90 : decode b_H_above 90 = .ok (.invokevirtual 126, 3) := by decide +kernel
theorem d_H_above_93 : decode b_H_above 93 = .ok (.ifCond .ne 7, 3) := by decide +kernel
theorem d_H_above_96 : decode b_H_above 96 = .ok (.iconst 1, 1) := by decide +kernel
theorem d_H_above_97 : decode b_H_above 97 = .ok (.goto 4, 3) := by decide +kernel
theorem d_H_above_100 : decode b_H_above 100 = .ok (.iconst 0, 1) := by decide +kernel
theorem d_H_above_101 : decode b_H_above 101 = .ok (.invokevirtual 102, 3) := by decide +kernel
theorem d_H_above_104 : decode b_H_above 104 = .ok (.aload_n 0, 1) := by decide +kernel
theorem d_H_above_105 : decode b_H_above 105 = .ok (.bipush 8, 2) := by decide +kernel
theorem d_H_above_107 : decode b_H_above 107 = .ok (.aload_n 0, 1) := by decide +kernel
theorem d_H_above_108 : decode b_H_above 108 = .ok (.getfield 26, 3) := by decide +kernel
theorem d_H_above_111 : decode b_H_above 111 = .ok (.iload 5, 2) := by decide +kernel
theorem d_H_above_113 : decode b_H_above 113 = .ok (.iload 6, 2) := by decide +kernel
theorem d_H_above_115 : decode b_H_above 115 = .ok (.invokevirtual 129, 3) := by decide +kernel
theorem d_H_above_118 : decode b_H_above 118 = .ok (.invokevirtual 102, 3) := by decide +kernel
theorem d_H_above_121 : decode b_H_above 121 = .ok (.aload_n 0, 1) := by decide +kernel
theorem d_H_above_122 : decode b_H_above 122 = .ok (.getfield 26, 3) := by decide +kernel
theorem d_H_above_125 : decode b_H_above 125 = .ok (.iload 5, 2) := by decide +kernel
theorem d_H_above_127 : decode b_H_above 127 = .ok (.iload 6, 2) := by decide +kernel
theorem d_H_above_129 : decode b_H_above 129 = .ok (.invokevirtual 126, 3) := by decide +kernel
theorem d_H_above_132 : decode b_H_above 132 = .ok (.ifCond .ne 7, 3) := by decide +kernel
theorem d_H_above_135 : decode b_H_above 135 = .ok (.iconst 1, 1) := by decide +kernel
theorem d_H_above_136 : decode b_H_above 136 = .ok (.goto 4, 3) := by decide +kernel
theorem d_H_above_139 : decode b_H_above 139 = .ok (.iconst 0, 1) := by decide +kernel
theorem d_H_above_140 : decode b_H_above 140 = .ok (.istore 7, 2) := by decide +kernel
theorem d_H_above_142 : decode b_H_above 142 = .ok (.aload_n 0, 1) := by decide +kernel
theorem d_H_above_143 : decode b_H_above 143 = .ok (.getfield 26, 3) := by decide +kernel
theorem d_H_above_146 : decode b_H_above 146 = .ok (.iload 5, 2) := by decide +kernel
theorem d_H_above_148 : decode b_H_above 148 = .ok (.iload 6, 2) := by decide +kernel
theorem d_H_above_150 : decode b_H_above 150 = .ok (.invokevirtual 132, 3) := by decide +kernel
theorem d_H_above_153 : decode b_H_above 153 = .ok (.iload 7, 2) := by decide +kernel
theorem d_H_above_155 : decode b_H_above 155 = .ok (.ireturn, 1) := by decide +kernel
theorem d_H_span_0 : decode b_H_span 0 = .ok (.aload_n 0, 1) := by decide +kernel
theorem d_H_span_1 : decode b_H_span 1 = .ok (.aload_n 0, 1) := by decide +kernel
theorem d_H_span_2 : decode b_H_span 2 = .ok (.getfield 10, 3) := by decide +kernel
theorem d_H_span_5 : decode b_H_span 5 = .ok (.iload_n 1, 1) := by decide +kernel
theorem d_H_span_6 : decode b_H_span 6 = .ok (.invokevirtual 86, 3) := by decide +kernel
theorem d_H_span_9 : decode b_H_span 9 = .ok (.istore 5, 2) := by decide +kernel
theorem d_H_span_11 : decode b_H_span 11 = .ok (.aload_n 0, 1) := by decide +kernel
theorem d_H_span_12 : decode b_H_span 12 = .ok (.aload_n 0, 1) := by decide +kernel
theorem d_H_span_13 : decode b_H_span 13 = .ok (.getfield 26, 3) := by decide +kernel
theorem d_H_span_16 : decode b_H_span 16 = .ok (.iload_n 2, 1) := by decide +kernel
theorem d_H_span_17 : decode b_H_span 17 = .ok (.invokevirtual 86, 3) := by decide +kernel
theorem d_H_span_20 : decode b_H_span 20 = .ok (.istore 6, 2) := by decide +kernel
theorem d_H_span_22 : decode b_H_span 22 = .ok (.aload_n 0, 1) := by decide +kernel
theorem d_H_span_23 : decode b_H_span 23 = .ok (.iload 5, 2) := by decide +kernel
theorem d_H_span_25 : decode b_H_span 25 = .ok (.iconst 2, 1) := by decide +kernel
theorem d_H_span_26 : decode b_H_span 26 = .ok (.invokevirtual 90, 3) := by decide +kernel
theorem d_H_span_29 : decode b_H_span 29 = .ok (.aload_n 0, 1) := by decide +kernel
theorem d_H_span_30 : decode b_H_span 30 = .ok (.iconst 4, 1) := by decide +kernel
theorem d_H_span_31 : decode b_H_span 31 = .ok (.iload_n 3, 1) := by decide +kernel
theorem d_H_span_32 : decode b_H_span 32 = .ok (.ifCond .lt 21, 3) := by decide +kernel
theorem d_H_span_35 : decode b_H_span 35 = .ok (.iload_n 3, 1) := by decide +kernel
theorem d_H_span_36 : decode b_H_span 36 = .ok (.iload 4, 2) := by decide +kernel
theorem d_H_span_38 : decode b_H_span 38 = .ok (.if_icmp .gt 15, 3) := by decide +kernel
theorem d_H_span_41 : decode b_H_span 41 = .ok (.iload 4, 2) := by decide +kernel
theorem d_H_span_43 : decode b_H_span 43 = .ok (.sipush 999, 3) := by decide +kernel
theorem d_H_span_46 : decode b_H_span 46 = .ok (.if_icmp .gt 7, 3) := by decide +kernel
theorem d_H_span_49 : decode b_H_span 49 = .ok (.iconst 1, 1) := by decide +kernel
theorem d_H_span_50 : decode b_H_span 50 = .ok (.goto 4, 3) := by decide +kernel
theorem d_H_span_53 : decode b_H_span 53 = .ok (.iconst 0, 1) := by decide +kernel
theorem d_H_span_54 : decode b_H_span 54 = .ok (.invokevirtual 102, 3) := by decide +kernel
theorem d_H_span_57 : decode b_H_span 57 = .ok (.aload_n 0, 1) := by decide +kernel
theorem d_H_span_58 : decode b_H_span 58 = .ok (.bipush 8, 2) := by decide +kernel
theorem d_H_span_60 : decode b_H_span 60 = .ok (.aload_n 0, 1) := by decide +kernel
theorem d_H_span_61 : decode b_H_span 61 = .ok (.getfield 26, 3) := by decide +kernel
theorem d_H_span_64 : decode b_H_span 64 = .ok (.iload 6, 2) := by decide +kernel
theorem d_H_span_66 : decode b_H_span 66 = .ok (.iload_n 3, 1) := by decide +kernel
theorem d_H_span_67 : decode b_H_span 67 = .ok (.iload 4, 2) := by decide +kernel
theorem d_H_span_69 : decode b_H_span 69 = .ok (.invokevirtual 135, 3) := by decide +kernel
theorem d_H_span_72 : decode b_H_span 72 = .ok (.invokevirtual 102, 3) := by decide +kernel
theorem d_H_span_75 : decode b_H_span 75 = .ok (.aload_n 0, 1) := by decide +kernel
theorem d_H_span_76 : decode b_H_span 76 = .ok (.getfield 26, 3) := by decide +kernel
theorem d_H_span_79 : decode b_H_span 79 = .ok (.iload 6, 2) := by decide +kernel
theorem d_H_span_81 : decode b_H_span 81 = .ok (.iload_n 3, 1) := by decide +kernel
theorem d_H_span_82 : decode b_H_span 82 = .ok (.iload 4, 2) := by decide +kernel
theorem d_H_span_84 : decode b_H_span 84 = .ok (.invokevirtual 139, 3) := by decide +kernel
theorem d_H_span_87 : decode b_H_span 87 = .ok (.aload_n 0, 1) := by decide +kernel
theorem d_H_span_88 : decode b_H_span 88 = .ok (.getfield 26, 3) := by decide +kernel
theorem d_H_span_91 : decode b_H_span 91 = .ok (.iload 6, 2) := by decide +kernel
theorem d_H_span_93 : decode b_H_span 93 = .ok (.invokevirtual 143, 3) := by decide +kernel
theorem d_H_span_96 : decode b_H_span 96 = .ok (.ireturn, 1) := by decide +kernel
theorem d_H_isAbove_0 : decode b_H_isAbove 0 = .ok (.aload_n 0, 1) := by decide +kernel
theorem d_H_isAbove_1 : decode b_H_isAbove 1 = .ok (.aload_n 0, 1) := by decide +kernel
theorem d_H_isAbove_2 : decode b_H_isAbove 2 = .ok (.getfield 26, 3) := by decide +kernel
theorem d_H_isAbove_5 : decode b_H_isAbove 5 = .ok (.iload_n 1, 1) := by decide +kernel
theorem d_H_isAbove_6 : decode b_H_isAbove 6 = .ok (.invokevirtual 86, 3) := by decide +kernel
theorem d_H_isAbove_9 : decode b_H_isAbove 9 = .ok (.istore_n 3, 1) := by decide +kernel
theorem d_H_isAbove_10 : decode b_H_isAbove 10 = .ok (.aload_n 0, 1) := by decide +kernel
theorem d_H_isAbove_11 : decode b_H_isAbove 11 = .ok (.aload_n 0, 1) := by decide +kernel
theorem d_H_isAbove_12 : decode b_H_isAbove 12 = .ok (.getfield 26, 3) := by decide +kernel
theorem d_H_isAbove_15 : decode b_H_isAbove 15 = .ok (.iload_n 2, 1) := by decide +kernel
theorem d_H_isAbove_16 : decode b_H_isAbove 16 = .ok (.invokevirtual 86, 3) := by decide +kernel
theorem d_H_isAbove_19 : decode b_H_isAbove 19 = .ok (.istore 4, 2) := by decide +kernel
theorem d_H_isAbove_21 : decode b_H_isAbove 21 = .ok (.aload_n 0, 1) := by decide +kernel
theorem d_H_isAbove_22 : decode b_H_isAbove 22 = .ok (.getfield 26, 3) := by decide +kernel
theorem d_H_isAbove_25 : decode b_H_isAbove 25 = .ok (.iload_n 3, 1) := by decide +kernel
theorem d_H_isAbove_26 : decode b_H_isAbove 26 = .ok (.iload 4, 2) := by decide +kernel
theorem d_H_isAbove_28 : decode b_H_isAbove 28 = .ok (.invokevirtual 126, 3) := by decide +kernel
theorem d_H_isAbove_31 : decode b_H_isAbove 31 = .ok (.ireturn, 1) := by decide +kernel
theorem d_H_year_0 : decode b_H_year 0 = .ok (.aload_n 0, 1) := by decide +kernel
theorem d_H_year_1 : decode b_H_year 1 = .ok (.aload_n 0, 1) := by decide +kernel
theorem d_H_year_2 : decode b_H_year 2 = .ok (.getfield 26, 3) := by decide +kernel
theorem d_H_year_5 : decode b_H_year 5 = .ok (.iload_n 1, 1) := by decide +kernel
theorem d_H_year_6 : decode b_H_year 6 = .ok (.invokevirtual 86, 3) := by decide +kernel
theorem d_H_year_9 : decode b_H_year 9 = .ok (.istore_n 3, 1) := by decide +kernel
theorem d_H_year_10 : decode b_H_year 10 = .ok (.aload_n 0, 1) := by decide +kernel
theorem d_H_year_11 : decode b_H_year 11 = .ok (.iconst 4, 1) := by decide +kernel
theorem d_H_year_12 : decode b_H_year 12 = .ok (.iload_n 2, 1) := by decide +kernel
theorem d_H_year_13 : decode b_H_year 13 = .ok (.ifCond .eq 8, 3) := by decide +kernel
theorem d_H_year_16 : decode b_H_year 16 = .ok (.iload_n 2, 1) := by decide +kernel
theorem d_H_year_17 : decode b_H_year 17 = .ok (.iconst 1, 1) := by decide +kernel
theorem d_H_year_18 : decode b_H_year 18 = .ok (.if_icmp .ne 7, 3) := by decide +kernel
theorem d_H_year_21 : decode b_H_year 21 = .ok (.iconst 1, 1) := by decide +kernel
theorem d_H_year_22 : decode b_H_year 22 = .ok (.goto 4, 3) := by decide +kernel
theorem d_H_year_25 : decode b_H_year 25 = .ok (.iconst 0, 1) := by decide +kernel
theorem d_H_year_26 : decode b_H_year 26 = .ok (.invokevirtual 102, 3) := by decide +kernel
theorem d_H_year_29 : decode b_H_year 29 = .ok (.iload_n 2, 1) := by decide +kernel
theorem d_H_year_30 : decode b_H_year 30 = .ok (.ifCond .ne 14, 3) := by decide +kernel
theorem d_H_year_33 : decode b_H_year 33 = .ok (.aload_n 0, 1) := by decide +kernel
theorem d_H_year_34 : decode b_H_year 34 = .ok (.getfield 26, 3) := by decide +kernel
theorem d_H_year_37 : decode b_H_year 37 = .ok (.iload_n 3, 1) := by decide +kernel
theorem d_H_year_38 : decode b_H_year 38 = .ok (.invokevirtual 143, 3) := by decide +kernel
theorem d_H_year_41 : decode b_H_year 41 = .ok (.goto 11, 3) := by decide +kernel
theorem d_H_year_44 : decode b_H_year 44 = .ok (.aload_n 0, 1) := by decide +kernel
theorem d_H_year_45 : decode b_H_year 45 = .ok (.getfield 26, 3) := by decide +kernel
theorem d_H_year_48 : decode b_H_year 48 = .ok (.iload_n 3, 1) := by decide +kernel
theorem d_H_year_49 : decode b_H_year 49 = .ok (.invokevirtual 146, 3) := by decide +kernel
theorem d_H_year_52 : decode b_H_year 52 = .ok (.ireturn, 1) := by decide +kernel
theorem d_H_find_0 : decode b_H_find 0 = .ok (.aload_n 0, 1) := by decide +kernel
theorem d_H_find_1 : decode b_H_find 1 = .ok (.aload_n 0, 1) := by decide +kernel
theorem d_H_find_2 : decode b_H_find 2 = .ok (.getfield 10, 3) := by decide +kernel
theorem d_H_find_5 : decode b_H_find 5 = .ok (.iload_n 1, 1) := by decide +kernel
theorem d_H_find_6 : decode b_H_find 6 = .ok (.invokevirtual 86, 3) := by decide +kernel
theorem d_H_find_9 : decode b_H_find 9 = .ok (.istore 4, 2) := by decide +kernel
theorem d_H_find_11 : decode b_H_find 11 = .ok (.aload_n 0, 1) := by decide +kernel
theorem d_H_find_12 : decode b_H_find 12 = .ok (.aload_n 0, 1) := by decide +kernel
theorem d_H_find_13 : decode b_H_find 13 = .ok (.getfield 26, 3) := by decide +kernel
theorem d_H_find_16 : decode b_H_find 16 = .ok (.iload_n 2, 1) := by decide +kernel
theorem d_H_find_17 : decode b_H_find 17 = .ok (.invokevirtual 86, 3) := by decide +kernel
theorem d_H_find_20 : decode b_H_find 20 = .ok (.istore 5, 2) := by decide +kernel
theorem d_H_find_22 : decode b_H_find 22 = .ok (.aload_n 0, 1) := by decide +kernel
theorem d_H_find_23 : decode b_H_find 23 = .ok (.iload 4, 2) := by decide +kernel
theorem d_H_find_25 : decode b_H_find 25 = .ok (.iconst 2, 1) := by decide +kernel
theorem d_H_find_26 : decode b_H_find 26 = .ok (.invokevirtual 90, 3) := by decide +kernel
theorem d_H_find_29 : decode b_H_find 29 = .ok (.aload_n 0, 1) := by decide +kernel
theorem d_H_find_30 : decode b_H_find 30 = .ok (.aload_n 0, 1) := by decide +kernel
theorem d_H_find_31 : decode b_H_find 31 = .ok (.getfield 33, 3) := by decide +kernel
theorem d_H_find_34 : decode b_H_find 34 = .ok (.invokevirtual 149, 3) := by decide +kernel
theorem d_H_find_37 : decode b_H_find 37 = .ok (.ifCond .ne 7, 3) := by decide +kernel
theorem d_H_find_40 : decode b_H_find 40 = .ok (.iconst 1, 1) := by decide +kernel
theorem d_H_find_41 : decode b_H_find 41 = .ok (.goto 4, 3) := by decide +kernel
theorem d_H_find_44 : decode b_H_find 44 = .ok (.iconst 0, 1) := by decide +kernel
theorem d_H_find_45 : decode b_H_find 45 = .ok (.invokevirtual 98, 3) := by decide +kernel
theorem d_H_find_48 : decode b_H_find 48 = .ok (.aload_n 0, 1) := by decide +kernel
theorem d_H_find_49 : decode b_H_find 49 = .ok (.iconst 4, 1) := by decide +kernel
theorem d_H_find_50 : decode b_H_find 50 = .ok (.iload_n 3, 1) := by decide +kernel
theorem d_H_find_51 : decode b_H_find 51 = .ok (.invokestatic 150, 3) := by decide +kernel
theorem d_H_find_54 : decode b_H_find 54 = .ok (.ifCond .eq 15, 3) := by decide +kernel
theorem d_H_find_57 : decode b_H_find 57 = .ok (.iload_n 3, 1) := by decide +kernel
theorem d_H_find_58 : decode b_H_find 58 = .ok (.aload_n 0, 1) := by decide +kernel
theorem d_H_find_59 : decode b_H_find 59 = .ok (.getfield 79, 3) := by decide +kernel
theorem d_H_find_62 : decode b_H_find 62 = .ok (.if_icmp .gt 7, 3) := by decide +kernel
theorem d_H_find_65 : decode b_H_find 65 = .ok (.iconst 1, 1) := by decide +kernel
theorem d_H_find_66 : decode b_H_find 66 = .ok (.goto 4, 3) := by decide +kernel
theorem d_H_find_69 : decode b_H_find 69 = .ok (.iconst 0, 1) := by decide +kernel
theorem d_H_find_70 : decode b_H_find 70 = .ok (.invokevirtual 102, 3) := by decide +kernel
theorem d_H_find_73 : decode b_H_find 73 = .ok (.aload_n 0, 1) := by decide +kernel
theorem d_H_find_74 : decode b_H_find 74 = .ok (.getfield 33, 3) := by decide +kernel
theorem d_H_find_77 : decode b_H_find 77 = .ok (.iload 5, 2) := by decide +kernel
theorem d_H_find_79 : decode b_H_find 79 = .ok (.iload_n 3, 1) := by decide +kernel
theorem d_H_find_80 : decode b_H_find 80 = .ok (.invokevirtual 154, 3) := by decide +kernel
theorem d_H_find_83 : decode b_H_find 83 = .ok (.ireturn, 1) := by decide +kernel
theorem d_H_object_0 : decode b_H_object 0 = .ok (.aload_n 0, 1) := by decide +kernel
theorem d_H_object_1 : decode b_H_object 1 = .ok (.aload_n 0, 1) := by decide +kernel
theorem d_H_object_2 : decode b_H_object 2 = .ok (.getfield 10, 3) := by decide +kernel
theorem d_H_object_5 : decode b_H_object 5 = .ok (.iload_n 1, 1) := by decide +kernel
theorem d_H_object_6 : decode b_H_object 6 = .ok (.invokevirtual 86, 3) := by decide +kernel
theorem d_H_object_9 : decode b_H_object 9 = .ok (.istore_n 3, 1) := by decide +kernel
theorem d_H_object_10 : decode b_H_object 10 = .ok (.aload_n 0, 1) := by decide +kernel
theorem d_H_object_11 : decode b_H_object 11 = .ok (.aload_n 0, 1) := by decide +kernel
theorem d_H_object_12 : decode b_H_object 12 = .ok (.getfield 33, 3) := by decide +kernel
theorem d_H_object_15 : decode b_H_object 15 = .ok (.iload_n 2, 1) := by decide +kernel
theorem d_H_object_16 : decode b_H_object 16 = .ok (.invokevirtual 86, 3) := by decide +kernel
theorem d_H_object_19 : decode b_H_object 19 = .ok (.istore 4, 2) := by decide +kernel
theorem d_H_object_21 : decode b_H_object 21 = .ok (.aload_n 0, 1) := by decide +kernel
theorem d_H_object_22 : decode b_H_object 22 = .ok (.iload_n 3, 1) := by decide +kernel
theorem d_H_object_23 : decode b_H_object 23 = .ok (.iconst 4, 1) := by decide +kernel
theorem d_H_object_24 : decode b_H_object 24 = .ok (.invokevirtual 90, 3) := by decide +kernel
theorem d_H_object_27 : decode b_H_object 27 = .ok (.aload_n 0, 1) := by decide +kernel
theorem d_H_object_28 : decode b_H_object 28 = .ok (.aload_n 0, 1) := by decide +kernel
theorem d_H_object_29 : decode b_H_object 29 = .ok (.getfield 40, 3) := by decide +kernel
theorem d_H_object_32 : decode b_H_object 32 = .ok (.invokevirtual 158, 3) := by decide +kernel
theorem d_H_object_35 : decode b_H_object 35 = .ok (.ifCond .ne 7, 3) := by decide +kernel
theorem d_H_object_38 : decode b_H_object 38 = .ok (.iconst 1, 1) := by decide +kernel
theorem d_H_object_39 : decode b_H_object 39 = .ok (.goto 4, 3) := by decide +kernel
theorem d_H_object_42 : decode b_H_object 42 = .ok (.iconst 0, 1) := by decide +kernel
theorem d_H_object_43 : decode b_H_object 43 = .ok (.invokevirtual 98, 3) := by decide +kernel
theorem d_H_object_46 : decode b_H_object 46 = .ok (.aload_n 0, 1) := by decide +kernel
theorem d_H_object_47 : decode b_H_object 47 = .ok (.bipush 9, 2) := by decide +kernel
theorem d_H_object_49 : decode b_H_object 49 = .ok (.aload_n 0, 1) := by decide +kernel
theorem d_H_object_50 : decode b_H_object 50 = .ok (.getfield 40, 3) := by decide +kernel
theorem d_H_object_53 : decode b_H_object 53 = .ok (.iload 4, 2) := by decide +kernel
theorem d_H_object_55 : decode b_H_object 55 = .ok (.invokevirtual 159, 3) := by decide +kernel
theorem d_H_object_58 : decode b_H_object 58 = .ok (.ifCond .ne 7, 3) := by decide +kernel
theorem d_H_object_61 : decode b_H_object 61 = .ok (.iconst 1, 1) := by decide +kernel
theorem d_H_object_62 : decode b_H_object 62 = .ok (.goto 4, 3) := by decide +kernel
theorem d_H_object_65 : decode b_H_object 65 = .ok (.iconst 0, 1) := by decide +kernel
theorem d_H_object_66 : decode b_H_object 66 = .ok (.invokevirtual 102, 3) := by decide +kernel
theorem d_H_object_69 : decode b_H_object 69 = .ok (.aload_n 0, 1) := by decide +kernel
theorem d_H_object_70 : decode b_H_object 70 = .ok (.getfield 40, 3) := by decide +kernel
theorem d_H_object_73 : decode b_H_object 73 = .ok (.iload 4, 2) := by decide +kernel
theorem d_H_object_75 : decode b_H_object 75 = .ok (.aload_n 0, 1) := by decide +kernel
theorem d_H_object_76 : decode b_H_object 76 = .ok (.getfield 33, 3) := by decide +kernel
theorem d_H_object_79 : decode b_H_object 79 = .ok (.iload 4, 2) := by decide +kernel
theorem d_H_object_81 : decode b_H_object 81 = .ok (.invokevirtual 162, 3) := by decide +kernel
theorem d_H_object_84 : decode b_H_object 84 = .ok (.invokevirtual 165, 3) := by decide +kernel
theorem d_H_object_87 : decode b_H_object 87 = .ok (.ireturn, 1) := by decide +kernel
theorem d_H_store_0 : decode b_H_store 0 = .ok (.aload_n 0, 1) := by decide +kernel
theorem d_H_store_1 : decode b_H_store 1 = .ok (.aload_n 0, 1) := by decide +kernel
theorem d_H_store_2 : decode b_H_store 2 = .ok (.getfield 10, 3) := by decide +kernel
theorem d_H_store_5 : decode b_H_store 5 = .ok (.iload_n 1, 1) := by decide +kernel
theorem d_H_store_6 : decode b_H_store 6 = .ok (.invokevirtual 86, 3) := by decide +kernel
theorem d_H_store_9 : decode b_H_store 9 = .ok (.istore_n 3, 1) := by decide +kernel
theorem d_H_store_10 : decode b_H_store 10 = .ok (.aload_n 0, 1) := by decide +kernel
theorem d_H_store_11 : decode b_H_store 11 = .ok (.iload_n 2, 1) := by decide +kernel
theorem d_H_store_12 : decode b_H_store 12 = .ok (.invokevirtual 168, 3) := by decide +kernel
theorem d_H_store_15 : decode b_H_store 15 = .ok (.istore 4, 2) := by decide +kernel
theorem d_H_store_17 : decode b_H_store 17 = .ok (.aload_n 0, 1) := by decide +kernel
theorem d_H_store_18 : decode b_H_store 18 = .ok (.iload_n 3, 1) := by decide +kernel
theorem d_H_store_19 : decode b_H_store 19 = .ok (.iconst 4, 1) := by decide +kernel
theorem d_H_store_20 : decode b_H_store 20 = .ok (.invokevirtual 90, 3) := by decide +kernel
theorem d_H_store_23 : decode b_H_store 23 = .ok (.aload_n 0, 1) := by decide +kernel
theorem d_H_store_24 : decode b_H_store 24 = .ok (.aload_n 0, 1) := by decide +kernel
theorem d_H_store_25 : decode b_H_store 25 = .ok (.getfield 54, 3) := by decide +kernel
theorem d_H_store_28 : decode b_H_store 28 = .ok (.invokevirtual 171, 3) := by decide +kernel
theorem d_H_store_31 : decode b_H_store 31 = .ok (.ifCond .ne 7, 3) := by decide +kernel
theorem d_H_store_34 : decode b_H_store 34 = .ok (.iconst 1, 1) := by decide +kernel
theorem d_H_store_35 : decode b_H_store 35 = .ok (.goto 4, 3) := by decide +kernel
theorem d_H_store_38 : decode b_H_store 38 = .ok (.iconst 0, 1) := by decide +kernel
theorem d_H_store_39 : decode b_H_store 39 = .ok (.invokevirtual 98, 3) := by decide +kernel
theorem d_H_store_42 : decode b_H_store 42 = .ok (.aload_n 0, 1) := by decide +kernel
theorem d_H_store_43 : decode b_H_store 43 = .ok (.getfield 54, 3) := by decide +kernel
theorem d_H_store_46 : decode b_H_store 46 = .ok (.iload 4, 2) := by decide +kernel
theorem d_H_store_48 : decode b_H_store 48 = .ok (.invokevirtual 172, 3) := by decide +kernel
theorem d_H_store_51 : decode b_H_store 51 = .ok (.ireturn, 1) := by decide +kernel
theorem d_H_carry_0 : decode b_H_carry 0 = .ok (.aload_n 0, 1) := by decide +kernel
theorem d_H_carry_1 : decode b_H_carry 1 = .ok (.aload_n 0, 1) := by decide +kernel
theorem d_H_carry_2 : decode b_H_carry 2 = .ok (.getfield 10, 3) := by decide +kernel
theorem d_H_carry_5 : decode b_H_carry 5 = .ok (.iload_n 1, 1) := by decide +kernel
theorem d_H_carry_6 : decode b_H_carry 6 = .ok (.invokevirtual 86, 3) := by decide +kernel
theorem d_H_carry_9 : decode b_H_carry 9 = .ok (.istore 4, 2) := by decide +kernel
theorem d_H_carry_11 : decode b_H_carry 11 = .ok (.aload_n 0, 1) := by decide +kernel
theorem d_H_carry_12 : decode b_H_carry 12 = .ok (.aload_n 0, 1) := by decide +kernel
theorem d_H_carry_13 : decode b_H_carry 13 = .ok (.getfield 54, 3) := by decide +kernel
theorem d_H_carry_16 : decode b_H_carry 16 = .ok (.iload_n 2, 1) := by decide +kernel
theorem d_H_carry_17 : decode b_H_carry 17 = .ok (.invokevirtual 86, 3) := by decide +kernel
theorem d_H_carry_20 : decode b_H_carry 20 = .ok (.istore 5, 2) := by decide +kernel
theorem d_H_carry_22 : decode b_H_carry 22 = .ok (.aload_n 0, 1) := by decide +kernel
theorem d_H_carry_23 : decode b_H_carry 23 = .ok (.iload_n 3, 1) := by decide +kernel
theorem d_H_carry_24 : decode b_H_carry 24 = .ok (.invokevirtual 168, 3) := by decide +kernel
theorem d_H_carry_27 : decode b_H_carry 27 = .ok (.istore 6, 2) := by decide +kernel
theorem d_H_carry_29 : decode b_H_carry 29 = .ok (.aload_n 0, 1) := by decide +kernel
theorem d_H_carry_30 : decode b_H_carry 30 = .ok (.iload 4, 2) := by decide +kernel
theorem d_H_carry_32 : decode b_H_carry 32 = .ok (.iconst 4, 1) := by decide +kernel
theorem d_H_carry_33 : decode b_H_carry 33 = .ok (.invokevirtual 90, 3) := by decide +kernel
theorem d_H_carry_36 : decode b_H_carry 36 = .ok (.aload_n 0, 1) := by decide +kernel
theorem d_H_carry_37 : decode b_H_carry 37 = .ok (.bipush 10, 2) := by decide +kernel
theorem d_H_carry_39 : decode b_H_carry 39 = .ok (.iload 6, 2) := by decide +kernel
theorem d_H_carry_41 : decode b_H_carry 41 = .ok (.iconst (-1), 1) := by decide +kernel
theorem d_H_carry_42 : decode b_H_carry 42 = .ok (.if_icmp .eq 17, 3) := by decide +kernel
theorem d_H_carry_45 : decode b_H_carry 45 = .ok (.aload_n 0, 1) := by decide +kernel
theorem d_H_carry_46 : decode b_H_carry 46 = .ok (.getfield 54, 3) := by decide +kernel
theorem d_H_carry_49 : decode b_H_carry 49 = .ok (.iload 6, 2) := by decide +kernel
theorem d_H_carry_51 : decode b_H_carry 51 = .ok (.iload 5, 2) := by decide +kernel
theorem d_H_carry_53 : decode b_H_carry 53 = .ok (.invokevirtual 175, 3) := by decide +kernel
theorem d_H_carry_56 : decode b_H_carry 56 = .ok (.ifCond .ne 7, 3) := by decide +kernel
theorem d_H_carry_59 : decode b_H_carry 59 = .ok (.iconst 1, 1) := by decide +kernel
theorem d_H_carry_60 : decode b_H_carry 60 = .ok (.goto 4, 3) := by decide +kernel
theorem d_H_carry_63 : decode b_H_carry 63 = .ok (.iconst 0, 1) := by decide +kernel
theorem d_H_carry_64 : decode b_H_carry 64 = .ok (.invokevirtual 102, 3) := by decide +kernel
theorem d_H_carry_67 : decode b_H_carry 67 = .ok (.aload_n 0, 1) := by decide +kernel
theorem d_H_carry_68 : decode b_H_carry 68 = .ok (.getfield 54, 3) := by decide +kernel
theorem d_H_carry_71 : decode b_H_carry 71 = .ok (.iload 5, 2) := by decide +kernel
theorem d_H_carry_73 : decode b_H_carry 73 = .ok (.invokevirtual 178, 3) := by decide +kernel
theorem d_H_carry_76 : decode b_H_carry 76 = .ok (.iload 6, 2) := by decide +kernel
theorem d_H_carry_78 : decode b_H_carry 78 = .ok (.if_icmp .eq 7, 3) := by decide +kernel
theorem d_H_carry_81 : decode b_H_carry 81 = .ok (.iconst 1, 1) := by decide +kernel
theorem d_H_carry_82 : decode b_H_carry 82 = .ok (.goto 4, 3) := by decide +kernel
theorem d_H_carry_85 : decode b_H_carry 85 = .ok (.iconst 0, 1) := by decide +kernel
theorem d_H_carry_86 : decode b_H_carry 86 = .ok (.istore 7, 2) := by decide +kernel
theorem d_H_carry_88 : decode b_H_carry 88 = .ok (.aload_n 0, 1) := by decide +kernel
theorem d_H_carry_89 : decode b_H_carry 89 = .ok (.getfield 54, 3) := by decide +kernel
theorem d_H_carry_92 : decode b_H_carry 92 = .ok (.iload 5, 2) := by decide +kernel
theorem d_H_carry_94 : decode b_H_carry 94 = .ok (.iload 6, 2) := by decide +kernel
theorem d_H_carry_96 : decode b_H_carry 96 = .ok (.invokevirtual 181, 3) := by decide +kernel
theorem d_H_carry_99 : decode b_H_carry 99 = .ok (.iload 7, 2) := by decide +kernel
theorem d_H_carry_101 : decode b_H_carry 101 = .ok (.ireturn, 1) := by decide +kernel
theorem d_H_within_0 : decode b_H_within 0 = .ok (.aload_n 0, 1) := by decide +kernel
theorem d_H_within_1 : decode b_H_within 1 = .ok (.aload_n 0, 1) := by decide +kernel
theorem d_H_within_2 : decode b_H_within 2 = .ok (.getfield 54, 3) := by decide +kernel
theorem d_H_within_5 : decode b_H_within 5 = .ok (.iload_n 1, 1) := by decide +kernel
theorem d_H_within_6 : decode b_H_within 6 = .ok (.invokevirtual 86, 3) := by decide +kernel
theorem d_H_within_9 : decode b_H_within 9 = .ok (.istore_n 3, 1) := by decide +kernel
theorem d_H_within_10 : decode b_H_within 10 = .ok (.aload_n 0, 1) := by decide +kernel
theorem d_H_within_11 : decode b_H_within 11 = .ok (.aload_n 0, 1) := by decide +kernel
theorem d_H_within_12 : decode b_H_within 12 = .ok (.getfield 54, 3) := by decide +kernel
theorem d_H_within_15 : decode b_H_within 15 = .ok (.iload_n 2, 1) := by decide +kernel
theorem d_H_within_16 : decode b_H_within 16 = .ok (.invokevirtual 86, 3) := by decide +kernel
theorem d_H_within_19 : decode b_H_within 19 = .ok (.istore 4, 2) := by decide +kernel
theorem d_H_within_21 : decode b_H_within 21 = .ok (.aload_n 0, 1) := by decide +kernel
theorem d_H_within_22 : decode b_H_within 22 = .ok (.getfield 54, 3) := by decide +kernel
theorem d_H_within_25 : decode b_H_within 25 = .ok (.iload_n 3, 1) := by decide +kernel
theorem d_H_within_26 : decode b_H_within 26 = .ok (.iload 4, 2) := by decide +kernel
theorem d_H_within_28 : decode b_H_within 28 = .ok (.invokevirtual 184, 3) := by decide +kernel
theorem d_H_within_31 : decode b_H_within 31 = .ok (.ireturn, 1) := by decide +kernel
theorem d_H_move_0 : decode b_H_move 0 = .ok (.aload_n 0, 1) := by decide +kernel
theorem d_H_move_1 : decode b_H_move 1 = .ok (.aload_n 0, 1) := by decide +kernel
theorem d_H_move_2 : decode b_H_move 2 = .ok (.getfield 10, 3) := by decide +kernel
theorem d_H_move_5 : decode b_H_move 5 = .ok (.iload_n 1, 1) := by decide +kernel
theorem d_H_move_6 : decode b_H_move 6 = .ok (.invokevirtual 86, 3) := by decide +kernel
theorem d_H_move_9 : decode b_H_move 9 = .ok (.istore 5, 2) := by decide +kernel
theorem d_H_move_11 : decode b_H_move 11 = .ok (.aload_n 0, 1) := by decide +kernel
theorem d_H_move_12 : decode b_H_move 12 = .ok (.aload_n 0, 1) := by decide +kernel
theorem d_H_move_13 : decode b_H_move 13 = .ok (.getfield 40, 3) := by decide +kernel
theorem d_H_move_16 : decode b_H_move 16 = .ok (.iload_n 2, 1) := by decide +kernel
theorem d_H_move_17 : decode b_H_move 17 = .ok (.invokevirtual 86, 3) := by decide +kernel
theorem d_H_move_20 : decode b_H_move 20 = .ok (.istore 6, 2) := by decide +kernel
theorem d_H_move_22 : decode b_H_move 22 = .ok (.aload_n 0, 1) := by decide +kernel
theorem d_H_move_23 : decode b_H_move 23 = .ok (.aload_n 0, 1) := by decide +kernel
theorem d_H_move_24 : decode b_H_move 24 = .ok (.getfield 54, 3) := by decide +kernel
theorem d_H_move_27 : decode b_H_move 27 = .ok (.iload_n 3, 1) := by decide +kernel
theorem d_H_move_28 : decode b_H_move 28 = .ok (.invokevirtual 86, 3) := by decide +kernel
theorem d_H_move_31 : decode b_H_move 31 = .ok (.istore 7, 2) := by decide +kernel
theorem d_H_move_33 : decode b_H_move 33 = .ok (.aload_n 0, 1) := by decide +kernel
theorem d_H_move_34 : decode b_H_move 34 = .ok (.iload 5, 2) := by decide +kernel
theorem d_H_move_36 : decode b_H_move 36 = .ok (.iconst 4, 1) := by decide +kernel
theorem d_H_move_37 : decode b_H_move 37 = .ok (.invokevirtual 90, 3) := by decide +kernel
theorem d_H_move_40 : decode b_H_move 40 = .ok (.aload_n 0, 1) := by decide +kernel
theorem d_H_move_41 : decode b_H_move 41 = .ok (.getfield 47, 3) := by decide +kernel
theorem d_H_move_44 : decode b_H_move 44 = .ok (.iload 6, 2) := by decide +kernel
theorem d_H_move_46 : decode b_H_move 46 = .ok (.iload 4, 2) := by decide +kernel
theorem d_H_move_48 : decode b_H_move 48 = .ok (.invokevirtual 187, 3) := by decide +kernel
theorem d_H_move_51 : decode b_H_move 51 = .ok (.ifCond .ne 7, 3) := by decide +kernel
theorem d_H_move_54 : decode b_H_move 54 = .ok (.iconst 1, 1) := by decide +kernel
theorem d_H_move_55 : decode b_H_move 55 = .ok (.goto 4, 3) := by decide +kernel
theorem d_H_move_58 : decode b_H_move 58 = .ok (.iconst 0, 1) := by decide +kernel
theorem d_H_move_59 : decode b_H_move 59 = .ok (.istore 8, 2) := by decide +kernel
theorem d_H_move_61 : decode b_H_move 61 = .ok (.aload_n 0, 1) := by decide +kernel
theorem d_H_move_62 : decode b_H_move 62 = .ok (.iload 8, 2) := by decide +kernel
theorem d_H_move_64 : decode b_H_move 64 = .ok (.ifCond .eq 15, 3) := by decide +kernel
theorem d_H_move_67 : decode b_H_move 67 = .ok (.aload_n 0, 1) := by decide +kernel
theorem d_H_move_68 : decode b_H_move 68 = .ok (.getfield 47, 3) := by decide +kernel
theorem d_H_move_71 : decode b_H_move 71 = .ok (.iload 6, 2) := by decide +kernel
theorem d_H_move_73 : decode b_H_move 73 = .ok (.invokevirtual 190, 3) := by decide +kernel
theorem d_H_move_76 : decode b_H_move 76 = .ok (.ifCond .ne 7, 3) := by decide +kernel
theorem d_H_move_79 : decode b_H_move 79 = .ok (.iconst 1, 1) := by decide +kernel
theorem d_H_move_80 : decode b_H_move 80 = .ok (.goto 4, 3) := by decide +kernel
theorem d_H_move_83 : decode b_H_move 83 = .ok (.iconst 0, 1) := by decide +kernel
theorem d_H_move_84 : decode b_H_move 84 = .ok (.invokevirtual 98, 3) := by decide +kernel
theorem d_H_move_87 : decode b_H_move 87 = .ok (.aload_n 0, 1) := by decide +kernel
theorem d_H_move_88 : decode b_H_move 88 = .ok (.iconst 4, 1) := by decide +kernel
theorem d_H_move_89 : decode b_H_move 89 = .ok (.iload 4, 2) := by decide +kernel
theorem d_H_move_91 : decode b_H_move 91 = .ok (.invokestatic 150, 3) := by decide +kernel
theorem d_H_move_94 : decode b_H_move 94 = .ok (.ifCond .eq 16, 3) := by decide +kernel
theorem d_H_move_97 : decode b_H_move 97 = .ok (.iload 4, 2) := by decide +kernel
theorem d_H_move_99 : decode b_H_move 99 = .ok (.aload_n 0, 1) := by decide +kernel
theorem d_H_move_100 : decode b_H_move 100 = .ok (.getfield 79, 3) := by decide +kernel
theorem d_H_move_103 : decode b_H_move 103 = .ok (.if_icmp .gt 7, 3) := by decide +kernel
theorem d_H_move_106 : decode b_H_move 106 = .ok (.iconst 1, 1) := by decide +kernel
theorem d_H_move_107 : decode b_H_move 107 = .ok (.goto 4, 3) := by decide +kernel
theorem d_H_move_110 : decode b_H_move 110 = .ok (.iconst 0, 1) := by decide +kernel
theorem d_H_move_111 : decode b_H_move 111 = .ok (.invokevirtual 102, 3) := by decide +kernel
theorem d_H_move_114 : decode b_H_move 114 = .ok (.aload_n 0, 1) := by decide +kernel
theorem d_H_move_115 : decode b_H_move 115 = .ok (.bipush 11, 2) := by decide +kernel
theorem d_H_move_117 : decode b_H_move 117 = .ok (.iload 4, 2) := by decide +kernel
theorem d_H_move_119 : decode b_H_move 119 = .ok (.aload_n 0, 1) := by decide +kernel
theorem d_H_move_120 : decode b_H_move 120 = .ok (.getfield 40, 3) := by decide +kernel
theorem d_H_move_123 : decode b_H_move 123 = .ok (.iload 6, 2) := by decide +kernel
theorem d_H_move_125 : decode b_H_move 125 = .ok (.invokevirtual 193, 3) := by decide +kernel
theorem d_H_move_128 : decode b_H_move 128 = .ok (.if_icmp .lt 7, 3) := by decide +kernel
theorem d_H_move_131 : decode b_H_move 131 = .ok (.iconst 1, 1) := by decide +kernel
theorem d_H_move_132 : decode b_H_move 132 = .ok (.goto 4, 3) := by decide +kernel
theorem d_H_move_135 : decode b_H_move 135 = .ok (.iconst 0, 1) := by decide +kernel
theorem d_H_move_136 : decode b_H_move 136 = .ok (.invokevirtual 102, 3) := by decide +kernel
theorem d_H_move_139 : decode b_H_move 139 = .ok (.aload_n 0, 1) := by decide +kernel
theorem d_H_move_140 : decode b_H_move 140 = .ok (.bipush 12, 2) := by decide +kernel
theorem d_H_move_142 : decode b_H_move 142 = .ok (.aload_n 0, 1) := by decide +kernel
theorem d_H_move_143 : decode b_H_move 143 = .ok (.getfield 61, 3) := by decide +kernel
theorem d_H_move_146 : decode b_H_move 146 = .ok (.iload 6, 2) := by decide +kernel
theorem d_H_move_148 : decode b_H_move 148 = .ok (.iload 4, 2) := by decide +kernel
theorem d_H_move_150 : decode b_H_move 150 = .ok (.iload 4, 2) := by decide +kernel
theorem d_H_move_152 : decode b_H_move 152 = .ok (.invokevirtual 194, 3) := by decide +kernel
theorem d_H_move_155 : decode b_H_move 155 = .ok (.iconst (-1), 1) := by decide +kernel
theorem d_H_move_156 : decode b_H_move 156 = .ok (.if_icmp .ne 7, 3) := by decide +kernel
theorem d_H_move_159 : decode b_H_move 159 = .ok (.iconst 1, 1) := by decide +kernel
theorem d_H_move_160 : decode b_H_move 160 = .ok (.goto 4, 3) := by decide +kernel
theorem d_H_move_163 : decode b_H_move 163 = .ok (.iconst 0, 1) := by decide +kernel
theorem d_H_move_164 : decode b_H_move 164 = .ok (.invokevirtual 102, 3) := by decide +kernel
theorem d_H_move_167 : decode b_H_move 167 = .ok (.aload_n 0, 1) := by decide +kernel
theorem d_H_move_168 : decode b_H_move 168 = .ok (.getfield 47, 3) := by decide +kernel
theorem d_H_move_171 : decode b_H_move 171 = .ok (.iload 6, 2) := by decide +kernel
theorem d_H_move_173 : decode b_H_move 173 = .ok (.iload 7, 2) := by decide +kernel
theorem d_H_move_175 : decode b_H_move 175 = .ok (.iload 4, 2) := by decide +kernel
theorem d_H_move_177 : decode b_H_move 177 = .ok (.invokevirtual 198, 3) := by decide +kernel
theorem d_H_move_180 : decode b_H_move 180 = .ok (.iload 8, 2) := by decide +kernel
theorem d_H_move_182 : decode b_H_move 182 = .ok (.ireturn, 1) := by decide +kernel
theorem d_H_place_0 : decode b_H_place 0 = .ok (.aload_n 0, 1) := by decide +kernel
theorem d_H_place_1 : decode b_H_place 1 = .ok (.aload_n 0, 1) := by decide +kernel
theorem d_H_place_2 : decode b_H_place 2 = .ok (.getfield 40, 3) := by decide +kernel
theorem d_H_place_5 : decode b_H_place 5 = .ok (.iload_n 1, 1) := by decide +kernel
theorem d_H_place_6 : decode b_H_place 6 = .ok (.invokevirtual 86, 3) := by decide +kernel
theorem d_H_place_9 : decode b_H_place 9 = .ok (.istore_n 3, 1) := by decide +kernel
theorem d_H_place_10 : decode b_H_place 10 = .ok (.aload_n 0, 1) := by decide +kernel
theorem d_H_place_11 : decode b_H_place 11 = .ok (.iconst 4, 1) := by decide +kernel
theorem d_H_place_12 : decode b_H_place 12 = .ok (.iload_n 2, 1) := by decide +kernel
theorem d_H_place_13 : decode b_H_place 13 = .ok (.invokestatic 150, 3) := by decide +kernel
theorem d_H_place_16 : decode b_H_place 16 = .ok (.invokevirtual 102, 3) := by decide +kernel
theorem d_H_place_19 : decode b_H_place 19 = .ok (.aload_n 0, 1) := by decide +kernel
theorem d_H_place_20 : decode b_H_place 20 = .ok (.iload_n 3, 1) := by decide +kernel
theorem d_H_place_21 : decode b_H_place 21 = .ok (.iload_n 2, 1) := by decide +kernel
theorem d_H_place_22 : decode b_H_place 22 = .ok (.invokevirtual 201, 3) := by decide +kernel
theorem d_H_place_25 : decode b_H_place 25 = .ok (.ireturn, 1) := by decide +kernel
theorem d_H_stored_0 : decode b_H_stored 0 = .ok (.aload_n 0, 1) := by decide +kernel
theorem d_H_stored_1 : decode b_H_stored 1 = .ok (.aload_n 0, 1) := by decide +kernel
theorem d_H_stored_2 : decode b_H_stored 2 = .ok (.getfield 54, 3) := by decide +kernel
theorem d_H_stored_5 : decode b_H_stored 5 = .ok (.iload_n 1, 1) := by decide +kernel
theorem d_H_stored_6 : decode b_H_stored 6 = .ok (.invokevirtual 86, 3) := by decide +kernel
theorem d_H_stored_9 : decode b_H_stored 9 = .ok (.istore_n 3, 1) := by decide +kernel
theorem d_H_stored_10 : decode b_H_stored 10 = .ok (.aload_n 0, 1) := by decide +kernel
theorem d_H_stored_11 : decode b_H_stored 11 = .ok (.iconst 4, 1) := by decide +kernel
theorem d_H_stored_12 : decode b_H_stored 12 = .ok (.iload_n 2, 1) := by decide +kernel
theorem d_H_stored_13 : decode b_H_stored 13 = .ok (.invokestatic 150, 3) := by decide +kernel
theorem d_H_stored_16 : decode b_H_stored 16 = .ok (.invokevirtual 102, 3) := by decide +kernel
theorem d_H_stored_19 : decode b_H_stored 19 = .ok (.iconst 0, 1) := by decide +kernel
theorem d_H_stored_20 : decode b_H_stored 20 = .ok (.istore 4, 2) := by decide +kernel
theorem d_H_stored_22 : decode b_H_stored 22 = .ok (.iconst 0, 1) := by decide +kernel
theorem d_H_stored_23 : decode b_H_stored 23 = .ok (.istore 5, 2) := by decide +kernel
theorem d_H_stored_25 : decode b_H_stored 25 = .ok (.iload 5, 2) := by decide +kernel
theorem d_H_stored_27 : decode b_H_stored 27 = .ok (.aload_n 0, 1) := by decide +kernel
theorem d_H_stored_28 : decode b_H_stored 28 = .ok (.getfield 40, 3) := by decide +kernel
theorem d_H_stored_31 : decode b_H_stored 31 = .ok (.invokevirtual 204, 3) := by decide +kernel
theorem d_H_stored_34 : decode b_H_stored 34 = .ok (.if_icmp .ge 43, 3) := by decide +kernel
theorem d_H_stored_37 : decode b_H_stored 37 = .ok (.aload_n 0, 1) := by decide +kernel
theorem d_H_stored_38 : decode b_H_stored 38 = .ok (.getfield 47, 3) := by decide +kernel
theorem d_H_stored_41 : decode b_H_stored 41 = .ok (.iload 5, 2) := by decide +kernel
theorem d_H_stored_43 : decode b_H_stored 43 = .ok (.iload_n 2, 1) := by decide +kernel
theorem d_H_stored_44 : decode b_H_stored 44 = .ok (.invokevirtual 207, 3) := by decide +kernel
theorem d_H_stored_47 : decode b_H_stored 47 = .ok (.istore 6, 2) := by decide +kernel
theorem d_H_stored_49 : decode b_H_stored 49 = .ok (.iload 6, 2) := by decide +kernel
theorem d_H_stored_51 : decode b_H_stored 51 = .ok (.iconst (-1), 1) := by decide +kernel
theorem d_H_stored_52 : decode b_H_stored 52 = .ok (.if_icmp .eq 19, 3) := by decide +kernel
theorem d_H_stored_55 : decode b_H_stored 55 = .ok (.aload_n 0, 1) := by decide +kernel
theorem d_H_stored_56 : decode b_H_stored 56 = .ok (.getfield 54, 3) := by decide +kernel
theorem d_H_stored_59 : decode b_H_stored 59 = .ok (.iload 6, 2) := by decide +kernel
theorem d_H_stored_61 : decode b_H_stored 61 = .ok (.iload_n 3, 1) := by decide +kernel
theorem d_H_stored_62 : decode b_H_stored 62 = .ok (.invokevirtual 175, 3) := by decide +kernel
theorem d_H_stored_65 : decode b_H_stored 65 = .ok (.ifCond .eq 6, 3) := by decide +kernel
theorem d_H_stored_68 : decode b_H_stored 68 = .ok (.iinc 4 1, 3) := by decide +kernel
theorem d_H_stored_71 : decode b_H_stored 71 = .ok (.iinc 5 1, 3) := by decide +kernel
theorem d_H_stored_74 : decode b_H_stored 74 = .ok (.goto (-49), 3) := by decide +kernel
theorem d_H_stored_77 : decode b_H_stored 77 = .ok (.iload 4, 2) := by decide +kernel
theorem d_H_stored_79 : decode b_H_stored 79 = .ok (.ireturn, 1) := by decide +kernel
theorem d_H_loan_0 : decode b_H_loan 0 = .ok (.aload_n 0, 1) := by decide +kernel
theorem d_H_loan_1 : decode b_H_loan 1 = .ok (.aload_n 0, 1) := by decide +kernel
theorem d_H_loan_2 : decode b_H_loan 2 = .ok (.getfield 10, 3) := by decide +kernel
theorem d_H_loan_5 : decode b_H_loan 5 = .ok (.iload_n 1, 1) := by decide +kernel
theorem d_H_loan_6 : decode b_H_loan 6 = .ok (.invokevirtual 86, 3) := by decide +kernel
theorem d_H_loan_9 : decode b_H_loan 9 = .ok (.istore 5, 2) := by decide +kernel
theorem d_H_loan_11 : decode b_H_loan 11 = .ok (.aload_n 0, 1) := by decide +kernel
theorem d_H_loan_12 : decode b_H_loan 12 = .ok (.aload_n 0, 1) := by decide +kernel
theorem d_H_loan_13 : decode b_H_loan 13 = .ok (.getfield 40, 3) := by decide +kernel
theorem d_H_loan_16 : decode b_H_loan 16 = .ok (.iload_n 2, 1) := by decide +kernel
theorem d_H_loan_17 : decode b_H_loan 17 = .ok (.invokevirtual 86, 3) := by decide +kernel
theorem d_H_loan_20 : decode b_H_loan 20 = .ok (.istore 6, 2) := by decide +kernel
theorem d_H_loan_22 : decode b_H_loan 22 = .ok (.aload_n 0, 1) := by decide +kernel
theorem d_H_loan_23 : decode b_H_loan 23 = .ok (.iload 5, 2) := by decide +kernel
theorem d_H_loan_25 : decode b_H_loan 25 = .ok (.bipush 8, 2) := by decide +kernel
theorem d_H_loan_27 : decode b_H_loan 27 = .ok (.invokevirtual 90, 3) := by decide +kernel
theorem d_H_loan_30 : decode b_H_loan 30 = .ok (.aload_n 0, 1) := by decide +kernel
theorem d_H_loan_31 : decode b_H_loan 31 = .ok (.aload_n 0, 1) := by decide +kernel
theorem d_H_loan_32 : decode b_H_loan 32 = .ok (.getfield 61, 3) := by decide +kernel
theorem d_H_loan_35 : decode b_H_loan 35 = .ok (.invokevirtual 210, 3) := by decide +kernel
theorem d_H_loan_38 : decode b_H_loan 38 = .ok (.ifCond .ne 7, 3) := by decide +kernel
theorem d_H_loan_41 : decode b_H_loan 41 = .ok (.iconst 1, 1) := by decide +kernel
theorem d_H_loan_42 : decode b_H_loan 42 = .ok (.goto 4, 3) := by decide +kernel
theorem d_H_loan_45 : decode b_H_loan 45 = .ok (.iconst 0, 1) := by decide +kernel
theorem d_H_loan_46 : decode b_H_loan 46 = .ok (.invokevirtual 98, 3) := by decide +kernel
theorem d_H_loan_49 : decode b_H_loan 49 = .ok (.aload_n 0, 1) := by decide +kernel
theorem d_H_loan_50 : decode b_H_loan 50 = .ok (.iconst 4, 1) := by decide +kernel
theorem d_H_loan_51 : decode b_H_loan 51 = .ok (.iload_n 3, 1) := by decide +kernel
theorem d_H_loan_52 : decode b_H_loan 52 = .ok (.invokestatic 150, 3) := by decide +kernel
theorem d_H_loan_55 : decode b_H_loan 55 = .ok (.ifCond .eq 21, 3) := by decide +kernel
theorem d_H_loan_58 : decode b_H_loan 58 = .ok (.iload 4, 2) := by decide +kernel
theorem d_H_loan_60 : decode b_H_loan 60 = .ok (.invokestatic 150, 3) := by decide +kernel
theorem d_H_loan_63 : decode b_H_loan 63 = .ok (.ifCond .eq 13, 3) := by decide +kernel
theorem d_H_loan_66 : decode b_H_loan 66 = .ok (.iload_n 3, 1) := by decide +kernel
theorem d_H_loan_67 : decode b_H_loan 67 = .ok (.iload 4, 2) := by decide +kernel
theorem d_H_loan_69 : decode b_H_loan 69 = .ok (.if_icmp .gt 7, 3) := by decide +kernel
theorem d_H_loan_72 : decode b_H_loan 72 = .ok (.iconst 1, 1) := by decide +kernel
theorem d_H_loan_73 : decode b_H_loan 73 = .ok (.goto 4, 3) := by decide +kernel
theorem d_H_loan_76 : decode b_H_loan 76 = .ok (.iconst 0, 1) := by decide +kernel
theorem d_H_loan_77 : decode b_H_loan 77 = .ok (.invokevirtual 102, 3) := by decide +kernel
theorem d_H_loan_80 : decode b_H_loan 80 = .ok (.aload_n 0, 1) := by decide +kernel
theorem d_H_loan_81 : decode b_H_loan 81 = .ok (.iload 6, 2) := by decide +kernel
theorem d_H_loan_83 : decode b_H_loan 83 = .ok (.iload_n 3, 1) := by decide +kernel
theorem d_H_loan_84 : decode b_H_loan 84 = .ok (.iload 4, 2) := by decide +kernel
theorem d_H_loan_86 : decode b_H_loan 86 = .ok (.invokevirtual 211, 3) := by decide +kernel
theorem d_H_loan_89 : decode b_H_loan 89 = .ok (.aload_n 0, 1) := by decide +kernel
theorem d_H_loan_90 : decode b_H_loan 90 = .ok (.getfield 61, 3) := by decide +kernel
theorem d_H_loan_93 : decode b_H_loan 93 = .ok (.iload 6, 2) := by decide +kernel
theorem d_H_loan_95 : decode b_H_loan 95 = .ok (.iload_n 3, 1) := by decide +kernel
theorem d_H_loan_96 : decode b_H_loan 96 = .ok (.iload 4, 2) := by decide +kernel
theorem d_H_loan_98 : decode b_H_loan 98 = .ok (.invokevirtual 214, 3) := by decide +kernel
theorem d_H_loan_101 : decode b_H_loan 101 = .ok (.ireturn, 1) := by decide +kernel
theorem d_H_back_0 : decode b_H_back 0 = .ok (.aload_n 0, 1) := by decide +kernel
theorem d_H_back_1 : decode b_H_back 1 = .ok (.aload_n 0, 1) := by decide +kernel
theorem d_H_back_2 : decode b_H_back 2 = .ok (.getfield 10, 3) := by decide +kernel
theorem d_H_back_5 : decode b_H_back 5 = .ok (.iload_n 1, 1) := by decide +kernel
theorem d_H_back_6 : decode b_H_back 6 = .ok (.invokevirtual 86, 3) := by decide +kernel
theorem d_H_back_9 : decode b_H_back 9 = .ok (.istore 4, 2) := by decide +kernel
theorem d_H_back_11 : decode b_H_back 11 = .ok (.aload_n 0, 1) := by decide +kernel
theorem d_H_back_12 : decode b_H_back 12 = .ok (.aload_n 0, 1) := by decide +kernel
theorem d_H_back_13 : decode b_H_back 13 = .ok (.getfield 61, 3) := by decide +kernel
theorem d_H_back_16 : decode b_H_back 16 = .ok (.iload_n 2, 1) := by decide +kernel
theorem d_H_back_17 : decode b_H_back 17 = .ok (.invokevirtual 86, 3) := by decide +kernel
theorem d_H_back_20 : decode b_H_back 20 = .ok (.istore 5, 2) := by decide +kernel
theorem d_H_back_22 : decode b_H_back 22 = .ok (.aload_n 0, 1) := by decide +kernel
theorem d_H_back_23 : decode b_H_back 23 = .ok (.iload 4, 2) := by decide +kernel
theorem d_H_back_25 : decode b_H_back 25 = .ok (.bipush 8, 2) := by decide +kernel
theorem d_H_back_27 : decode b_H_back 27 = .ok (.invokevirtual 90, 3) := by decide +kernel
theorem d_H_back_30 : decode b_H_back 30 = .ok (.aload_n 0, 1) := by decide +kernel
theorem d_H_back_31 : decode b_H_back 31 = .ok (.iconst 4, 1) := by decide +kernel
theorem d_H_back_32 : decode b_H_back 32 = .ok (.iload_n 3, 1) := by decide +kernel
theorem d_H_back_33 : decode b_H_back 33 = .ok (.invokestatic 150, 3) := by decide +kernel
theorem d_H_back_36 : decode b_H_back 36 = .ok (.invokevirtual 102, 3) := by decide +kernel
theorem d_H_back_39 : decode b_H_back 39 = .ok (.aload_n 0, 1) := by decide +kernel
theorem d_H_back_40 : decode b_H_back 40 = .ok (.bipush 15, 2) := by decide +kernel
theorem d_H_back_42 : decode b_H_back 42 = .ok (.aload_n 0, 1) := by decide +kernel
theorem d_H_back_43 : decode b_H_back 43 = .ok (.getfield 61, 3) := by decide +kernel
theorem d_H_back_46 : decode b_H_back 46 = .ok (.iload 5, 2) := by decide +kernel
theorem d_H_back_48 : decode b_H_back 48 = .ok (.iload_n 3, 1) := by decide +kernel
theorem d_H_back_49 : decode b_H_back 49 = .ok (.invokevirtual 217, 3) := by decide +kernel
theorem d_H_back_52 : decode b_H_back 52 = .ok (.invokevirtual 102, 3) := by decide +kernel
theorem d_H_back_55 : decode b_H_back 55 = .ok (.aload_n 0, 1) := by decide +kernel
theorem d_H_back_56 : decode b_H_back 56 = .ok (.getfield 61, 3) := by decide +kernel
theorem d_H_back_59 : decode b_H_back 59 = .ok (.iload 5, 2) := by decide +kernel
theorem d_H_back_61 : decode b_H_back 61 = .ok (.invokevirtual 218, 3) := by decide +kernel
theorem d_H_back_64 : decode b_H_back 64 = .ok (.istore 6, 2) := by decide +kernel
theorem d_H_back_66 : decode b_H_back 66 = .ok (.aload_n 0, 1) := by decide +kernel
theorem d_H_back_67 : decode b_H_back 67 = .ok (.getfield 61, 3) := by decide +kernel
theorem d_H_back_70 : decode b_H_back 70 = .ok (.iload 5, 2) := by decide +kernel
theorem d_H_back_72 : decode b_H_back 72 = .ok (.iload_n 3, 1) := by decide +kernel
theorem d_H_back_73 : decode b_H_back 73 = .ok (.invokevirtual 221, 3) := by decide +kernel
theorem d_H_back_76 : decode b_H_back 76 = .ok (.iload 6, 2) := by decide +kernel
theorem d_H_back_78 : decode b_H_back 78 = .ok (.ireturn, 1) := by decide +kernel
theorem d_H_show_0 : decode b_H_show 0 = .ok (.aload_n 0, 1) := by decide +kernel
theorem d_H_show_1 : decode b_H_show 1 = .ok (.aload_n 0, 1) := by decide +kernel
theorem d_H_show_2 : decode b_H_show 2 = .ok (.getfield 10, 3) := by decide +kernel
theorem d_H_show_5 : decode b_H_show 5 = .ok (.iload_n 1, 1) := by decide +kernel
theorem d_H_show_6 : decode b_H_show 6 = .ok (.invokevirtual 86, 3) := by decide +kernel
theorem d_H_show_9 : decode b_H_show 9 = .ok (.istore 5, 2) := by decide +kernel
theorem d_H_show_11 : decode b_H_show 11 = .ok (.aload_n 0, 1) := by decide +kernel
theorem d_H_show_12 : decode b_H_show 12 = .ok (.aload_n 0, 1) := by decide +kernel
theorem d_H_show_13 : decode b_H_show 13 = .ok (.getfield 54, 3) := by decide +kernel
theorem d_H_show_16 : decode b_H_show 16 = .ok (.iload_n 2, 1) := by decide +kernel
theorem d_H_show_17 : decode b_H_show 17 = .ok (.invokevirtual 86, 3) := by decide +kernel
theorem d_H_show_20 : decode b_H_show 20 = .ok (.istore 6, 2) := by decide +kernel
theorem d_H_show_22 : decode b_H_show 22 = .ok (.aload_n 0, 1) := by decide +kernel
theorem d_H_show_23 : decode b_H_show 23 = .ok (.iload 5, 2) := by decide +kernel
theorem d_H_show_25 : decode b_H_show 25 = .ok (.bipush 16, 2) := by decide +kernel
theorem d_H_show_27 : decode b_H_show 27 = .ok (.invokevirtual 90, 3) := by decide +kernel
theorem d_H_show_30 : decode b_H_show 30 = .ok (.aload_n 0, 1) := by decide +kernel
theorem d_H_show_31 : decode b_H_show 31 = .ok (.aload_n 0, 1) := by decide +kernel
theorem d_H_show_32 : decode b_H_show 32 = .ok (.getfield 68, 3) := by decide +kernel
theorem d_H_show_35 : decode b_H_show 35 = .ok (.invokevirtual 224, 3) := by decide +kernel
theorem d_H_show_38 : decode b_H_show 38 = .ok (.ifCond .ne 7, 3) := by decide +kernel
theorem d_H_show_41 : decode b_H_show 41 = .ok (.iconst 1, 1) := by decide +kernel
theorem d_H_show_42 : decode b_H_show 42 = .ok (.goto 4, 3) := by decide +kernel
theorem d_H_show_45 : decode b_H_show 45 = .ok (.iconst 0, 1) := by decide +kernel
theorem d_H_show_46 : decode b_H_show 46 = .ok (.invokevirtual 98, 3) := by decide +kernel
theorem d_H_show_49 : decode b_H_show 49 = .ok (.aload_n 0, 1) := by decide +kernel
theorem d_H_show_50 : decode b_H_show 50 = .ok (.iconst 4, 1) := by decide +kernel
theorem d_H_show_51 : decode b_H_show 51 = .ok (.iload_n 3, 1) := by decide +kernel
theorem d_H_show_52 : decode b_H_show 52 = .ok (.invokestatic 150, 3) := by decide +kernel
theorem d_H_show_55 : decode b_H_show 55 = .ok (.ifCond .eq 21, 3) := by decide +kernel
theorem d_H_show_58 : decode b_H_show 58 = .ok (.iload 4, 2) := by decide +kernel
theorem d_H_show_60 : decode b_H_show 60 = .ok (.invokestatic 150, 3) := by decide +kernel
theorem d_H_show_63 : decode b_H_show 63 = .ok (.ifCond .eq 13, 3) := by decide +kernel
theorem d_H_show_66 : decode b_H_show 66 = .ok (.iload_n 3, 1) := by decide +kernel
theorem d_H_show_67 : decode b_H_show 67 = .ok (.iload 4, 2) := by decide +kernel
theorem d_H_show_69 : decode b_H_show 69 = .ok (.if_icmp .gt 7, 3) := by decide +kernel
theorem d_H_show_72 : decode b_H_show 72 = .ok (.iconst 1, 1) := by decide +kernel
theorem d_H_show_73 : decode b_H_show 73 = .ok (.goto 4, 3) := by decide +kernel
theorem d_H_show_76 : decode b_H_show 76 = .ok (.iconst 0, 1) := by decide +kernel
theorem d_H_show_77 : decode b_H_show 77 = .ok (.invokevirtual 102, 3) := by decide +kernel
theorem d_H_show_80 : decode b_H_show 80 = .ok (.aload_n 0, 1) := by decide +kernel
theorem d_H_show_81 : decode b_H_show 81 = .ok (.getfield 68, 3) := by decide +kernel
theorem d_H_show_84 : decode b_H_show 84 = .ok (.iload 6, 2) := by decide +kernel
theorem d_H_show_86 : decode b_H_show 86 = .ok (.iload_n 3, 1) := by decide +kernel
theorem d_H_show_87 : decode b_H_show 87 = .ok (.iload 4, 2) := by decide +kernel
theorem d_H_show_89 : decode b_H_show 89 = .ok (.invokevirtual 225, 3) := by decide +kernel
theorem d_H_show_92 : decode b_H_show 92 = .ok (.ireturn, 1) := by decide +kernel
theorem d_H_hang_0 : decode b_H_hang 0 = .ok (.aload_n 0, 1) := by decide +kernel
theorem d_H_hang_1 : decode b_H_hang 1 = .ok (.aload_n 0, 1) := by decide +kernel
theorem d_H_hang_2 : decode b_H_hang 2 = .ok (.getfield 10, 3) := by decide +kernel
theorem d_H_hang_5 : decode b_H_hang 5 = .ok (.iload_n 1, 1) := by decide +kernel
theorem d_H_hang_6 : decode b_H_hang 6 = .ok (.invokevirtual 86, 3) := by decide +kernel
theorem d_H_hang_9 : decode b_H_hang 9 = .ok (.istore 4, 2) := by decide +kernel
theorem d_H_hang_11 : decode b_H_hang 11 = .ok (.aload_n 0, 1) := by decide +kernel
theorem d_H_hang_12 : decode b_H_hang 12 = .ok (.aload_n 0, 1) := by decide +kernel
theorem d_H_hang_13 : decode b_H_hang 13 = .ok (.getfield 68, 3) := by decide +kernel
theorem d_H_hang_16 : decode b_H_hang 16 = .ok (.iload_n 2, 1) := by decide +kernel
theorem d_H_hang_17 : decode b_H_hang 17 = .ok (.invokevirtual 86, 3) := by decide +kernel
theorem d_H_hang_20 : decode b_H_hang 20 = .ok (.istore 5, 2) := by decide +kernel
theorem d_H_hang_22 : decode b_H_hang 22 = .ok (.aload_n 0, 1) := by decide +kernel
theorem d_H_hang_23 : decode b_H_hang 23 = .ok (.aload_n 0, 1) := by decide +kernel
theorem d_H_hang_24 : decode b_H_hang 24 = .ok (.getfield 40, 3) := by decide +kernel
theorem d_H_hang_27 : decode b_H_hang 27 = .ok (.iload_n 3, 1) := by decide +kernel
theorem d_H_hang_28 : decode b_H_hang 28 = .ok (.invokevirtual 86, 3) := by decide +kernel
theorem d_H_hang_31 : decode b_H_hang 31 = .ok (.istore 6, 2) := by decide +kernel
theorem d_H_hang_33 : decode b_H_hang 33 = .ok (.aload_n 0, 1) := by decide +kernel
theorem d_H_hang_34 : decode b_H_hang 34 = .ok (.iload 4, 2) := by decide +kernel
theorem d_H_hang_36 : decode b_H_hang 36 = .ok (.bipush 16, 2) := by decide +kernel
theorem d_H_hang_38 : decode b_H_hang 38 = .ok (.invokevirtual 90, 3) := by decide +kernel
theorem d_H_hang_41 : decode b_H_hang 41 = .ok (.aload_n 0, 1) := by decide +kernel
theorem d_H_hang_42 : decode b_H_hang 42 = .ok (.getfield 68, 3) := by decide +kernel
theorem d_H_hang_45 : decode b_H_hang 45 = .ok (.iload 5, 2) := by decide +kernel
theorem d_H_hang_47 : decode b_H_hang 47 = .ok (.iload 6, 2) := by decide +kernel
theorem d_H_hang_49 : decode b_H_hang 49 = .ok (.invokevirtual 228, 3) := by decide +kernel
theorem d_H_hang_52 : decode b_H_hang 52 = .ok (.ifCond .eq 5, 3) := by decide +kernel
theorem d_H_hang_55 : decode b_H_hang 55 = .ok (.iconst 0, 1) := by decide +kernel
theorem d_H_hang_56 : decode b_H_hang 56 = .ok (.ireturn, 1) := by decide +kernel
theorem d_H_hang_57 : decode b_H_hang 57 = .ok (.aload_n 0, 1) := by decide +kernel
theorem d_H_hang_58 : decode b_H_hang 58 = .ok (.iload 6, 2) := by decide +kernel
theorem d_H_hang_60 : decode b_H_hang 60 = .ok (.aload_n 0, 1) := by decide +kernel
theorem d_H_hang_61 : decode b_H_hang 61 = .ok (.getfield 68, 3) := by decide +kernel
theorem d_H_hang_64 : decode b_H_hang 64 = .ok (.iload 5, 2) := by decide +kernel
theorem d_H_hang_66 : decode b_H_hang 66 = .ok (.invokevirtual 231, 3) := by decide +kernel
theorem d_H_hang_69 : decode b_H_hang 69 = .ok (.aload_n 0, 1) := by decide +kernel
theorem d_H_hang_70 : decode b_H_hang 70 = .ok (.getfield 68, 3) := by decide +kernel
theorem d_H_hang_73 : decode b_H_hang 73 = .ok (.iload 5, 2) := by decide +kernel
theorem d_H_hang_75 : decode b_H_hang 75 = .ok (.invokevirtual 234, 3) := by decide +kernel
theorem d_H_hang_78 : decode b_H_hang 78 = .ok (.invokevirtual 211, 3) := by decide +kernel
theorem d_H_hang_81 : decode b_H_hang 81 = .ok (.aload_n 0, 1) := by decide +kernel
theorem d_H_hang_82 : decode b_H_hang 82 = .ok (.getfield 68, 3) := by decide +kernel
theorem d_H_hang_85 : decode b_H_hang 85 = .ok (.iload 5, 2) := by decide +kernel
theorem d_H_hang_87 : decode b_H_hang 87 = .ok (.iload 6, 2) := by decide +kernel
theorem d_H_hang_89 : decode b_H_hang 89 = .ok (.invokevirtual 235, 3) := by decide +kernel
theorem d_H_hang_92 : decode b_H_hang 92 = .ok (.iconst 1, 1) := by decide +kernel
theorem d_H_hang_93 : decode b_H_hang 93 = .ok (.ireturn, 1) := by decide +kernel
theorem d_H_take_0 : decode b_H_take 0 = .ok (.aload_n 0, 1) := by decide +kernel
theorem d_H_take_1 : decode b_H_take 1 = .ok (.aload_n 0, 1) := by decide +kernel
theorem d_H_take_2 : decode b_H_take 2 = .ok (.getfield 10, 3) := by decide +kernel
theorem d_H_take_5 : decode b_H_take 5 = .ok (.iload_n 1, 1) := by decide +kernel
theorem d_H_take_6 : decode b_H_take 6 = .ok (.invokevirtual 86, 3) := by decide +kernel
theorem d_H_take_9 : decode b_H_take 9 = .ok (.istore 4, 2) := by decide +kernel
theorem d_H_take_11 : decode b_H_take 11 = .ok (.aload_n 0, 1) := by decide +kernel
theorem d_H_take_12 : decode b_H_take 12 = .ok (.aload_n 0, 1) := by decide +kernel
theorem d_H_take_13 : decode b_H_take 13 = .ok (.getfield 68, 3) := by decide +kernel
theorem d_H_take_16 : decode b_H_take 16 = .ok (.iload_n 2, 1) := by decide +kernel
theorem d_H_take_17 : decode b_H_take 17 = .ok (.invokevirtual 86, 3) := by decide +kernel
theorem d_H_take_20 : decode b_H_take 20 = .ok (.istore 5, 2) := by decide +kernel
theorem d_H_take_22 : decode b_H_take 22 = .ok (.aload_n 0, 1) := by decide +kernel
theorem d_H_take_23 : decode b_H_take 23 = .ok (.aload_n 0, 1) := by decide +kernel
theorem d_H_take_24 : decode b_H_take 24 = .ok (.getfield 40, 3) := by decide +kernel
theorem d_H_take_27 : decode b_H_take 27 = .ok (.iload_n 3, 1) := by decide +kernel
theorem d_H_take_28 : decode b_H_take 28 = .ok (.invokevirtual 86, 3) := by decide +kernel
theorem d_H_take_31 : decode b_H_take 31 = .ok (.istore 6, 2) := by decide +kernel
theorem d_H_take_33 : decode b_H_take 33 = .ok (.aload_n 0, 1) := by decide +kernel
theorem d_H_take_34 : decode b_H_take 34 = .ok (.iload 4, 2) := by decide +kernel
theorem d_H_take_36 : decode b_H_take 36 = .ok (.bipush 16, 2) := by decide +kernel
theorem d_H_take_38 : decode b_H_take 38 = .ok (.invokevirtual 90, 3) := by decide +kernel
theorem d_H_take_41 : decode b_H_take 41 = .ok (.aload_n 0, 1) := by decide +kernel
theorem d_H_take_42 : decode b_H_take 42 = .ok (.getfield 68, 3) := by decide +kernel
theorem d_H_take_45 : decode b_H_take 45 = .ok (.iload 5, 2) := by decide +kernel
theorem d_H_take_47 : decode b_H_take 47 = .ok (.iload 6, 2) := by decide +kernel
theorem d_H_take_49 : decode b_H_take 49 = .ok (.invokevirtual 228, 3) := by decide +kernel
theorem d_H_take_52 : decode b_H_take 52 = .ok (.istore 7, 2) := by decide +kernel
theorem d_H_take_54 : decode b_H_take 54 = .ok (.aload_n 0, 1) := by decide +kernel
theorem d_H_take_55 : decode b_H_take 55 = .ok (.getfield 68, 3) := by decide +kernel
theorem d_H_take_58 : decode b_H_take 58 = .ok (.iload 5, 2) := by decide +kernel
theorem d_H_take_60 : decode b_H_take 60 = .ok (.iload 6, 2) := by decide +kernel
theorem d_H_take_62 : decode b_H_take 62 = .ok (.invokevirtual 238, 3) := by decide +kernel
theorem d_H_take_65 : decode b_H_take 65 = .ok (.iload 7, 2) := by decide +kernel
theorem d_H_take_67 : decode b_H_take 67 = .ok (.ireturn, 1) := by decide +kernel
theorem d_H_claim_0 : decode b_H_claim 0 = .ok (.aload_n 0, 1) := by decide +kernel
theorem d_H_claim_1 : decode b_H_claim 1 = .ok (.aload_n 0, 1) := by decide +kernel
theorem d_H_claim_2 : decode b_H_claim 2 = .ok (.getfield 10, 3) := by decide +kernel
theorem d_H_claim_5 : decode b_H_claim 5 = .ok (.iload_n 1, 1) := by decide +kernel
theorem d_H_claim_6 : decode b_H_claim 6 = .ok (.invokevirtual 86, 3) := by decide +kernel
theorem d_H_claim_9 : decode b_H_claim 9 = .ok (.istore 4, 2) := by decide +kernel
theorem d_H_claim_11 : decode b_H_claim 11 = .ok (.aload_n 0, 1) := by decide +kernel
theorem d_H_claim_12 : decode b_H_claim 12 = .ok (.aload_n 0, 1) := by decide +kernel
theorem d_H_claim_13 : decode b_H_claim 13 = .ok (.getfield 40, 3) := by decide +kernel
theorem d_H_claim_16 : decode b_H_claim 16 = .ok (.iload_n 2, 1) := by decide +kernel
theorem d_H_claim_17 : decode b_H_claim 17 = .ok (.invokevirtual 86, 3) := by decide +kernel
theorem d_H_claim_20 : decode b_H_claim 20 = .ok (.istore 5, 2) := by decide +kernel
theorem d_H_claim_22 : decode b_H_claim 22 = .ok (.aload_n 0, 1) := by decide +kernel
theorem d_H_claim_23 : decode b_H_claim 23 = .ok (.iload 4, 2) := by decide +kernel
theorem d_H_claim_25 : decode b_H_claim 25 = .ok (.bipush 32, 2) := by decide +kernel
theorem d_H_claim_27 : decode b_H_claim 27 = .ok (.invokevirtual 90, 3) := by decide +kernel
theorem d_H_claim_30 : decode b_H_claim 30 = .ok (.aload_n 0, 1) := by decide +kernel
theorem d_H_claim_31 : decode b_H_claim 31 = .ok (.aload_n 0, 1) := by decide +kernel
theorem d_H_claim_32 : decode b_H_claim 32 = .ok (.getfield 75, 3) := by decide +kernel
theorem d_H_claim_35 : decode b_H_claim 35 = .ok (.invokevirtual 241, 3) := by decide +kernel
theorem d_H_claim_38 : decode b_H_claim 38 = .ok (.ifCond .ne 7, 3) := by decide +kernel
theorem d_H_claim_41 : decode b_H_claim 41 = .ok (.iconst 1, 1) := by decide +kernel
theorem d_H_claim_42 : decode b_H_claim 42 = .ok (.goto 4, 3) := by decide +kernel
theorem d_H_claim_45 : decode b_H_claim 45 = .ok (.iconst 0, 1) := by decide +kernel
theorem d_H_claim_46 : decode b_H_claim 46 = .ok (.invokevirtual 98, 3) := by decide +kernel
theorem d_H_claim_49 : decode b_H_claim 49 = .ok (.aload_n 0, 1) := by decide +kernel
theorem d_H_claim_50 : decode b_H_claim 50 = .ok (.iconst 4, 1) := by decide +kernel
theorem d_H_claim_51 : decode b_H_claim 51 = .ok (.iload_n 3, 1) := by decide +kernel
theorem d_H_claim_52 : decode b_H_claim 52 = .ok (.ifCond .lt 13, 3) := by decide +kernel
theorem d_H_claim_55 : decode b_H_claim 55 = .ok (.iload_n 3, 1) := by decide +kernel
theorem d_H_claim_56 : decode b_H_claim 56 = .ok (.bipush 9, 2) := by decide +kernel
theorem d_H_claim_58 : decode b_H_claim 58 = .ok (.if_icmp .gt 7, 3) := by decide +kernel
theorem d_H_claim_61 : decode b_H_claim 61 = .ok (.iconst 1, 1) := by decide +kernel
theorem d_H_claim_62 : decode b_H_claim 62 = .ok (.goto 4, 3) := by decide +kernel
theorem d_H_claim_65 : decode b_H_claim 65 = .ok (.iconst 0, 1) := by decide +kernel
theorem d_H_claim_66 : decode b_H_claim 66 = .ok (.invokevirtual 102, 3) := by decide +kernel
theorem d_H_claim_69 : decode b_H_claim 69 = .ok (.aload_n 0, 1) := by decide +kernel
theorem d_H_claim_70 : decode b_H_claim 70 = .ok (.bipush 16, 2) := by decide +kernel
theorem d_H_claim_72 : decode b_H_claim 72 = .ok (.aload_n 0, 1) := by decide +kernel
theorem d_H_claim_73 : decode b_H_claim 73 = .ok (.getfield 75, 3) := by decide +kernel
theorem d_H_claim_76 : decode b_H_claim 76 = .ok (.iload 5, 2) := by decide +kernel
theorem d_H_claim_78 : decode b_H_claim 78 = .ok (.iload_n 3, 1) := by decide +kernel
theorem d_H_claim_79 : decode b_H_claim 79 = .ok (.invokevirtual 242, 3) := by decide +kernel
theorem d_H_claim_82 : decode b_H_claim 82 = .ok (.ifCond .ne 7, 3) := by decide +kernel
theorem d_H_claim_85 : decode b_H_claim 85 = .ok (.iconst 1, 1) := by decide +kernel
theorem d_H_claim_86 : decode b_H_claim 86 = .ok (.goto 4, 3) := by decide +kernel
theorem d_H_claim_89 : decode b_H_claim 89 = .ok (.iconst 0, 1) := by decide +kernel
theorem d_H_claim_90 : decode b_H_claim 90 = .ok (.invokevirtual 102, 3) := by decide +kernel
theorem d_H_claim_93 : decode b_H_claim 93 = .ok (.aload_n 0, 1) := by decide +kernel
theorem d_H_claim_94 : decode b_H_claim 94 = .ok (.getfield 75, 3) := by decide +kernel
theorem d_H_claim_97 : decode b_H_claim 97 = .ok (.iload 5, 2) := by decide +kernel
theorem d_H_claim_99 : decode b_H_claim 99 = .ok (.iload_n 3, 1) := by decide +kernel
theorem d_H_claim_100 : decode b_H_claim 100 = .ok (.invokevirtual 245, 3) := by decide +kernel
theorem d_H_claim_103 : decode b_H_claim 103 = .ok (.ireturn, 1) := by decide +kernel
theorem d_H_close_0 : decode b_H_close 0 = .ok (.aload_n 0, 1) := by decide +kernel
theorem d_H_close_1 : decode b_H_close 1 = .ok (.aload_n 0, 1) := by decide +kernel
theorem d_H_close_2 : decode b_H_close 2 = .ok (.getfield 10, 3) := by decide +kernel
theorem d_H_close_5 : decode b_H_close 5 = .ok (.iload_n 1, 1) := by decide +kernel
theorem d_H_close_6 : decode b_H_close 6 = .ok (.invokevirtual 86, 3) := by decide +kernel
theorem d_H_close_9 : decode b_H_close 9 = .ok (.istore_n 3, 1) := by decide +kernel
theorem d_H_close_10 : decode b_H_close 10 = .ok (.aload_n 0, 1) := by decide +kernel
theorem d_H_close_11 : decode b_H_close 11 = .ok (.aload_n 0, 1) := by decide +kernel
theorem d_H_close_12 : decode b_H_close 12 = .ok (.getfield 75, 3) := by decide +kernel
theorem d_H_close_15 : decode b_H_close 15 = .ok (.iload_n 2, 1) := by decide +kernel
theorem d_H_close_16 : decode b_H_close 16 = .ok (.invokevirtual 86, 3) := by decide +kernel
theorem d_H_close_19 : decode b_H_close 19 = .ok (.istore 4, 2) := by decide +kernel
theorem d_H_close_21 : decode b_H_close 21 = .ok (.aload_n 0, 1) := by decide +kernel
theorem d_H_close_22 : decode b_H_close 22 = .ok (.iload_n 3, 1) := by decide +kernel
theorem d_H_close_23 : decode b_H_close 23 = .ok (.bipush 32, 2) := by decide +kernel
theorem d_H_close_25 : decode b_H_close 25 = .ok (.invokevirtual 90, 3) := by decide +kernel
theorem d_H_close_28 : decode b_H_close 28 = .ok (.aload_n 0, 1) := by decide +kernel
theorem d_H_close_29 : decode b_H_close 29 = .ok (.bipush 17, 2) := by decide +kernel
theorem d_H_close_31 : decode b_H_close 31 = .ok (.aload_n 0, 1) := by decide +kernel
theorem d_H_close_32 : decode b_H_close 32 = .ok (.getfield 75, 3) := by decide +kernel
theorem d_H_close_35 : decode b_H_close 35 = .ok (.iload 4, 2) := by decide +kernel
theorem d_H_close_37 : decode b_H_close 37 = .ok (.invokevirtual 248, 3) := by decide +kernel
theorem d_H_close_40 : decode b_H_close 40 = .ok (.invokevirtual 102, 3) := by decide +kernel
theorem d_H_close_43 : decode b_H_close 43 = .ok (.aload_n 0, 1) := by decide +kernel
theorem d_H_close_44 : decode b_H_close 44 = .ok (.getfield 75, 3) := by decide +kernel
theorem d_H_close_47 : decode b_H_close 47 = .ok (.iload 4, 2) := by decide +kernel
theorem d_H_close_49 : decode b_H_close 49 = .ok (.invokevirtual 251, 3) := by decide +kernel
theorem d_H_close_52 : decode b_H_close 52 = .ok (.aload_n 0, 1) := by decide +kernel
theorem d_H_close_53 : decode b_H_close 53 = .ok (.getfield 75, 3) := by decide +kernel
theorem d_H_close_56 : decode b_H_close 56 = .ok (.aload_n 0, 1) := by decide +kernel
theorem d_H_close_57 : decode b_H_close 57 = .ok (.getfield 75, 3) := by decide +kernel
theorem d_H_close_60 : decode b_H_close 60 = .ok (.iload 4, 2) := by decide +kernel
theorem d_H_close_62 : decode b_H_close 62 = .ok (.invokevirtual 255, 3) := by decide +kernel
theorem d_H_close_65 : decode b_H_close 65 = .ok (.invokevirtual 258, 3) := by decide +kernel
theorem d_H_close_68 : decode b_H_close 68 = .ok (.ireturn, 1) := by decide +kernel
theorem d_H_where_0 : decode b_H_where 0 = .ok (.aload_n 0, 1) := by decide +kernel
theorem d_H_where_1 : decode b_H_where 1 = .ok (.aload_n 0, 1) := by decide +kernel
theorem d_H_where_2 : decode b_H_where 2 = .ok (.getfield 40, 3) := by decide +kernel
theorem d_H_where_5 : decode b_H_where 5 = .ok (.iload_n 1, 1) := by decide +kernel
theorem d_H_where_6 : decode b_H_where 6 = .ok (.invokevirtual 86, 3) := by decide +kernel
theorem d_H_where_9 : decode b_H_where 9 = .ok (.istore_n 3, 1) := by decide +kernel
theorem d_H_where_10 : decode b_H_where 10 = .ok (.aload_n 0, 1) := by decide +kernel
theorem d_H_where_11 : decode b_H_where 11 = .ok (.iconst 4, 1) := by decide +kernel
theorem d_H_where_12 : decode b_H_where 12 = .ok (.iload_n 2, 1) := by decide +kernel
theorem d_H_where_13 : decode b_H_where 13 = .ok (.invokestatic 150, 3) := by decide +kernel
theorem d_H_where_16 : decode b_H_where 16 = .ok (.invokevirtual 102, 3) := by decide +kernel
theorem d_H_where_19 : decode b_H_where 19 = .ok (.iload_n 2, 1) := by decide +kernel
theorem d_H_where_20 : decode b_H_where 20 = .ok (.aload_n 0, 1) := by decide +kernel
theorem d_H_where_21 : decode b_H_where 21 = .ok (.getfield 40, 3) := by decide +kernel
theorem d_H_where_24 : decode b_H_where 24 = .ok (.iload_n 3, 1) := by decide +kernel
theorem d_H_where_25 : decode b_H_where 25 = .ok (.invokevirtual 193, 3) := by decide +kernel
theorem d_H_where_28 : decode b_H_where 28 = .ok (.if_icmp .ge 5, 3) := by decide +kernel
theorem d_H_where_31 : decode b_H_where 31 = .ok (.iconst 0, 1) := by decide +kernel
theorem d_H_where_32 : decode b_H_where 32 = .ok (.ireturn, 1) := by decide +kernel
theorem d_H_where_33 : decode b_H_where 33 = .ok (.aload_n 0, 1) := by decide +kernel
theorem d_H_where_34 : decode b_H_where 34 = .ok (.getfield 61, 3) := by decide +kernel
theorem d_H_where_37 : decode b_H_where 37 = .ok (.iload_n 3, 1) := by decide +kernel
theorem d_H_where_38 : decode b_H_where 38 = .ok (.iload_n 2, 1) := by decide +kernel
theorem d_H_where_39 : decode b_H_where 39 = .ok (.iload_n 2, 1) := by decide +kernel
theorem d_H_where_40 : decode b_H_where 40 = .ok (.invokevirtual 194, 3) := by decide +kernel
theorem d_H_where_43 : decode b_H_where 43 = .ok (.istore 4, 2) := by decide +kernel
theorem d_H_where_45 : decode b_H_where 45 = .ok (.iload 4, 2) := by decide +kernel
theorem d_H_where_47 : decode b_H_where 47 = .ok (.iconst (-1), 1) := by decide +kernel
theorem d_H_where_48 : decode b_H_where 48 = .ok (.if_icmp .eq 13, 3) := by decide +kernel
theorem d_H_where_51 : decode b_H_where 51 = .ok (.aload_n 0, 1) := by decide +kernel
theorem d_H_where_52 : decode b_H_where 52 = .ok (.getfield 61, 3) := by decide +kernel
theorem d_H_where_55 : decode b_H_where 55 = .ok (.iload 4, 2) := by decide +kernel
theorem d_H_where_57 : decode b_H_where 57 = .ok (.invokevirtual 261, 3) := by decide +kernel
theorem d_H_where_60 : decode b_H_where 60 = .ok (.ireturn, 1) := by decide +kernel
theorem d_H_where_61 : decode b_H_where 61 = .ok (.aload_n 0, 1) := by decide +kernel
theorem d_H_where_62 : decode b_H_where 62 = .ok (.getfield 68, 3) := by decide +kernel
theorem d_H_where_65 : decode b_H_where 65 = .ok (.iload_n 3, 1) := by decide +kernel
theorem d_H_where_66 : decode b_H_where 66 = .ok (.iload_n 2, 1) := by decide +kernel
theorem d_H_where_67 : decode b_H_where 67 = .ok (.iload_n 2, 1) := by decide +kernel
theorem d_H_where_68 : decode b_H_where 68 = .ok (.invokevirtual 264, 3) := by decide +kernel
theorem d_H_where_71 : decode b_H_where 71 = .ok (.istore 5, 2) := by decide +kernel
theorem d_H_where_73 : decode b_H_where 73 = .ok (.iload 5, 2) := by decide +kernel
theorem d_H_where_75 : decode b_H_where 75 = .ok (.iconst (-1), 1) := by decide +kernel
theorem d_H_where_76 : decode b_H_where 76 = .ok (.if_icmp .eq 13, 3) := by decide +kernel
theorem d_H_where_79 : decode b_H_where 79 = .ok (.aload_n 0, 1) := by decide +kernel
theorem d_H_where_80 : decode b_H_where 80 = .ok (.getfield 68, 3) := by decide +kernel
theorem d_H_where_83 : decode b_H_where 83 = .ok (.iload 5, 2) := by decide +kernel
theorem d_H_where_85 : decode b_H_where 85 = .ok (.invokevirtual 265, 3) := by decide +kernel
theorem d_H_where_88 : decode b_H_where 88 = .ok (.ireturn, 1) := by decide +kernel
theorem d_H_where_89 : decode b_H_where 89 = .ok (.aload_n 0, 1) := by decide +kernel
theorem d_H_where_90 : decode b_H_where 90 = .ok (.iload_n 3, 1) := by decide +kernel
theorem d_H_where_91 : decode b_H_where 91 = .ok (.iload_n 2, 1) := by decide +kernel
theorem d_H_where_92 : decode b_H_where 92 = .ok (.invokevirtual 201, 3) := by decide +kernel
theorem d_H_where_95 : decode b_H_where 95 = .ok (.istore 6, 2) := by decide +kernel
theorem d_H_where_97 : decode b_H_where 97 = .ok (.iload 6, 2) := by decide +kernel
theorem d_H_where_99 : decode b_H_where 99 = .ok (.ifCond .ne 7, 3) := by decide +kernel
theorem d_H_where_102 : decode b_H_where 102 = .ok (.iconst 1, 1) := by decide +kernel
theorem d_H_where_103 : decode b_H_where 103 = .ok (.goto 5, 3) := by decide +kernel
theorem d_H_where_106 : decode b_H_where 106 = .ok (.iload 6, 2) := by decide +kernel
theorem d_H_where_108 : decode b_H_where 108 = .ok (.ireturn, 1) := by decide +kernel
theorem d_H_origin_0 : decode b_H_origin 0 = .ok (.aload_n 0, 1) := by decide +kernel
theorem d_H_origin_1 : decode b_H_origin 1 = .ok (.getfield 26, 3) := by decide +kernel
theorem d_H_origin_4 : decode b_H_origin 4 = .ok (.iload_n 1, 1) := by decide +kernel
theorem d_H_origin_5 : decode b_H_origin 5 = .ok (.invokevirtual 266, 3) := by decide +kernel
theorem d_H_origin_8 : decode b_H_origin 8 = .ok (.istore_n 2, 1) := by decide +kernel
theorem d_H_origin_9 : decode b_H_origin 9 = .ok (.iload_n 2, 1) := by decide +kernel
theorem d_H_origin_10 : decode b_H_origin 10 = .ok (.iconst (-1), 1) := by decide +kernel
theorem d_H_origin_11 : decode b_H_origin 11 = .ok (.if_icmp .eq 19, 3) := by decide +kernel
theorem d_H_origin_14 : decode b_H_origin 14 = .ok (.aload_n 0, 1) := by decide +kernel
theorem d_H_origin_15 : decode b_H_origin 15 = .ok (.getfield 19, 3) := by decide +kernel
theorem d_H_origin_18 : decode b_H_origin 18 = .ok (.aload_n 0, 1) := by decide +kernel
theorem d_H_origin_19 : decode b_H_origin 19 = .ok (.getfield 26, 3) := by decide +kernel
theorem d_H_origin_22 : decode b_H_origin 22 = .ok (.iload_n 2, 1) := by decide +kernel
theorem d_H_origin_23 : decode b_H_origin 23 = .ok (.invokevirtual 123, 3) := by decide +kernel
theorem d_H_origin_26 : decode b_H_origin 26 = .ok (.invokevirtual 269, 3) := by decide +kernel
theorem d_H_origin_29 : decode b_H_origin 29 = .ok (.ireturn, 1) := by decide +kernel
theorem d_H_origin_30 : decode b_H_origin 30 = .ok (.aload_n 0, 1) := by decide +kernel
theorem d_H_origin_31 : decode b_H_origin 31 = .ok (.getfield 33, 3) := by decide +kernel
theorem d_H_origin_34 : decode b_H_origin 34 = .ok (.iload_n 1, 1) := by decide +kernel
theorem d_H_origin_35 : decode b_H_origin 35 = .ok (.invokevirtual 270, 3) := by decide +kernel
theorem d_H_origin_38 : decode b_H_origin 38 = .ok (.istore_n 3, 1) := by decide +kernel
theorem d_H_origin_39 : decode b_H_origin 39 = .ok (.iload_n 3, 1) := by decide +kernel
theorem d_H_origin_40 : decode b_H_origin 40 = .ok (.iconst (-1), 1) := by decide +kernel
theorem d_H_origin_41 : decode b_H_origin 41 = .ok (.if_icmp .eq 19, 3) := by decide +kernel
theorem d_H_origin_44 : decode b_H_origin 44 = .ok (.aload_n 0, 1) := by decide +kernel
theorem d_H_origin_45 : decode b_H_origin 45 = .ok (.getfield 26, 3) := by decide +kernel
theorem d_H_origin_48 : decode b_H_origin 48 = .ok (.aload_n 0, 1) := by decide +kernel
theorem d_H_origin_49 : decode b_H_origin 49 = .ok (.getfield 33, 3) := by decide +kernel
theorem d_H_origin_52 : decode b_H_origin 52 = .ok (.iload_n 3, 1) := by decide +kernel
theorem d_H_origin_53 : decode b_H_origin 53 = .ok (.invokevirtual 271, 3) := by decide +kernel
theorem d_H_origin_56 : decode b_H_origin 56 = .ok (.invokevirtual 274, 3) := by decide +kernel
theorem d_H_origin_59 : decode b_H_origin 59 = .ok (.ireturn, 1) := by decide +kernel
theorem d_H_origin_60 : decode b_H_origin 60 = .ok (.aload_n 0, 1) := by decide +kernel
theorem d_H_origin_61 : decode b_H_origin 61 = .ok (.aload_n 0, 1) := by decide +kernel
theorem d_H_origin_62 : decode b_H_origin 62 = .ok (.getfield 40, 3) := by decide +kernel
theorem d_H_origin_65 : decode b_H_origin 65 = .ok (.iload_n 1, 1) := by decide +kernel
theorem d_H_origin_66 : decode b_H_origin 66 = .ok (.invokevirtual 86, 3) := by decide +kernel
theorem d_H_origin_69 : decode b_H_origin 69 = .ok (.istore 4, 2) := by decide +kernel
theorem d_H_origin_71 : decode b_H_origin 71 = .ok (.aload_n 0, 1) := by decide +kernel
theorem d_H_origin_72 : decode b_H_origin 72 = .ok (.getfield 33, 3) := by decide +kernel
theorem d_H_origin_75 : decode b_H_origin 75 = .ok (.aload_n 0, 1) := by decide +kernel
theorem d_H_origin_76 : decode b_H_origin 76 = .ok (.getfield 40, 3) := by decide +kernel
theorem d_H_origin_79 : decode b_H_origin 79 = .ok (.iload 4, 2) := by decide +kernel
theorem d_H_origin_81 : decode b_H_origin 81 = .ok (.invokevirtual 275, 3) := by decide +kernel
theorem d_H_origin_84 : decode b_H_origin 84 = .ok (.invokevirtual 278, 3) := by decide +kernel
theorem d_H_origin_87 : decode b_H_origin 87 = .ok (.ireturn, 1) := by decide +kernel
theorem d_H_hall_0 : decode b_H_hall 0 = .ok (.aload_n 0, 1) := by decide +kernel
theorem d_H_hall_1 : decode b_H_hall 1 = .ok (.aload_n 0, 1) := by decide +kernel
theorem d_H_hall_2 : decode b_H_hall 2 = .ok (.getfield 68, 3) := by decide +kernel
theorem d_H_hall_5 : decode b_H_hall 5 = .ok (.iload_n 1, 1) := by decide +kernel
theorem d_H_hall_6 : decode b_H_hall 6 = .ok (.invokevirtual 86, 3) := by decide +kernel
theorem d_H_hall_9 : decode b_H_hall 9 = .ok (.istore_n 2, 1) := by decide +kernel
theorem d_H_hall_10 : decode b_H_hall 10 = .ok (.aload_n 0, 1) := by decide +kernel
theorem d_H_hall_11 : decode b_H_hall 11 = .ok (.getfield 54, 3) := by decide +kernel
theorem d_H_hall_14 : decode b_H_hall 14 = .ok (.aload_n 0, 1) := by decide +kernel
theorem d_H_hall_15 : decode b_H_hall 15 = .ok (.getfield 68, 3) := by decide +kernel
theorem d_H_hall_18 : decode b_H_hall 18 = .ok (.iload_n 2, 1) := by decide +kernel
theorem d_H_hall_19 : decode b_H_hall 19 = .ok (.invokevirtual 279, 3) := by decide +kernel
theorem d_H_hall_22 : decode b_H_hall 22 = .ok (.invokevirtual 282, 3) := by decide +kernel
theorem d_H_hall_25 : decode b_H_hall 25 = .ok (.ireturn, 1) := by decide +kernel
theorem d_H_rule_0 : decode b_H_rule 0 = .ok (.aload_n 0, 1) := by decide +kernel
theorem d_H_rule_1 : decode b_H_rule 1 = .ok (.getfield 83, 3) := by decide +kernel
theorem d_H_rule_4 : decode b_H_rule 4 = .ok (.ireturn, 1) := by decide +kernel
theorem d_H_count_0 : decode b_H_count 0 = .ok (.iload_n 1, 1) := by decide +kernel
theorem d_H_count_1 : decode b_H_count 1 = .ok (.tableswitch 123 1 9 #[51, 59, 67, 75, 83, 91, 99, 107, 115], 51) := by decide +kernel
theorem d_H_count_52 : decode b_H_count 52 = .ok (.aload_n 0, 1) := by decide +kernel
theorem d_H_count_53 : decode b_H_count 53 = .ok (.getfield 10, 3) := by decide +kernel
theorem d_H_count_56 : decode b_H_count 56 = .ok (.invokevirtual 283, 3) := by decide +kernel
theorem d_H_count_59 : decode b_H_count 59 = .ok (.ireturn, 1) := by decide +kernel
end
section
theorem d_H_count_60 : decode b_H_count 60 = .ok (.aload_n 0, 1) := by decide +kernel
theorem d_H_count_61 : decode b_H_count 61 = .ok (.getfield 19, 3) := by decide +kernel
theorem d_H_count_64 : decode b_H_count 64 = .ok (.invokevirtual 284, 3) := by decide +kernel
theorem d_H_count_67 : decode b_H_count 67 = .ok (.ireturn, 1) := by decide +kernel
theorem d_H_count_68 : decode b_H_count 68 = .ok (.aload_n 0, 1) := by decide +kernel
theorem d_H_count_69 : decode b_H_count 69 = .ok (.getfield 26, 3) := by decide +kernel
theorem d_H_count_72 : decode b_H_count 72 = .ok (.invokevirtual 285, 3) := by decide +kernel
theorem d_H_count_75 : decode b_H_count 75 = .ok (.ireturn, 1) := by decide +kernel
theorem d_H_count_76 : decode b_H_count 76 = .ok (.aload_n 0, 1) := by decide +kernel
theorem d_H_count_77 : decode b_H_count 77 = .ok (.getfield 33, 3) := by decide +kernel
theorem d_H_count_80 : decode b_H_count 80 = .ok (.invokevirtual 286, 3) := by decide +kernel
theorem d_H_count_83 : decode b_H_count 83 = .ok (.ireturn, 1) := by decide +kernel
theorem d_H_count_84 : decode b_H_count 84 = .ok (.aload_n 0, 1) := by decide +kernel
theorem d_H_count_85 : decode b_H_count 85 = .ok (.getfield 40, 3) := by decide +kernel
theorem d_H_count_88 : decode b_H_count 88 = .ok (.invokevirtual 204, 3) := by decide +kernel
theorem d_H_count_91 : decode b_H_count 91 = .ok (.ireturn, 1) := by decide +kernel
theorem d_H_count_92 : decode b_H_count 92 = .ok (.aload_n 0, 1) := by decide +kernel
theorem d_H_count_93 : decode b_H_count 93 = .ok (.getfield 54, 3) := by decide +kernel
theorem d_H_count_96 : decode b_H_count 96 = .ok (.invokevirtual 287, 3) := by decide +kernel
theorem d_H_count_99 : decode b_H_count 99 = .ok (.ireturn, 1) := by decide +kernel
theorem d_H_count_100 : decode b_H_count 100 = .ok (.aload_n 0, 1) := by decide +kernel
theorem d_H_count_101 : decode b_H_count 101 = .ok (.getfield 61, 3) := by decide +kernel
theorem d_H_count_104 : decode b_H_count 104 = .ok (.invokevirtual 288, 3) := by decide +kernel
theorem d_H_count_107 : decode b_H_count 107 = .ok (.ireturn, 1) := by decide +kernel
theorem d_H_count_108 : decode b_H_count 108 = .ok (.aload_n 0, 1) := by decide +kernel
theorem d_H_count_109 : decode b_H_count 109 = .ok (.getfield 68, 3) := by decide +kernel
theorem d_H_count_112 : decode b_H_count 112 = .ok (.invokevirtual 289, 3) := by decide +kernel
theorem d_H_count_115 : decode b_H_count 115 = .ok (.ireturn, 1) := by decide +kernel
theorem d_H_count_116 : decode b_H_count 116 = .ok (.aload_n 0, 1) := by decide +kernel
theorem d_H_count_117 : decode b_H_count 117 = .ok (.getfield 75, 3) := by decide +kernel
theorem d_H_count_120 : decode b_H_count 120 = .ok (.invokevirtual 290, 3) := by decide +kernel
theorem d_H_count_123 : decode b_H_count 123 = .ok (.ireturn, 1) := by decide +kernel
theorem d_H_count_124 : decode b_H_count 124 = .ok (.new 291, 3) := by decide +kernel
theorem d_H_count_127 : decode b_H_count 127 = .ok (.dup, 1) := by decide +kernel
theorem d_H_count_128 : decode b_H_count 128 = .ok (.invokespecial 293, 3) := by decide +kernel
theorem d_H_count_131 : decode b_H_count 131 = .ok (.athrow, 1) := by decide +kernel
theorem d_H_numberOf_0 : decode b_H_numberOf 0 = .ok (.aload_n 1, 1) := by decide +kernel
theorem d_H_numberOf_1 : decode b_H_numberOf 1 = .ok (.iload_n 2, 1) := by decide +kernel
theorem d_H_numberOf_2 : decode b_H_numberOf 2 = .ok (.invokevirtual 294, 3) := by decide +kernel
theorem d_H_numberOf_5 : decode b_H_numberOf 5 = .ok (.istore_n 3, 1) := by decide +kernel
theorem d_H_numberOf_6 : decode b_H_numberOf 6 = .ok (.iload_n 3, 1) := by decide +kernel
theorem d_H_numberOf_7 : decode b_H_numberOf 7 = .ok (.iconst (-1), 1) := by decide +kernel
theorem d_H_numberOf_8 : decode b_H_numberOf 8 = .ok (.if_icmp .ne 16, 3) := by decide +kernel
theorem d_H_numberOf_11 : decode b_H_numberOf 11 = .ok (.aload_n 0, 1) := by decide +kernel
theorem d_H_numberOf_12 : decode b_H_numberOf 12 = .ok (.iconst 1, 1) := by decide +kernel
theorem d_H_numberOf_13 : decode b_H_numberOf 13 = .ok (.putfield 83, 3) := by decide +kernel
theorem d_H_numberOf_16 : decode b_H_numberOf 16 = .ok (.new 291, 3) := by decide +kernel
theorem d_H_numberOf_19 : decode b_H_numberOf 19 = .ok (.dup, 1) := by decide +kernel
theorem d_H_numberOf_20 : decode b_H_numberOf 20 = .ok (.invokespecial 293, 3) := by decide +kernel
theorem d_H_numberOf_23 : decode b_H_numberOf 23 = .ok (.athrow, 1) := by decide +kernel
theorem d_H_numberOf_24 : decode b_H_numberOf 24 = .ok (.iload_n 3, 1) := by decide +kernel
theorem d_H_numberOf_25 : decode b_H_numberOf 25 = .ok (.ireturn, 1) := by decide +kernel
theorem d_H_parentNumberOf_0 : decode b_H_parentNumberOf 0 = .ok (.iload_n 1, 1) := by decide +kernel
theorem d_H_parentNumberOf_1 : decode b_H_parentNumberOf 1 = .ok (.ifCond .ne 7, 3) := by decide +kernel
theorem d_H_parentNumberOf_4 : decode b_H_parentNumberOf 4 = .ok (.iconst (-1), 1) := by decide +kernel
theorem d_H_parentNumberOf_5 : decode b_H_parentNumberOf 5 = .ok (.goto 12, 3) := by decide +kernel
theorem d_H_parentNumberOf_8 : decode b_H_parentNumberOf 8 = .ok (.aload_n 0, 1) := by decide +kernel
theorem d_H_parentNumberOf_9 : decode b_H_parentNumberOf 9 = .ok (.aload_n 0, 1) := by decide +kernel
theorem d_H_parentNumberOf_10 : decode b_H_parentNumberOf 10 = .ok (.getfield 54, 3) := by decide +kernel
theorem d_H_parentNumberOf_13 : decode b_H_parentNumberOf 13 = .ok (.iload_n 1, 1) := by decide +kernel
theorem d_H_parentNumberOf_14 : decode b_H_parentNumberOf 14 = .ok (.invokevirtual 86, 3) := by decide +kernel
theorem d_H_parentNumberOf_17 : decode b_H_parentNumberOf 17 = .ok (.ireturn, 1) := by decide +kernel
theorem d_H_askRight_0 : decode b_H_askRight 0 = .ok (.aload_n 0, 1) := by decide +kernel
theorem d_H_askRight_1 : decode b_H_askRight 1 = .ok (.getfield 10, 3) := by decide +kernel
theorem d_H_askRight_4 : decode b_H_askRight 4 = .ok (.iload_n 1, 1) := by decide +kernel
theorem d_H_askRight_5 : decode b_H_askRight 5 = .ok (.iload_n 2, 1) := by decide +kernel
theorem d_H_askRight_6 : decode b_H_askRight 6 = .ok (.invokevirtual 106, 3) := by decide +kernel
theorem d_H_askRight_9 : decode b_H_askRight 9 = .ok (.ifCond .ne 16, 3) := by decide +kernel
theorem d_H_askRight_12 : decode b_H_askRight 12 = .ok (.aload_n 0, 1) := by decide +kernel
theorem d_H_askRight_13 : decode b_H_askRight 13 = .ok (.iconst 2, 1) := by decide +kernel
theorem d_H_askRight_14 : decode b_H_askRight 14 = .ok (.putfield 83, 3) := by decide +kernel
theorem d_H_askRight_17 : decode b_H_askRight 17 = .ok (.new 297, 3) := by decide +kernel
theorem d_H_askRight_20 : decode b_H_askRight 20 = .ok (.dup, 1) := by decide +kernel
theorem d_H_askRight_21 : decode b_H_askRight 21 = .ok (.invokespecial 299, 3) := by decide +kernel
theorem d_H_askRight_24 : decode b_H_askRight 24 = .ok (.athrow, 1) := by decide +kernel
theorem d_H_askRight_25 : decode b_H_askRight 25 = .ok (.return_, 1) := by decide +kernel
theorem d_H_askRoom_0 : decode b_H_askRoom 0 = .ok (.iload_n 1, 1) := by decide +kernel
theorem d_H_askRoom_1 : decode b_H_askRoom 1 = .ok (.ifCond .ne 16, 3) := by decide +kernel
theorem d_H_askRoom_4 : decode b_H_askRoom 4 = .ok (.aload_n 0, 1) := by decide +kernel
theorem d_H_askRoom_5 : decode b_H_askRoom 5 = .ok (.iconst 3, 1) := by decide +kernel
theorem d_H_askRoom_6 : decode b_H_askRoom 6 = .ok (.putfield 83, 3) := by decide +kernel
theorem d_H_askRoom_9 : decode b_H_askRoom 9 = .ok (.new 297, 3) := by decide +kernel
theorem d_H_askRoom_12 : decode b_H_askRoom 12 = .ok (.dup, 1) := by decide +kernel
theorem d_H_askRoom_13 : decode b_H_askRoom 13 = .ok (.invokespecial 299, 3) := by decide +kernel
theorem d_H_askRoom_16 : decode b_H_askRoom 16 = .ok (.athrow, 1) := by decide +kernel
theorem d_H_askRoom_17 : decode b_H_askRoom 17 = .ok (.return_, 1) := by decide +kernel
theorem d_H_ask_0 : decode b_H_ask 0 = .ok (.iload_n 2, 1) := by decide +kernel
theorem d_H_ask_1 : decode b_H_ask 1 = .ok (.ifCond .ne 16, 3) := by decide +kernel
theorem d_H_ask_4 : decode b_H_ask 4 = .ok (.aload_n 0, 1) := by decide +kernel
theorem d_H_ask_5 : decode b_H_ask 5 = .ok (.iload_n 1, 1) := by decide +kernel
theorem d_H_ask_6 : decode b_H_ask 6 = .ok (.putfield 83, 3) := by decide +kernel
theorem d_H_ask_9 : decode b_H_ask 9 = .ok (.new 300, 3) := by decide +kernel
theorem d_H_ask_12 : decode b_H_ask 12 = .ok (.dup, 1) := by decide +kernel
theorem d_H_ask_13 : decode b_H_ask 13 = .ok (.invokespecial 302, 3) := by decide +kernel
theorem d_H_ask_16 : decode b_H_ask 16 = .ok (.athrow, 1) := by decide +kernel
theorem d_H_ask_17 : decode b_H_ask 17 = .ok (.return_, 1) := by decide +kernel
theorem d_H_askFree_0 : decode b_H_askFree 0 = .ok (.aload_n 0, 1) := by decide +kernel
theorem d_H_askFree_1 : decode b_H_askFree 1 = .ok (.bipush 11, 2) := by decide +kernel
theorem d_H_askFree_3 : decode b_H_askFree 3 = .ok (.iload_n 2, 1) := by decide +kernel
theorem d_H_askFree_4 : decode b_H_askFree 4 = .ok (.aload_n 0, 1) := by decide +kernel
theorem d_H_askFree_5 : decode b_H_askFree 5 = .ok (.getfield 40, 3) := by decide +kernel
theorem d_H_askFree_8 : decode b_H_askFree 8 = .ok (.iload_n 1, 1) := by decide +kernel
theorem d_H_askFree_9 : decode b_H_askFree 9 = .ok (.invokevirtual 193, 3) := by decide +kernel
theorem d_H_askFree_12 : decode b_H_askFree 12 = .ok (.if_icmp .lt 7, 3) := by decide +kernel
theorem d_H_askFree_15 : decode b_H_askFree 15 = .ok (.iconst 1, 1) := by decide +kernel
theorem d_H_askFree_16 : decode b_H_askFree 16 = .ok (.goto 4, 3) := by decide +kernel
theorem d_H_askFree_19 : decode b_H_askFree 19 = .ok (.iconst 0, 1) := by decide +kernel
theorem d_H_askFree_20 : decode b_H_askFree 20 = .ok (.invokevirtual 102, 3) := by decide +kernel
theorem d_H_askFree_23 : decode b_H_askFree 23 = .ok (.aload_n 0, 1) := by decide +kernel
theorem d_H_askFree_24 : decode b_H_askFree 24 = .ok (.bipush 13, 2) := by decide +kernel
theorem d_H_askFree_26 : decode b_H_askFree 26 = .ok (.aload_n 0, 1) := by decide +kernel
theorem d_H_askFree_27 : decode b_H_askFree 27 = .ok (.getfield 75, 3) := by decide +kernel
theorem d_H_askFree_30 : decode b_H_askFree 30 = .ok (.iload_n 1, 1) := by decide +kernel
theorem d_H_askFree_31 : decode b_H_askFree 31 = .ok (.invokevirtual 258, 3) := by decide +kernel
theorem d_H_askFree_34 : decode b_H_askFree 34 = .ok (.ifCond .ne 7, 3) := by decide +kernel
theorem d_H_askFree_37 : decode b_H_askFree 37 = .ok (.iconst 1, 1) := by decide +kernel
theorem d_H_askFree_38 : decode b_H_askFree 38 = .ok (.goto 4, 3) := by decide +kernel
theorem d_H_askFree_41 : decode b_H_askFree 41 = .ok (.iconst 0, 1) := by decide +kernel
theorem d_H_askFree_42 : decode b_H_askFree 42 = .ok (.invokevirtual 102, 3) := by decide +kernel
theorem d_H_askFree_45 : decode b_H_askFree 45 = .ok (.aload_n 0, 1) := by decide +kernel
theorem d_H_askFree_46 : decode b_H_askFree 46 = .ok (.bipush 14, 2) := by decide +kernel
theorem d_H_askFree_48 : decode b_H_askFree 48 = .ok (.aload_n 0, 1) := by decide +kernel
theorem d_H_askFree_49 : decode b_H_askFree 49 = .ok (.getfield 61, 3) := by decide +kernel
theorem d_H_askFree_52 : decode b_H_askFree 52 = .ok (.iload_n 1, 1) := by decide +kernel
theorem d_H_askFree_53 : decode b_H_askFree 53 = .ok (.iload_n 2, 1) := by decide +kernel
theorem d_H_askFree_54 : decode b_H_askFree 54 = .ok (.iload_n 3, 1) := by decide +kernel
theorem d_H_askFree_55 : decode b_H_askFree 55 = .ok (.invokevirtual 194, 3) := by decide +kernel
theorem d_H_askFree_58 : decode b_H_askFree 58 = .ok (.iconst (-1), 1) := by decide +kernel
theorem d_H_askFree_59 : decode b_H_askFree 59 = .ok (.if_icmp .ne 21, 3) := by decide +kernel
theorem d_H_askFree_62 : decode b_H_askFree 62 = .ok (.aload_n 0, 1) := by decide +kernel
theorem d_H_askFree_63 : decode b_H_askFree 63 = .ok (.getfield 68, 3) := by decide +kernel
theorem d_H_askFree_66 : decode b_H_askFree 66 = .ok (.iload_n 1, 1) := by decide +kernel
theorem d_H_askFree_67 : decode b_H_askFree 67 = .ok (.iload_n 2, 1) := by decide +kernel
theorem d_H_askFree_68 : decode b_H_askFree 68 = .ok (.iload_n 3, 1) := by decide +kernel
theorem d_H_askFree_69 : decode b_H_askFree 69 = .ok (.invokevirtual 264, 3) := by decide +kernel
theorem d_H_askFree_72 : decode b_H_askFree 72 = .ok (.iconst (-1), 1) := by decide +kernel
theorem d_H_askFree_73 : decode b_H_askFree 73 = .ok (.if_icmp .ne 7, 3) := by decide +kernel
theorem d_H_askFree_76 : decode b_H_askFree 76 = .ok (.iconst 1, 1) := by decide +kernel
theorem d_H_askFree_77 : decode b_H_askFree 77 = .ok (.goto 4, 3) := by decide +kernel
theorem d_H_askFree_80 : decode b_H_askFree 80 = .ok (.iconst 0, 1) := by decide +kernel
theorem d_H_askFree_81 : decode b_H_askFree 81 = .ok (.invokevirtual 102, 3) := by decide +kernel
theorem d_H_askFree_84 : decode b_H_askFree 84 = .ok (.return_, 1) := by decide +kernel
theorem d_H_placeHandle_0 : decode b_H_placeHandle 0 = .ok (.aload_n 0, 1) := by decide +kernel
theorem d_H_placeHandle_1 : decode b_H_placeHandle 1 = .ok (.getfield 47, 3) := by decide +kernel
theorem d_H_placeHandle_4 : decode b_H_placeHandle 4 = .ok (.iload_n 1, 1) := by decide +kernel
theorem d_H_placeHandle_5 : decode b_H_placeHandle 5 = .ok (.iload_n 2, 1) := by decide +kernel
theorem d_H_placeHandle_6 : decode b_H_placeHandle 6 = .ok (.invokevirtual 207, 3) := by decide +kernel
theorem d_H_placeHandle_9 : decode b_H_placeHandle 9 = .ok (.istore_n 3, 1) := by decide +kernel
theorem d_H_placeHandle_10 : decode b_H_placeHandle 10 = .ok (.iload_n 3, 1) := by decide +kernel
theorem d_H_placeHandle_11 : decode b_H_placeHandle 11 = .ok (.iconst (-1), 1) := by decide +kernel
theorem d_H_placeHandle_12 : decode b_H_placeHandle 12 = .ok (.if_icmp .ne 7, 3) := by decide +kernel
theorem d_H_placeHandle_15 : decode b_H_placeHandle 15 = .ok (.iconst 0, 1) := by decide +kernel
theorem d_H_placeHandle_16 : decode b_H_placeHandle 16 = .ok (.goto 11, 3) := by decide +kernel
theorem d_H_placeHandle_19 : decode b_H_placeHandle 19 = .ok (.aload_n 0, 1) := by decide +kernel
theorem d_H_placeHandle_20 : decode b_H_placeHandle 20 = .ok (.getfield 54, 3) := by decide +kernel
theorem d_H_placeHandle_23 : decode b_H_placeHandle 23 = .ok (.iload_n 3, 1) := by decide +kernel
theorem d_H_placeHandle_24 : decode b_H_placeHandle 24 = .ok (.invokevirtual 282, 3) := by decide +kernel
theorem d_H_placeHandle_27 : decode b_H_placeHandle 27 = .ok (.ireturn, 1) := by decide +kernel
theorem d_H_isDay_0 : decode b_H_isDay 0 = .ok (.iload_n 0, 1) := by decide +kernel
theorem d_H_isDay_1 : decode b_H_isDay 1 = .ok (.ifCond .lt 14, 3) := by decide +kernel
theorem d_H_isDay_4 : decode b_H_isDay 4 = .ok (.iload_n 0, 1) := by decide +kernel
theorem d_H_isDay_5 : decode b_H_isDay 5 = .ok (.sipush 9999, 3) := by decide +kernel
theorem d_H_isDay_8 : decode b_H_isDay 8 = .ok (.if_icmp .gt 7, 3) := by decide +kernel
theorem d_H_isDay_11 : decode b_H_isDay 11 = .ok (.iconst 1, 1) := by decide +kernel
theorem d_H_isDay_12 : decode b_H_isDay 12 = .ok (.goto 4, 3) := by decide +kernel
theorem d_H_isDay_15 : decode b_H_isDay 15 = .ok (.iconst 0, 1) := by decide +kernel
theorem d_H_isDay_16 : decode b_H_isDay 16 = .ok (.ireturn, 1) := by decide +kernel
theorem d_H_daysMeet_0 : decode b_H_daysMeet 0 = .ok (.iload_n 0, 1) := by decide +kernel
theorem d_H_daysMeet_1 : decode b_H_daysMeet 1 = .ok (.iload_n 3, 1) := by decide +kernel
theorem d_H_daysMeet_2 : decode b_H_daysMeet 2 = .ok (.if_icmp .gt 12, 3) := by decide +kernel
theorem d_H_daysMeet_5 : decode b_H_daysMeet 5 = .ok (.iload_n 2, 1) := by decide +kernel
theorem d_H_daysMeet_6 : decode b_H_daysMeet 6 = .ok (.iload_n 1, 1) := by decide +kernel
theorem d_H_daysMeet_7 : decode b_H_daysMeet 7 = .ok (.if_icmp .gt 7, 3) := by decide +kernel
theorem d_H_daysMeet_10 : decode b_H_daysMeet 10 = .ok (.iconst 1, 1) := by decide +kernel
theorem d_H_daysMeet_11 : decode b_H_daysMeet 11 = .ok (.goto 4, 3) := by decide +kernel
theorem d_H_daysMeet_14 : decode b_H_daysMeet 14 = .ok (.iconst 0, 1) := by decide +kernel
theorem d_H_daysMeet_15 : decode b_H_daysMeet 15 = .ok (.ireturn, 1) := by decide +kernel
theorem d_Cl_init_0 : decode b_Cl_init 0 = .ok (.aload_n 0, 1) := by decide +kernel
theorem d_Cl_init_1 : decode b_Cl_init 1 = .ok (.bipush 9, 2) := by decide +kernel
theorem d_Cl_init_3 : decode b_Cl_init 3 = .ok (.bipush 20, 2) := by decide +kernel
theorem d_Cl_init_5 : decode b_Cl_init 5 = .ok (.invokespecial 3, 3) := by decide +kernel
theorem d_Cl_init_8 : decode b_Cl_init 8 = .ok (.aload_n 0, 1) := by decide +kernel
theorem d_Cl_init_9 : decode b_Cl_init 9 = .ok (.bipush 20, 2) := by decide +kernel
theorem d_Cl_init_11 : decode b_Cl_init 11 = .ok (.newarray .int, 2) := by decide +kernel
theorem d_Cl_init_13 : decode b_Cl_init 13 = .ok (.putfield 9, 3) := by decide +kernel
theorem d_Cl_init_16 : decode b_Cl_init 16 = .ok (.aload_n 0, 1) := by decide +kernel
theorem d_Cl_init_17 : decode b_Cl_init 17 = .ok (.bipush 20, 2) := by decide +kernel
theorem d_Cl_init_19 : decode b_Cl_init 19 = .ok (.newarray .int, 2) := by decide +kernel
theorem d_Cl_init_21 : decode b_Cl_init 21 = .ok (.putfield 15, 3) := by decide +kernel
theorem d_Cl_init_24 : decode b_Cl_init 24 = .ok (.aload_n 0, 1) := by decide +kernel
theorem d_Cl_init_25 : decode b_Cl_init 25 = .ok (.bipush 20, 2) := by decide +kernel
theorem d_Cl_init_27 : decode b_Cl_init 27 = .ok (.newarray .boolean, 2) := by decide +kernel
theorem d_Cl_init_29 : decode b_Cl_init 29 = .ok (.putfield 18, 3) := by decide +kernel
theorem d_Cl_init_32 : decode b_Cl_init 32 = .ok (.return_, 1) := by decide +kernel
theorem d_Cl_raise_0 : decode b_Cl_raise 0 = .ok (.aload_n 0, 1) := by decide +kernel
theorem d_Cl_raise_1 : decode b_Cl_raise 1 = .ok (.invokevirtual 22, 3) := by decide +kernel
theorem d_Cl_raise_4 : decode b_Cl_raise 4 = .ok (.istore_n 3, 1) := by decide +kernel
theorem d_Cl_raise_5 : decode b_Cl_raise 5 = .ok (.aload_n 0, 1) := by decide +kernel
theorem d_Cl_raise_6 : decode b_Cl_raise 6 = .ok (.getfield 9, 3) := by decide +kernel
theorem d_Cl_raise_9 : decode b_Cl_raise 9 = .ok (.iload_n 3, 1) := by decide +kernel
theorem d_Cl_raise_10 : decode b_Cl_raise 10 = .ok (.iload_n 1, 1) := by decide +kernel
theorem d_Cl_raise_11 : decode b_Cl_raise 11 = .ok (.iastore, 1) := by decide +kernel
theorem d_Cl_raise_12 : decode b_Cl_raise 12 = .ok (.aload_n 0, 1) := by decide +kernel
theorem d_Cl_raise_13 : decode b_Cl_raise 13 = .ok (.getfield 15, 3) := by decide +kernel
theorem d_Cl_raise_16 : decode b_Cl_raise 16 = .ok (.iload_n 3, 1) := by decide +kernel
theorem d_Cl_raise_17 : decode b_Cl_raise 17 = .ok (.iload_n 2, 1) := by decide +kernel
theorem d_Cl_raise_18 : decode b_Cl_raise 18 = .ok (.iastore, 1) := by decide +kernel
theorem d_Cl_raise_19 : decode b_Cl_raise 19 = .ok (.aload_n 0, 1) := by decide +kernel
theorem d_Cl_raise_20 : decode b_Cl_raise 20 = .ok (.getfield 18, 3) := by decide +kernel
theorem d_Cl_raise_23 : decode b_Cl_raise 23 = .ok (.iload_n 3, 1) := by decide +kernel
theorem d_Cl_raise_24 : decode b_Cl_raise 24 = .ok (.iconst 1, 1) := by decide +kernel
theorem d_Cl_raise_25 : decode b_Cl_raise 25 = .ok (.bastore, 1) := by decide +kernel
theorem d_Cl_raise_26 : decode b_Cl_raise 26 = .ok (.aload_n 0, 1) := by decide +kernel
theorem d_Cl_raise_27 : decode b_Cl_raise 27 = .ok (.iload_n 3, 1) := by decide +kernel
theorem d_Cl_raise_28 : decode b_Cl_raise 28 = .ok (.invokevirtual 26, 3) := by decide +kernel
theorem d_Cl_raise_31 : decode b_Cl_raise 31 = .ok (.ireturn, 1) := by decide +kernel
theorem d_Cl_itemOf_0 : decode b_Cl_itemOf 0 = .ok (.aload_n 0, 1) := by decide +kernel
theorem d_Cl_itemOf_1 : decode b_Cl_itemOf 1 = .ok (.getfield 9, 3) := by decide +kernel
theorem d_Cl_itemOf_4 : decode b_Cl_itemOf 4 = .ok (.iload_n 1, 1) := by decide +kernel
theorem d_Cl_itemOf_5 : decode b_Cl_itemOf 5 = .ok (.iaload, 1) := by decide +kernel
theorem d_Cl_itemOf_6 : decode b_Cl_itemOf 6 = .ok (.ireturn, 1) := by decide +kernel
theorem d_Cl_isOpen_0 : decode b_Cl_isOpen 0 = .ok (.aload_n 0, 1) := by decide +kernel
theorem d_Cl_isOpen_1 : decode b_Cl_isOpen 1 = .ok (.getfield 18, 3) := by decide +kernel
theorem d_Cl_isOpen_4 : decode b_Cl_isOpen 4 = .ok (.iload_n 1, 1) := by decide +kernel
theorem d_Cl_isOpen_5 : decode b_Cl_isOpen 5 = .ok (.baload, 1) := by decide +kernel
theorem d_Cl_isOpen_6 : decode b_Cl_isOpen 6 = .ok (.ireturn, 1) := by decide +kernel
theorem d_Cl_settle_0 : decode b_Cl_settle 0 = .ok (.aload_n 0, 1) := by decide +kernel
theorem d_Cl_settle_1 : decode b_Cl_settle 1 = .ok (.getfield 18, 3) := by decide +kernel
theorem d_Cl_settle_4 : decode b_Cl_settle 4 = .ok (.iload_n 1, 1) := by decide +kernel
theorem d_Cl_settle_5 : decode b_Cl_settle 5 = .ok (.iconst 0, 1) := by decide +kernel
theorem d_Cl_settle_6 : decode b_Cl_settle 6 = .ok (.bastore, 1) := by decide +kernel
theorem d_Cl_settle_7 : decode b_Cl_settle 7 = .ok (.return_, 1) := by decide +kernel
theorem d_Cl_hasOpenOf_0 : decode b_Cl_hasOpenOf 0 = .ok (.iconst 0, 1) := by decide +kernel
theorem d_Cl_hasOpenOf_1 : decode b_Cl_hasOpenOf 1 = .ok (.istore_n 3, 1) := by decide +kernel
theorem d_Cl_hasOpenOf_2 : decode b_Cl_hasOpenOf 2 = .ok (.iload_n 3, 1) := by decide +kernel
theorem d_Cl_hasOpenOf_3 : decode b_Cl_hasOpenOf 3 = .ok (.aload_n 0, 1) := by decide +kernel
theorem d_Cl_hasOpenOf_4 : decode b_Cl_hasOpenOf 4 = .ok (.invokevirtual 30, 3) := by decide +kernel
theorem d_Cl_hasOpenOf_7 : decode b_Cl_hasOpenOf 7 = .ok (.if_icmp .ge 40, 3) := by decide +kernel
theorem d_Cl_hasOpenOf_10 : decode b_Cl_hasOpenOf 10 = .ok (.aload_n 0, 1) := by decide +kernel
theorem d_Cl_hasOpenOf_11 : decode b_Cl_hasOpenOf 11 = .ok (.getfield 18, 3) := by decide +kernel
theorem d_Cl_hasOpenOf_14 : decode b_Cl_hasOpenOf 14 = .ok (.iload_n 3, 1) := by decide +kernel
theorem d_Cl_hasOpenOf_15 : decode b_Cl_hasOpenOf 15 = .ok (.baload, 1) := by decide +kernel
theorem d_Cl_hasOpenOf_16 : decode b_Cl_hasOpenOf 16 = .ok (.ifCond .eq 25, 3) := by decide +kernel
theorem d_Cl_hasOpenOf_19 : decode b_Cl_hasOpenOf 19 = .ok (.aload_n 0, 1) := by decide +kernel
theorem d_Cl_hasOpenOf_20 : decode b_Cl_hasOpenOf 20 = .ok (.getfield 9, 3) := by decide +kernel
theorem d_Cl_hasOpenOf_23 : decode b_Cl_hasOpenOf 23 = .ok (.iload_n 3, 1) := by decide +kernel
theorem d_Cl_hasOpenOf_24 : decode b_Cl_hasOpenOf 24 = .ok (.iaload, 1) := by decide +kernel
theorem d_Cl_hasOpenOf_25 : decode b_Cl_hasOpenOf 25 = .ok (.iload_n 1, 1) := by decide +kernel
theorem d_Cl_hasOpenOf_26 : decode b_Cl_hasOpenOf 26 = .ok (.if_icmp .ne 15, 3) := by decide +kernel
theorem d_Cl_hasOpenOf_29 : decode b_Cl_hasOpenOf 29 = .ok (.aload_n 0, 1) := by decide +kernel
theorem d_Cl_hasOpenOf_30 : decode b_Cl_hasOpenOf 30 = .ok (.getfield 15, 3) := by decide +kernel
theorem d_Cl_hasOpenOf_33 : decode b_Cl_hasOpenOf 33 = .ok (.iload_n 3, 1) := by decide +kernel
theorem d_Cl_hasOpenOf_34 : decode b_Cl_hasOpenOf 34 = .ok (.iaload, 1) := by decide +kernel
theorem d_Cl_hasOpenOf_35 : decode b_Cl_hasOpenOf 35 = .ok (.iload_n 2, 1) := by decide +kernel
theorem d_Cl_hasOpenOf_36 : decode b_Cl_hasOpenOf 36 = .ok (.if_icmp .ne 5, 3) := by decide +kernel
theorem d_Cl_hasOpenOf_39 : decode b_Cl_hasOpenOf 39 = .ok (.iconst 1, 1) := by decide +kernel
theorem d_Cl_hasOpenOf_40 : decode b_Cl_hasOpenOf 40 = .ok (.ireturn, 1) := by decide +kernel
theorem d_Cl_hasOpenOf_41 : decode b_Cl_hasOpenOf 41 = .ok (.iinc 3 1, 3) := by decide +kernel
theorem d_Cl_hasOpenOf_44 : decode b_Cl_hasOpenOf 44 = .ok (.goto (-42), 3) := by decide +kernel
theorem d_Cl_hasOpenOf_47 : decode b_Cl_hasOpenOf 47 = .ok (.iconst 0, 1) := by decide +kernel
theorem d_Cl_hasOpenOf_48 : decode b_Cl_hasOpenOf 48 = .ok (.ireturn, 1) := by decide +kernel
theorem d_Cl_openFor_0 : decode b_Cl_openFor 0 = .ok (.iconst 0, 1) := by decide +kernel
theorem d_Cl_openFor_1 : decode b_Cl_openFor 1 = .ok (.istore_n 2, 1) := by decide +kernel
theorem d_Cl_openFor_2 : decode b_Cl_openFor 2 = .ok (.iconst 0, 1) := by decide +kernel
theorem d_Cl_openFor_3 : decode b_Cl_openFor 3 = .ok (.istore_n 3, 1) := by decide +kernel
theorem d_Cl_openFor_4 : decode b_Cl_openFor 4 = .ok (.iload_n 3, 1) := by decide +kernel
theorem d_Cl_openFor_5 : decode b_Cl_openFor 5 = .ok (.aload_n 0, 1) := by decide +kernel
theorem d_Cl_openFor_6 : decode b_Cl_openFor 6 = .ok (.invokevirtual 30, 3) := by decide +kernel
theorem d_Cl_openFor_9 : decode b_Cl_openFor 9 = .ok (.if_icmp .ge 31, 3) := by decide +kernel
theorem d_Cl_openFor_12 : decode b_Cl_openFor 12 = .ok (.aload_n 0, 1) := by decide +kernel
theorem d_Cl_openFor_13 : decode b_Cl_openFor 13 = .ok (.getfield 18, 3) := by decide +kernel
theorem d_Cl_openFor_16 : decode b_Cl_openFor 16 = .ok (.iload_n 3, 1) := by decide +kernel
theorem d_Cl_openFor_17 : decode b_Cl_openFor 17 = .ok (.baload, 1) := by decide +kernel
theorem d_Cl_openFor_18 : decode b_Cl_openFor 18 = .ok (.ifCond .eq 16, 3) := by decide +kernel
theorem d_Cl_openFor_21 : decode b_Cl_openFor 21 = .ok (.aload_n 0, 1) := by decide +kernel
theorem d_Cl_openFor_22 : decode b_Cl_openFor 22 = .ok (.getfield 9, 3) := by decide +kernel
theorem d_Cl_openFor_25 : decode b_Cl_openFor 25 = .ok (.iload_n 3, 1) := by decide +kernel
theorem d_Cl_openFor_26 : decode b_Cl_openFor 26 = .ok (.iaload, 1) := by decide +kernel
theorem d_Cl_openFor_27 : decode b_Cl_openFor 27 = .ok (.iload_n 1, 1) := by decide +kernel
theorem d_Cl_openFor_28 : decode b_Cl_openFor 28 = .ok (.if_icmp .ne 6, 3) := by decide +kernel
theorem d_Cl_openFor_31 : decode b_Cl_openFor 31 = .ok (.iinc 2 1, 3) := by decide +kernel
theorem d_Cl_openFor_34 : decode b_Cl_openFor 34 = .ok (.iinc 3 1, 3) := by decide +kernel
theorem d_Cl_openFor_37 : decode b_Cl_openFor 37 = .ok (.goto (-33), 3) := by decide +kernel
theorem d_Cl_openFor_40 : decode b_Cl_openFor 40 = .ok (.iload_n 2, 1) := by decide +kernel
theorem d_Cl_openFor_41 : decode b_Cl_openFor 41 = .ok (.ireturn, 1) := by decide +kernel
theorem d_Co_init_0 : decode b_Co_init 0 = .ok (.aload_n 0, 1) := by decide +kernel
theorem d_Co_init_1 : decode b_Co_init 1 = .ok (.iconst 3, 1) := by decide +kernel
theorem d_Co_init_2 : decode b_Co_init 2 = .ok (.bipush 20, 2) := by decide +kernel
theorem d_Co_init_4 : decode b_Co_init 4 = .ok (.invokespecial 3, 3) := by decide +kernel
theorem d_Co_init_7 : decode b_Co_init 7 = .ok (.aload_n 0, 1) := by decide +kernel
theorem d_Co_init_8 : decode b_Co_init 8 = .ok (.bipush 20, 2) := by decide +kernel
theorem d_Co_init_10 : decode b_Co_init 10 = .ok (.newarray .int, 2) := by decide +kernel
theorem d_Co_init_12 : decode b_Co_init 12 = .ok (.putfield 9, 3) := by decide +kernel
theorem d_Co_init_15 : decode b_Co_init 15 = .ok (.aload_n 0, 1) := by decide +kernel
theorem d_Co_init_16 : decode b_Co_init 16 = .ok (.bipush 20, 2) := by decide +kernel
theorem d_Co_init_18 : decode b_Co_init 18 = .ok (.newarray .int, 2) := by decide +kernel
theorem d_Co_init_20 : decode b_Co_init 20 = .ok (.putfield 15, 3) := by decide +kernel
theorem d_Co_init_23 : decode b_Co_init 23 = .ok (.aload_n 0, 1) := by decide +kernel
theorem d_Co_init_24 : decode b_Co_init 24 = .ok (.bipush 20, 2) := by decide +kernel
theorem d_Co_init_26 : decode b_Co_init 26 = .ok (.newarray .int, 2) := by decide +kernel
theorem d_Co_init_28 : decode b_Co_init 28 = .ok (.putfield 18, 3) := by decide +kernel
theorem d_Co_init_31 : decode b_Co_init 31 = .ok (.aload_n 0, 1) := by decide +kernel
theorem d_Co_init_32 : decode b_Co_init 32 = .ok (.bipush 20, 2) := by decide +kernel
theorem d_Co_init_34 : decode b_Co_init 34 = .ok (.newarray .int, 2) := by decide +kernel
theorem d_Co_init_36 : decode b_Co_init 36 = .ok (.putfield 21, 3) := by decide +kernel
theorem d_Co_init_39 : decode b_Co_init 39 = .ok (.return_, 1) := by decide +kernel
theorem d_Co_dig_0 : decode b_Co_dig 0 = .ok (.aload_n 0, 1) := by decide +kernel
theorem d_Co_dig_1 : decode b_Co_dig 1 = .ok (.invokevirtual 24, 3) := by decide +kernel
theorem d_Co_dig_4 : decode b_Co_dig 4 = .ok (.istore_n 2, 1) := by decide +kernel
theorem d_Co_dig_5 : decode b_Co_dig 5 = .ok (.aload_n 0, 1) := by decide +kernel
theorem d_Co_dig_6 : decode b_Co_dig 6 = .ok (.getfield 9, 3) := by decide +kernel
theorem d_Co_dig_9 : decode b_Co_dig 9 = .ok (.iload_n 2, 1) := by decide +kernel
theorem d_Co_dig_10 : decode b_Co_dig 10 = .ok (.iload_n 1, 1) := by decide +kernel
theorem d_Co_dig_11 : decode b_Co_dig 11 = .ok (.iastore, 1) := by decide +kernel
theorem d_Co_dig_12 : decode b_Co_dig 12 = .ok (.aload_n 0, 1) := by decide +kernel
theorem d_Co_dig_13 : decode b_Co_dig 13 = .ok (.getfield 15, 3) := by decide +kernel
theorem d_Co_dig_16 : decode b_Co_dig 16 = .ok (.iload_n 2, 1) := by decide +kernel
theorem d_Co_dig_17 : decode b_Co_dig 17 = .ok (.iconst 0, 1) := by decide +kernel
theorem d_Co_dig_18 : decode b_Co_dig 18 = .ok (.iastore, 1) := by decide +kernel
theorem d_Co_dig_19 : decode b_Co_dig 19 = .ok (.aload_n 0, 1) := by decide +kernel
theorem d_Co_dig_20 : decode b_Co_dig 20 = .ok (.getfield 18, 3) := by decide +kernel
theorem d_Co_dig_23 : decode b_Co_dig 23 = .ok (.iload_n 2, 1) := by decide +kernel
theorem d_Co_dig_24 : decode b_Co_dig 24 = .ok (.sipush 999, 3) := by decide +kernel
theorem d_Co_dig_27 : decode b_Co_dig 27 = .ok (.iastore, 1) := by decide +kernel
theorem d_Co_dig_28 : decode b_Co_dig 28 = .ok (.aload_n 0, 1) := by decide +kernel
theorem d_Co_dig_29 : decode b_Co_dig 29 = .ok (.getfield 21, 3) := by decide +kernel
theorem d_Co_dig_32 : decode b_Co_dig 32 = .ok (.iload_n 2, 1) := by decide +kernel
theorem d_Co_dig_33 : decode b_Co_dig 33 = .ok (.iconst 0, 1) := by decide +kernel
theorem d_Co_dig_34 : decode b_Co_dig 34 = .ok (.iastore, 1) := by decide +kernel
theorem d_Co_dig_35 : decode b_Co_dig 35 = .ok (.aload_n 0, 1) := by decide +kernel
theorem d_Co_dig_36 : decode b_Co_dig 36 = .ok (.iload_n 2, 1) := by decide +kernel
theorem d_Co_dig_37 : decode b_Co_dig 37 = .ok (.invokevirtual 28, 3) := by decide +kernel
theorem d_Co_dig_40 : decode b_Co_dig 40 = .ok (.ireturn, 1) := by decide +kernel
theorem d_Co_siteOf_0 : decode b_Co_siteOf 0 = .ok (.aload_n 0, 1) := by decide +kernel
theorem d_Co_siteOf_1 : decode b_Co_siteOf 1 = .ok (.getfield 9, 3) := by decide +kernel
theorem d_Co_siteOf_4 : decode b_Co_siteOf 4 = .ok (.iload_n 1, 1) := by decide +kernel
theorem d_Co_siteOf_5 : decode b_Co_siteOf 5 = .ok (.iaload, 1) := by decide +kernel
theorem d_Co_siteOf_6 : decode b_Co_siteOf 6 = .ok (.ireturn, 1) := by decide +kernel
theorem d_Co_isOver_0 : decode b_Co_isOver 0 = .ok (.aload_n 0, 1) := by decide +kernel
theorem d_Co_isOver_1 : decode b_Co_isOver 1 = .ok (.getfield 21, 3) := by decide +kernel
theorem d_Co_isOver_4 : decode b_Co_isOver 4 = .ok (.iload_n 1, 1) := by decide +kernel
theorem d_Co_isOver_5 : decode b_Co_isOver 5 = .ok (.iaload, 1) := by decide +kernel
theorem d_Co_isOver_6 : decode b_Co_isOver 6 = .ok (.iconst 1, 1) := by decide +kernel
theorem d_Co_isOver_7 : decode b_Co_isOver 7 = .ok (.iload_n 2, 1) := by decide +kernel
theorem d_Co_isOver_8 : decode b_Co_isOver 8 = .ok (.ishl, 1) := by decide +kernel
theorem d_Co_isOver_9 : decode b_Co_isOver 9 = .ok (.iand, 1) := by decide +kernel
theorem d_Co_isOver_10 : decode b_Co_isOver 10 = .ok (.ifCond .eq 7, 3) := by decide +kernel
theorem d_Co_isOver_13 : decode b_Co_isOver 13 = .ok (.iconst 1, 1) := by decide +kernel
theorem d_Co_isOver_14 : decode b_Co_isOver 14 = .ok (.goto 4, 3) := by decide +kernel
theorem d_Co_isOver_17 : decode b_Co_isOver 17 = .ok (.iconst 0, 1) := by decide +kernel
theorem d_Co_isOver_18 : decode b_Co_isOver 18 = .ok (.ireturn, 1) := by decide +kernel
theorem d_Co_putOver_0 : decode b_Co_putOver 0 = .ok (.aload_n 0, 1) := by decide +kernel
theorem d_Co_putOver_1 : decode b_Co_putOver 1 = .ok (.getfield 21, 3) := by decide +kernel
theorem d_Co_putOver_4 : decode b_Co_putOver 4 = .ok (.iload_n 2, 1) := by decide +kernel
theorem d_Co_putOver_5 : decode b_Co_putOver 5 = .ok (.iaload, 1) := by decide +kernel
theorem d_Co_putOver_6 : decode b_Co_putOver 6 = .ok (.iconst 1, 1) := by decide +kernel
theorem d_Co_putOver_7 : decode b_Co_putOver 7 = .ok (.iload_n 2, 1) := by decide +kernel
theorem d_Co_putOver_8 : decode b_Co_putOver 8 = .ok (.ishl, 1) := by decide +kernel
theorem d_Co_putOver_9 : decode b_Co_putOver 9 = .ok (.ior, 1) := by decide +kernel
theorem d_Co_putOver_10 : decode b_Co_putOver 10 = .ok (.istore_n 3, 1) := by decide +kernel
theorem d_Co_putOver_11 : decode b_Co_putOver 11 = .ok (.iconst 0, 1) := by decide +kernel
theorem d_Co_putOver_12 : decode b_Co_putOver 12 = .ok (.istore 4, 2) := by decide +kernel
theorem d_Co_putOver_14 : decode b_Co_putOver 14 = .ok (.iload 4, 2) := by decide +kernel
theorem d_Co_putOver_16 : decode b_Co_putOver 16 = .ok (.aload_n 0, 1) := by decide +kernel
theorem d_Co_putOver_17 : decode b_Co_putOver 17 = .ok (.invokevirtual 32, 3) := by decide +kernel
theorem d_Co_putOver_20 : decode b_Co_putOver 20 = .ok (.if_icmp .ge 36, 3) := by decide +kernel
theorem d_Co_putOver_23 : decode b_Co_putOver 23 = .ok (.iload 4, 2) := by decide +kernel
theorem d_Co_putOver_25 : decode b_Co_putOver 25 = .ok (.iload_n 1, 1) := by decide +kernel
theorem d_Co_putOver_26 : decode b_Co_putOver 26 = .ok (.if_icmp .eq 13, 3) := by decide +kernel
theorem d_Co_putOver_29 : decode b_Co_putOver 29 = .ok (.aload_n 0, 1) := by decide +kernel
theorem d_Co_putOver_30 : decode b_Co_putOver 30 = .ok (.iload 4, 2) := by decide +kernel
theorem d_Co_putOver_32 : decode b_Co_putOver 32 = .ok (.iload_n 1, 1) := by decide +kernel
theorem d_Co_putOver_33 : decode b_Co_putOver 33 = .ok (.invokevirtual 35, 3) := by decide +kernel
theorem d_Co_putOver_36 : decode b_Co_putOver 36 = .ok (.ifCond .eq 14, 3) := by decide +kernel
theorem d_Co_putOver_39 : decode b_Co_putOver 39 = .ok (.aload_n 0, 1) := by decide +kernel
theorem d_Co_putOver_40 : decode b_Co_putOver 40 = .ok (.getfield 21, 3) := by decide +kernel
theorem d_Co_putOver_43 : decode b_Co_putOver 43 = .ok (.iload 4, 2) := by decide +kernel
theorem d_Co_putOver_45 : decode b_Co_putOver 45 = .ok (.dup2, 1) := by decide +kernel
theorem d_Co_putOver_46 : decode b_Co_putOver 46 = .ok (.iaload, 1) := by decide +kernel
theorem d_Co_putOver_47 : decode b_Co_putOver 47 = .ok (.iload_n 3, 1) := by decide +kernel
theorem d_Co_putOver_48 : decode b_Co_putOver 48 = .ok (.ior, 1) := by decide +kernel
theorem d_Co_putOver_49 : decode b_Co_putOver 49 = .ok (.iastore, 1) := by decide +kernel
theorem d_Co_putOver_50 : decode b_Co_putOver 50 = .ok (.iinc 4 1, 3) := by decide +kernel
theorem d_Co_putOver_53 : decode b_Co_putOver 53 = .ok (.goto (-39), 3) := by decide +kernel
theorem d_Co_putOver_56 : decode b_Co_putOver 56 = .ok (.return_, 1) := by decide +kernel
theorem d_Co_setSpan_0 : decode b_Co_setSpan 0 = .ok (.aload_n 0, 1) := by decide +kernel
theorem d_Co_setSpan_1 : decode b_Co_setSpan 1 = .ok (.getfield 15, 3) := by decide +kernel
theorem d_Co_setSpan_4 : decode b_Co_setSpan 4 = .ok (.iload_n 1, 1) := by decide +kernel
theorem d_Co_setSpan_5 : decode b_Co_setSpan 5 = .ok (.iload_n 2, 1) := by decide +kernel
theorem d_Co_setSpan_6 : decode b_Co_setSpan 6 = .ok (.iastore, 1) := by decide +kernel
theorem d_Co_setSpan_7 : decode b_Co_setSpan 7 = .ok (.aload_n 0, 1) := by decide +kernel
theorem d_Co_setSpan_8 : decode b_Co_setSpan 8 = .ok (.getfield 18, 3) := by decide +kernel
theorem d_Co_setSpan_11 : decode b_Co_setSpan 11 = .ok (.iload_n 1, 1) := by decide +kernel
theorem d_Co_setSpan_12 : decode b_Co_setSpan 12 = .ok (.iload_n 3, 1) := by decide +kernel
theorem d_Co_setSpan_13 : decode b_Co_setSpan 13 = .ok (.iastore, 1) := by decide +kernel
theorem d_Co_setSpan_14 : decode b_Co_setSpan 14 = .ok (.return_, 1) := by decide +kernel
theorem d_Co_earliest_0 : decode b_Co_earliest 0 = .ok (.aload_n 0, 1) := by decide +kernel
theorem d_Co_earliest_1 : decode b_Co_earliest 1 = .ok (.getfield 15, 3) := by decide +kernel
theorem d_Co_earliest_4 : decode b_Co_earliest 4 = .ok (.iload_n 1, 1) := by decide +kernel
theorem d_Co_earliest_5 : decode b_Co_earliest 5 = .ok (.iaload, 1) := by decide +kernel
theorem d_Co_earliest_6 : decode b_Co_earliest 6 = .ok (.aload_n 0, 1) := by decide +kernel
theorem d_Co_earliest_7 : decode b_Co_earliest 7 = .ok (.iload_n 1, 1) := by decide +kernel
theorem d_Co_earliest_8 : decode b_Co_earliest 8 = .ok (.invokevirtual 39, 3) := by decide +kernel
theorem d_Co_earliest_11 : decode b_Co_earliest 11 = .ok (.invokestatic 42, 3) := by decide +kernel
theorem d_Co_earliest_14 : decode b_Co_earliest 14 = .ok (.ireturn, 1) := by decide +kernel
theorem d_Co_latest_0 : decode b_Co_latest 0 = .ok (.aload_n 0, 1) := by decide +kernel
theorem d_Co_latest_1 : decode b_Co_latest 1 = .ok (.getfield 18, 3) := by decide +kernel
theorem d_Co_latest_4 : decode b_Co_latest 4 = .ok (.iload_n 1, 1) := by decide +kernel
theorem d_Co_latest_5 : decode b_Co_latest 5 = .ok (.iaload, 1) := by decide +kernel
theorem d_Co_latest_6 : decode b_Co_latest 6 = .ok (.aload_n 0, 1) := by decide +kernel
theorem d_Co_latest_7 : decode b_Co_latest 7 = .ok (.iload_n 1, 1) := by decide +kernel
theorem d_Co_latest_8 : decode b_Co_latest 8 = .ok (.invokevirtual 48, 3) := by decide +kernel
theorem d_Co_latest_11 : decode b_Co_latest 11 = .ok (.invokestatic 51, 3) := by decide +kernel
theorem d_Co_latest_14 : decode b_Co_latest 14 = .ok (.ireturn, 1) := by decide +kernel
theorem d_Co_yearsLetOver_0 : decode b_Co_yearsLetOver 0 = .ok (.aload_n 0, 1) := by decide +kernel
theorem d_Co_yearsLetOver_1 : decode b_Co_yearsLetOver 1 = .ok (.iload_n 2, 1) := by decide +kernel
theorem d_Co_yearsLetOver_2 : decode b_Co_yearsLetOver 2 = .ok (.invokevirtual 54, 3) := by decide +kernel
theorem d_Co_yearsLetOver_5 : decode b_Co_yearsLetOver 5 = .ok (.aload_n 0, 1) := by decide +kernel
theorem d_Co_yearsLetOver_6 : decode b_Co_yearsLetOver 6 = .ok (.iload_n 1, 1) := by decide +kernel
theorem d_Co_yearsLetOver_7 : decode b_Co_yearsLetOver 7 = .ok (.invokevirtual 57, 3) := by decide +kernel
theorem d_Co_yearsLetOver_10 : decode b_Co_yearsLetOver 10 = .ok (.if_icmp .gt 7, 3) := by decide +kernel
theorem d_Co_yearsLetOver_13 : decode b_Co_yearsLetOver 13 = .ok (.iconst 1, 1) := by decide +kernel
theorem d_Co_yearsLetOver_14 : decode b_Co_yearsLetOver 14 = .ok (.goto 4, 3) := by decide +kernel
theorem d_Co_yearsLetOver_17 : decode b_Co_yearsLetOver 17 = .ok (.iconst 0, 1) := by decide +kernel
theorem d_Co_yearsLetOver_18 : decode b_Co_yearsLetOver 18 = .ok (.ireturn, 1) := by decide +kernel
theorem d_Co_yearsLetSpan_0 : decode b_Co_yearsLetSpan 0 = .ok (.aload_n 0, 1) := by decide +kernel
theorem d_Co_yearsLetSpan_1 : decode b_Co_yearsLetSpan 1 = .ok (.iload_n 1, 1) := by decide +kernel
theorem d_Co_yearsLetSpan_2 : decode b_Co_yearsLetSpan 2 = .ok (.invokevirtual 39, 3) := by decide +kernel
theorem d_Co_yearsLetSpan_5 : decode b_Co_yearsLetSpan 5 = .ok (.iload_n 3, 1) := by decide +kernel
theorem d_Co_yearsLetSpan_6 : decode b_Co_yearsLetSpan 6 = .ok (.if_icmp .gt 16, 3) := by decide +kernel
theorem d_Co_yearsLetSpan_9 : decode b_Co_yearsLetSpan 9 = .ok (.iload_n 2, 1) := by decide +kernel
theorem d_Co_yearsLetSpan_10 : decode b_Co_yearsLetSpan 10 = .ok (.aload_n 0, 1) := by decide +kernel
theorem d_Co_yearsLetSpan_11 : decode b_Co_yearsLetSpan 11 = .ok (.iload_n 1, 1) := by decide +kernel
theorem d_Co_yearsLetSpan_12 : decode b_Co_yearsLetSpan 12 = .ok (.invokevirtual 48, 3) := by decide +kernel
theorem d_Co_yearsLetSpan_15 : decode b_Co_yearsLetSpan 15 = .ok (.if_icmp .gt 7, 3) := by decide +kernel
theorem d_Co_yearsLetSpan_18 : decode b_Co_yearsLetSpan 18 = .ok (.iconst 1, 1) := by decide +kernel
theorem d_Co_yearsLetSpan_19 : decode b_Co_yearsLetSpan 19 = .ok (.goto 4, 3) := by decide +kernel
theorem d_Co_yearsLetSpan_22 : decode b_Co_yearsLetSpan 22 = .ok (.iconst 0, 1) := by decide +kernel
theorem d_Co_yearsLetSpan_23 : decode b_Co_yearsLetSpan 23 = .ok (.ireturn, 1) := by decide +kernel
theorem d_Co_greatestFirstBelow_0 : decode b_Co_greatestFirstBelow 0 = .ok (.iconst 0, 1) := by decide +kernel
theorem d_Co_greatestFirstBelow_1 : decode b_Co_greatestFirstBelow 1 = .ok (.istore_n 2, 1) := by decide +kernel
theorem d_Co_greatestFirstBelow_2 : decode b_Co_greatestFirstBelow 2 = .ok (.iconst 0, 1) := by decide +kernel
theorem d_Co_greatestFirstBelow_3 : decode b_Co_greatestFirstBelow 3 = .ok (.istore_n 3, 1) := by decide +kernel
theorem d_Co_greatestFirstBelow_4 : decode b_Co_greatestFirstBelow 4 = .ok (.iload_n 3, 1) := by decide +kernel
theorem d_Co_greatestFirstBelow_5 : decode b_Co_greatestFirstBelow 5 = .ok (.aload_n 0, 1) := by decide +kernel
theorem d_Co_greatestFirstBelow_6 : decode b_Co_greatestFirstBelow 6 = .ok (.invokevirtual 32, 3) := by decide +kernel
theorem d_Co_greatestFirstBelow_9 : decode b_Co_greatestFirstBelow 9 = .ok (.if_icmp .ge 29, 3) := by decide +kernel
theorem d_Co_greatestFirstBelow_12 : decode b_Co_greatestFirstBelow 12 = .ok (.aload_n 0, 1) := by decide +kernel
theorem d_Co_greatestFirstBelow_13 : decode b_Co_greatestFirstBelow 13 = .ok (.iload_n 1, 1) := by decide +kernel
theorem d_Co_greatestFirstBelow_14 : decode b_Co_greatestFirstBelow 14 = .ok (.iload_n 3, 1) := by decide +kernel
theorem d_Co_greatestFirstBelow_15 : decode b_Co_greatestFirstBelow 15 = .ok (.invokevirtual 35, 3) := by decide +kernel
theorem d_Co_greatestFirstBelow_18 : decode b_Co_greatestFirstBelow 18 = .ok (.ifCond .eq 14, 3) := by decide +kernel
theorem d_Co_greatestFirstBelow_21 : decode b_Co_greatestFirstBelow 21 = .ok (.iload_n 2, 1) := by decide +kernel
theorem d_Co_greatestFirstBelow_22 : decode b_Co_greatestFirstBelow 22 = .ok (.aload_n 0, 1) := by decide +kernel
theorem d_Co_greatestFirstBelow_23 : decode b_Co_greatestFirstBelow 23 = .ok (.getfield 15, 3) := by decide +kernel
theorem d_Co_greatestFirstBelow_26 : decode b_Co_greatestFirstBelow 26 = .ok (.iload_n 3, 1) := by decide +kernel
theorem d_Co_greatestFirstBelow_27 : decode b_Co_greatestFirstBelow 27 = .ok (.iaload, 1) := by decide +kernel
theorem d_Co_greatestFirstBelow_28 : decode b_Co_greatestFirstBelow 28 = .ok (.invokestatic 42, 3) := by decide +kernel
theorem d_Co_greatestFirstBelow_31 : decode b_Co_greatestFirstBelow 31 = .ok (.istore_n 2, 1) := by decide +kernel
theorem d_Co_greatestFirstBelow_32 : decode b_Co_greatestFirstBelow 32 = .ok (.iinc 3 1, 3) := by decide +kernel
theorem d_Co_greatestFirstBelow_35 : decode b_Co_greatestFirstBelow 35 = .ok (.goto (-31), 3) := by decide +kernel
theorem d_Co_greatestFirstBelow_38 : decode b_Co_greatestFirstBelow 38 = .ok (.iload_n 2, 1) := by decide +kernel
theorem d_Co_greatestFirstBelow_39 : decode b_Co_greatestFirstBelow 39 = .ok (.ireturn, 1) := by decide +kernel
theorem d_Co_leastLastAbove_0 : decode b_Co_leastLastAbove 0 = .ok (.sipush 999, 3) := by decide +kernel
theorem d_Co_leastLastAbove_3 : decode b_Co_leastLastAbove 3 = .ok (.istore_n 2, 1) := by decide +kernel
theorem d_Co_leastLastAbove_4 : decode b_Co_leastLastAbove 4 = .ok (.iconst 0, 1) := by decide +kernel
theorem d_Co_leastLastAbove_5 : decode b_Co_leastLastAbove 5 = .ok (.istore_n 3, 1) := by decide +kernel
theorem d_Co_leastLastAbove_6 : decode b_Co_leastLastAbove 6 = .ok (.iload_n 3, 1) := by decide +kernel
theorem d_Co_leastLastAbove_7 : decode b_Co_leastLastAbove 7 = .ok (.aload_n 0, 1) := by decide +kernel
theorem d_Co_leastLastAbove_8 : decode b_Co_leastLastAbove 8 = .ok (.invokevirtual 32, 3) := by decide +kernel
theorem d_Co_leastLastAbove_11 : decode b_Co_leastLastAbove 11 = .ok (.if_icmp .ge 29, 3) := by decide +kernel
theorem d_Co_leastLastAbove_14 : decode b_Co_leastLastAbove 14 = .ok (.aload_n 0, 1) := by decide +kernel
theorem d_Co_leastLastAbove_15 : decode b_Co_leastLastAbove 15 = .ok (.iload_n 3, 1) := by decide +kernel
theorem d_Co_leastLastAbove_16 : decode b_Co_leastLastAbove 16 = .ok (.iload_n 1, 1) := by decide +kernel
theorem d_Co_leastLastAbove_17 : decode b_Co_leastLastAbove 17 = .ok (.invokevirtual 35, 3) := by decide +kernel
theorem d_Co_leastLastAbove_20 : decode b_Co_leastLastAbove 20 = .ok (.ifCond .eq 14, 3) := by decide +kernel
theorem d_Co_leastLastAbove_23 : decode b_Co_leastLastAbove 23 = .ok (.iload_n 2, 1) := by decide +kernel
theorem d_Co_leastLastAbove_24 : decode b_Co_leastLastAbove 24 = .ok (.aload_n 0, 1) := by decide +kernel
theorem d_Co_leastLastAbove_25 : decode b_Co_leastLastAbove 25 = .ok (.getfield 18, 3) := by decide +kernel
theorem d_Co_leastLastAbove_28 : decode b_Co_leastLastAbove 28 = .ok (.iload_n 3, 1) := by decide +kernel
theorem d_Co_leastLastAbove_29 : decode b_Co_leastLastAbove 29 = .ok (.iaload, 1) := by decide +kernel
theorem d_Co_leastLastAbove_30 : decode b_Co_leastLastAbove 30 = .ok (.invokestatic 51, 3) := by decide +kernel
theorem d_Co_leastLastAbove_33 : decode b_Co_leastLastAbove 33 = .ok (.istore_n 2, 1) := by decide +kernel
theorem d_Co_leastLastAbove_34 : decode b_Co_leastLastAbove 34 = .ok (.iinc 3 1, 3) := by decide +kernel
theorem d_Co_leastLastAbove_37 : decode b_Co_leastLastAbove 37 = .ok (.goto (-31), 3) := by decide +kernel
theorem d_Co_leastLastAbove_40 : decode b_Co_leastLastAbove 40 = .ok (.iload_n 2, 1) := by decide +kernel
theorem d_Co_leastLastAbove_41 : decode b_Co_leastLastAbove 41 = .ok (.ireturn, 1) := by decide +kernel
theorem d_De_init_0 : decode b_De_init 0 = .ok (.aload_n 0, 1) := by decide +kernel
theorem d_De_init_1 : decode b_De_init 1 = .ok (.iconst 1, 1) := by decide +kernel
theorem d_De_init_2 : decode b_De_init 2 = .ok (.bipush 6, 2) := by decide +kernel
theorem d_De_init_4 : decode b_De_init 4 = .ok (.invokespecial 3, 3) := by decide +kernel
theorem d_De_init_7 : decode b_De_init 7 = .ok (.aload_n 0, 1) := by decide +kernel
theorem d_De_init_8 : decode b_De_init 8 = .ok (.bipush 6, 2) := by decide +kernel
theorem d_De_init_10 : decode b_De_init 10 = .ok (.newarray .int, 2) := by decide +kernel
theorem d_De_init_12 : decode b_De_init 12 = .ok (.putfield 9, 3) := by decide +kernel
theorem d_De_init_15 : decode b_De_init 15 = .ok (.aload_n 0, 1) := by decide +kernel
theorem d_De_init_16 : decode b_De_init 16 = .ok (.getfield 9, 3) := by decide +kernel
theorem d_De_init_19 : decode b_De_init 19 = .ok (.aload_n 0, 1) := by decide +kernel
theorem d_De_init_20 : decode b_De_init 20 = .ok (.invokevirtual 15, 3) := by decide +kernel
theorem d_De_init_23 : decode b_De_init 23 = .ok (.bipush 63, 2) := by decide +kernel
theorem d_De_init_25 : decode b_De_init 25 = .ok (.iastore, 1) := by decide +kernel
theorem d_De_init_26 : decode b_De_init 26 = .ok (.return_, 1) := by decide +kernel
theorem d_De_open_0 : decode b_De_open 0 = .ok (.aload_n 0, 1) := by decide +kernel
theorem d_De_open_1 : decode b_De_open 1 = .ok (.invokevirtual 15, 3) := by decide +kernel
theorem d_De_open_4 : decode b_De_open 4 = .ok (.istore_n 2, 1) := by decide +kernel
theorem d_De_open_5 : decode b_De_open 5 = .ok (.aload_n 0, 1) := by decide +kernel
theorem d_De_open_6 : decode b_De_open 6 = .ok (.getfield 9, 3) := by decide +kernel
theorem d_De_open_9 : decode b_De_open 9 = .ok (.iload_n 2, 1) := by decide +kernel
theorem d_De_open_10 : decode b_De_open 10 = .ok (.iload_n 1, 1) := by decide +kernel
theorem d_De_open_11 : decode b_De_open 11 = .ok (.iastore, 1) := by decide +kernel
theorem d_De_open_12 : decode b_De_open 12 = .ok (.aload_n 0, 1) := by decide +kernel
theorem d_De_open_13 : decode b_De_open 13 = .ok (.iload_n 2, 1) := by decide +kernel
theorem d_De_open_14 : decode b_De_open 14 = .ok (.invokevirtual 19, 3) := by decide +kernel
theorem d_De_open_17 : decode b_De_open 17 = .ok (.ireturn, 1) := by decide +kernel
theorem d_De_hasAll_0 : decode b_De_hasAll 0 = .ok (.aload_n 0, 1) := by decide +kernel
theorem d_De_hasAll_1 : decode b_De_hasAll 1 = .ok (.getfield 9, 3) := by decide +kernel
theorem d_De_hasAll_4 : decode b_De_hasAll 4 = .ok (.iload_n 1, 1) := by decide +kernel
theorem d_De_hasAll_5 : decode b_De_hasAll 5 = .ok (.iaload, 1) := by decide +kernel
theorem d_De_hasAll_6 : decode b_De_hasAll 6 = .ok (.iload_n 2, 1) := by decide +kernel
theorem d_De_hasAll_7 : decode b_De_hasAll 7 = .ok (.iand, 1) := by decide +kernel
theorem d_De_hasAll_8 : decode b_De_hasAll 8 = .ok (.iload_n 2, 1) := by decide +kernel
theorem d_De_hasAll_9 : decode b_De_hasAll 9 = .ok (.if_icmp .ne 7, 3) := by decide +kernel
theorem d_De_hasAll_12 : decode b_De_hasAll 12 = .ok (.iconst 1, 1) := by decide +kernel
theorem d_De_hasAll_13 : decode b_De_hasAll 13 = .ok (.goto 4, 3) := by decide +kernel
theorem d_De_hasAll_16 : decode b_De_hasAll 16 = .ok (.iconst 0, 1) := by decide +kernel
theorem d_De_hasAll_17 : decode b_De_hasAll 17 = .ok (.ireturn, 1) := by decide +kernel
theorem d_Fi_init_0 : decode b_Fi_init 0 = .ok (.aload_n 0, 1) := by decide +kernel
theorem d_Fi_init_1 : decode b_Fi_init 1 = .ok (.iconst 4, 1) := by decide +kernel
theorem d_Fi_init_2 : decode b_Fi_init 2 = .ok (.bipush 30, 2) := by decide +kernel
theorem d_Fi_init_4 : decode b_Fi_init 4 = .ok (.invokespecial 3, 3) := by decide +kernel
theorem d_Fi_init_7 : decode b_Fi_init 7 = .ok (.aload_n 0, 1) := by decide +kernel
theorem d_Fi_init_8 : decode b_Fi_init 8 = .ok (.bipush 30, 2) := by decide +kernel
theorem d_Fi_init_10 : decode b_Fi_init 10 = .ok (.newarray .int, 2) := by decide +kernel
theorem d_Fi_init_12 : decode b_Fi_init 12 = .ok (.putfield 9, 3) := by decide +kernel
theorem d_Fi_init_15 : decode b_Fi_init 15 = .ok (.aload_n 0, 1) := by decide +kernel
theorem d_Fi_init_16 : decode b_Fi_init 16 = .ok (.bipush 30, 2) := by decide +kernel
theorem d_Fi_init_18 : decode b_Fi_init 18 = .ok (.newarray .int, 2) := by decide +kernel
theorem d_Fi_init_20 : decode b_Fi_init 20 = .ok (.putfield 15, 3) := by decide +kernel
theorem d_Fi_init_23 : decode b_Fi_init 23 = .ok (.return_, 1) := by decide +kernel
theorem d_Fi_bringUp_0 : decode b_Fi_bringUp 0 = .ok (.aload_n 0, 1) := by decide +kernel
theorem d_Fi_bringUp_1 : decode b_Fi_bringUp 1 = .ok (.invokevirtual 18, 3) := by decide +kernel
theorem d_Fi_bringUp_4 : decode b_Fi_bringUp 4 = .ok (.istore_n 3, 1) := by decide +kernel
theorem d_Fi_bringUp_5 : decode b_Fi_bringUp 5 = .ok (.aload_n 0, 1) := by decide +kernel
theorem d_Fi_bringUp_6 : decode b_Fi_bringUp 6 = .ok (.getfield 9, 3) := by decide +kernel
theorem d_Fi_bringUp_9 : decode b_Fi_bringUp 9 = .ok (.iload_n 3, 1) := by decide +kernel
theorem d_Fi_bringUp_10 : decode b_Fi_bringUp 10 = .ok (.iload_n 1, 1) := by decide +kernel
theorem d_Fi_bringUp_11 : decode b_Fi_bringUp 11 = .ok (.iastore, 1) := by decide +kernel
theorem d_Fi_bringUp_12 : decode b_Fi_bringUp 12 = .ok (.aload_n 0, 1) := by decide +kernel
theorem d_Fi_bringUp_13 : decode b_Fi_bringUp 13 = .ok (.getfield 15, 3) := by decide +kernel
theorem d_Fi_bringUp_16 : decode b_Fi_bringUp 16 = .ok (.iload_n 3, 1) := by decide +kernel
theorem d_Fi_bringUp_17 : decode b_Fi_bringUp 17 = .ok (.iload_n 2, 1) := by decide +kernel
theorem d_Fi_bringUp_18 : decode b_Fi_bringUp 18 = .ok (.iastore, 1) := by decide +kernel
theorem d_Fi_bringUp_19 : decode b_Fi_bringUp 19 = .ok (.aload_n 0, 1) := by decide +kernel
theorem d_Fi_bringUp_20 : decode b_Fi_bringUp 20 = .ok (.iload_n 3, 1) := by decide +kernel
theorem d_Fi_bringUp_21 : decode b_Fi_bringUp 21 = .ok (.invokevirtual 22, 3) := by decide +kernel
theorem d_Fi_bringUp_24 : decode b_Fi_bringUp 24 = .ok (.ireturn, 1) := by decide +kernel
theorem d_Fi_contextOf_0 : decode b_Fi_contextOf 0 = .ok (.aload_n 0, 1) := by decide +kernel
theorem d_Fi_contextOf_1 : decode b_Fi_contextOf 1 = .ok (.getfield 9, 3) := by decide +kernel
theorem d_Fi_contextOf_4 : decode b_Fi_contextOf 4 = .ok (.iload_n 1, 1) := by decide +kernel
theorem d_Fi_contextOf_5 : decode b_Fi_contextOf 5 = .ok (.iaload, 1) := by decide +kernel
theorem d_Fi_contextOf_6 : decode b_Fi_contextOf 6 = .ok (.ireturn, 1) := by decide +kernel
theorem d_Fi_dayOf_0 : decode b_Fi_dayOf 0 = .ok (.aload_n 0, 1) := by decide +kernel
theorem d_Fi_dayOf_1 : decode b_Fi_dayOf 1 = .ok (.getfield 15, 3) := by decide +kernel
theorem d_Fi_dayOf_4 : decode b_Fi_dayOf 4 = .ok (.iload_n 1, 1) := by decide +kernel
theorem d_Fi_dayOf_5 : decode b_Fi_dayOf 5 = .ok (.iaload, 1) := by decide +kernel
theorem d_Fi_dayOf_6 : decode b_Fi_dayOf 6 = .ok (.ireturn, 1) := by decide +kernel
theorem d_It_init_0 : decode b_It_init 0 = .ok (.aload_n 0, 1) := by decide +kernel
theorem d_It_init_1 : decode b_It_init 1 = .ok (.iconst 5, 1) := by decide +kernel
theorem d_It_init_2 : decode b_It_init 2 = .ok (.bipush 30, 2) := by decide +kernel
theorem d_It_init_4 : decode b_It_init 4 = .ok (.invokespecial 3, 3) := by decide +kernel
theorem d_It_init_7 : decode b_It_init 7 = .ok (.aload_n 0, 1) := by decide +kernel
theorem d_It_init_8 : decode b_It_init 8 = .ok (.bipush 30, 2) := by decide +kernel
theorem d_It_init_10 : decode b_It_init 10 = .ok (.newarray .int, 2) := by decide +kernel
theorem d_It_init_12 : decode b_It_init 12 = .ok (.putfield 9, 3) := by decide +kernel
theorem d_It_init_15 : decode b_It_init 15 = .ok (.aload_n 0, 1) := by decide +kernel
theorem d_It_init_16 : decode b_It_init 16 = .ok (.bipush 30, 2) := by decide +kernel
theorem d_It_init_18 : decode b_It_init 18 = .ok (.newarray .int, 2) := by decide +kernel
theorem d_It_init_20 : decode b_It_init 20 = .ok (.putfield 15, 3) := by decide +kernel
theorem d_It_init_23 : decode b_It_init 23 = .ok (.return_, 1) := by decide +kernel
theorem d_It_accept_0 : decode b_It_accept 0 = .ok (.aload_n 0, 1) := by decide +kernel
theorem d_It_accept_1 : decode b_It_accept 1 = .ok (.invokevirtual 18, 3) := by decide +kernel
theorem d_It_accept_4 : decode b_It_accept 4 = .ok (.istore_n 3, 1) := by decide +kernel
theorem d_It_accept_5 : decode b_It_accept 5 = .ok (.aload_n 0, 1) := by decide +kernel
theorem d_It_accept_6 : decode b_It_accept 6 = .ok (.getfield 9, 3) := by decide +kernel
theorem d_It_accept_9 : decode b_It_accept 9 = .ok (.iload_n 3, 1) := by decide +kernel
theorem d_It_accept_10 : decode b_It_accept 10 = .ok (.iload_n 1, 1) := by decide +kernel
theorem d_It_accept_11 : decode b_It_accept 11 = .ok (.iastore, 1) := by decide +kernel
theorem d_It_accept_12 : decode b_It_accept 12 = .ok (.aload_n 0, 1) := by decide +kernel
theorem d_It_accept_13 : decode b_It_accept 13 = .ok (.getfield 15, 3) := by decide +kernel
theorem d_It_accept_16 : decode b_It_accept 16 = .ok (.iload_n 3, 1) := by decide +kernel
theorem d_It_accept_17 : decode b_It_accept 17 = .ok (.iload_n 2, 1) := by decide +kernel
theorem d_It_accept_18 : decode b_It_accept 18 = .ok (.iastore, 1) := by decide +kernel
theorem d_It_accept_19 : decode b_It_accept 19 = .ok (.aload_n 0, 1) := by decide +kernel
theorem d_It_accept_20 : decode b_It_accept 20 = .ok (.iload_n 3, 1) := by decide +kernel
theorem d_It_accept_21 : decode b_It_accept 21 = .ok (.invokevirtual 22, 3) := by decide +kernel
theorem d_It_accept_24 : decode b_It_accept 24 = .ok (.ireturn, 1) := by decide +kernel
theorem d_It_hasFind_0 : decode b_It_hasFind 0 = .ok (.iconst 0, 1) := by decide +kernel
theorem d_It_hasFind_1 : decode b_It_hasFind 1 = .ok (.istore_n 2, 1) := by decide +kernel
theorem d_It_hasFind_2 : decode b_It_hasFind 2 = .ok (.iload_n 2, 1) := by decide +kernel
theorem d_It_hasFind_3 : decode b_It_hasFind 3 = .ok (.aload_n 0, 1) := by decide +kernel
theorem d_It_hasFind_4 : decode b_It_hasFind 4 = .ok (.invokevirtual 26, 3) := by decide +kernel
theorem d_It_hasFind_7 : decode b_It_hasFind 7 = .ok (.if_icmp .ge 21, 3) := by decide +kernel
theorem d_It_hasFind_10 : decode b_It_hasFind 10 = .ok (.aload_n 0, 1) := by decide +kernel
theorem d_It_hasFind_11 : decode b_It_hasFind 11 = .ok (.getfield 9, 3) := by decide +kernel
theorem d_It_hasFind_14 : decode b_It_hasFind 14 = .ok (.iload_n 2, 1) := by decide +kernel
theorem d_It_hasFind_15 : decode b_It_hasFind 15 = .ok (.iaload, 1) := by decide +kernel
theorem d_It_hasFind_16 : decode b_It_hasFind 16 = .ok (.iload_n 1, 1) := by decide +kernel
theorem d_It_hasFind_17 : decode b_It_hasFind 17 = .ok (.if_icmp .ne 5, 3) := by decide +kernel
theorem d_It_hasFind_20 : decode b_It_hasFind 20 = .ok (.iconst 1, 1) := by decide +kernel
theorem d_It_hasFind_21 : decode b_It_hasFind 21 = .ok (.ireturn, 1) := by decide +kernel
theorem d_It_hasFind_22 : decode b_It_hasFind 22 = .ok (.iinc 2 1, 3) := by decide +kernel
theorem d_It_hasFind_25 : decode b_It_hasFind 25 = .ok (.goto (-23), 3) := by decide +kernel
theorem d_It_hasFind_28 : decode b_It_hasFind 28 = .ok (.iconst 0, 1) := by decide +kernel
theorem d_It_hasFind_29 : decode b_It_hasFind 29 = .ok (.ireturn, 1) := by decide +kernel
theorem d_It_findOf_0 : decode b_It_findOf 0 = .ok (.aload_n 0, 1) := by decide +kernel
theorem d_It_findOf_1 : decode b_It_findOf 1 = .ok (.getfield 9, 3) := by decide +kernel
theorem d_It_findOf_4 : decode b_It_findOf 4 = .ok (.iload_n 1, 1) := by decide +kernel
theorem d_It_findOf_5 : decode b_It_findOf 5 = .ok (.iaload, 1) := by decide +kernel
theorem d_It_findOf_6 : decode b_It_findOf 6 = .ok (.ireturn, 1) := by decide +kernel
theorem d_It_dayOf_0 : decode b_It_dayOf 0 = .ok (.aload_n 0, 1) := by decide +kernel
theorem d_It_dayOf_1 : decode b_It_dayOf 1 = .ok (.getfield 15, 3) := by decide +kernel
theorem d_It_dayOf_4 : decode b_It_dayOf 4 = .ok (.iload_n 1, 1) := by decide +kernel
theorem d_It_dayOf_5 : decode b_It_dayOf 5 = .ok (.iaload, 1) := by decide +kernel
theorem d_It_dayOf_6 : decode b_It_dayOf 6 = .ok (.ireturn, 1) := by decide +kernel
theorem d_Lo_init_0 : decode b_Lo_init 0 = .ok (.aload_n 0, 1) := by decide +kernel
theorem d_Lo_init_1 : decode b_Lo_init 1 = .ok (.bipush 7, 2) := by decide +kernel
theorem d_Lo_init_3 : decode b_Lo_init 3 = .ok (.bipush 40, 2) := by decide +kernel
theorem d_Lo_init_5 : decode b_Lo_init 5 = .ok (.invokespecial 3, 3) := by decide +kernel
theorem d_Lo_init_8 : decode b_Lo_init 8 = .ok (.aload_n 0, 1) := by decide +kernel
theorem d_Lo_init_9 : decode b_Lo_init 9 = .ok (.bipush 40, 2) := by decide +kernel
theorem d_Lo_init_11 : decode b_Lo_init 11 = .ok (.newarray .int, 2) := by decide +kernel
theorem d_Lo_init_13 : decode b_Lo_init 13 = .ok (.putfield 9, 3) := by decide +kernel
theorem d_Lo_init_16 : decode b_Lo_init 16 = .ok (.aload_n 0, 1) := by decide +kernel
theorem d_Lo_init_17 : decode b_Lo_init 17 = .ok (.bipush 40, 2) := by decide +kernel
theorem d_Lo_init_19 : decode b_Lo_init 19 = .ok (.newarray .int, 2) := by decide +kernel
theorem d_Lo_init_21 : decode b_Lo_init 21 = .ok (.putfield 15, 3) := by decide +kernel
theorem d_Lo_init_24 : decode b_Lo_init 24 = .ok (.aload_n 0, 1) := by decide +kernel
theorem d_Lo_init_25 : decode b_Lo_init 25 = .ok (.bipush 40, 2) := by decide +kernel
theorem d_Lo_init_27 : decode b_Lo_init 27 = .ok (.newarray .int, 2) := by decide +kernel
theorem d_Lo_init_29 : decode b_Lo_init 29 = .ok (.putfield 18, 3) := by decide +kernel
theorem d_Lo_init_32 : decode b_Lo_init 32 = .ok (.return_, 1) := by decide +kernel
theorem d_Lo_lend_0 : decode b_Lo_lend 0 = .ok (.aload_n 0, 1) := by decide +kernel
theorem d_Lo_lend_1 : decode b_Lo_lend 1 = .ok (.invokevirtual 21, 3) := by decide +kernel
theorem d_Lo_lend_4 : decode b_Lo_lend 4 = .ok (.istore 4, 2) := by decide +kernel
theorem d_Lo_lend_6 : decode b_Lo_lend 6 = .ok (.aload_n 0, 1) := by decide +kernel
theorem d_Lo_lend_7 : decode b_Lo_lend 7 = .ok (.getfield 9, 3) := by decide +kernel
theorem d_Lo_lend_10 : decode b_Lo_lend 10 = .ok (.iload 4, 2) := by decide +kernel
theorem d_Lo_lend_12 : decode b_Lo_lend 12 = .ok (.iload_n 1, 1) := by decide +kernel
theorem d_Lo_lend_13 : decode b_Lo_lend 13 = .ok (.iastore, 1) := by decide +kernel
theorem d_Lo_lend_14 : decode b_Lo_lend 14 = .ok (.aload_n 0, 1) := by decide +kernel
theorem d_Lo_lend_15 : decode b_Lo_lend 15 = .ok (.getfield 15, 3) := by decide +kernel
theorem d_Lo_lend_18 : decode b_Lo_lend 18 = .ok (.iload 4, 2) := by decide +kernel
theorem d_Lo_lend_20 : decode b_Lo_lend 20 = .ok (.iload_n 2, 1) := by decide +kernel
theorem d_Lo_lend_21 : decode b_Lo_lend 21 = .ok (.iastore, 1) := by decide +kernel
theorem d_Lo_lend_22 : decode b_Lo_lend 22 = .ok (.aload_n 0, 1) := by decide +kernel
theorem d_Lo_lend_23 : decode b_Lo_lend 23 = .ok (.getfield 18, 3) := by decide +kernel
theorem d_Lo_lend_26 : decode b_Lo_lend 26 = .ok (.iload 4, 2) := by decide +kernel
theorem d_Lo_lend_28 : decode b_Lo_lend 28 = .ok (.iload_n 3, 1) := by decide +kernel
theorem d_Lo_lend_29 : decode b_Lo_lend 29 = .ok (.iastore, 1) := by decide +kernel
theorem d_Lo_lend_30 : decode b_Lo_lend 30 = .ok (.aload_n 0, 1) := by decide +kernel
theorem d_Lo_lend_31 : decode b_Lo_lend 31 = .ok (.iload 4, 2) := by decide +kernel
theorem d_Lo_lend_33 : decode b_Lo_lend 33 = .ok (.invokevirtual 25, 3) := by decide +kernel
theorem d_Lo_lend_36 : decode b_Lo_lend 36 = .ok (.ireturn, 1) := by decide +kernel
theorem d_Lo_hasDay_0 : decode b_Lo_hasDay 0 = .ok (.aload_n 0, 1) := by decide +kernel
theorem d_Lo_hasDay_1 : decode b_Lo_hasDay 1 = .ok (.getfield 15, 3) := by decide +kernel
theorem d_Lo_hasDay_4 : decode b_Lo_hasDay 4 = .ok (.iload_n 1, 1) := by decide +kernel
theorem d_Lo_hasDay_5 : decode b_Lo_hasDay 5 = .ok (.iaload, 1) := by decide +kernel
theorem d_Lo_hasDay_6 : decode b_Lo_hasDay 6 = .ok (.iload_n 2, 1) := by decide +kernel
theorem d_Lo_hasDay_7 : decode b_Lo_hasDay 7 = .ok (.if_icmp .gt 17, 3) := by decide +kernel
theorem d_Lo_hasDay_10 : decode b_Lo_hasDay 10 = .ok (.iload_n 2, 1) := by decide +kernel
theorem d_Lo_hasDay_11 : decode b_Lo_hasDay 11 = .ok (.aload_n 0, 1) := by decide +kernel
theorem d_Lo_hasDay_12 : decode b_Lo_hasDay 12 = .ok (.getfield 18, 3) := by decide +kernel
theorem d_Lo_hasDay_15 : decode b_Lo_hasDay 15 = .ok (.iload_n 1, 1) := by decide +kernel
theorem d_Lo_hasDay_16 : decode b_Lo_hasDay 16 = .ok (.iaload, 1) := by decide +kernel
theorem d_Lo_hasDay_17 : decode b_Lo_hasDay 17 = .ok (.if_icmp .gt 7, 3) := by decide +kernel
theorem d_Lo_hasDay_20 : decode b_Lo_hasDay 20 = .ok (.iconst 1, 1) := by decide +kernel
theorem d_Lo_hasDay_21 : decode b_Lo_hasDay 21 = .ok (.goto 4, 3) := by decide +kernel
theorem d_Lo_hasDay_24 : decode b_Lo_hasDay 24 = .ok (.iconst 0, 1) := by decide +kernel
theorem d_Lo_hasDay_25 : decode b_Lo_hasDay 25 = .ok (.ireturn, 1) := by decide +kernel
theorem d_Lo_lastDayOf_0 : decode b_Lo_lastDayOf 0 = .ok (.aload_n 0, 1) := by decide +kernel
theorem d_Lo_lastDayOf_1 : decode b_Lo_lastDayOf 1 = .ok (.getfield 18, 3) := by decide +kernel
theorem d_Lo_lastDayOf_4 : decode b_Lo_lastDayOf 4 = .ok (.iload_n 1, 1) := by decide +kernel
theorem d_Lo_lastDayOf_5 : decode b_Lo_lastDayOf 5 = .ok (.iaload, 1) := by decide +kernel
theorem d_Lo_lastDayOf_6 : decode b_Lo_lastDayOf 6 = .ok (.ireturn, 1) := by decide +kernel
theorem d_Lo_endOn_0 : decode b_Lo_endOn 0 = .ok (.aload_n 0, 1) := by decide +kernel
theorem d_Lo_endOn_1 : decode b_Lo_endOn 1 = .ok (.getfield 18, 3) := by decide +kernel
theorem d_Lo_endOn_4 : decode b_Lo_endOn 4 = .ok (.iload_n 1, 1) := by decide +kernel
theorem d_Lo_endOn_5 : decode b_Lo_endOn 5 = .ok (.iload_n 2, 1) := by decide +kernel
theorem d_Lo_endOn_6 : decode b_Lo_endOn 6 = .ok (.iastore, 1) := by decide +kernel
theorem d_Lo_endOn_7 : decode b_Lo_endOn 7 = .ok (.return_, 1) := by decide +kernel
theorem d_Lo_having_0 : decode b_Lo_having 0 = .ok (.iconst 0, 1) := by decide +kernel
theorem d_Lo_having_1 : decode b_Lo_having 1 = .ok (.istore 4, 2) := by decide +kernel
theorem d_Lo_having_3 : decode b_Lo_having 3 = .ok (.iload 4, 2) := by decide +kernel
theorem d_Lo_having_5 : decode b_Lo_having 5 = .ok (.aload_n 0, 1) := by decide +kernel
theorem d_Lo_having_6 : decode b_Lo_having 6 = .ok (.invokevirtual 29, 3) := by decide +kernel
theorem d_Lo_having_9 : decode b_Lo_having 9 = .ok (.if_icmp .ge 45, 3) := by decide +kernel
theorem d_Lo_having_12 : decode b_Lo_having 12 = .ok (.aload_n 0, 1) := by decide +kernel
theorem d_Lo_having_13 : decode b_Lo_having 13 = .ok (.getfield 9, 3) := by decide +kernel
theorem d_Lo_having_16 : decode b_Lo_having 16 = .ok (.iload 4, 2) := by decide +kernel
theorem d_Lo_having_18 : decode b_Lo_having 18 = .ok (.iaload, 1) := by decide +kernel
theorem d_Lo_having_19 : decode b_Lo_having 19 = .ok (.iload_n 1, 1) := by decide +kernel
theorem d_Lo_having_20 : decode b_Lo_having 20 = .ok (.if_icmp .ne 28, 3) := by decide +kernel
theorem d_Lo_having_23 : decode b_Lo_having 23 = .ok (.aload_n 0, 1) := by decide +kernel
theorem d_Lo_having_24 : decode b_Lo_having 24 = .ok (.getfield 15, 3) := by decide +kernel
theorem d_Lo_having_27 : decode b_Lo_having 27 = .ok (.iload 4, 2) := by decide +kernel
theorem d_Lo_having_29 : decode b_Lo_having 29 = .ok (.iaload, 1) := by decide +kernel
theorem d_Lo_having_30 : decode b_Lo_having 30 = .ok (.aload_n 0, 1) := by decide +kernel
theorem d_Lo_having_31 : decode b_Lo_having 31 = .ok (.getfield 18, 3) := by decide +kernel
theorem d_Lo_having_34 : decode b_Lo_having 34 = .ok (.iload 4, 2) := by decide +kernel
theorem d_Lo_having_36 : decode b_Lo_having 36 = .ok (.iaload, 1) := by decide +kernel
theorem d_Lo_having_37 : decode b_Lo_having 37 = .ok (.iload_n 2, 1) := by decide +kernel
theorem d_Lo_having_38 : decode b_Lo_having 38 = .ok (.iload_n 3, 1) := by decide +kernel
theorem d_Lo_having_39 : decode b_Lo_having 39 = .ok (.invokestatic 32, 3) := by decide +kernel
theorem d_Lo_having_42 : decode b_Lo_having 42 = .ok (.ifCond .eq 6, 3) := by decide +kernel
theorem d_Lo_having_45 : decode b_Lo_having 45 = .ok (.iload 4, 2) := by decide +kernel
theorem d_Lo_having_47 : decode b_Lo_having 47 = .ok (.ireturn, 1) := by decide +kernel
theorem d_Lo_having_48 : decode b_Lo_having 48 = .ok (.iinc 4 1, 3) := by decide +kernel
theorem d_Lo_having_51 : decode b_Lo_having 51 = .ok (.goto (-48), 3) := by decide +kernel
theorem d_Lo_having_54 : decode b_Lo_having 54 = .ok (.iconst (-1), 1) := by decide +kernel
theorem d_Lo_having_55 : decode b_Lo_having 55 = .ok (.ireturn, 1) := by decide +kernel
theorem d_Mo_init_0 : decode b_Mo_init 0 = .ok (.aload_n 0, 1) := by decide +kernel
theorem d_Mo_init_1 : decode b_Mo_init 1 = .ok (.invokespecial 3, 3) := by decide +kernel
theorem d_Mo_init_4 : decode b_Mo_init 4 = .ok (.aload_n 0, 1) := by decide +kernel
theorem d_Mo_init_5 : decode b_Mo_init 5 = .ok (.sipush 360, 3) := by decide +kernel
theorem d_Mo_init_8 : decode b_Mo_init 8 = .ok (.newarray .int, 2) := by decide +kernel
theorem d_Mo_init_10 : decode b_Mo_init 10 = .ok (.putfield 9, 3) := by decide +kernel
theorem d_Mo_init_13 : decode b_Mo_init 13 = .ok (.aload_n 0, 1) := by decide +kernel
theorem d_Mo_init_14 : decode b_Mo_init 14 = .ok (.sipush 360, 3) := by decide +kernel
theorem d_Mo_init_17 : decode b_Mo_init 17 = .ok (.newarray .int, 2) := by decide +kernel
theorem d_Mo_init_19 : decode b_Mo_init 19 = .ok (.putfield 15, 3) := by decide +kernel
theorem d_Mo_init_22 : decode b_Mo_init 22 = .ok (.aload_n 0, 1) := by decide +kernel
theorem d_Mo_init_23 : decode b_Mo_init 23 = .ok (.bipush 30, 2) := by decide +kernel
theorem d_Mo_init_25 : decode b_Mo_init 25 = .ok (.newarray .int, 2) := by decide +kernel
theorem d_Mo_init_27 : decode b_Mo_init 27 = .ok (.putfield 18, 3) := by decide +kernel
theorem d_Mo_init_30 : decode b_Mo_init 30 = .ok (.return_, 1) := by decide +kernel
theorem d_Mo_isFullFor_0 : decode b_Mo_isFullFor 0 = .ok (.aload_n 0, 1) := by decide +kernel
theorem d_Mo_isFullFor_1 : decode b_Mo_isFullFor 1 = .ok (.getfield 18, 3) := by decide +kernel
theorem d_Mo_isFullFor_4 : decode b_Mo_isFullFor 4 = .ok (.iload_n 1, 1) := by decide +kernel
theorem d_Mo_isFullFor_5 : decode b_Mo_isFullFor 5 = .ok (.iaload, 1) := by decide +kernel
theorem d_Mo_isFullFor_6 : decode b_Mo_isFullFor 6 = .ok (.bipush 12, 2) := by decide +kernel
theorem d_Mo_isFullFor_8 : decode b_Mo_isFullFor 8 = .ok (.if_icmp .lt 7, 3) := by decide +kernel
theorem d_Mo_isFullFor_11 : decode b_Mo_isFullFor 11 = .ok (.iconst 1, 1) := by decide +kernel
theorem d_Mo_isFullFor_12 : decode b_Mo_isFullFor 12 = .ok (.goto 4, 3) := by decide +kernel
theorem d_Mo_isFullFor_15 : decode b_Mo_isFullFor 15 = .ok (.iconst 0, 1) := by decide +kernel
theorem d_Mo_isFullFor_16 : decode b_Mo_isFullFor 16 = .ok (.ireturn, 1) := by decide +kernel
theorem d_Mo_hasDay_0 : decode b_Mo_hasDay 0 = .ok (.aload_n 0, 1) := by decide +kernel
theorem d_Mo_hasDay_1 : decode b_Mo_hasDay 1 = .ok (.iload_n 1, 1) := by decide +kernel
theorem d_Mo_hasDay_2 : decode b_Mo_hasDay 2 = .ok (.iload_n 2, 1) := by decide +kernel
theorem d_Mo_hasDay_3 : decode b_Mo_hasDay 3 = .ok (.invokevirtual 21, 3) := by decide +kernel
theorem d_Mo_hasDay_6 : decode b_Mo_hasDay 6 = .ok (.iconst (-1), 1) := by decide +kernel
theorem d_Mo_hasDay_7 : decode b_Mo_hasDay 7 = .ok (.if_icmp .eq 7, 3) := by decide +kernel
theorem d_Mo_hasDay_10 : decode b_Mo_hasDay 10 = .ok (.iconst 1, 1) := by decide +kernel
theorem d_Mo_hasDay_11 : decode b_Mo_hasDay 11 = .ok (.goto 4, 3) := by decide +kernel
theorem d_Mo_hasDay_14 : decode b_Mo_hasDay 14 = .ok (.iconst 0, 1) := by decide +kernel
theorem d_Mo_hasDay_15 : decode b_Mo_hasDay 15 = .ok (.ireturn, 1) := by decide +kernel
theorem d_Mo_tell_0 : decode b_Mo_tell 0 = .ok (.aload_n 0, 1) := by decide +kernel
theorem d_Mo_tell_1 : decode b_Mo_tell 1 = .ok (.iload_n 1, 1) := by decide +kernel
theorem d_Mo_tell_2 : decode b_Mo_tell 2 = .ok (.iload_n 3, 1) := by decide +kernel
theorem d_Mo_tell_3 : decode b_Mo_tell 3 = .ok (.invokevirtual 21, 3) := by decide +kernel
theorem d_Mo_tell_6 : decode b_Mo_tell 6 = .ok (.istore 4, 2) := by decide +kernel
theorem d_Mo_tell_8 : decode b_Mo_tell 8 = .ok (.iload 4, 2) := by decide +kernel
theorem d_Mo_tell_10 : decode b_Mo_tell 10 = .ok (.iconst (-1), 1) := by decide +kernel
theorem d_Mo_tell_11 : decode b_Mo_tell 11 = .ok (.if_icmp .ne 20, 3) := by decide +kernel
theorem d_Mo_tell_14 : decode b_Mo_tell 14 = .ok (.aload_n 0, 1) := by decide +kernel
theorem d_Mo_tell_15 : decode b_Mo_tell 15 = .ok (.iload_n 1, 1) := by decide +kernel
theorem d_Mo_tell_16 : decode b_Mo_tell 16 = .ok (.invokevirtual 25, 3) := by decide +kernel
theorem d_Mo_tell_19 : decode b_Mo_tell 19 = .ok (.istore 4, 2) := by decide +kernel
theorem d_Mo_tell_21 : decode b_Mo_tell 21 = .ok (.aload_n 0, 1) := by decide +kernel
theorem d_Mo_tell_22 : decode b_Mo_tell 22 = .ok (.getfield 18, 3) := by decide +kernel
theorem d_Mo_tell_25 : decode b_Mo_tell 25 = .ok (.iload_n 1, 1) := by decide +kernel
theorem d_Mo_tell_26 : decode b_Mo_tell 26 = .ok (.dup2, 1) := by decide +kernel
theorem d_Mo_tell_27 : decode b_Mo_tell 27 = .ok (.iaload, 1) := by decide +kernel
theorem d_Mo_tell_28 : decode b_Mo_tell 28 = .ok (.iconst 1, 1) := by decide +kernel
theorem d_Mo_tell_29 : decode b_Mo_tell 29 = .ok (.iadd, 1) := by decide +kernel
theorem d_Mo_tell_30 : decode b_Mo_tell 30 = .ok (.iastore, 1) := by decide +kernel
theorem d_Mo_tell_31 : decode b_Mo_tell 31 = .ok (.aload_n 0, 1) := by decide +kernel
theorem d_Mo_tell_32 : decode b_Mo_tell 32 = .ok (.getfield 9, 3) := by decide +kernel
theorem d_Mo_tell_35 : decode b_Mo_tell 35 = .ok (.iload 4, 2) := by decide +kernel
theorem d_Mo_tell_37 : decode b_Mo_tell 37 = .ok (.iload_n 3, 1) := by decide +kernel
theorem d_Mo_tell_38 : decode b_Mo_tell 38 = .ok (.iastore, 1) := by decide +kernel
theorem d_Mo_tell_39 : decode b_Mo_tell 39 = .ok (.aload_n 0, 1) := by decide +kernel
theorem d_Mo_tell_40 : decode b_Mo_tell 40 = .ok (.getfield 15, 3) := by decide +kernel
theorem d_Mo_tell_43 : decode b_Mo_tell 43 = .ok (.iload 4, 2) := by decide +kernel
theorem d_Mo_tell_45 : decode b_Mo_tell 45 = .ok (.iload_n 2, 1) := by decide +kernel
theorem d_Mo_tell_46 : decode b_Mo_tell 46 = .ok (.iastore, 1) := by decide +kernel
theorem d_Mo_tell_47 : decode b_Mo_tell 47 = .ok (.return_, 1) := by decide +kernel
theorem d_Mo_storeOn_0 : decode b_Mo_storeOn 0 = .ok (.iconst (-1), 1) := by decide +kernel
theorem d_Mo_storeOn_1 : decode b_Mo_storeOn 1 = .ok (.istore_n 3, 1) := by decide +kernel
theorem d_Mo_storeOn_2 : decode b_Mo_storeOn 2 = .ok (.iconst (-1), 1) := by decide +kernel
theorem d_Mo_storeOn_3 : decode b_Mo_storeOn 3 = .ok (.istore 4, 2) := by decide +kernel
theorem d_Mo_storeOn_5 : decode b_Mo_storeOn 5 = .ok (.aload_n 0, 1) := by decide +kernel
theorem d_Mo_storeOn_6 : decode b_Mo_storeOn 6 = .ok (.iload_n 1, 1) := by decide +kernel
theorem d_Mo_storeOn_7 : decode b_Mo_storeOn 7 = .ok (.invokevirtual 25, 3) := by decide +kernel
theorem d_Mo_storeOn_10 : decode b_Mo_storeOn 10 = .ok (.istore 5, 2) := by decide +kernel
theorem d_Mo_storeOn_12 : decode b_Mo_storeOn 12 = .ok (.aload_n 0, 1) := by decide +kernel
theorem d_Mo_storeOn_13 : decode b_Mo_storeOn 13 = .ok (.iload_n 1, 1) := by decide +kernel
theorem d_Mo_storeOn_14 : decode b_Mo_storeOn 14 = .ok (.invokevirtual 29, 3) := by decide +kernel
theorem d_Mo_storeOn_17 : decode b_Mo_storeOn 17 = .ok (.istore 6, 2) := by decide +kernel
theorem d_Mo_storeOn_19 : decode b_Mo_storeOn 19 = .ok (.iload 6, 2) := by decide +kernel
theorem d_Mo_storeOn_21 : decode b_Mo_storeOn 21 = .ok (.iload 5, 2) := by decide +kernel
theorem d_Mo_storeOn_23 : decode b_Mo_storeOn 23 = .ok (.if_icmp .ge 49, 3) := by decide +kernel
theorem d_Mo_storeOn_26 : decode b_Mo_storeOn 26 = .ok (.aload_n 0, 1) := by decide +kernel
theorem d_Mo_storeOn_27 : decode b_Mo_storeOn 27 = .ok (.getfield 9, 3) := by decide +kernel
theorem d_Mo_storeOn_30 : decode b_Mo_storeOn 30 = .ok (.iload 6, 2) := by decide +kernel
theorem d_Mo_storeOn_32 : decode b_Mo_storeOn 32 = .ok (.iaload, 1) := by decide +kernel
theorem d_Mo_storeOn_33 : decode b_Mo_storeOn 33 = .ok (.iload_n 2, 1) := by decide +kernel
theorem d_Mo_storeOn_34 : decode b_Mo_storeOn 34 = .ok (.if_icmp .gt 32, 3) := by decide +kernel
theorem d_Mo_storeOn_37 : decode b_Mo_storeOn 37 = .ok (.aload_n 0, 1) := by decide +kernel
theorem d_Mo_storeOn_38 : decode b_Mo_storeOn 38 = .ok (.getfield 9, 3) := by decide +kernel
theorem d_Mo_storeOn_41 : decode b_Mo_storeOn 41 = .ok (.iload 6, 2) := by decide +kernel
theorem d_Mo_storeOn_43 : decode b_Mo_storeOn 43 = .ok (.iaload, 1) := by decide +kernel
theorem d_Mo_storeOn_44 : decode b_Mo_storeOn 44 = .ok (.iload 4, 2) := by decide +kernel
theorem d_Mo_storeOn_46 : decode b_Mo_storeOn 46 = .ok (.if_icmp .le 20, 3) := by decide +kernel
theorem d_Mo_storeOn_49 : decode b_Mo_storeOn 49 = .ok (.aload_n 0, 1) := by decide +kernel
theorem d_Mo_storeOn_50 : decode b_Mo_storeOn 50 = .ok (.getfield 9, 3) := by decide +kernel
theorem d_Mo_storeOn_53 : decode b_Mo_storeOn 53 = .ok (.iload 6, 2) := by decide +kernel
theorem d_Mo_storeOn_55 : decode b_Mo_storeOn 55 = .ok (.iaload, 1) := by decide +kernel
theorem d_Mo_storeOn_56 : decode b_Mo_storeOn 56 = .ok (.istore 4, 2) := by decide +kernel
theorem d_Mo_storeOn_58 : decode b_Mo_storeOn 58 = .ok (.aload_n 0, 1) := by decide +kernel
theorem d_Mo_storeOn_59 : decode b_Mo_storeOn 59 = .ok (.getfield 15, 3) := by decide +kernel
theorem d_Mo_storeOn_62 : decode b_Mo_storeOn 62 = .ok (.iload 6, 2) := by decide +kernel
theorem d_Mo_storeOn_64 : decode b_Mo_storeOn 64 = .ok (.iaload, 1) := by decide +kernel
theorem d_Mo_storeOn_65 : decode b_Mo_storeOn 65 = .ok (.istore_n 3, 1) := by decide +kernel
theorem d_Mo_storeOn_66 : decode b_Mo_storeOn 66 = .ok (.iinc 6 1, 3) := by decide +kernel
theorem d_Mo_storeOn_69 : decode b_Mo_storeOn 69 = .ok (.goto (-50), 3) := by decide +kernel
theorem d_Mo_storeOn_72 : decode b_Mo_storeOn 72 = .ok (.iload_n 3, 1) := by decide +kernel
theorem d_Mo_storeOn_73 : decode b_Mo_storeOn 73 = .ok (.ireturn, 1) := by decide +kernel
theorem d_Mo_slotOf_0 : decode b_Mo_slotOf 0 = .ok (.aload_n 0, 1) := by decide +kernel
theorem d_Mo_slotOf_1 : decode b_Mo_slotOf 1 = .ok (.iload_n 1, 1) := by decide +kernel
theorem d_Mo_slotOf_2 : decode b_Mo_slotOf 2 = .ok (.invokevirtual 25, 3) := by decide +kernel
theorem d_Mo_slotOf_5 : decode b_Mo_slotOf 5 = .ok (.istore_n 3, 1) := by decide +kernel
theorem d_Mo_slotOf_6 : decode b_Mo_slotOf 6 = .ok (.aload_n 0, 1) := by decide +kernel
theorem d_Mo_slotOf_7 : decode b_Mo_slotOf 7 = .ok (.iload_n 1, 1) := by decide +kernel
theorem d_Mo_slotOf_8 : decode b_Mo_slotOf 8 = .ok (.invokevirtual 29, 3) := by decide +kernel
theorem d_Mo_slotOf_11 : decode b_Mo_slotOf 11 = .ok (.istore 4, 2) := by decide +kernel
theorem d_Mo_slotOf_13 : decode b_Mo_slotOf 13 = .ok (.iload 4, 2) := by decide +kernel
theorem d_Mo_slotOf_15 : decode b_Mo_slotOf 15 = .ok (.iload_n 3, 1) := by decide +kernel
theorem d_Mo_slotOf_16 : decode b_Mo_slotOf 16 = .ok (.if_icmp .ge 23, 3) := by decide +kernel
theorem d_Mo_slotOf_19 : decode b_Mo_slotOf 19 = .ok (.aload_n 0, 1) := by decide +kernel
theorem d_Mo_slotOf_20 : decode b_Mo_slotOf 20 = .ok (.getfield 9, 3) := by decide +kernel
theorem d_Mo_slotOf_23 : decode b_Mo_slotOf 23 = .ok (.iload 4, 2) := by decide +kernel
theorem d_Mo_slotOf_25 : decode b_Mo_slotOf 25 = .ok (.iaload, 1) := by decide +kernel
theorem d_Mo_slotOf_26 : decode b_Mo_slotOf 26 = .ok (.iload_n 2, 1) := by decide +kernel
theorem d_Mo_slotOf_27 : decode b_Mo_slotOf 27 = .ok (.if_icmp .ne 6, 3) := by decide +kernel
theorem d_Mo_slotOf_30 : decode b_Mo_slotOf 30 = .ok (.iload 4, 2) := by decide +kernel
theorem d_Mo_slotOf_32 : decode b_Mo_slotOf 32 = .ok (.ireturn, 1) := by decide +kernel
theorem d_Mo_slotOf_33 : decode b_Mo_slotOf 33 = .ok (.iinc 4 1, 3) := by decide +kernel
theorem d_Mo_slotOf_36 : decode b_Mo_slotOf 36 = .ok (.goto (-23), 3) := by decide +kernel
theorem d_Mo_slotOf_39 : decode b_Mo_slotOf 39 = .ok (.iconst (-1), 1) := by decide +kernel
theorem d_Mo_slotOf_40 : decode b_Mo_slotOf 40 = .ok (.ireturn, 1) := by decide +kernel
theorem d_Mo_firstSlot_0 : decode b_Mo_firstSlot 0 = .ok (.iload_n 1, 1) := by decide +kernel
theorem d_Mo_firstSlot_1 : decode b_Mo_firstSlot 1 = .ok (.bipush 12, 2) := by decide +kernel
theorem d_Mo_firstSlot_3 : decode b_Mo_firstSlot 3 = .ok (.imul, 1) := by decide +kernel
theorem d_Mo_firstSlot_4 : decode b_Mo_firstSlot 4 = .ok (.ireturn, 1) := by decide +kernel
theorem d_Mo_endOfSlots_0 : decode b_Mo_endOfSlots 0 = .ok (.aload_n 0, 1) := by decide +kernel
theorem d_Mo_endOfSlots_1 : decode b_Mo_endOfSlots 1 = .ok (.iload_n 1, 1) := by decide +kernel
theorem d_Mo_endOfSlots_2 : decode b_Mo_endOfSlots 2 = .ok (.invokevirtual 29, 3) := by decide +kernel
theorem d_Mo_endOfSlots_5 : decode b_Mo_endOfSlots 5 = .ok (.aload_n 0, 1) := by decide +kernel
theorem d_Mo_endOfSlots_6 : decode b_Mo_endOfSlots 6 = .ok (.getfield 18, 3) := by decide +kernel
theorem d_Mo_endOfSlots_9 : decode b_Mo_endOfSlots 9 = .ok (.iload_n 1, 1) := by decide +kernel
theorem d_Mo_endOfSlots_10 : decode b_Mo_endOfSlots 10 = .ok (.iaload, 1) := by decide +kernel
theorem d_Mo_endOfSlots_11 : decode b_Mo_endOfSlots 11 = .ok (.iadd, 1) := by decide +kernel
theorem d_Mo_endOfSlots_12 : decode b_Mo_endOfSlots 12 = .ok (.ireturn, 1) := by decide +kernel
theorem d_Rg_init_0 : decode b_Rg_init 0 = .ok (.aload_n 0, 1) := by decide +kernel
theorem d_Rg_init_1 : decode b_Rg_init 1 = .ok (.invokespecial 3, 3) := by decide +kernel
theorem d_Rg_init_4 : decode b_Rg_init 4 = .ok (.aload_n 0, 1) := by decide +kernel
theorem d_Rg_init_5 : decode b_Rg_init 5 = .ok (.bipush 100, 2) := by decide +kernel
theorem d_Rg_init_7 : decode b_Rg_init 7 = .ok (.iload_n 1, 1) := by decide +kernel
theorem d_Rg_init_8 : decode b_Rg_init 8 = .ok (.imul, 1) := by decide +kernel
theorem d_Rg_init_9 : decode b_Rg_init 9 = .ok (.putfield 9, 3) := by decide +kernel
theorem d_Rg_init_12 : decode b_Rg_init 12 = .ok (.aload_n 0, 1) := by decide +kernel
theorem d_Rg_init_13 : decode b_Rg_init 13 = .ok (.iload_n 2, 1) := by decide +kernel
theorem d_Rg_init_14 : decode b_Rg_init 14 = .ok (.putfield 15, 3) := by decide +kernel
theorem d_Rg_init_17 : decode b_Rg_init 17 = .ok (.aload_n 0, 1) := by decide +kernel
theorem d_Rg_init_18 : decode b_Rg_init 18 = .ok (.iconst 0, 1) := by decide +kernel
theorem d_Rg_init_19 : decode b_Rg_init 19 = .ok (.putfield 18, 3) := by decide +kernel
theorem d_Rg_init_22 : decode b_Rg_init 22 = .ok (.return_, 1) := by decide +kernel
theorem d_Rg_size_0 : decode b_Rg_size 0 = .ok (.aload_n 0, 1) := by decide +kernel
theorem d_Rg_size_1 : decode b_Rg_size 1 = .ok (.getfield 18, 3) := by decide +kernel
theorem d_Rg_size_4 : decode b_Rg_size 4 = .ok (.ireturn, 1) := by decide +kernel
theorem d_Rg_isFull_0 : decode b_Rg_isFull 0 = .ok (.aload_n 0, 1) := by decide +kernel
theorem d_Rg_isFull_1 : decode b_Rg_isFull 1 = .ok (.getfield 18, 3) := by decide +kernel
theorem d_Rg_isFull_4 : decode b_Rg_isFull 4 = .ok (.aload_n 0, 1) := by decide +kernel
theorem d_Rg_isFull_5 : decode b_Rg_isFull 5 = .ok (.getfield 15, 3) := by decide +kernel
theorem d_Rg_isFull_8 : decode b_Rg_isFull 8 = .ok (.if_icmp .lt 7, 3) := by decide +kernel
theorem d_Rg_isFull_11 : decode b_Rg_isFull 11 = .ok (.iconst 1, 1) := by decide +kernel
theorem d_Rg_isFull_12 : decode b_Rg_isFull 12 = .ok (.goto 4, 3) := by decide +kernel
theorem d_Rg_isFull_15 : decode b_Rg_isFull 15 = .ok (.iconst 0, 1) := by decide +kernel
theorem d_Rg_isFull_16 : decode b_Rg_isFull 16 = .ok (.ireturn, 1) := by decide +kernel
theorem d_Rg_handleOf_0 : decode b_Rg_handleOf 0 = .ok (.aload_n 0, 1) := by decide +kernel
theorem d_Rg_handleOf_1 : decode b_Rg_handleOf 1 = .ok (.getfield 9, 3) := by decide +kernel
theorem d_Rg_handleOf_4 : decode b_Rg_handleOf 4 = .ok (.iload_n 1, 1) := by decide +kernel
theorem d_Rg_handleOf_5 : decode b_Rg_handleOf 5 = .ok (.iadd, 1) := by decide +kernel
theorem d_Rg_handleOf_6 : decode b_Rg_handleOf 6 = .ok (.ireturn, 1) := by decide +kernel
theorem d_Rg_numberFor_0 : decode b_Rg_numberFor 0 = .ok (.iload_n 1, 1) := by decide +kernel
theorem d_Rg_numberFor_1 : decode b_Rg_numberFor 1 = .ok (.aload_n 0, 1) := by decide +kernel
theorem d_Rg_numberFor_2 : decode b_Rg_numberFor 2 = .ok (.getfield 9, 3) := by decide +kernel
theorem d_Rg_numberFor_5 : decode b_Rg_numberFor 5 = .ok (.isub, 1) := by decide +kernel
theorem d_Rg_numberFor_6 : decode b_Rg_numberFor 6 = .ok (.istore_n 2, 1) := by decide +kernel
theorem d_Rg_numberFor_7 : decode b_Rg_numberFor 7 = .ok (.iload_n 2, 1) := by decide +kernel
theorem d_Rg_numberFor_8 : decode b_Rg_numberFor 8 = .ok (.ifCond .lt 15, 3) := by decide +kernel
theorem d_Rg_numberFor_11 : decode b_Rg_numberFor 11 = .ok (.iload_n 2, 1) := by decide +kernel
theorem d_Rg_numberFor_12 : decode b_Rg_numberFor 12 = .ok (.aload_n 0, 1) := by decide +kernel
theorem d_Rg_numberFor_13 : decode b_Rg_numberFor 13 = .ok (.getfield 18, 3) := by decide +kernel
theorem d_Rg_numberFor_16 : decode b_Rg_numberFor 16 = .ok (.if_icmp .ge 7, 3) := by decide +kernel
theorem d_Rg_numberFor_19 : decode b_Rg_numberFor 19 = .ok (.iload_n 2, 1) := by decide +kernel
theorem d_Rg_numberFor_20 : decode b_Rg_numberFor 20 = .ok (.goto 4, 3) := by decide +kernel
theorem d_Rg_numberFor_23 : decode b_Rg_numberFor 23 = .ok (.iconst (-1), 1) := by decide +kernel
theorem d_Rg_numberFor_24 : decode b_Rg_numberFor 24 = .ok (.ireturn, 1) := by decide +kernel
theorem d_Rg_enter_0 : decode b_Rg_enter 0 = .ok (.aload_n 0, 1) := by decide +kernel
theorem d_Rg_enter_1 : decode b_Rg_enter 1 = .ok (.getfield 18, 3) := by decide +kernel
theorem d_Rg_enter_4 : decode b_Rg_enter 4 = .ok (.istore_n 1, 1) := by decide +kernel
theorem d_Rg_enter_5 : decode b_Rg_enter 5 = .ok (.aload_n 0, 1) := by decide +kernel
theorem d_Rg_enter_6 : decode b_Rg_enter 6 = .ok (.dup, 1) := by decide +kernel
theorem d_Rg_enter_7 : decode b_Rg_enter 7 = .ok (.getfield 18, 3) := by decide +kernel
theorem d_Rg_enter_10 : decode b_Rg_enter 10 = .ok (.iconst 1, 1) := by decide +kernel
theorem d_Rg_enter_11 : decode b_Rg_enter 11 = .ok (.iadd, 1) := by decide +kernel
theorem d_Rg_enter_12 : decode b_Rg_enter 12 = .ok (.putfield 18, 3) := by decide +kernel
theorem d_Rg_enter_15 : decode b_Rg_enter 15 = .ok (.iload_n 1, 1) := by decide +kernel
theorem d_Rg_enter_16 : decode b_Rg_enter 16 = .ok (.ireturn, 1) := by decide +kernel
theorem d_Sh_init_0 : decode b_Sh_init 0 = .ok (.aload_n 0, 1) := by decide +kernel
theorem d_Sh_init_1 : decode b_Sh_init 1 = .ok (.bipush 8, 2) := by decide +kernel
theorem d_Sh_init_3 : decode b_Sh_init 3 = .ok (.bipush 10, 2) := by decide +kernel
theorem d_Sh_init_5 : decode b_Sh_init 5 = .ok (.invokespecial 3, 3) := by decide +kernel
theorem d_Sh_init_8 : decode b_Sh_init 8 = .ok (.aload_n 0, 1) := by decide +kernel
theorem d_Sh_init_9 : decode b_Sh_init 9 = .ok (.bipush 10, 2) := by decide +kernel
theorem d_Sh_init_11 : decode b_Sh_init 11 = .ok (.newarray .int, 2) := by decide +kernel
theorem d_Sh_init_13 : decode b_Sh_init 13 = .ok (.putfield 9, 3) := by decide +kernel
theorem d_Sh_init_16 : decode b_Sh_init 16 = .ok (.aload_n 0, 1) := by decide +kernel
theorem d_Sh_init_17 : decode b_Sh_init 17 = .ok (.bipush 10, 2) := by decide +kernel
theorem d_Sh_init_19 : decode b_Sh_init 19 = .ok (.newarray .int, 2) := by decide +kernel
theorem d_Sh_init_21 : decode b_Sh_init 21 = .ok (.putfield 15, 3) := by decide +kernel
theorem d_Sh_init_24 : decode b_Sh_init 24 = .ok (.aload_n 0, 1) := by decide +kernel
theorem d_Sh_init_25 : decode b_Sh_init 25 = .ok (.bipush 10, 2) := by decide +kernel
theorem d_Sh_init_27 : decode b_Sh_init 27 = .ok (.newarray .int, 2) := by decide +kernel
theorem d_Sh_init_29 : decode b_Sh_init 29 = .ok (.putfield 18, 3) := by decide +kernel
theorem d_Sh_init_32 : decode b_Sh_init 32 = .ok (.aload_n 0, 1) := by decide +kernel
theorem d_Sh_init_33 : decode b_Sh_init 33 = .ok (.bipush 10, 2) := by decide +kernel
theorem d_Sh_init_35 : decode b_Sh_init 35 = .ok (.newarray .int, 2) := by decide +kernel
theorem d_Sh_init_37 : decode b_Sh_init 37 = .ok (.putfield 21, 3) := by decide +kernel
theorem d_Sh_init_40 : decode b_Sh_init 40 = .ok (.return_, 1) := by decide +kernel
theorem d_Sh_plan_0 : decode b_Sh_plan 0 = .ok (.aload_n 0, 1) := by decide +kernel
theorem d_Sh_plan_1 : decode b_Sh_plan 1 = .ok (.invokevirtual 24, 3) := by decide +kernel
theorem d_Sh_plan_4 : decode b_Sh_plan 4 = .ok (.istore 4, 2) := by decide +kernel
theorem d_Sh_plan_6 : decode b_Sh_plan 6 = .ok (.aload_n 0, 1) := by decide +kernel
theorem d_Sh_plan_7 : decode b_Sh_plan 7 = .ok (.getfield 9, 3) := by decide +kernel
theorem d_Sh_plan_10 : decode b_Sh_plan 10 = .ok (.iload 4, 2) := by decide +kernel
theorem d_Sh_plan_12 : decode b_Sh_plan 12 = .ok (.iload_n 1, 1) := by decide +kernel
theorem d_Sh_plan_13 : decode b_Sh_plan 13 = .ok (.iastore, 1) := by decide +kernel
theorem d_Sh_plan_14 : decode b_Sh_plan 14 = .ok (.aload_n 0, 1) := by decide +kernel
theorem d_Sh_plan_15 : decode b_Sh_plan 15 = .ok (.getfield 15, 3) := by decide +kernel
theorem d_Sh_plan_18 : decode b_Sh_plan 18 = .ok (.iload 4, 2) := by decide +kernel
theorem d_Sh_plan_20 : decode b_Sh_plan 20 = .ok (.iload_n 2, 1) := by decide +kernel
theorem d_Sh_plan_21 : decode b_Sh_plan 21 = .ok (.iastore, 1) := by decide +kernel
theorem d_Sh_plan_22 : decode b_Sh_plan 22 = .ok (.aload_n 0, 1) := by decide +kernel
theorem d_Sh_plan_23 : decode b_Sh_plan 23 = .ok (.getfield 18, 3) := by decide +kernel
theorem d_Sh_plan_26 : decode b_Sh_plan 26 = .ok (.iload 4, 2) := by decide +kernel
theorem d_Sh_plan_28 : decode b_Sh_plan 28 = .ok (.iload_n 3, 1) := by decide +kernel
theorem d_Sh_plan_29 : decode b_Sh_plan 29 = .ok (.iastore, 1) := by decide +kernel
theorem d_Sh_plan_30 : decode b_Sh_plan 30 = .ok (.aload_n 0, 1) := by decide +kernel
theorem d_Sh_plan_31 : decode b_Sh_plan 31 = .ok (.getfield 21, 3) := by decide +kernel
theorem d_Sh_plan_34 : decode b_Sh_plan 34 = .ok (.iload 4, 2) := by decide +kernel
theorem d_Sh_plan_36 : decode b_Sh_plan 36 = .ok (.iconst 0, 1) := by decide +kernel
theorem d_Sh_plan_37 : decode b_Sh_plan 37 = .ok (.iastore, 1) := by decide +kernel
theorem d_Sh_plan_38 : decode b_Sh_plan 38 = .ok (.aload_n 0, 1) := by decide +kernel
theorem d_Sh_plan_39 : decode b_Sh_plan 39 = .ok (.iload 4, 2) := by decide +kernel
theorem d_Sh_plan_41 : decode b_Sh_plan 41 = .ok (.invokevirtual 28, 3) := by decide +kernel
theorem d_Sh_plan_44 : decode b_Sh_plan 44 = .ok (.ireturn, 1) := by decide +kernel
theorem d_Sh_storeOf_0 : decode b_Sh_storeOf 0 = .ok (.aload_n 0, 1) := by decide +kernel
theorem d_Sh_storeOf_1 : decode b_Sh_storeOf 1 = .ok (.getfield 9, 3) := by decide +kernel
theorem d_Sh_storeOf_4 : decode b_Sh_storeOf 4 = .ok (.iload_n 1, 1) := by decide +kernel
theorem d_Sh_storeOf_5 : decode b_Sh_storeOf 5 = .ok (.iaload, 1) := by decide +kernel
theorem d_Sh_storeOf_6 : decode b_Sh_storeOf 6 = .ok (.ireturn, 1) := by decide +kernel
theorem d_Sh_firstDayOf_0 : decode b_Sh_firstDayOf 0 = .ok (.aload_n 0, 1) := by decide +kernel
theorem d_Sh_firstDayOf_1 : decode b_Sh_firstDayOf 1 = .ok (.getfield 15, 3) := by decide +kernel
theorem d_Sh_firstDayOf_4 : decode b_Sh_firstDayOf 4 = .ok (.iload_n 1, 1) := by decide +kernel
theorem d_Sh_firstDayOf_5 : decode b_Sh_firstDayOf 5 = .ok (.iaload, 1) := by decide +kernel
theorem d_Sh_firstDayOf_6 : decode b_Sh_firstDayOf 6 = .ok (.ireturn, 1) := by decide +kernel
theorem d_Sh_lastDayOf_0 : decode b_Sh_lastDayOf 0 = .ok (.aload_n 0, 1) := by decide +kernel
theorem d_Sh_lastDayOf_1 : decode b_Sh_lastDayOf 1 = .ok (.getfield 18, 3) := by decide +kernel
theorem d_Sh_lastDayOf_4 : decode b_Sh_lastDayOf 4 = .ok (.iload_n 1, 1) := by decide +kernel
theorem d_Sh_lastDayOf_5 : decode b_Sh_lastDayOf 5 = .ok (.iaload, 1) := by decide +kernel
theorem d_Sh_lastDayOf_6 : decode b_Sh_lastDayOf 6 = .ok (.ireturn, 1) := by decide +kernel
theorem d_Sh_holds_0 : decode b_Sh_holds 0 = .ok (.aload_n 0, 1) := by decide +kernel
theorem d_Sh_holds_1 : decode b_Sh_holds 1 = .ok (.getfield 21, 3) := by decide +kernel
theorem d_Sh_holds_4 : decode b_Sh_holds 4 = .ok (.iload_n 1, 1) := by decide +kernel
theorem d_Sh_holds_5 : decode b_Sh_holds 5 = .ok (.iaload, 1) := by decide +kernel
theorem d_Sh_holds_6 : decode b_Sh_holds 6 = .ok (.iconst 1, 1) := by decide +kernel
theorem d_Sh_holds_7 : decode b_Sh_holds 7 = .ok (.iload_n 2, 1) := by decide +kernel
theorem d_Sh_holds_8 : decode b_Sh_holds 8 = .ok (.ishl, 1) := by decide +kernel
theorem d_Sh_holds_9 : decode b_Sh_holds 9 = .ok (.iand, 1) := by decide +kernel
theorem d_Sh_holds_10 : decode b_Sh_holds 10 = .ok (.ifCond .eq 7, 3) := by decide +kernel
theorem d_Sh_holds_13 : decode b_Sh_holds 13 = .ok (.iconst 1, 1) := by decide +kernel
theorem d_Sh_holds_14 : decode b_Sh_holds 14 = .ok (.goto 4, 3) := by decide +kernel
theorem d_Sh_holds_17 : decode b_Sh_holds 17 = .ok (.iconst 0, 1) := by decide +kernel
theorem d_Sh_holds_18 : decode b_Sh_holds 18 = .ok (.ireturn, 1) := by decide +kernel
theorem d_Sh_putIn_0 : decode b_Sh_putIn 0 = .ok (.aload_n 0, 1) := by decide +kernel
theorem d_Sh_putIn_1 : decode b_Sh_putIn 1 = .ok (.getfield 21, 3) := by decide +kernel
theorem d_Sh_putIn_4 : decode b_Sh_putIn 4 = .ok (.iload_n 1, 1) := by decide +kernel
theorem d_Sh_putIn_5 : decode b_Sh_putIn 5 = .ok (.dup2, 1) := by decide +kernel
theorem d_Sh_putIn_6 : decode b_Sh_putIn 6 = .ok (.iaload, 1) := by decide +kernel
theorem d_Sh_putIn_7 : decode b_Sh_putIn 7 = .ok (.iconst 1, 1) := by decide +kernel
theorem d_Sh_putIn_8 : decode b_Sh_putIn 8 = .ok (.iload_n 2, 1) := by decide +kernel
theorem d_Sh_putIn_9 : decode b_Sh_putIn 9 = .ok (.ishl, 1) := by decide +kernel
theorem d_Sh_putIn_10 : decode b_Sh_putIn 10 = .ok (.ior, 1) := by decide +kernel
theorem d_Sh_putIn_11 : decode b_Sh_putIn 11 = .ok (.iastore, 1) := by decide +kernel
theorem d_Sh_putIn_12 : decode b_Sh_putIn 12 = .ok (.return_, 1) := by decide +kernel
theorem d_Sh_putOut_0 : decode b_Sh_putOut 0 = .ok (.aload_n 0, 1) := by decide +kernel
theorem d_Sh_putOut_1 : decode b_Sh_putOut 1 = .ok (.getfield 21, 3) := by decide +kernel
theorem d_Sh_putOut_4 : decode b_Sh_putOut 4 = .ok (.iload_n 1, 1) := by decide +kernel
theorem d_Sh_putOut_5 : decode b_Sh_putOut 5 = .ok (.dup2, 1) := by decide +kernel
theorem d_Sh_putOut_6 : decode b_Sh_putOut 6 = .ok (.iaload, 1) := by decide +kernel
theorem d_Sh_putOut_7 : decode b_Sh_putOut 7 = .ok (.iconst 1, 1) := by decide +kernel
theorem d_Sh_putOut_8 : decode b_Sh_putOut 8 = .ok (.iload_n 2, 1) := by decide +kernel
theorem d_Sh_putOut_9 : decode b_Sh_putOut 9 = .ok (.ishl, 1) := by decide +kernel
theorem d_Sh_putOut_10 : decode b_Sh_putOut 10 = .ok (.iconst (-1), 1) := by decide +kernel
theorem d_Sh_putOut_11 : decode b_Sh_putOut 11 = .ok (.ixor, 1) := by decide +kernel
theorem d_Sh_putOut_12 : decode b_Sh_putOut 12 = .ok (.iand, 1) := by decide +kernel
theorem d_Sh_putOut_13 : decode b_Sh_putOut 13 = .ok (.iastore, 1) := by decide +kernel
theorem d_Sh_putOut_14 : decode b_Sh_putOut 14 = .ok (.return_, 1) := by decide +kernel
theorem d_Sh_having_0 : decode b_Sh_having 0 = .ok (.iconst 0, 1) := by decide +kernel
theorem d_Sh_having_1 : decode b_Sh_having 1 = .ok (.istore 4, 2) := by decide +kernel
theorem d_Sh_having_3 : decode b_Sh_having 3 = .ok (.iload 4, 2) := by decide +kernel
theorem d_Sh_having_5 : decode b_Sh_having 5 = .ok (.aload_n 0, 1) := by decide +kernel
theorem d_Sh_having_6 : decode b_Sh_having 6 = .ok (.invokevirtual 32, 3) := by decide +kernel
theorem d_Sh_having_9 : decode b_Sh_having 9 = .ok (.if_icmp .ge 44, 3) := by decide +kernel
theorem d_Sh_having_12 : decode b_Sh_having 12 = .ok (.aload_n 0, 1) := by decide +kernel
theorem d_Sh_having_13 : decode b_Sh_having 13 = .ok (.iload 4, 2) := by decide +kernel
theorem d_Sh_having_15 : decode b_Sh_having 15 = .ok (.iload_n 1, 1) := by decide +kernel
theorem d_Sh_having_16 : decode b_Sh_having 16 = .ok (.invokevirtual 35, 3) := by decide +kernel
theorem d_Sh_having_19 : decode b_Sh_having 19 = .ok (.ifCond .eq 28, 3) := by decide +kernel
theorem d_Sh_having_22 : decode b_Sh_having 22 = .ok (.aload_n 0, 1) := by decide +kernel
theorem d_Sh_having_23 : decode b_Sh_having 23 = .ok (.getfield 15, 3) := by decide +kernel
theorem d_Sh_having_26 : decode b_Sh_having 26 = .ok (.iload 4, 2) := by decide +kernel
theorem d_Sh_having_28 : decode b_Sh_having 28 = .ok (.iaload, 1) := by decide +kernel
theorem d_Sh_having_29 : decode b_Sh_having 29 = .ok (.aload_n 0, 1) := by decide +kernel
theorem d_Sh_having_30 : decode b_Sh_having 30 = .ok (.getfield 18, 3) := by decide +kernel
theorem d_Sh_having_33 : decode b_Sh_having 33 = .ok (.iload 4, 2) := by decide +kernel
theorem d_Sh_having_35 : decode b_Sh_having 35 = .ok (.iaload, 1) := by decide +kernel
theorem d_Sh_having_36 : decode b_Sh_having 36 = .ok (.iload_n 2, 1) := by decide +kernel
theorem d_Sh_having_37 : decode b_Sh_having 37 = .ok (.iload_n 3, 1) := by decide +kernel
theorem d_Sh_having_38 : decode b_Sh_having 38 = .ok (.invokestatic 39, 3) := by decide +kernel
theorem d_Sh_having_41 : decode b_Sh_having 41 = .ok (.ifCond .eq 6, 3) := by decide +kernel
theorem d_Sh_having_44 : decode b_Sh_having 44 = .ok (.iload 4, 2) := by decide +kernel
theorem d_Sh_having_46 : decode b_Sh_having 46 = .ok (.ireturn, 1) := by decide +kernel
theorem d_Sh_having_47 : decode b_Sh_having 47 = .ok (.iinc 4 1, 3) := by decide +kernel
theorem d_Sh_having_50 : decode b_Sh_having 50 = .ok (.goto (-47), 3) := by decide +kernel
theorem d_Sh_having_53 : decode b_Sh_having 53 = .ok (.iconst (-1), 1) := by decide +kernel
theorem d_Sh_having_54 : decode b_Sh_having 54 = .ok (.ireturn, 1) := by decide +kernel
theorem d_Si_init_0 : decode b_Si_init 0 = .ok (.aload_n 0, 1) := by decide +kernel
theorem d_Si_init_1 : decode b_Si_init 1 = .ok (.iconst 2, 1) := by decide +kernel
theorem d_Si_init_2 : decode b_Si_init 2 = .ok (.iconst 4, 1) := by decide +kernel
theorem d_Si_init_3 : decode b_Si_init 3 = .ok (.invokespecial 3, 3) := by decide +kernel
theorem d_Si_init_6 : decode b_Si_init 6 = .ok (.return_, 1) := by decide +kernel
theorem d_Si_stakeOut_0 : decode b_Si_stakeOut 0 = .ok (.aload_n 0, 1) := by decide +kernel
theorem d_Si_stakeOut_1 : decode b_Si_stakeOut 1 = .ok (.aload_n 0, 1) := by decide +kernel
theorem d_Si_stakeOut_2 : decode b_Si_stakeOut 2 = .ok (.invokevirtual 9, 3) := by decide +kernel
theorem d_Si_stakeOut_5 : decode b_Si_stakeOut 5 = .ok (.invokevirtual 15, 3) := by decide +kernel
theorem d_Si_stakeOut_8 : decode b_Si_stakeOut 8 = .ok (.ireturn, 1) := by decide +kernel
theorem d_So_init_0 : decode b_So_init 0 = .ok (.aload_n 0, 1) := by decide +kernel
theorem d_So_init_1 : decode b_So_init 1 = .ok (.bipush 6, 2) := by decide +kernel
theorem d_So_init_3 : decode b_So_init 3 = .ok (.bipush 16, 2) := by decide +kernel
theorem d_So_init_5 : decode b_So_init 5 = .ok (.invokespecial 3, 3) := by decide +kernel
theorem d_So_init_8 : decode b_So_init 8 = .ok (.aload_n 0, 1) := by decide +kernel
theorem d_So_init_9 : decode b_So_init 9 = .ok (.bipush 16, 2) := by decide +kernel
theorem d_So_init_11 : decode b_So_init 11 = .ok (.newarray .int, 2) := by decide +kernel
theorem d_So_init_13 : decode b_So_init 13 = .ok (.putfield 9, 3) := by decide +kernel
theorem d_So_init_16 : decode b_So_init 16 = .ok (.return_, 1) := by decide +kernel
theorem d_So_build_0 : decode b_So_build 0 = .ok (.aload_n 0, 1) := by decide +kernel
theorem d_So_build_1 : decode b_So_build 1 = .ok (.invokevirtual 15, 3) := by decide +kernel
theorem d_So_build_4 : decode b_So_build 4 = .ok (.istore_n 2, 1) := by decide +kernel
theorem d_So_build_5 : decode b_So_build 5 = .ok (.aload_n 0, 1) := by decide +kernel
theorem d_So_build_6 : decode b_So_build 6 = .ok (.getfield 9, 3) := by decide +kernel
theorem d_So_build_9 : decode b_So_build 9 = .ok (.iload_n 2, 1) := by decide +kernel
theorem d_So_build_10 : decode b_So_build 10 = .ok (.iload_n 1, 1) := by decide +kernel
theorem d_So_build_11 : decode b_So_build 11 = .ok (.iastore, 1) := by decide +kernel
theorem d_So_build_12 : decode b_So_build 12 = .ok (.aload_n 0, 1) := by decide +kernel
theorem d_So_build_13 : decode b_So_build 13 = .ok (.iload_n 2, 1) := by decide +kernel
theorem d_So_build_14 : decode b_So_build 14 = .ok (.invokevirtual 19, 3) := by decide +kernel
theorem d_So_build_17 : decode b_So_build 17 = .ok (.ireturn, 1) := by decide +kernel
theorem d_So_parentOf_0 : decode b_So_parentOf 0 = .ok (.aload_n 0, 1) := by decide +kernel
theorem d_So_parentOf_1 : decode b_So_parentOf 1 = .ok (.getfield 9, 3) := by decide +kernel
theorem d_So_parentOf_4 : decode b_So_parentOf 4 = .ok (.iload_n 1, 1) := by decide +kernel
theorem d_So_parentOf_5 : decode b_So_parentOf 5 = .ok (.iaload, 1) := by decide +kernel
theorem d_So_parentOf_6 : decode b_So_parentOf 6 = .ok (.ireturn, 1) := by decide +kernel
theorem d_So_setParent_0 : decode b_So_setParent 0 = .ok (.aload_n 0, 1) := by decide +kernel
theorem d_So_setParent_1 : decode b_So_setParent 1 = .ok (.getfield 9, 3) := by decide +kernel
theorem d_So_setParent_4 : decode b_So_setParent 4 = .ok (.iload_n 1, 1) := by decide +kernel
theorem d_So_setParent_5 : decode b_So_setParent 5 = .ok (.iload_n 2, 1) := by decide +kernel
theorem d_So_setParent_6 : decode b_So_setParent 6 = .ok (.iastore, 1) := by decide +kernel
theorem d_So_setParent_7 : decode b_So_setParent 7 = .ok (.return_, 1) := by decide +kernel
theorem d_So_isIn_0 : decode b_So_isIn 0 = .ok (.aload_n 0, 1) := by decide +kernel
theorem d_So_isIn_1 : decode b_So_isIn 1 = .ok (.getfield 9, 3) := by decide +kernel
theorem d_So_isIn_4 : decode b_So_isIn 4 = .ok (.iload_n 1, 1) := by decide +kernel
theorem d_So_isIn_5 : decode b_So_isIn 5 = .ok (.iaload, 1) := by decide +kernel
theorem d_So_isIn_6 : decode b_So_isIn 6 = .ok (.istore_n 3, 1) := by decide +kernel
theorem d_So_isIn_7 : decode b_So_isIn 7 = .ok (.iconst 0, 1) := by decide +kernel
theorem d_So_isIn_8 : decode b_So_isIn 8 = .ok (.istore 4, 2) := by decide +kernel
theorem d_So_isIn_10 : decode b_So_isIn 10 = .ok (.iload 4, 2) := by decide +kernel
theorem d_So_isIn_12 : decode b_So_isIn 12 = .ok (.bipush 16, 2) := by decide +kernel
theorem d_So_isIn_14 : decode b_So_isIn 14 = .ok (.if_icmp .ge 28, 3) := by decide +kernel
theorem d_So_isIn_17 : decode b_So_isIn 17 = .ok (.iload_n 3, 1) := by decide +kernel
theorem d_So_isIn_18 : decode b_So_isIn 18 = .ok (.iconst (-1), 1) := by decide +kernel
theorem d_So_isIn_19 : decode b_So_isIn 19 = .ok (.if_icmp .eq 23, 3) := by decide +kernel
theorem d_So_isIn_22 : decode b_So_isIn 22 = .ok (.iload_n 3, 1) := by decide +kernel
theorem d_So_isIn_23 : decode b_So_isIn 23 = .ok (.iload_n 2, 1) := by decide +kernel
theorem d_So_isIn_24 : decode b_So_isIn 24 = .ok (.if_icmp .ne 5, 3) := by decide +kernel
theorem d_So_isIn_27 : decode b_So_isIn 27 = .ok (.iconst 1, 1) := by decide +kernel
theorem d_So_isIn_28 : decode b_So_isIn 28 = .ok (.ireturn, 1) := by decide +kernel
theorem d_So_isIn_29 : decode b_So_isIn 29 = .ok (.aload_n 0, 1) := by decide +kernel
theorem d_So_isIn_30 : decode b_So_isIn 30 = .ok (.getfield 9, 3) := by decide +kernel
theorem d_So_isIn_33 : decode b_So_isIn 33 = .ok (.iload_n 3, 1) := by decide +kernel
theorem d_So_isIn_34 : decode b_So_isIn 34 = .ok (.iaload, 1) := by decide +kernel
theorem d_So_isIn_35 : decode b_So_isIn 35 = .ok (.istore_n 3, 1) := by decide +kernel
theorem d_So_isIn_36 : decode b_So_isIn 36 = .ok (.iinc 4 1, 3) := by decide +kernel
theorem d_So_isIn_39 : decode b_So_isIn 39 = .ok (.goto (-29), 3) := by decide +kernel
theorem d_So_isIn_42 : decode b_So_isIn 42 = .ok (.iconst 0, 1) := by decide +kernel
theorem d_So_isIn_43 : decode b_So_isIn 43 = .ok (.ireturn, 1) := by decide +kernel
theorem d_So_isAtOrIn_0 : decode b_So_isAtOrIn 0 = .ok (.iload_n 1, 1) := by decide +kernel
theorem d_So_isAtOrIn_1 : decode b_So_isAtOrIn 1 = .ok (.iload_n 2, 1) := by decide +kernel
theorem d_So_isAtOrIn_2 : decode b_So_isAtOrIn 2 = .ok (.if_icmp .eq 12, 3) := by decide +kernel
theorem d_So_isAtOrIn_5 : decode b_So_isAtOrIn 5 = .ok (.aload_n 0, 1) := by decide +kernel
theorem d_So_isAtOrIn_6 : decode b_So_isAtOrIn 6 = .ok (.iload_n 1, 1) := by decide +kernel
theorem d_So_isAtOrIn_7 : decode b_So_isAtOrIn 7 = .ok (.iload_n 2, 1) := by decide +kernel
theorem d_So_isAtOrIn_8 : decode b_So_isAtOrIn 8 = .ok (.invokevirtual 23, 3) := by decide +kernel
theorem d_So_isAtOrIn_11 : decode b_So_isAtOrIn 11 = .ok (.ifCond .eq 7, 3) := by decide +kernel
theorem d_So_isAtOrIn_14 : decode b_So_isAtOrIn 14 = .ok (.iconst 1, 1) := by decide +kernel
theorem d_So_isAtOrIn_15 : decode b_So_isAtOrIn 15 = .ok (.goto 4, 3) := by decide +kernel
theorem d_So_isAtOrIn_18 : decode b_So_isAtOrIn 18 = .ok (.iconst 0, 1) := by decide +kernel
theorem d_So_isAtOrIn_19 : decode b_So_isAtOrIn 19 = .ok (.ireturn, 1) := by decide +kernel
end
section
/-! PURE: what the printed functions are made of. none: an index out of its array, a loop out of fuel, a number that is no boolean. -/
/-- a state: numbers, and arrays of numbers -/
abbrev pu_St : Type := (Nat → Int32) × (Nat → Nat → Int32)
/-- an end: .inl answer, or .inr kind of exception; and the state then -/
abbrev pu_R : Type := Option ((Int32 ⊕ Nat) × pu_St)
def pu_ld (f : Nat → Int32) (n : Nat) (i : Int32) : Option Int32 := if i < 0 ∨ n ≤ i.toNatClampNeg then none else some (f i.toNatClampNeg)
def pu_sd (f : Nat → Int32) (n : Nat) (i x : Int32) : Option (Nat → Int32) := if i < 0 ∨ n ≤ i.toNatClampNeg then none else some (upd f i.toNatClampNeg x)
/-- a number that is returned as a boolean -/
def pu_bo (x : Int32) : Option Int32 := if x = 0 then some 0 else if x = 1 then some 1 else none
def pu_xb (x : pu_R) (k : Int32 → pu_St → pu_R) : pu_R := match x with
  | none => none
  | some (.inl v, st) => k v st
  | some (.inr e, st) => some (.inr e, st)
theorem pu_ld_inv {f : Nat → Int32} {n : Nat} {i v : Int32} (h : pu_ld f n i = some v) : vp_in i n ∧ f i.toNatClampNeg = v := by
  unfold pu_ld at h
  by_cases c : i < 0 ∨ n ≤ i.toNatClampNeg
  · rw [if_pos c] at h; cases h
  · rw [if_neg c] at h; exact ⟨c, Option.some.inj h⟩
theorem pu_sd_inv {f g : Nat → Int32} {n : Nat} {i x : Int32} (h : pu_sd f n i x = some g) : vp_in i n ∧ upd f i.toNatClampNeg x = g := by
  unfold pu_sd at h
  by_cases c : i < 0 ∨ n ≤ i.toNatClampNeg
  · rw [if_pos c] at h; cases h
  · rw [if_neg c] at h; exact ⟨c, Option.some.inj h⟩
theorem pu_bo_inv {x v : Int32} (h : pu_bo x = some v) : x = v ∧ (v = 0 ∨ v = 1) := by
  unfold pu_bo at h
  by_cases c : x = 0
  · rw [if_pos c] at h; cases h; exact ⟨c, Or.inl rfl⟩
  · rw [if_neg c] at h
    by_cases d : x = 1
    · rw [if_pos d] at h; cases h; exact ⟨d, Or.inr rfl⟩
    · rw [if_neg d] at h; cases h
theorem pu_ob {α β : Type} {x : Option α} {k : α → Option β} {y : β} (h : x.bind k = some y) : ∃ v, x = some v ∧ k v = some y := by
  cases x with
  | none => cases h
  | some v => exact ⟨v, rfl, h⟩
theorem pu_xb_inv {x : pu_R} {k : Int32 → pu_St → pu_R} {y : (Int32 ⊕ Nat) × pu_St} (h : pu_xb x k = some y) : (∃ v st, x = some (.inl v, st) ∧ k v st = some y) ∨ ∃ e st, x = some (.inr e, st) ∧ (.inr e, st) = y := by
  match x, h with
  | some (.inl v, st), h => exact Or.inl ⟨v, st, rfl, h⟩
  | some (.inr e, st), h => exact Or.inr ⟨e, st, rfl, Option.some.inj h⟩
theorem pu_ld_nI {f : Nat → Int32} {n j : Nat} (h : j < n) (hn : n < 2 ^ 31) : pu_ld f n (nI j) = some (f j) := by
  unfold pu_ld
  rw [if_neg (nI_in h hn), nI_clamp (Nat.lt_trans h hn)]
theorem pu_sd_nI {f : Nat → Int32} {n j : Nat} {x : Int32} (h : j < n) (hn : n < 2 ^ 31) : pu_sd f n (nI j) x = some (upd f j x) := by
  unfold pu_sd
  rw [if_neg (nI_in h hn), nI_clamp (Nat.lt_trans h hn)]
end
section
/-! X: METHODS THAT MAY THROW. MetX: as Met, of either end. WT: the machine at a frame over which an exception is on its way. -/
section XA
def xFE (first t : State) (L : List Loc) (k n : Nat) : Prop := first.WarmedH t.vm ∧ first.sameButNew ({ t with vm := first.vm } : State) L k n
def MetX (l : Launch) (y : MethodName) (ws : List Cond) (rm : Room) (Pc : Array Value → State → Prop) (Qc : Array Value → State → Outcome → State → Prop) (mc ms : Nat) (free : Addr → Prop) : Prop :=
  MetFree l y (headSpec ws rm) Pc (fun _ _ _ _ _ => True) (fun a st o t => Qc a st o t ∧ ∃ L, xFE st t L mc ms ∧ ∀ q ∈ L, free q.base)
def MQX (below : List Frame) (Qc : Array Value → State → Outcome → State → Prop) (a : Array Value) (s : State) (mc ms : Nat) (free : Addr → Prop) : State → Prop := fun t =>
  ∃ o, t.status = .running ∧ Ended t below o ∧ Qc a s o t ∧ ∃ L, xFE s t L mc ms ∧ ∀ q ∈ L, free q.base
variable {p : Program} {l : Launch} {e : Env} {R : Room} {s : State} {m : MethodId} {args : Array Value} {below : List Frame} {meth : Method} {c : Code} {H : Heap} {locs : List Loc} {cells slots : Nat} {Q Q' : State → Prop} {g : JFrame}
variable {y : MethodName} {ws ws' : List Cond} {rm : Room} {Pc : Array Value → State → Prop} {Qc : Array Value → State → Outcome → State → Prop} {mc ms : Nat} {free : Addr → Prop} {cc : ByteArray} {maxL : Nat} {ret : Option FieldType}
theorem MetX.ofW (hy : plainName y.cls = true) (hw : ws = Cond.code y cc maxL ret :: ws')
    (body : ∀ p e s m args below meth c s₁, BodyLoose p l y (headSpec ws rm) cc maxL ret e s m args below meth c s₁ → c.maxLocals = maxL → c.exceptionTable.isEmpty = true → Pc args s →
      W p l e (headSpec ws rm).room s m args below meth c s.heap [] 0 0 (MQX below Qc args s mc ms free) (entryFrame m args maxL)) : MetX l y ws rm Pc Qc mc ms free := by
  refine MetFree.of_bodyS (code := cc) (maxLocals := maxL) (ret := ret) hy ?_ ?_
  · intro args s m h hn
    obtain ⟨meth, c, h1, h2, h3, h4, h5, h6, -, -⟩ := Cond.code_spec hn (atoms_spec (ws := ws) h _ (by rw [hw]; exact List.mem_cons_self))
    exact ⟨meth, c, h1, h2, h3, h4, h5, h6⟩
  · intro p e s m args below meth c s₁ B hml hP _
    have hh0 : s₁.heap = s.heap := by rw [B.state]; rfl
    have hno : c.exceptionTable.isEmpty = true := B.noHandlers (atoms_spec (ws := ws) B.pre _ (by rw [hw]; exact List.mem_cons_self))
    obtain ⟨t, a1, o, b1, b2, b3⟩ := body p e s m args below meth c s₁ B hml hno hP s₁ hh0 (Stand.of_body B)
    exact ⟨t, o, a1, b1, b2, ⟨b3.1, b3.2⟩⟩
theorem MetX.met (h : MetX l y ws rm Pc Qc mc ms free) (hr : ∀ a st o t, Qc a st o t → ∃ v, o = .returned v) : Met l y ws rm Pc Qc mc ms free := by
  intro p e ha hc hk s m args below hf happ hP hK
  obtain ⟨n, o, h1, h2, h3, hq, L, hfe, hL⟩ := h p e ha hc hk s m args below hf happ hP hK
  exact ⟨n, o, h1, h2, h3, hq, L, ⟨hr _ _ _ _ hq, hfe.1, hfe.2⟩, hL⟩
theorem Met.toX (h : Met l y ws rm Pc Qc mc ms free) : MetX l y ws rm Pc Qc mc ms free := by
  intro p e ha hc hk s m args below hf happ hP hK
  obtain ⟨n, o, h1, h2, h3, hq, L, hfe, hL⟩ := h p e ha hc hk s m args below hf happ hP hK
  exact ⟨n, o, h1, h2, h3, hq, L, ⟨hfe.2.1, hfe.2.2⟩, hL⟩
theorem W.mono (h : W p l e R s m args below meth c H locs cells slots Q g) (hQ : ∀ t, Q t → Q' t) : W p l e R s m args below meth c H locs cells slots Q' g := by
  intro T hT X
  obtain ⟨t, a, b⟩ := h T hT X
  exact ⟨t, a, hQ t b⟩
theorem W.toX (h : W p l e R s m args below meth c H locs cells slots (MQ below Qc args s mc ms free) g) : W p l e R s m args below meth c H locs cells slots (MQX below Qc args s mc ms free) g :=
  W.mono h (fun _ q => by
    obtain ⟨o, h1, h2, h3, L, h4, h5⟩ := q
    exact ⟨o, h1, h2, h3, L, ⟨h4.2.1, h4.2.2⟩, h5⟩)
/-- the machine at frame g, an exception on its way over it -/
def WT (p : Program) (l : Launch) (e : Env) (R : Room) (s : State) (m : MethodId) (args : Array Value) (below : List Frame) (meth : Method) (c : Code) (H : Heap) (locs : List Loc) (cells slots : Nat) (Q : State → Prop) (g : JFrame) (x : Addr) : Prop :=
  ∀ T : State, T.heap = H → Stand p l e R s m args below meth c T locs cells slots → ∃ t, Steps p.tables e below ((T.setTop g).pushFrame (.throwing x)) t ∧ Q t
/-- no handler: the method itself throws it -/
theorem WT.out {x : Addr} {pc : Nat} {ls : Array Slot} {rest : List Value} (hno : c.exceptionTable.isEmpty = true) (hlocks : meth.locks = false)
    (hq : ∀ t : State, t.heap = H → s.WarmedH t.vm → Qc args s (.threw x) t) (hf : ∀ q ∈ locs, free q.base) :
    WT p l e R s m args below meth c H locs cells slots (MQX below Qc args s cells slots free) (F0 m pc ls rest) x := by
  intro T hT X
  have hout : ∀ y ∈ c.exceptionTable.toList, covers y pc = false := by
    intro y hy
    rw [Array.isEmpty_iff.mp hno] at hy
    cases hy
  obtain ⟨hwalk, hrun, hended, hW, hsame⟩ := X.leaveThrown x (g := F0 m pc ls rest) rfl rfl rfl hout hlocks
  exact ⟨_, hwalk, .threw x, hrun, hended, hq _ hT hW, locs, ⟨hW, hsame⟩, hf⟩
end XA
section XB
variable {l : Launch} {R : Room} {p : Program} {e : Env} {below : List Frame} {s : State} {sargs : Array Value} {y : MethodName} {len W0 : Nat}
/-- a callee that throws, from the point of its call -/
theorem x_backT {ws : List Cond} {rm : Room} {Pc : Array Value → State → Prop} {Qc : Array Value → State → Outcome → State → Prop} {mc ms : Nat} {free : Addr → Prop} {bytes : ByteArray} {maxL : Nat} {ret : Option FieldType}
    (hM : MetX l y ws rm Pc Qc mc ms free) (hth : ∀ a st o t, Qc a st o t → ∃ x, o = .threw x) (hblind : FrameBlind Pc) (hrc : rm.cells = mc) (hrs : rm.slots = ms)
    (hframes : rm.frames + 1 ≤ R.frames) (hlocals : W0 + (maxL + 11) + rm.locals ≤ R.locals)
    (hws : ∀ w ∈ ws, ∀ a' U, s.WarmedH U.vm → w.before a' U = true) (hcode : Cond.code y bytes maxL ret ∈ ws) (hinit : ∀ a' U, s.WarmedH U.vm → (Cond.initialized y.cls).before a' U = true)
    {m : MethodId} {meth : Method} {c : Code} {U : State} {locs : List Loc} {cells slots : Nat} {g : JFrame} {ig : Instr} {mk : MethodId} {a : Array Value}
    (X : Stand p l e R s m sargs below meth c U locs cells slots) (hg : g.method = m) (hsize : g.locals.size = c.maxLocals) (hdg : decode c.code g.pc = .ok (ig, len))
    (hW : 2 * g.monitorRoom + (g.stack.map fun v => v.category).sum ≤ W0) (hn : U.methodNamed? y = some mk) (hc : cells + mc ≤ R.cells) (hs : slots + ms ≤ R.slots) (hP : Pc a U) :
    ∃ (x : Addr) (t T' : State) (L : List Loc), Stand p l e R s m sargs below meth c T' (locs ++ L) (cells + mc) (slots + ms) ∧ (∀ q ∈ L, free q.base) ∧ T'.heap = t.heap ∧ T'.vm = t.vm ∧ Qc a (U.calling g mk a) (.threw x) t ∧
      Steps p.tables e below (doInvoke e (U.setTop g) [] mk a).1 ((T'.setTop g).pushFrame (.throwing x)) := by
  have h1 : (headSpec ws rm).pre.before a U = true := atoms_intro fun w hw => hws w hw _ _ X.warmed
  obtain ⟨methY, cY, hmY, hcY, -, hlY, -, -, -, -⟩ := Cond.code_spec hn (hws _ hcode a U X.warmed)
  obtain ⟨kY, hkY, -⟩ := className_of_methodNamed hn
  have hinitY : kY.init = .initialized := Cond.initialized_spec (findClass_of_methodNamed hn) hkY (hinit a U X.warmed)
  have h : At U g.method c below := by rw [hg]; exact X.here
  have happ : (headSpec ws rm).appliesLoose y e.platform (U.calling g mk a) = true :=
    Spec.appliesLoose_calling (g := g) h hdg hn hkY hinitY
      (X.room_calling (g := g) (R' := rm) hsize hmY hcY hframes (by rw [hlY]; omega) (by rw [hrc]; exact hc) (by rw [hrs]; exact hs)) h1
  obtain ⟨mid, hmid⟩ := h.above
  have hfr : (U.setTop g).frames = (.java g :: mid) ++ below := by rw [State.frames_setTop' g h.top, hmid]; rfl
  obtain ⟨o, s₂, hsteps, -, hend, hq, L, hfe, hL⟩ := Steps.callFree hM p X.admits X.cas X.clock (acts := []) hfr happ (hblind _ _ _ _ hP) trivial
  obtain ⟨x, rfl⟩ := hth _ _ _ _ hq
  rw [State.frames_setTop' g h.top, X.tail] at hend
  obtain ⟨T', X', -, -, ht⟩ := X.outOfThrown hg hend hfe.1 hfe.2
  refine ⟨x, s₂, T', L, X', hL, ?_, ?_, hq, ?_⟩
  · rw [ht, Stand.throwing_heap]
  · rw [ht, Stand.throwing_vm]
  · rw [← ht]; exact hsteps
end XB
section XC
variable {p : Program} {l : Launch} {e : Env} {R : Room} {s : State} {m : MethodId} {args : Array Value} {below : List Frame} {meth : Method} {c : Code} {H : Heap} {locs : List Loc} {cells slots : Nat} {Q : State → Prop}
variable {y : MethodName} {bytes cc : ByteArray} {maxL nL mc ms n index : Nat} {ret : Option FieldType} {ws : List Cond} {rm : Room} {Pc : Array Value → State → Prop} {Qc : Array Value → State → Outcome → State → Prop} {free : Addr → Prop} {Ts : List Cond} {own C : String} {b : Addr} {As rest : List Value} {g : JFrame}
/-- invokevirtual of a method that throws here -/
theorem W.thrV (S : CallFix p m c cc nL s args Ts own) (hM : MetX l y ws rm Pc Qc mc ms free) (hth : ∀ a st o t, Qc a st o t → ∃ x, o = .threw x) (cw : CallW R s args own C index y bytes maxL ret ws rm mc ms n) (hp : PreV s H C b Pc As)
    (hg : g.method = m) (hn : As.length = n) (hsize : g.locals.size = nL) (hstack : g.stack = As.reverse ++ .ref b :: rest) (hW : 2 * g.monitorRoom + (rest.map fun v => v.category).sum ≤ 8) (hdg : decode cc g.pc = .ok (.invokevirtual index, 3)) (hf : cells + mc ≤ R.cells ∧ slots + ms ≤ R.slots)
    (kk : ∀ (x : Addr) (st₀ t : State) (L : List Loc), st₀.heap = H → s.vm.Alike t.vm → (∀ q ∈ L, free q.base) → Qc (Value.ref b :: As).toArray st₀ (.threw x) t → WT p l e R s m args below meth c t.heap (locs ++ L) (cells + mc) (slots + ms) Q { g with stack := rest } x) :
    W p l e R s m args below meth c H locs cells slots Q g := by
  obtain ⟨⟨hrc, hrs, hfr, hlo, hws, hcw, hcode, hini, hy, hlen, hl⟩, hin, hse⟩ := cw
  obtain ⟨hx, hb, hml, ho, -⟩ := S
  obtain ⟨hbl, ⟨cellB, hcB, hoB, hclB⟩, hPc⟩ := hp
  intro T hT X
  subst hb
  obtain ⟨mk, methM, hnamed, hmethM, hstM, habM⟩ := Cond.instanceMethod_spec hin
  obtain ⟨methM', cM, hmethM', -, -, -, -, -, -, hsigM⟩ := Cond.code_spec hnamed hcode
  cases hmethM.symm.trans hmethM'
  obtain ⟨c2, r2, m2, q1, q2, q3, q4, kP, hkP, hkPi⟩ := Cond.selects_spec hse
  cases hclB.symm.trans q1
  cases (State.methodFound?_of_named hnamed hy).symm.trans q2
  cases hnamed.symm.trans q3
  have hselP : selectMethod e.platform s.vm cellB.cls mk = .method mk := by rw [Launch.admits_selectMethod X.admits]; exact q4
  obtain ⟨vm₁, X₁, hstep₁⟩ := X.invokevirtual hx ho hl hnamed hmethM hstM hkP hkPi hy (a := b) (cell := cellB) (by rw [hT]; exact hcB)
    (fun z h => by rw [h] at hoB; cases hoB) hselP hmethM habM hkP hkPi (g := g) hg (argsL := As) (rest := rest) (hn.trans (hlen _ hsigM)) hstack hdg
  obtain ⟨x, t, T', L, X', hL, e1, e2, hq, st⟩ := x_backT (bytes := bytes) (maxL := maxL) (ret := ret) hM hth hbl hrc hrs hfr hlo hws hcw (fun a' U hW => word_at hW (Or.inl (by first | rfl | simp [Cond.onTables, Cond.keeps, Cond.steady])) hini)
    X₁ (g := { g with stack := rest }) hg (hsize.trans hml.symm) hdg hW (X₁.named hnamed) hf.1 hf.2 (hPc (T.setVm vm₁) hT X₁.warmed)
  obtain ⟨t2, a1, b1⟩ := kk x _ t L (by exact hT) (by rw [← e2]; exact X'.warmed.alike) hL hq T' e1 X'
  exact ⟨t2, hstep₁ _ fun acts => by rw [doInvoke_state]; exact st.trans a1, b1⟩
end XC
end
section
/-! X: the walk seen from where it stands now: what it has done so far counts as done before. -/
section XD
variable {p : Program} {l : Launch} {e : Env} {R : Room} {s : State} {m : MethodId} {args : Array Value} {below : List Frame} {meth : Method} {c : Code} {T : State} {locs : List Loc} {cells slots : Nat}
theorem x_rebase (X : Stand p l e R s m args below meth c T locs cells slots) {R' : Room} (h1 : R'.frames ≤ R.frames) (h2 : R'.locals ≤ R.locals) (h3 : cells + R'.cells ≤ R.cells) (h4 : slots + R'.slots ≤ R.slots) :
    Stand p l e R' (T.setFrames s.frames) m args below meth c T [] 0 0 := by
  obtain ⟨g₀, hfr⟩ := X.frames_eq
  have hcur : T.cur < T.threads.size := State.cur_lt_of_frames hfr
  have hF : (T.setFrames s.frames).frames = .invoking m args :: below := by rw [State.frames_setFrames _ hcur]; exact X.frames
  have hlim : e.platform.stackLimits T.me = e.platform.stackLimits (T.setFrames s.frames).me := by rw [State.stackLimits_setFrames]
  have hbytes : T.me.stackBytes = (T.setFrames s.frames).me.stackBytes := by rw [State.stackBytes_setFrames]
  have hroom : (T.setFrames s.frames).hasRoom e.platform R' = true := by
    have hr := X.room
    have hl1 := State.localsInUse_invoking X.frames X.method X.code
    have hl2 := State.localsInUse_invoking (s := T.setFrames s.frames) hF X.method' X.code
    have hb := X.book
    have hz := X.heapSize
    have hu := X.used
    simp only [State.hasRoom, Bool.and_eq_true, decide_eq_true_eq] at hr ⊢
    rw [hl1, X.frames] at hr
    rw [hl2, hF, ← hlim, ← hbytes, X.limits, X.bytes]
    obtain ⟨⟨⟨⟨a1, a2, a3, a4, a5, a6⟩, a7⟩, a8⟩, -⟩ := hr
    refine ⟨⟨⟨⟨by omega, by omega, by omega, by omega, by omega, a6⟩, ?_⟩, ?_⟩, hb⟩
    · show T.heap.size + R'.cells ≤ _; omega
    · show T.slotsUsed + R'.slots ≤ _; omega
  have hhears : (T.setFrames s.frames).hears m below = true := by
    have hh := X.hears
    have hm : (T.setFrames s.frames).vm.method? = s.vm.method? := by
      funext k
      exact X.warmed.alike.method? k
    rcases below with _ | ⟨y, r⟩
    · simp only [State.hears] at hh ⊢
      rw [hm]; exact hh
    · cases y <;> simp only [State.hears, State.code?_eq] at hh ⊢ <;> first | (rw [hm]; exact hh) | exact hh | trivial
  obtain ⟨t, ht, -⟩ := State.frames_cons hF
  obtain ⟨t2, ht2, -⟩ := State.frames_cons hfr
  refine ⟨X.admits, X.cas, X.clock, hF, hroom, hhears, X.method', X.code, X.here, X.tail, State.WarmedH.refl (T.setFrames s.frames), hlim, hbytes, ?_⟩
  have h := (State.sameButNew.refl (T.setFrames s.frames) ht).setFrames T.frames (State.cur_lt_of_frames hF)
  rw [State.setFrames_setFrames, State.setFrames_self ht2] at h
  exact h
end XD
end
section
/-! X: new E(); athrow, of an exception class of the JDK's, where the launch has no stack traces. -/
abbrev xNs : List String := ["java/lang/RuntimeException", "java/lang/Exception"]
def xTw : List Cond := [.laysStatic Bundle.tN "UNASSIGNED_STACK" Bundle.steD, .laysStatic Bundle.tN "SUPPRESSED_SENTINEL" Bundle.listD, .isRef (.static Bundle.tN "UNASSIGNED_STACK" Bundle.steD), .isRef (.static Bundle.tN "SUPPRESSED_SENTINEL" Bundle.listD), .castable "java/util/NoSuchElementException" "java/util/NoSuchElementException", .castable "java/lang/IllegalStateException" "java/lang/IllegalStateException", .castable "java/lang/IllegalArgumentException" "java/lang/IllegalArgumentException", .declares ⟨"java/lang/RuntimeException", "<init>", "()V"⟩, .declares ⟨"java/lang/Exception", "<init>", "()V"⟩, .declares ⟨"java/lang/Throwable", "<init>", "()V"⟩]
/-- Throwable's statics, in a cell that nobody writes -/
def xTh (A : Nat → Prop) (U : State) (H : Heap) : Prop := ∃ (a : Nat) (cell : Cell), H[a]? = some cell ∧ ¬ A a ∧ ∀ V : State, U.vm.Alike V.vm → V.heap[a]? = some cell → ∀ w ∈ xTw, ∀ ar : Array Value, w.before ar V = true
theorem xTh.moved {A : Nat → Prop} {u U : State} {H : Heap} (hvm : u.vm.Alike U.vm) (h : xTh A u H) : xTh A U H := by
  obtain ⟨a, cell, h1, h2, h3⟩ := h
  exact ⟨a, cell, h1, h2, fun V hV => h3 V (hvm.trans hV)⟩
theorem xTh.kept {A : Nat → Prop} {U : State} {H H1 : Heap} (h : xTh A U H) (hq : ∀ q : Nat, q < H.size → ¬ A q → H1[q]? = H[q]?) : xTh A U H1 := by
  obtain ⟨a, cell, h1, h2, h3⟩ := h
  exact ⟨a, cell, by rw [hq a (Array.getElem?_eq_some_iff.mp h1).1 h2]; exact h1, h2, h3⟩
theorem xTh.narrow {A B : Nat → Prop} {U : State} {H : Heap} (h : xTh A U H) (hAB : ∀ q, B q → A q) : xTh B U H := by
  obtain ⟨a, cell, h1, h2, h3⟩ := h
  exact ⟨a, cell, h1, fun z => h2 (hAB a z), h3⟩
section XF
variable {p : Program} {l : Launch} {e : Env} {R : Room} {s : State} {m : MethodId} {args : Array Value} {below : List Frame} {meth : Method} {c : Code} {H : Heap} {locs : List Loc} {cells slots : Nat}
variable {Qc : Array Value → State → Outcome → State → Prop} {free : Addr → Prop} {cc : ByteArray} {pc : Nat} {ls : Array Slot} {rest : List Value} {A : Nat → Prop} {own cls : String} {ia ic : Nat}
set_option maxHeartbeats 1000000 in
theorem W.throw0 (hx : p.tables.exec = Jvm.exec) (hb : c.code = cc) (hml : ls.size = c.maxLocals) (hown : s.vm.findClass own = some m.cls) (hno : c.exceptionTable.isEmpty = true) (hlocks : meth.locks = false) (hl : l.stackTraces = false)
    (hts : ∀ w ∈ tG, w.before args s = true) (hcls : Bundle.fit cls = true) (how : ∀ w ∈ Bundle.ownAtoms0 own ic cls xNs, w ∈ xTw ∨ w ∈ tG)
    (hcl : (.classLink own ia cls : Cond) ∈ tG) (hinst : (.instantiable cls 6 : Cond) ∈ tG) (hini : (.initialized cls : Cond) ∈ tG)
    (hth : xTh A s s.heap) (hS : va_S A s.heap H locs)
    (hd0 : decode cc pc = .ok (.new ia, 3)) (hd3 : decode cc (pc + 3) = .ok (.dup, 1)) (hd4 : decode cc (pc + 3 + 1) = .ok (.invokespecial ic, 3)) (hd7 : decode cc (pc + 3 + 1 + 3) = .ok (.athrow, 1))
    (hRf : 6 ≤ R.frames) (hRl : (rest.map fun v => v.category).sum + 81 ≤ R.locals) (hRc : cells + 1 ≤ R.cells) (hRs : slots + 6 ≤ R.slots)
    (hq : ∀ (t : State) (x : Addr) (ce : Cell), H.size ≤ t.heap.size → (∀ q : Nat, q < H.size → t.heap[q]? = H[q]?) → t.heap[x]? = some ce → s.vm.findClass cls = some ce.cls → ce.vm.isStatics = false → s.WarmedH t.vm → Qc args s (.threw x) t)
    (hf : ∀ q ∈ locs, free q.base) :
    W p l e R s m args below meth c H locs cells slots (MQX below Qc args s (cells + 1) (slots + 6) free) (F0 m pc ls rest) := by
  intro T hT X
  have htr : e.platform.stackTraces = false := by rw [X.admits.platform]; exact hl
  have X0 := x_rebase X (R' := { frames := R.frames, cells := 1, slots := 6, locals := R.locals }) (Nat.le_refl _) (Nat.le_refl _) hRc hRs
  have hwd : ∀ w ∈ tG, w.before args (T.setFrames s.frames) = true := fun w hw => word_at (U := T.setFrames s.frames) X.warmed (good_of_word (List.mem_filter.mp hw).2) (hts w hw)
  have hown' : (T.setFrames s.frames).vm.findClass own = some m.cls := (X.warmed.alike.findClass own _).trans hown
  obtain ⟨aT, cellT, hT1, hT2, hT3⟩ := hth.kept hS.2.1
  have hth' : ∀ w ∈ xTw, w.before args (T.setFrames s.frames) = true := fun w hw => hT3 (T.setFrames s.frames) X.warmed.alike (by show T.heap[aT]? = _; rw [hT]; exact hT1) w hw args
  have hA : ∀ w ∈ Bundle.ownAtoms0 own ic cls xNs, w.before args (T.setFrames s.frames) = true := fun w hw => (how w hw).elim (hth' w) (hwd w)
  obtain ⟨vm1, cX, kX, f1, f2, f3, f4, X1, st1⟩ := X0.newCold hx hown' (hwd _ hcl) (hwd _ hinst) (hwd _ hini) (g := F0 m pc ls rest) rfl (by rw [hb]; exact hd0) (Nat.le_refl 1) (Nat.le_refl 6)
  have K : W p l e { frames := R.frames, cells := 1, slots := 6, locals := R.locals } (T.setFrames s.frames) m args below meth c ((T.setVm vm1).pushCell { cls := cX, slots := kX.instanceTypes.map defaultValue, vm := .none }).heap [] (0 + 1) (0 + 6)
      (fun U => U.status = .running ∧ Ended U below (.threw T.heap.size) ∧ (T.setFrames s.frames).WarmedH U.vm ∧ (T.setFrames s.frames).sameButNew ({ U with vm := (T.setFrames s.frames).vm } : State) [] 1 6 ∧ ∃ ce, U.heap[T.heap.size]? = some ce ∧ Bundle.OwnCell args (T.setFrames s.frames) cls T.heap.size .null ce) (F0 m (pc + 3) ls (.ref T.heap.size :: rest)) := by
    refine lv_dup hx hb hd3 rfl ?_
    intro T2 hT2 X2
    obtain ⟨U, h1, h2, h3, h4, h5, h6⟩ := X2.ctorThrow0 hx htr hown' hcls (names := xNs) (by decide +kernel) hA (fun x hx => by cases hx) f1 f2 (a := T.heap.size)
      (by rw [hT2]; exact State.heap_pushCell_size (T.setVm vm1) _) (Nat.le_refl _) (g := F0 m (pc + 3 + 1) ls (.ref T.heap.size :: .ref T.heap.size :: rest)) rfl hml rfl rfl (rest := rest) rfl (by rw [hb]; exact hd4) (by rw [hb]; exact hd7)
      (fun y hy => by rw [Array.isEmpty_iff.mp hno] at hy; cases hy) (by show 2 + 3 < R.frames; omega)
      (by show 2 * 0 + ((Value.ref T.heap.size :: rest).map fun v => v.category).sum + (13 * (2 + 1) + 41) ≤ R.locals; rw [List.map_cons, List.sum_cons]; show 2 * 0 + (1 + _) + _ ≤ _; omega) hlocks
    exact ⟨U, h1, h2, h3, h4, h5, h6⟩
  obtain ⟨U, stU, h2, h3, h4, h5, ce, h6, h7⟩ := K _ rfl X1
  have hold : ∀ q : Nat, q < H.size → U.heap[q]? = H[q]? := by
    intro q hq1
    have hcell : (T.setFrames s.frames).heap[q]? = some H[q] := by show T.heap[q]? = _; rw [hT]; exact Array.getElem?_eq_getElem hq1
    rw [Array.getElem?_eq_getElem hq1]
    exact State.sameButNew.old_cell h5 hcell
  have hsz : H.size ≤ U.heap.size := by
    have := h5.2.1
    rw [← hT]; exact this
  have hWU : s.WarmedH U.vm := State.WarmedH.trans X.warmed h4
  refine ⟨U, st1 U stU, .threw T.heap.size, h2, h3, hq U T.heap.size ce hsz hold h6 ((X.warmed.alike.findClass cls _).symm.trans h7.cls) (by rw [h7.vm]; rfl) hWU, locs, ⟨hWU, ?_⟩, hf⟩
  have h8 : (T.setVm s.vm).sameButNew ({ U with vm := s.vm } : State) [] 1 6 := by
    obtain ⟨e1, e2, e3, e4, e5, e6⟩ := h5.setVm s.vm
    refine ⟨?_, e2, e3, e4, e5, e6⟩
    refine e1.trans ?_
    have hff : ∀ (V : State) (F G : List Frame) , ((V.setFrames F).setVm s.vm).setFrames G = (V.setVm s.vm).setFrames G := fun V F G => by
      have h1 : (V.setFrames F).setVm s.vm = (V.setVm s.vm).setFrames F := rfl
      rw [h1, State.setFrames_setFrames]
    rw [hff]
    rfl
  have h9 := X.same.trans h8
  rw [List.append_nil] at h9
  exact h9
end XF
end
section
set_option maxRecDepth 100000 in
theorem xo_1 : ∀ w ∈ Bundle.ownAtoms0 "MuseumHouse" 293 "java/util/NoSuchElementException" xNs, w ∈ xTw ∨ w ∈ tG := by decide +kernel
set_option maxRecDepth 100000 in
theorem xo_2 : ∀ w ∈ Bundle.ownAtoms0 "MuseumHouse" 299 "java/lang/IllegalStateException" xNs, w ∈ xTw ∨ w ∈ tG := by decide +kernel
set_option maxRecDepth 100000 in
theorem xo_3 : ∀ w ∈ Bundle.ownAtoms0 "MuseumHouse" 302 "java/lang/IllegalArgumentException" xNs, w ∈ xTw ∨ w ∈ tG := by decide +kernel
end
section
/-! THE HOUSE'S WORLD: cell 0 the house, 1 to 10 its parts, 11 .. 33 their arrays. Numbers st.1: 0 today, 1 refusedBy, 2 .. 10 how many of kinds 1 .. 9. -/
def hW (ca : Nat → ClassId) (ad : Nat → Nat) (st : pu_St) : va_W := [(ad 0, .inr (0, [.ref (ad 1), .ref (ad 2), .ref (ad 3), .ref (ad 4), .ref (ad 5), .ref (ad 6), .ref (ad 7), .ref (ad 8), .ref (ad 9), .ref (ad 10), .int (st.1 0), .int (st.1 1)])),
  (ad 1, .inr (1, [.int 100, .int 6, .int (st.1 2), .ref (ad 11)])),
  (ad 2, .inr (2, [.int 200, .int 4, .int (st.1 3)])),
  (ad 3, .inr (3, [.int 300, .int 20, .int (st.1 4), .ref (ad 12), .ref (ad 13), .ref (ad 14), .ref (ad 15)])),
  (ad 4, .inr (4, [.int 400, .int 30, .int (st.1 5), .ref (ad 16), .ref (ad 17)])),
  (ad 5, .inr (5, [.int 500, .int 30, .int (st.1 6), .ref (ad 18), .ref (ad 19)])),
  (ad 6, .inr (6, [.ref (ad 20), .ref (ad 21), .ref (ad 22)])),
  (ad 7, .inr (7, [.int 600, .int 16, .int (st.1 7), .ref (ad 23)])),
  (ad 8, .inr (8, [.int 700, .int 40, .int (st.1 8), .ref (ad 24), .ref (ad 25), .ref (ad 26)])),
  (ad 9, .inr (9, [.int 800, .int 10, .int (st.1 9), .ref (ad 27), .ref (ad 28), .ref (ad 29), .ref (ad 30)])),
  (ad 10, .inr (10, [.int 900, .int 20, .int (st.1 10), .ref (ad 31), .ref (ad 32), .ref (ad 33)])),
  (ad 11, .inl (ca 0, 6, .inl (st.2 0))),
  (ad 12, .inl (ca 1, 20, .inl (st.2 1))),
  (ad 13, .inl (ca 2, 20, .inl (st.2 2))),
  (ad 14, .inl (ca 3, 20, .inl (st.2 3))),
  (ad 15, .inl (ca 4, 20, .inl (st.2 4))),
  (ad 16, .inl (ca 5, 30, .inl (st.2 5))),
  (ad 17, .inl (ca 6, 30, .inl (st.2 6))),
  (ad 18, .inl (ca 7, 30, .inl (st.2 7))),
  (ad 19, .inl (ca 8, 30, .inl (st.2 8))),
  (ad 20, .inl (ca 9, 360, .inl (st.2 9))),
  (ad 21, .inl (ca 10, 360, .inl (st.2 10))),
  (ad 22, .inl (ca 11, 30, .inl (st.2 11))),
  (ad 23, .inl (ca 12, 16, .inl (st.2 12))),
  (ad 24, .inl (ca 13, 40, .inl (st.2 13))),
  (ad 25, .inl (ca 14, 40, .inl (st.2 14))),
  (ad 26, .inl (ca 15, 40, .inl (st.2 15))),
  (ad 27, .inl (ca 16, 10, .inl (st.2 16))),
  (ad 28, .inl (ca 17, 10, .inl (st.2 17))),
  (ad 29, .inl (ca 18, 10, .inl (st.2 18))),
  (ad 30, .inl (ca 19, 10, .inl (st.2 19))),
  (ad 31, .inl (ca 20, 20, .inl (st.2 20))),
  (ad 32, .inl (ca 21, 20, .inl (st.2 21))),
  (ad 33, .inl (ca 22, 20, .inl (st.2 22)))]
def hT (ca : Nat → ClassId) : List (ClassId × FieldType) := [(ca 0, .int), (ca 1, .int), (ca 2, .int), (ca 3, .int), (ca 4, .int), (ca 5, .int), (ca 6, .int), (ca 7, .int), (ca 8, .int), (ca 9, .int), (ca 10, .int), (ca 11, .int), (ca 12, .int), (ca 13, .int), (ca 14, .int), (ca 15, .int), (ca 16, .int), (ca 17, .int), (ca 18, .int), (ca 19, .int), (ca 20, .int), (ca 21, .int), (ca 22, .boolean)]
/-- the house's cells, and what is new -/
def hA (ad : Nat → Nat) (sz : Nat) : Nat → Prop := fun q => (∃ k, k < 34 ∧ q = ad k) ∨ sz ≤ q
def hI (ad : Nat → Nat) : Prop := ∀ i j, i < 34 → j < 34 → ad i = ad j → i = j
theorem hW_fst (ca : Nat → ClassId) (ad : Nat → Nat) (st : pu_St) : (hW ca ad st).map (fun q => q.1) = (List.range 34).map ad := rfl
theorem hW_ix {ca : Nat → ClassId} {ad : Nat → Nat} {st : pu_St} {i : Nat} {q : Nat × va_E} (h : (hW ca ad st)[i]? = some q) : i < 34 ∧ q.1 = ad i := by
  have h1 : ((hW ca ad st).map (fun q => q.1))[i]? = some q.1 := by rw [List.getElem?_map, h]; rfl
  rw [hW_fst, List.getElem?_map] at h1
  cases h2 : (List.range 34)[i]? with
  | none => rw [h2] at h1; cases h1
  | some k =>
    rw [h2] at h1
    obtain ⟨h3, h4⟩ := List.getElem?_eq_some_iff.mp h2
    rw [List.getElem_range] at h4
    rw [List.length_range] at h3
    subst h4
    exact ⟨h3, (Option.some.inj h1).symm⟩
theorem hW_D {ca : Nat → ClassId} {ad : Nat → Nat} {st : pu_St} {A : Nat → Prop} (hi : hI ad) (hA0 : ∀ k, k < 34 → A (ad k)) : va_D A (hW ca ad st) := by
  refine ⟨fun i j p q hp hq e => ?_, fun k q hq => ?_⟩
  · obtain ⟨a1, a2⟩ := hW_ix hp
    obtain ⟨b1, b2⟩ := hW_ix hq
    exact hi i j a1 b1 (by rw [← a2, ← b2]; exact e)
  · obtain ⟨a1, a2⟩ := hW_ix hq
    rw [a2]; exact hA0 k a1
abbrev nestLo : Cond := .methodLinkNest "MuseumHouse$Loans" 32 ⟨"MuseumHouse", "daysMeet", "(IIII)Z"⟩ "MuseumHouse"
abbrev nestSh : Cond := .methodLinkNest "MuseumHouse$Shows" 39 ⟨"MuseumHouse", "daysMeet", "(IIII)Z"⟩ "MuseumHouse"
/-- a method of the house's, at its start -/
def hPc (D : va_G) (ca : Nat → ClassId) (ad : Nat → Nat) (st : pu_St) (sz : Nat) (U : State) : Prop :=
  U.heap.size = sz ∧ va_P D hcl (hW ca ad st) U.heap ∧ va_K D hcl (hT ca) U ∧ hI ad ∧ xTh (hA ad sz) U U.heap ∧ va_Nw nestLo U ∧ va_Nw nestSh U
/-- what a walk of the house's knows all along -/
def hX (D : va_G) (ca : Nat → ClassId) (ad : Nat → Nat) (A : Nat → Prop) (s : State) : Prop :=
  va_K D hcl (hT ca) s ∧ hI ad ∧ (∀ k, k < 34 → A (ad k)) ∧ (∀ q, s.heap.size ≤ q → A q) ∧ xTh A s s.heap ∧ va_Nw nestLo s ∧ va_Nw nestSh s
theorem hX.of {D : va_G} {ca : Nat → ClassId} {ad : Nat → Nat} {st : pu_St} {sz : Nat} {s : State} (h : hPc D ca ad st sz s) : hX D ca ad (hA ad s.heap.size) s ∧ va_P D hcl (hW ca ad st) s.heap ∧ s.heap.size = sz := by
  obtain ⟨h1, h2, h3, h4, h5, h6, h7⟩ := h
  subst h1
  exact ⟨⟨h3, h4, fun k hk => Or.inl ⟨k, hk, rfl⟩, fun q h => Or.inr h, h5, h6, h7⟩, h2, rfl⟩
theorem hX.D {D : va_G} {ca : Nat → ClassId} {ad : Nat → Nat} {st : pu_St} {A : Nat → Prop} {s : State} (h : hX D ca ad A s) : va_D A (hW ca ad st) := hW_D h.2.1 h.2.2.1
theorem hX.sub {D : va_G} {ca : Nat → ClassId} {ad : Nat → Nat} {A : Nat → Prop} {s : State} (h : hX D ca ad A s) {H : Heap} {locs : List Loc} (hS : va_S A s.heap H locs) : ∀ q, hA ad H.size q → A q := by
  intro q hq
  rcases hq with ⟨k, hk, rfl⟩ | hq
  · exact h.2.2.1 k hk
  · exact h.2.2.2.1 q (Nat.le_trans hS.1 hq)
theorem hX.pre {D : va_G} {ca : Nat → ClassId} {ad : Nat → Nat} {st : pu_St} {A : Nat → Prop} {s : State} {H : Heap} {locs : List Loc} (h : hX D ca ad A s) (hP : va_P D hcl (hW ca ad st) H) (hS : va_S A s.heap H locs) (U : State) (hU : U.heap = H) (hw : s.WarmedH U.vm) : hPc D ca ad st H.size U := by
  obtain ⟨h1, h2, h3, h4, h5, h6, h7⟩ := id h
  refine ⟨by rw [hU], by rw [hU]; exact hP, va_K.moved hw.alike h1, h2, ?_, va_Nw.warmM hw h6, va_Nw.warmM hw h7⟩
  rw [hU]
  exact ((h5.kept hS.2.1).moved hw.alike).narrow (h.sub hS)
theorem hPc_blind {D : va_G} {ca : Nat → ClassId} {ad : Nat → Nat} {st : pu_St} {sz : Nat} {av : List Value} : FrameBlind (va_Pc av (hPc D ca ad st sz)) := by
  intro a U g mk hq
  obtain ⟨q0, h1, h2, h3, h4, h5, h6, h7⟩ := hq
  exact ⟨q0, h1, h2, va_K.moved (u := U) (U := U.calling g mk a) (Vm.Alike.refl U.vm) h3, h4, xTh.moved (u := U) (U := U.calling g mk a) (Vm.Alike.refl U.vm) h5, va_Nw.same (u := U) (U := U.calling g mk a) rfl rfl h6, va_Nw.same (u := U) (U := U.calling g mk a) rfl rfl h7⟩
/-- a call of a method of the house's: what it asks of the heap -/
theorem hX.preV {D : va_G} {ca : Nat → ClassId} {ad : Nat → Nat} {st : pu_St} {A : Nat → Prop} {s : State} {H : Heap} {locs : List Loc} (h : hX D ca ad A s) (hP : va_P D hcl (hW ca ad st) H) (hS : va_S A s.heap H locs) {ci N : Nat} {C : String} {T : u_T} {fs : List Value} (q0 : Nat) {b : Nat} (hq : (hW ca ad st)[q0]? = some (b, .inr (ci, fs))) (hc : hcl[ci]? = some (C, T, N)) {As : List Value} :
    PreV s H C b (va_Pc (.ref b :: As) (hPc D ca ad st H.size)) As :=
  ⟨hPc_blind, va_recv h.1 hP (ci := ci) (q0 := q0) hc hq, fun U hU hw => ⟨rfl, h.pre hP hS U hU hw⟩⟩
theorem hX.preS {D : va_G} {ca : Nat → ClassId} {ad : Nat → Nat} {st : pu_St} {A : Nat → Prop} {s : State} {H : Heap} {locs : List Loc} (h : hX D ca ad A s) (hP : va_P D hcl (hW ca ad st) H) (hS : va_S A s.heap H locs) {As : List Value} :
    PreS s H (va_Pc As (hPc D ca ad st H.size)) As :=
  ⟨hPc_blind, fun U hU hw => ⟨rfl, h.pre hP hS U hU hw⟩⟩
/-- the machine's side of a walk: code, tables -/
def hC (p : Program) (s : State) (m : MethodId) (meth : Method) (c : Code) (args : Array Value) (bytes : ByteArray) (maxL : Nat) (ret : Option FieldType) (own : String) : Prop :=
  p.tables.exec = Jvm.exec ∧ c.code = bytes ∧ c.maxLocals = maxL ∧ meth.sig.returnType = ret ∧ meth.locks = false ∧ c.exceptionTable.isEmpty = true ∧ s.vm.findClass own = some m.cls ∧ ∀ w ∈ tG, w.before args s = true
/-- a method that only reads -/
theorem hRead {l : Launch} {y : MethodName} {bytes : ByteArray} {maxL : Nat} {ret : Option FieldType} {rm : Room} {D : va_G} {ca : Nat → ClassId} {ad : Nat → Nat} {st : pu_St} {sz : Nat} {av : List Value} {r : Int32} (hy : plainName y.cls = true)
    (body : ∀ p e s m below meth c, hC p s m meth c av.toArray bytes maxL ret y.cls → hX D ca ad (hA ad s.heap.size) s → va_P D hcl (hW ca ad st) s.heap → W p l e rm s m av.toArray below meth c s.heap [] 0 0 (MQ below (QcRead r) av.toArray s 0 0 (fun _ => False)) (entryFrame m av.toArray maxL)) :
    Met l y (.code y bytes maxL ret :: tG) rm (va_Pc av (hPc D ca ad st sz)) (QcRead r) 0 0 (fun _ => False) := by
  refine Met.ofW (cc := bytes) (maxL := maxL) (ret := ret) hy rfl ?_
  intro p e s m args below meth c s₁ B hml hv
  obtain ⟨rfl, hv⟩ := hv
  obtain ⟨G, hP, -⟩ := hX.of hv
  have hts := atoms_spec (ws := .code y bytes maxL ret :: tG) B.pre
  exact body p e s m below meth c ⟨B.exec, B.bytes, hml, B.returns, B.notSynchronized, B.noHandlers (hts _ List.mem_cons_self), findClass_of_methodNamed B.named, fun w hw => hts w (List.mem_cons_of_mem _ hw)⟩ G hP
/-- kinds of exceptions -/
def xE (k : Nat) : String := if k = 1 then "java/util/NoSuchElementException" else if k = 2 then "java/lang/IllegalStateException" else "java/lang/IllegalArgumentException"
/-- how a method ended -/
def hO (ov : Int32 → Option Value) (r : Int32 ⊕ Nat) (oc : Outcome) (t : State) : Prop := match r with
  | .inl v => oc = .returned (ov v)
  | .inr k => ∃ (x : Addr) (ce : Cell), oc = .threw x ∧ t.heap[x]? = some ce ∧ ce.vm.isStatics = false ∧ t.vm.findClass (xE k) = some ce.cls
def xc (r : Int32 ⊕ Nat) : Nat := match r with | .inl _ => 0 | .inr _ => 1
def xs (r : Int32 ⊕ Nat) : Nat := match r with | .inl _ => 0 | .inr _ => 6
def hQ (D : va_G) (ca : Nat → ClassId) (ad : Nat → Nat) (ov : Int32 → Option Value) (r : Int32 ⊕ Nat) (st : pu_St) (sz : Nat) : Array Value → State → Outcome → State → Prop := fun _ st0 oc t =>
  hO ov r oc t ∧ va_P D hcl (hW ca ad st) t.heap ∧ va_F (hA ad sz) st0 t
/-- a method that may write and throw -/
theorem hMet {l : Launch} {y : MethodName} {bytes : ByteArray} {maxL : Nat} {ret : Option FieldType} {rm : Room} {D : va_G} {ca : Nat → ClassId} {ad : Nat → Nat} {st st' : pu_St} {sz : Nat} {av : List Value} {ov : Int32 → Option Value} {r : Int32 ⊕ Nat} {mc ms : Nat} (hy : plainName y.cls = true)
    (body : ∀ p e s m below meth c, s.heap.size = sz → hC p s m meth c av.toArray bytes maxL ret y.cls → hX D ca ad (hA ad s.heap.size) s → va_P D hcl (hW ca ad st) s.heap → W p l e rm s m av.toArray below meth c s.heap [] 0 0 (MQX below (hQ D ca ad ov r st' s.heap.size) av.toArray s mc ms (hA ad s.heap.size)) (entryFrame m av.toArray maxL)) :
    MetX l y (.code y bytes maxL ret :: tG) rm (va_Pc av (hPc D ca ad st sz)) (hQ D ca ad ov r st' sz) mc ms (hA ad sz) := by
  refine MetX.ofW (cc := bytes) (maxL := maxL) (ret := ret) hy rfl ?_
  intro p e s m args below meth c s₁ B hml hno hv
  obtain ⟨rfl, hv⟩ := hv
  obtain ⟨G, hP, hz⟩ := hX.of hv
  have hts := atoms_spec (ws := .code y bytes maxL ret :: tG) B.pre
  have h := body p e s m below meth c hz ⟨B.exec, B.bytes, hml, B.returns, B.notSynchronized, hno, findClass_of_methodNamed B.named, fun w hw => hts w (List.mem_cons_of_mem _ hw)⟩ G hP
  rw [hz] at h
  exact h
/-- the words of a call -/
theorem xCW {R : Room} {s : State} {args : Array Value} {own C : String} {index maxL : Nat} {y : MethodName} {bytes : ByteArray} {ret : Option FieldType} {rm : Room} (n : Nat) (hts : ∀ w ∈ tG, w.before args s = true) (hc : (.code y bytes maxL ret : Cond) ∈ tG) (hini : (.initialized y.cls : Cond) ∈ tG) (hl : (.methodLink own index y : Cond) ∈ tG) (hin : (.instanceMethod y : Cond) ∈ tG) (hsel : (.selects C y y : Cond) ∈ tG)
    (hd : y.cls ≠ "java/lang/invoke/MethodHandle" ∧ y.cls ≠ "java/lang/invoke/VarHandle" ∧ (parseMethodDescriptor y.desc).map (fun d => d.parameters.length) = some n) (hR : rm.frames + 1 ≤ R.frames ∧ 8 + (maxL + 11) + rm.locals ≤ R.locals) :
    CallW R s args own C index y bytes maxL ret (.code y bytes maxL ret :: tG) rm rm.cells rm.slots n := by
  have hG : GoodIn tG (.code y bytes maxL ret :: tG) := fun w hw => by
    have hw' : w ∈ tG := (List.mem_cons.mp hw).elim (fun e => by rw [e]; exact hc) (fun h => h)
    exact ⟨hw', good_of_word (List.mem_filter.mp hw').2⟩
  exact ⟨callB_of n hts hG rfl rfl rfl (hts _ hini) (hts _ hl) hd hR, hts _ hin, hts _ hsel⟩
theorem xCS {R : Room} {s : State} {args : Array Value} {own : String} {index maxL : Nat} {y : MethodName} {bytes : ByteArray} {ret : Option FieldType} {rm : Room} (n : Nat) (hts : ∀ w ∈ tG, w.before args s = true) (hc : (.code y bytes maxL ret : Cond) ∈ tG) (hini : (.initialized y.cls : Cond) ∈ tG) (hl : (.methodLink own index y : Cond) ∈ tG) (hst : (.static y : Cond) ∈ tG)
    (hd : y.cls ≠ "java/lang/invoke/MethodHandle" ∧ y.cls ≠ "java/lang/invoke/VarHandle" ∧ (parseMethodDescriptor y.desc).map (fun d => d.parameters.length) = some n) (hR : rm.frames + 1 ≤ R.frames ∧ 8 + (maxL + 11) + rm.locals ≤ R.locals) :
    CallB R s args own index y bytes maxL ret (.code y bytes maxL ret :: tG) rm rm.cells rm.slots n ∧ (Cond.static y).before args s = true := by
  have hG : GoodIn tG (.code y bytes maxL ret :: tG) := fun w hw => by
    have hw' : w ∈ tG := (List.mem_cons.mp hw).elim (fun e => by rw [e]; exact hc) (fun h => h)
    exact ⟨hw', good_of_word (List.mem_filter.mp hw').2⟩
  exact ⟨callB_of n hts hG rfl rfl rfl (hts _ hini) (hts _ hl) hd hR, hts _ hst⟩
/-- of an inherited method -/
theorem xCU {R : Room} {s : State} {args : Array Value} {own C owner : String} {index maxL : Nat} {x y : MethodName} {bytes : ByteArray} {ret : Option FieldType} {rm : Room} (n : Nat) (hts : ∀ w ∈ tG, w.before args s = true) (hc : (.code y bytes maxL ret : Cond) ∈ tG) (hini : (.initialized y.cls : Cond) ∈ tG) (hl : (.methodLink own index x : Cond) ∈ tG) (hsm : (.sameMethod x.cls owner x.name x.desc : Cond) ∈ tG) (hin : (.instanceMethod y : Cond) ∈ tG) (hsel : (.selects C x y : Cond) ∈ tG)
    (hyx : y = ⟨owner, x.name, x.desc⟩) (hd : owner ≠ "java/lang/invoke/MethodHandle" ∧ owner ≠ "java/lang/invoke/VarHandle" ∧ (parseMethodDescriptor x.desc).map (fun d => d.parameters.length) = some n) (hR : rm.frames + 1 ≤ R.frames ∧ 8 + (maxL + 11) + rm.locals ≤ R.locals) :
    va_CU R s args own C owner index x y bytes maxL ret (.code y bytes maxL ret :: tG) rm rm.cells rm.slots n := by
  have hg : ∀ w, w ∈ tG → w ∈ tG ∧ ((w.onTables && w.keeps) = true ∨ ∃ ty, w = .arrayClass ty) := fun w hw => ⟨hw, good_of_word (List.mem_filter.mp hw).2⟩
  refine va_cwU (Ts := tG) n hts ?_ rfl rfl rfl hyx hd hR
  intro w hw
  simp only [va_wsU, List.cons_append, List.nil_append, List.mem_cons] at hw
  rcases hw with rfl | rfl | rfl | rfl | rfl | rfl | hw
  · exact hg _ hl
  · exact hg _ hsm
  · exact hg _ hsel
  · exact hg _ hin
  · exact hg _ hini
  · exact hg _ hc
  · exact hg _ hw
end
section
/-! ROWS of the printed walks -/
def pu_fu : Nat := 100000
section RA
variable {p : Program} {l : Launch} {e : Env} {R : Room} {s : State} {m : MethodId} {args : Array Value} {below : List Frame} {meth : Method} {c : Code} {H : Heap} {locs : List Loc} {cells slots : Nat} {Q : State → Prop}
variable {cc : ByteArray} {pc : Nat} {ls : Array Slot} {rest st0 : List Value} {D : va_G} {cl : List vw_C} {A : Nat → Prop} {a : Nat} {tys : List (ClassId × FieldType)} {ws : va_W} {H0 : Heap}
theorem pu_iald (hexec : p.tables.exec = Jvm.exec) (hb : c.code = cc) (hK : va_K D cl tys s) (hP : va_P D cl ws H) (q0 t0 : Nat) {cA : ClassId} {n : Nat} {f : Nat → Int32} (ha : ws[q0]? = some (a, .inl (cA, n, .inl f))) (ht : tys[t0]? = some (cA, .int)) {i v : Int32} (h : pu_ld f n i = some v) (hdg : decode cc pc = .ok (.iaload, 1))
    (kk : W p l e R s m args below meth c H locs cells slots Q (F0 m (pc + 1) ls (.int v :: rest))) : W p l e R s m args below meth c H locs cells slots Q (F0 m pc ls (.int i :: .ref a :: rest)) := by
  obtain ⟨h1, h2⟩ := pu_ld_inv h
  subst h2
  exact va_iald hexec hb hK hP q0 t0 ha ht h1 hdg kk
theorem pu_zald (hexec : p.tables.exec = Jvm.exec) (hb : c.code = cc) (hK : va_K D cl tys s) (hP : va_P D cl ws H) (q0 t0 : Nat) {cA : ClassId} {n : Nat} {f : Nat → Int32} (ha : ws[q0]? = some (a, .inl (cA, n, .inl f))) (ht : tys[t0]? = some (cA, .boolean)) {i v : Int32} (h : pu_ld f n i = some v) (hdg : decode cc pc = .ok (.baload, 1))
    (kk : W p l e R s m args below meth c H locs cells slots Q (F0 m (pc + 1) ls (.int v :: rest))) : W p l e R s m args below meth c H locs cells slots Q (F0 m pc ls (.int i :: .ref a :: rest)) := by
  obtain ⟨h1, h2⟩ := pu_ld_inv h
  subst h2
  exact va_zald hexec hb hK hP q0 t0 ha ht h1 hdg kk
theorem pu_iast (hexec : p.tables.exec = Jvm.exec) (hb : c.code = cc) (hK : va_K D cl tys s) (hP : va_P D cl ws H) (hD : va_D A ws) (hS : va_S A H0 H locs) (q0 t0 : Nat) {cA : ClassId} {n : Nat} {f g : Nat → Int32} (ha : ws[q0]? = some (a, .inl (cA, n, .inl f))) (ht : tys[t0]? = some (cA, .int)) {i x : Int32} (h : pu_sd f n i x = some g) (hdg : decode cc pc = .ok (.iastore, 1))
    (kk : ∀ (H1 : Heap) (locs1 : List Loc), va_P D cl (ws.set q0 (a, .inl (cA, n, .inl g))) H1 → va_S A H0 H1 locs1 → W p l e R s m args below meth c H1 locs1 cells slots Q (F0 m (pc + 1) ls rest)) : W p l e R s m args below meth c H locs cells slots Q (F0 m pc ls (.int x :: .int i :: .ref a :: rest)) := by
  obtain ⟨h1, h2⟩ := pu_sd_inv h
  subst h2
  exact va_iast hexec hb hK hP hD hS q0 t0 ha ht h1 hdg (fun H1 locs1 hP _ hS => kk H1 locs1 hP hS)
theorem pu_zast (hexec : p.tables.exec = Jvm.exec) (hb : c.code = cc) (hK : va_K D cl tys s) (hP : va_P D cl ws H) (hD : va_D A ws) (hS : va_S A H0 H locs) (q0 t0 : Nat) {cA : ClassId} {n : Nat} {f g : Nat → Int32} (ha : ws[q0]? = some (a, .inl (cA, n, .inl f))) (ht : tys[t0]? = some (cA, .boolean)) {i x : Int32} (h : pu_sd f n i x = some g) (hn : vp_nar .boolean x = x) (hdg : decode cc pc = .ok (.bastore, 1))
    (kk : ∀ (H1 : Heap) (locs1 : List Loc), va_P D cl (ws.set q0 (a, .inl (cA, n, .inl g))) H1 → va_S A H0 H1 locs1 → W p l e R s m args below meth c H1 locs1 cells slots Q (F0 m (pc + 1) ls rest)) : W p l e R s m args below meth c H locs cells slots Q (F0 m pc ls (.int x :: .int i :: .ref a :: rest)) := by
  obtain ⟨h1, h2⟩ := pu_sd_inv h
  subst h2
  refine va_zast hexec hb hK hP hD hS q0 t0 ha ht h1 hdg (fun H1 locs1 hP _ hS => kk H1 locs1 ?_ hS)
  rw [hn] at hP
  exact hP
theorem pu_callR {r : Int32} {aa : Array Value} (hr : va_Run p l e R s m args below meth c H locs cells slots 0 0 (F0 m pc ls st0) rest (QcRead r aa) (fun _ => False)) (kk : W p l e R s m args below meth c H locs cells slots Q (F0 m (pc + 3) ls (.int r :: rest))) : W p l e R s m args below meth c H locs cells slots Q (F0 m pc ls st0) :=
  W.callR hr.run (W.eq rfl kk)
theorem pu_o9 {v : Int32} (h : ¬ v = 1 ∧ ¬ v = 2 ∧ ¬ v = 3 ∧ ¬ v = 4 ∧ ¬ v = 5 ∧ ¬ v = 6 ∧ ¬ v = 7 ∧ ¬ v = 8 ∧ ¬ v = 9) : v.toInt < 1 ∨ 9 < v.toInt := by
  by_cases h1 : v.toInt < 1
  · exact Or.inl h1
  by_cases h2 : 9 < v.toInt
  · exact Or.inr h2
  exfalso
  have e : v.toInt = 1 ∨ v.toInt = 2 ∨ v.toInt = 3 ∨ v.toInt = 4 ∨ v.toInt = 5 ∨ v.toInt = 6 ∨ v.toInt = 7 ∨ v.toInt = 8 ∨ v.toInt = 9 := by omega
  have k : ∀ w : Int32, v.toInt = w.toInt → v = w := fun w hw => Int32.toInt_inj.mp hw
  obtain ⟨a1, a2, a3, a4, a5, a6, a7, a8, a9⟩ := h
  rcases e with e | e | e | e | e | e | e | e | e
  · exact a1 (k 1 e)
  · exact a2 (k 2 e)
  · exact a3 (k 3 e)
  · exact a4 (k 4 e)
  · exact a5 (k 5 e)
  · exact a6 (k 6 e)
  · exact a7 (k 7 e)
  · exact a8 (k 8 e)
  · exact a9 (k 9 e)
theorem xCN {own host : String} {index maxL : Nat} {y : MethodName} {bytes : ByteArray} {ret : Option FieldType} {rm : Room} (n : Nat) (hts : ∀ w ∈ tG, w.before args s = true) (hc : (.code y bytes maxL ret : Cond) ∈ tG) (hini : (.initialized y.cls : Cond) ∈ tG) (hl : va_Nw (.methodLinkNest own index y host) s) (hst : (.static y : Cond) ∈ tG)
    (hd : y.cls ≠ "java/lang/invoke/MethodHandle" ∧ y.cls ≠ "java/lang/invoke/VarHandle" ∧ (parseMethodDescriptor y.desc).map (fun d => d.parameters.length) = some n) (hR : rm.frames + 1 ≤ R.frames ∧ 8 + (maxL + 11) + rm.locals ≤ R.locals) :
    va_CN R s args own index y host bytes maxL ret (.code y bytes maxL ret :: tG) rm rm.cells rm.slots n ∧ (Cond.static y).before args s = true ∧ True := by
  have hG : GoodIn tG (.code y bytes maxL ret :: tG) := fun w hw => by
    have hw' : w ∈ tG := (List.mem_cons.mp hw).elim (fun e => by rw [e]; exact hc) (fun h => h)
    exact ⟨hw', good_of_word (List.mem_filter.mp hw').2⟩
  exact ⟨va_cnB n hts hG rfl rfl rfl hl (hts _ hini) hd hR, hts _ hst, trivial⟩
end RA
section RB
variable {p : Program} {l : Launch} {e : Env} {R : Room} {s : State} {m : MethodId} {args : Array Value} {below : List Frame} {meth : Method} {c : Code} {H : Heap} {locs : List Loc} {cells slots : Nat} {Q : State → Prop}
variable {cc : ByteArray} {pc : Nat} {ls : Array Slot} {rest st0 : List Value} {D : va_G} {ca : Nat → ClassId} {ad : Nat → Nat} {A : Nat → Prop} {st st' : pu_St}
theorem hCallI {v : Int32} {aa : Array Value} (G : hX D ca ad A s) (hS : va_S A s.heap H locs) (hr : va_Run p l e R s m args below meth c H locs cells slots 0 0 (F0 m pc ls st0) rest (hQ D ca ad (fun v => some (.int v)) (.inl v) st' H.size aa) (hA ad H.size))
    (kk : ∀ (H1 : Heap) (locs1 : List Loc), va_P D hcl (hW ca ad st') H1 → va_S A s.heap H1 locs1 → W p l e R s m args below meth c H1 locs1 cells slots Q (F0 m (pc + 3) ls (.int v :: rest))) : W p l e R s m args below meth c H locs cells slots Q (F0 m pc ls st0) := by
  intro T hT X
  obtain ⟨v', st₀, t, T', L, h0, X', hL, e1, e2, ⟨hv, hP1, hF⟩, st⟩ := hr T hT X
  have hv : Outcome.returned v' = .returned (some (.int v)) := hv
  cases hv
  obtain ⟨hz, hk⟩ := hF
  rw [h0] at hz hk
  rw [← e1] at hP1 hz
  obtain ⟨t2, a1, b1⟩ := kk T'.heap (locs ++ L) hP1 ⟨Nat.le_trans hS.1 hz, fun q h1 h2 => by
      rw [e1, hk q (Nat.lt_of_lt_of_le h1 hS.1) (fun z => h2 (G.sub hS q z))]; exact hS.2.1 q h1 h2, fun q hq => by
      rcases List.mem_append.mp hq with h | h
      · exact hS.2.2 q h
      · exact G.sub hS _ (hL q h)⟩ T' rfl X'
  exact ⟨t2, st t2 a1, b1⟩
theorem hCallU {v : Int32} {aa : Array Value} (G : hX D ca ad A s) (hS : va_S A s.heap H locs) (hr : va_Run p l e R s m args below meth c H locs cells slots 0 0 (F0 m pc ls st0) rest (hQ D ca ad (fun _ => none) (.inl v) st' H.size aa) (hA ad H.size))
    (kk : ∀ (H1 : Heap) (locs1 : List Loc), va_P D hcl (hW ca ad st') H1 → va_S A s.heap H1 locs1 → W p l e R s m args below meth c H1 locs1 cells slots Q (F0 m (pc + 3) ls rest)) : W p l e R s m args below meth c H locs cells slots Q (F0 m pc ls st0) := by
  intro T hT X
  obtain ⟨v', st₀, t, T', L, h0, X', hL, e1, e2, ⟨hv, hP1, hF⟩, st⟩ := hr T hT X
  have hv : Outcome.returned v' = .returned none := hv
  cases hv
  obtain ⟨hz, hk⟩ := hF
  rw [h0] at hz hk
  rw [← e1] at hP1 hz
  obtain ⟨t2, a1, b1⟩ := kk T'.heap (locs ++ L) hP1 ⟨Nat.le_trans hS.1 hz, fun q h1 h2 => by
      rw [e1, hk q (Nat.lt_of_lt_of_le h1 hS.1) (fun z => h2 (G.sub hS q z))]; exact hS.2.1 q h1 h2, fun q hq => by
      rcases List.mem_append.mp hq with h | h
      · exact hS.2.2 q h
      · exact G.sub hS _ (hL q h)⟩ T' rfl X'
  exact ⟨t2, st t2 a1, b1⟩
variable {y : MethodName} {bytes : ByteArray} {maxL nL mc ms n index : Nat} {ret : Option FieldType} {ws : List Cond} {rm : Room} {Pc : Array Value → State → Prop} {Ts : List Cond} {own C : String} {b : Addr} {As : List Value} {ov ov2 : Int32 → Option Value} {k : Nat}
theorem hThrV (G : hX D ca ad (hA ad s.heap.size) s) (hS : va_S (hA ad s.heap.size) s.heap H locs) (hno : c.exceptionTable.isEmpty = true) (hlocks : meth.locks = false) (S : CallFix p m c cc nL s args Ts own)
    (hM : MetX l y ws rm Pc (hQ D ca ad ov2 (.inr k) st' H.size) mc ms (hA ad H.size)) (cw : CallW R s args own C index y bytes maxL ret ws rm mc ms n) (hp : PreV s H C b Pc As)
    (hg0 : (F0 m pc ls st0).method = m) (hn : As.length = n) (hsize : ls.size = nL) (hstack : st0 = As.reverse ++ .ref b :: rest) (hW0 : 2 * (F0 m pc ls st0).monitorRoom + (rest.map fun v => v.category).sum ≤ 8) (hdg : decode cc pc = .ok (.invokevirtual index, 3)) (hf : 0 + mc ≤ R.cells ∧ 0 + ms ≤ R.slots) :
    W p l e R s m args below meth c H locs 0 0 (MQX below (hQ D ca ad ov (.inr k) st' s.heap.size) args s mc ms (hA ad s.heap.size)) (F0 m pc ls st0) := by
  refine W.thrV S hM (fun _ _ _ _ q => ?_) cw hp hg0 hn hsize hstack hW0 hdg hf (fun x st₀ t L h0 hal hL hq => ?_)
  · obtain ⟨x, ce, hx, -⟩ := q.1
    exact ⟨x, hx⟩
  · obtain ⟨⟨x', ce, hx', h1, h2, h3⟩, hP', hz, hk⟩ := hq
    cases hx'
    rw [h0] at hz hk
    rw [Nat.zero_add, Nat.zero_add]
    refine WT.out hno hlocks (fun t' ht' hW' => ⟨⟨x, ce, rfl, by rw [ht']; exact h1, h2, ?_⟩, by rw [ht']; exact hP', by rw [ht']; exact Nat.le_trans hS.1 hz, fun q g1 g2 => ?_⟩) (fun q hq => ?_)
    · rw [hW'.alike.findClass, ← hal.findClass]; exact h3
    · rw [ht', hk q (Nat.lt_of_lt_of_le g1 hS.1) (fun z => g2 (G.sub hS q z))]; exact hS.2.1 q g1 g2
    · rcases List.mem_append.mp hq with h | h
      · exact hS.2.2 q h
      · exact G.sub hS _ (hL q h)
theorem hThrow {cls : String} {ia ic : Nat} (G : hX D ca ad (hA ad s.heap.size) s) (hx : p.tables.exec = Jvm.exec) (hb : c.code = cc) (hml : ls.size = c.maxLocals) (hown : s.vm.findClass own = some m.cls) (hno : c.exceptionTable.isEmpty = true) (hlocks : meth.locks = false) (hl : l.stackTraces = false)
    (hts : ∀ w ∈ tG, w.before args s = true) (hcls : Bundle.fit cls = true) (how : ∀ w ∈ Bundle.ownAtoms0 own ic cls xNs, w ∈ xTw ∨ w ∈ tG)
    (hcl0 : (.classLink own ia cls : Cond) ∈ tG) (hinst : (.instantiable cls 6 : Cond) ∈ tG) (hini : (.initialized cls : Cond) ∈ tG)
    (hP : va_P D hcl (hW ca ad st) H) (hS : va_S (hA ad s.heap.size) s.heap H locs)
    (hd0 : decode cc pc = .ok (.new ia, 3)) (hd3 : decode cc (pc + 3) = .ok (.dup, 1)) (hd4 : decode cc (pc + 3 + 1) = .ok (.invokespecial ic, 3)) (hd7 : decode cc (pc + 3 + 1 + 3) = .ok (.athrow, 1))
    (hRf : 6 ≤ R.frames) (hRl : (rest.map fun v => v.category).sum + 81 ≤ R.locals) (hRc : 0 + 1 ≤ R.cells) (hRs : 0 + 6 ≤ R.slots) (hk : xE k = cls) :
    W p l e R s m args below meth c H locs 0 0 (MQX below (hQ D ca ad ov (.inr k) st s.heap.size) args s (xc (.inr k)) (xs (.inr k)) (hA ad s.heap.size)) (F0 m pc ls rest) := by
  refine W.throw0 hx hb hml hown hno hlocks hl hts hcls how hcl0 hinst hini G.2.2.2.2.1 hS hd0 hd3 hd4 hd7 hRf hRl hRc hRs (fun t x ce hz hold hxe hfc hst hWt => ?_) hS.2.2
  refine ⟨⟨x, ce, rfl, hxe, hst, by rw [hk, hWt.alike.findClass]; exact hfc⟩, ?_, Nat.le_trans hS.1 hz, fun q g1 g2 => ?_⟩
  · exact hP.kept (fun i q hq => hold q.1 (hP i q hq).lt)
  · rw [hold q (Nat.lt_of_lt_of_le g1 hS.1)]; exact hS.2.1 q g1 g2
end RB
end
section
def f_Rg_size_Co (st : pu_St) : Option Int32 :=
  some (st.1 4)
def f_Rg_numberFor_De_b23 (st : pu_St) (x1 x2 : Int32) : Option Int32 :=
  some (-1)
def f_Rg_numberFor_De (st : pu_St) (x1 : Int32) : Option Int32 :=
  if (x1 - 100) < 0 then
    f_Rg_numberFor_De_b23 st x1 (x1 - 100)
  else
    if (st.1 2) ≤ (x1 - 100) then
      f_Rg_numberFor_De_b23 st x1 (x1 - 100)
    else
      some (x1 - 100)
def f_Co_isOver (st : pu_St) (x1 x2 : Int32) : Option Int32 :=
  (pu_ld (st.2 4) 20 x1).bind fun v1 =>
  if (v1 &&& (1 <<< (x2 &&& 31))) = 0 then
    some 0
  else
    some 1
def f_Co_greatestFirstBelow_b4 : Nat → pu_St → Int32 → Int32 → Int32 → Option Int32
  | 0, _, _, _, _ => none
  | n + 1, st, x1, x2, x3 =>
    (f_Rg_size_Co st).bind fun v1 =>
    if v1 ≤ x3 then
      some x2
    else
      (f_Co_isOver st x1 x3).bind fun v3 =>
      if v3 = 0 then
        f_Co_greatestFirstBelow_b4 n st x1 x2 (x3 + 1)
      else
        (pu_ld (st.2 2) 20 x3).bind fun v5 =>
        f_Co_greatestFirstBelow_b4 n st x1 (if x2 < v5 then v5 else x2) (x3 + 1)
def f_Co_greatestFirstBelow (st : pu_St) (x1 : Int32) : Option Int32 :=
  f_Co_greatestFirstBelow_b4 pu_fu st x1 0 0
def f_Rg_enter_De (st : pu_St) : Option (Int32 × pu_St) :=
  some ((st.1 2), (va_up st.1 2 ((st.1 2) + 1), st.2))
def f_Rg_handleOf_De (st : pu_St) (x1 : Int32) : Option Int32 :=
  some (100 + x1)
def f_De_open (st : pu_St) (x1 : Int32) : Option (Int32 × pu_St) :=
  (f_Rg_enter_De st).bind fun q1 =>
  (pu_sd (q1.2.2 0) 6 q1.1 x1).bind fun g2 =>
  (f_Rg_handleOf_De (q1.2.1, va_up q1.2.2 0 g2) q1.1).bind fun v3 =>
  some (v3, (q1.2.1, va_up q1.2.2 0 g2))
def f_De_hasAll (st : pu_St) (x1 x2 : Int32) : Option Int32 :=
  (pu_ld (st.2 0) 6 x1).bind fun v1 =>
  if (v1 &&& x2) = x2 then
    some 1
  else
    some 0
def f_H_numberOf_De (st : pu_St) (x2 : Int32) : pu_R :=
  (f_Rg_numberFor_De st x2).bind fun v1 =>
  if v1 = (-1) then
    some (.inr 1, (va_up st.1 1 1, st.2))
  else
    some (.inl v1, st)
def f_H_ask (st : pu_St) (x1 x2 : Int32) : pu_R :=
  if x2 = 0 then
    some (.inr 3, (va_up st.1 1 x1, st.2))
  else
    some (.inl 0, st)
def f_H_askRight (st : pu_St) (x1 x2 : Int32) : pu_R :=
  (f_De_hasAll st x1 x2).bind fun v1 =>
  if v1 = 0 then
    some (.inr 2, (va_up st.1 1 2, st.2))
  else
    some (.inl 0, st)
def f_Rg_isFull_De (st : pu_St) : Option Int32 :=
  if (st.1 2) < 6 then
    some 0
  else
    some 1
def f_H_askRoom (st : pu_St) (x1 : Int32) : pu_R :=
  if x1 = 0 then
    some (.inr 2, (va_up st.1 1 3, st.2))
  else
    some (.inl 0, st)
def f_H_desk_b52 (st : pu_St) (x1 x2 x3 z0 z1 : Int32) : pu_R :=
  pu_xb (f_H_ask st z1 z0) fun v11 st12 =>
  (f_De_hasAll st12 x3 x2).bind fun v13 =>
  pu_xb (f_H_ask st12 5 v13) fun v14 st15 =>
  (f_De_open st15 x2).bind fun q16 =>
  some (.inl q16.1, q16.2)
def f_H_desk_b51 (st : pu_St) (x1 x2 x3 z0 : Int32) : pu_R :=
  f_H_desk_b52 st x1 x2 x3 0 z0
def f_H_desk_b32 (st : pu_St) (x1 x2 x3 z0 : Int32) : pu_R :=
  pu_xb (f_H_askRoom st z0) fun v7 st8 =>
  if x2 < 0 then
    f_H_desk_b51 st8 x1 x2 x3 4
  else
    if 63 < x2 then
      f_H_desk_b51 st8 x1 x2 x3 4
    else
      f_H_desk_b52 st8 x1 x2 x3 1 4
def f_H_desk (st : pu_St) (x1 x2 : Int32) : pu_R :=
  pu_xb (f_H_numberOf_De st x1) fun v1 st2 =>
  pu_xb (f_H_askRight st2 v1 1) fun v3 st4 =>
  (f_Rg_isFull_De st4).bind fun v5 =>
  if v5 = 0 then
    f_H_desk_b32 st4 x1 x2 v1 1
  else
    f_H_desk_b32 st4 x1 x2 v1 0
set_option maxHeartbeats 4000000 in
set_option maxRecDepth 100000 in
theorem c_Rg_size_Co (l : Launch) (D : va_G) (ca : Nat → ClassId) (ad : Nat → Nat) (st : pu_St) (sz : Nat) (r : Int32) (h : f_Rg_size_Co st = some r) : Met l y_Rg_size (.code y_Rg_size b_Rg_size 1 (some .int) :: tG) { frames := 0, cells := 0, slots := 0, locals := 0 } (va_Pc [.ref (ad 3)] (hPc D ca ad st sz)) (QcRead r) 0 0 (fun _ => False) := by
  refine hRead (by decide +kernel) ?_
  intro p e s m below meth c C G hP
  obtain ⟨hx, hb, hml, hr, hlocks, hno, hown, hts⟩ := id C
  have hown : s.vm.findClass "MuseumHouse$Register" = some m.cls := hown
  have hS : va_S (hA ad s.heap.size) s.heap s.heap [] := va_S.rf
  have hl := lv_entry ([.ref (ad 3)]) (n := 1) (Nat.le_of_ble_eq_true rfl)
  rw [lg_entry_eq]
  generalize (lg_sl ([.ref (ad 3)]) ++ List.replicate (1 - (lg_sl ([.ref (ad 3)])).length) Slot.unset).toArray = ls at hl ⊢
  have hl : lv_has ls 1 [(0, .ref (ad 3))] := hl
  unfold f_Rg_size_Co at h
  refine lv_aload_n hx hb d_Rg_size_0 rfl (lv_at hl 0 rfl) ?_
  refine va_get (D := D) (ci := 3) (v := .int (st.1 4)) (C := R_Co) (T := T_Co) (N := 7) hx hb hts iw_Co hown G.1 hP 3 rfl rfl 2 (by decide) (hts _ wd_1_47) (fun _ h9 => h9) rfl d_Rg_size_1 ?_
  have h := Option.some.inj h
  exact W.iret (v := (st.1 4)) hx hb hr (fun t ht _ => ⟨by rw [h], ht⟩) (fun _ q => by cases q) d_Rg_size_4
set_option maxHeartbeats 4000000 in
set_option maxRecDepth 100000 in
theorem t_Rg_numberFor_De_b23 {l : Launch} {p : Program} {e : Env} {s : State} {m : MethodId} {args : Array Value} {below : List Frame} {meth : Method} {c : Code} {D : va_G} {ca : Nat → ClassId} {ad : Nat → Nat} {A : Nat → Prop} {st : pu_St} {r : Int32} (C : hC p s m meth c args b_Rg_numberFor 3 (some .int) "MuseumHouse$Register") (G : hX D ca ad A s) (hP : va_P D hcl (hW ca ad st) s.heap) (hS : va_S A s.heap s.heap []) :
    ∀ (_ : Unit) (x1 x2 : Int32), f_Rg_numberFor_De_b23 st x1 x2 = some r → ∀ ls : Array Slot, lv_has ls 3 [(0, .ref (ad 1)), (1, .int x1), (2, .int x2)] → W p l e { frames := 0, cells := 0, slots := 0, locals := 0 } s m args below meth c s.heap [] 0 0 (MQ below (QcRead r) args s 0 0 (fun _ => False)) (F0 m 23 ls []) := by
  obtain ⟨hx, hb, hml, hr, hlocks, hno, hown, hts⟩ := id C
  intro _ x1 x2 h ls hl
  unfold f_Rg_numberFor_De_b23 at h
  refine lv_iconst (v := (-1)) hx hb d_Rg_numberFor_23 (by decide) ?_
  have h := Option.some.inj h
  exact W.iret (v := (-1)) hx hb hr (fun t ht _ => ⟨by rw [h], ht⟩) (fun _ q => by cases q) d_Rg_numberFor_24
set_option maxHeartbeats 4000000 in
set_option maxRecDepth 100000 in
theorem c_Rg_numberFor_De (l : Launch) (D : va_G) (ca : Nat → ClassId) (ad : Nat → Nat) (st : pu_St) (sz : Nat) (x1 : Int32) (r : Int32) (h : f_Rg_numberFor_De st x1 = some r) : Met l y_Rg_numberFor (.code y_Rg_numberFor b_Rg_numberFor 3 (some .int) :: tG) { frames := 0, cells := 0, slots := 0, locals := 0 } (va_Pc [.ref (ad 1), .int x1] (hPc D ca ad st sz)) (QcRead r) 0 0 (fun _ => False) := by
  refine hRead (by decide +kernel) ?_
  intro p e s m below meth c C G hP
  obtain ⟨hx, hb, hml, hr, hlocks, hno, hown, hts⟩ := id C
  have hown : s.vm.findClass "MuseumHouse$Register" = some m.cls := hown
  have hS : va_S (hA ad s.heap.size) s.heap s.heap [] := va_S.rf
  have hl := lv_entry ([.ref (ad 1), .int x1]) (n := 3) (Nat.le_of_ble_eq_true rfl)
  rw [lg_entry_eq]
  generalize (lg_sl ([.ref (ad 1), .int x1]) ++ List.replicate (3 - (lg_sl ([.ref (ad 1), .int x1])).length) Slot.unset).toArray = ls at hl ⊢
  have hl : lv_has ls 3 [(0, .ref (ad 1)), (1, .int x1)] := hl
  unfold f_Rg_numberFor_De at h
  refine lv_iload_n hx hb d_Rg_numberFor_0 rfl (lv_at hl 1 rfl) ?_
  refine lv_aload_n hx hb d_Rg_numberFor_1 rfl (lv_at hl 0 rfl) ?_
  refine va_get (D := D) (ci := 1) (v := .int 100) (C := R_De) (T := T_De) (N := 4) hx hb hts iw_De hown G.1 hP 1 rfl rfl 0 (by decide) (hts _ wd_1_45) (fun _ h9 => h9) rfl d_Rg_numberFor_2 ?_
  refine lv_isub hx hb d_Rg_numberFor_5 ?_
  refine lv_istore_n (lv' := [(2, .int (x1 - 100)), (0, .ref (ad 1)), (1, .int x1)]) hx hb d_Rg_numberFor_6 rfl hl (by decide) rfl (fun ls hl => ?_)
  refine lv_iload_n hx hb d_Rg_numberFor_7 rfl (lv_at hl 0 rfl) ?_
  refine lv_if_lt (tgt := 23) hx hb d_Rg_numberFor_8 (by decide) (fun c1 => ?_) (fun c1 => ?_)
  · rw [if_pos c1] at h
    exact t_Rg_numberFor_De_b23 C G hP hS () x1 (x1 - 100) h ls (lv_sub hl [1, 2, 0] rfl)
  · rw [if_neg c1] at h
    refine lv_iload_n hx hb d_Rg_numberFor_11 rfl (lv_at hl 0 rfl) ?_
    refine lv_aload_n hx hb d_Rg_numberFor_12 rfl (lv_at hl 1 rfl) ?_
    refine va_get (D := D) (ci := 1) (v := .int (st.1 2)) (C := R_De) (T := T_De) (N := 4) hx hb hts iw_De hown G.1 hP 1 rfl rfl 2 (by decide) (hts _ wd_1_47) (fun _ h9 => h9) rfl d_Rg_numberFor_13 ?_
    refine lv_icmp_ge (tgt := 23) hx hb d_Rg_numberFor_16 (by decide) (fun c2 => ?_) (fun c2 => ?_)
    · rw [if_pos c2] at h
      exact t_Rg_numberFor_De_b23 C G hP hS () x1 (x1 - 100) h ls (lv_sub hl [1, 2, 0] rfl)
    · rw [if_neg c2] at h
      refine lv_iload_n hx hb d_Rg_numberFor_19 rfl (lv_at hl 0 rfl) ?_
      refine lv_goto (tgt := 24) hx hb d_Rg_numberFor_20 (by decide) ?_
      have h := Option.some.inj h
      exact W.iret (v := (x1 - 100)) hx hb hr (fun t ht _ => ⟨by rw [h], ht⟩) (fun _ q => by cases q) d_Rg_numberFor_24
set_option maxHeartbeats 4000000 in
set_option maxRecDepth 100000 in
theorem c_Co_isOver (l : Launch) (D : va_G) (ca : Nat → ClassId) (ad : Nat → Nat) (st : pu_St) (sz : Nat) (x1 x2 : Int32) (r : Int32) (h : f_Co_isOver st x1 x2 = some r) : Met l y_Co_isOver (.code y_Co_isOver b_Co_isOver 3 (some .boolean) :: tG) { frames := 0, cells := 0, slots := 0, locals := 0 } (va_Pc [.ref (ad 3), .int x1, .int x2] (hPc D ca ad st sz)) (QcRead r) 0 0 (fun _ => False) := by
  refine hRead (by decide +kernel) ?_
  intro p e s m below meth c C G hP
  obtain ⟨hx, hb, hml, hr, hlocks, hno, hown, hts⟩ := id C
  have hown : s.vm.findClass "MuseumHouse$Contexts" = some m.cls := hown
  have hS : va_S (hA ad s.heap.size) s.heap s.heap [] := va_S.rf
  have hl := lv_entry ([.ref (ad 3), .int x1, .int x2]) (n := 3) (Nat.le_of_ble_eq_true rfl)
  rw [lg_entry_eq]
  generalize (lg_sl ([.ref (ad 3), .int x1, .int x2]) ++ List.replicate (3 - (lg_sl ([.ref (ad 3), .int x1, .int x2])).length) Slot.unset).toArray = ls at hl ⊢
  have hl : lv_has ls 3 [(0, .ref (ad 3)), (1, .int x1), (2, .int x2)] := hl
  unfold f_Co_isOver at h
  refine lv_aload_n hx hb d_Co_isOver_0 rfl (lv_at hl 0 rfl) ?_
  refine va_get (D := D) (ci := 3) (v := .ref (ad 15)) (C := R_Co) (T := T_Co) (N := 7) hx hb hts iw_Co hown G.1 hP 3 rfl rfl 6 (by decide) (hts _ wd_1_77) (fun _ h9 => h9) rfl d_Co_isOver_1 ?_
  refine lv_iload_n hx hb d_Co_isOver_4 rfl (lv_at hl 1 rfl) ?_
  obtain ⟨v1, e_v1, h⟩ := pu_ob h
  refine pu_iald hx hb G.1 hP 15 4 rfl rfl e_v1 d_Co_isOver_5 ?_
  refine lv_iconst (v := 1) hx hb d_Co_isOver_6 (by decide) ?_
  refine lv_iload_n hx hb d_Co_isOver_7 rfl (lv_at hl 2 rfl) ?_
  refine lv_ishl hx hb d_Co_isOver_8 ?_
  refine lv_iand hx hb d_Co_isOver_9 ?_
  refine lv_if_eq (tgt := 17) hx hb d_Co_isOver_10 (by decide) (fun c2 => ?_) (fun c2 => ?_)
  · rw [if_pos c2] at h
    refine lv_iconst (v := 0) hx hb d_Co_isOver_17 (by decide) ?_
    have h := Option.some.inj h
    exact W.zret (v := 0) (ty := .boolean) hx hb hr rfl (fun t ht _ => ⟨by rw [h], ht⟩) (fun _ q => by cases q) d_Co_isOver_18
  · rw [if_neg c2] at h
    refine lv_iconst (v := 1) hx hb d_Co_isOver_13 (by decide) ?_
    refine lv_goto (tgt := 18) hx hb d_Co_isOver_14 (by decide) ?_
    have h := Option.some.inj h
    exact W.zret (v := 1) (ty := .boolean) hx hb hr rfl (fun t ht _ => ⟨by rw [h], ht⟩) (fun _ q => by cases q) d_Co_isOver_18
set_option maxHeartbeats 4000000 in
set_option maxRecDepth 100000 in
theorem t_Co_greatestFirstBelow_b4 {l : Launch} {p : Program} {e : Env} {s : State} {m : MethodId} {args : Array Value} {below : List Frame} {meth : Method} {c : Code} {D : va_G} {ca : Nat → ClassId} {ad : Nat → Nat} {A : Nat → Prop} {st : pu_St} {r : Int32} (C : hC p s m meth c args b_Co_greatestFirstBelow 4 (some .int) "MuseumHouse$Contexts") (G : hX D ca ad A s) (hP : va_P D hcl (hW ca ad st) s.heap) (hS : va_S A s.heap s.heap []) :
    ∀ (n : Nat) (x1 x2 x3 : Int32), f_Co_greatestFirstBelow_b4 n st x1 x2 x3 = some r → ∀ ls : Array Slot, lv_has ls 4 [(0, .ref (ad 3)), (1, .int x1), (2, .int x2), (3, .int x3)] → W p l e { frames := 1, cells := 0, slots := 0, locals := 29 } s m args below meth c s.heap [] 0 0 (MQ below (QcRead r) args s 0 0 (fun _ => False)) (F0 m 4 ls []) := by
  obtain ⟨hx, hb, hml, hr, hlocks, hno, hown, hts⟩ := id C
  intro n
  induction n with
  | zero => intro x1 x2 x3 h; cases h
  | succ n ih =>
    intro x1 x2 x3 h ls hl
    unfold f_Co_greatestFirstBelow_b4 at h
    refine lv_iload_n hx hb d_Co_greatestFirstBelow_4 rfl (lv_at hl 3 rfl) ?_
    refine lv_aload_n hx hb d_Co_greatestFirstBelow_5 rfl (lv_at hl 0 rfl) ?_
    obtain ⟨v1, e_v1, h⟩ := pu_ob h
    refine pu_callR (va_runU (As := []) (rest := [.int x3]) ⟨hx, hb, hml, hown, hts⟩ (c_Rg_size_Co l D ca ad st _ v1 e_v1) (xCU (C := "MuseumHouse$Contexts") (owner := "MuseumHouse$Register") (x := ⟨"MuseumHouse$Contexts", "size", "()I"⟩) 0 hts wd_3_4 wd_1_2 wd_2_239 wd_3_0 wd_3_3 wd_3_2 rfl (by decide +kernel) ⟨Nat.le_of_ble_eq_true rfl, Nat.le_of_ble_eq_true rfl⟩) (G.preV hP hS 3 rfl rfl) rfl rfl hl.1 rfl (lv_room (Nat.le_of_ble_eq_true rfl)) d_Co_greatestFirstBelow_6 ⟨Nat.zero_le _, Nat.zero_le _⟩) ?_
    refine lv_icmp_ge (tgt := 38) hx hb d_Co_greatestFirstBelow_9 (by decide) (fun c2 => ?_) (fun c2 => ?_)
    · rw [if_pos c2] at h
      refine lv_iload_n hx hb d_Co_greatestFirstBelow_38 rfl (lv_at hl 2 rfl) ?_
      have h := Option.some.inj h
      exact W.iret (v := x2) hx hb hr (fun t ht _ => ⟨by rw [h], ht⟩) (fun _ q => by cases q) d_Co_greatestFirstBelow_39
    · rw [if_neg c2] at h
      refine lv_aload_n hx hb d_Co_greatestFirstBelow_12 rfl (lv_at hl 0 rfl) ?_
      refine lv_iload_n hx hb d_Co_greatestFirstBelow_13 rfl (lv_at hl 1 rfl) ?_
      refine lv_iload_n hx hb d_Co_greatestFirstBelow_14 rfl (lv_at hl 3 rfl) ?_
      obtain ⟨v3, e_v3, h⟩ := pu_ob h
      refine pu_callR (va_runV (As := [.int x1, .int x3]) (rest := []) ⟨hx, hb, hml, hown, hts⟩ (c_Co_isOver l D ca ad st _ x1 x3 v3 e_v3) (xCW (C := "MuseumHouse$Contexts") 2 hts wd_2_226 wd_1_5 wd_3_5 wd_2_224 wd_2_225 (by decide +kernel) ⟨Nat.le_of_ble_eq_true rfl, Nat.le_of_ble_eq_true rfl⟩) (G.preV hP hS 3 rfl rfl) rfl rfl hl.1 rfl (lv_room (Nat.le_of_ble_eq_true rfl)) d_Co_greatestFirstBelow_15 ⟨Nat.zero_le _, Nat.zero_le _⟩) ?_
      refine lv_if_eq (tgt := 32) hx hb d_Co_greatestFirstBelow_18 (by decide) (fun c4 => ?_) (fun c4 => ?_)
      · rw [if_pos c4] at h
        refine lv_iinc (v := (x3 + 1)) (lv' := [(3, .int (x3 + 1)), (0, .ref (ad 3)), (1, .int x1), (2, .int x2)]) hx hb d_Co_greatestFirstBelow_32 hl (k := 3) rfl rfl (by decide) rfl (fun ls hl => ?_)
        refine lv_goto (tgt := 4) hx hb d_Co_greatestFirstBelow_35 (by decide) ?_
        exact ih x1 x2 (x3 + 1) h ls (lv_sub hl [1, 2, 3, 0] rfl)
      · rw [if_neg c4] at h
        refine lv_iload_n hx hb d_Co_greatestFirstBelow_21 rfl (lv_at hl 2 rfl) ?_
        refine lv_aload_n hx hb d_Co_greatestFirstBelow_22 rfl (lv_at hl 0 rfl) ?_
        refine va_get (D := D) (ci := 3) (v := .ref (ad 13)) (C := R_Co) (T := T_Co) (N := 7) hx hb hts iw_Co hown G.1 hP 3 rfl rfl 4 (by decide) (hts _ wd_1_75) (fun _ h9 => h9) rfl d_Co_greatestFirstBelow_23 ?_
        refine lv_iload_n hx hb d_Co_greatestFirstBelow_26 rfl (lv_at hl 3 rfl) ?_
        obtain ⟨v5, e_v5, h⟩ := pu_ob h
        refine pu_iald hx hb G.1 hP 13 2 rfl rfl e_v5 d_Co_greatestFirstBelow_27 ?_
        refine va_mmax hx hb (hml.trans hl.1.symm) hown (hts _ wd_3_6) (hts _ wd_3_7) (hts _ wd_1_20) (hts _ wd_3_8) (Nat.le_of_ble_eq_true rfl) (Nat.le_of_ble_eq_true rfl) (Nat.zero_le _) (Nat.zero_le _) d_Co_greatestFirstBelow_28 ?_
        refine lv_istore_n (lv' := [(2, .int (if x2 < v5 then v5 else x2)), (0, .ref (ad 3)), (1, .int x1), (3, .int x3)]) hx hb d_Co_greatestFirstBelow_31 rfl hl (by decide) rfl (fun ls hl => ?_)
        refine lv_iinc (v := (x3 + 1)) (lv' := [(3, .int (x3 + 1)), (2, .int (if x2 < v5 then v5 else x2)), (0, .ref (ad 3)), (1, .int x1)]) hx hb d_Co_greatestFirstBelow_32 hl (k := 3) rfl rfl (by decide) rfl (fun ls hl => ?_)
        refine lv_goto (tgt := 4) hx hb d_Co_greatestFirstBelow_35 (by decide) ?_
        exact ih x1 (if x2 < v5 then v5 else x2) (x3 + 1) h ls (lv_sub hl [2, 3, 1, 0] rfl)
set_option maxHeartbeats 4000000 in
set_option maxRecDepth 100000 in
theorem c_Co_greatestFirstBelow (l : Launch) (D : va_G) (ca : Nat → ClassId) (ad : Nat → Nat) (st : pu_St) (sz : Nat) (x1 : Int32) (r : Int32) (h : f_Co_greatestFirstBelow st x1 = some r) : Met l y_Co_greatestFirstBelow (.code y_Co_greatestFirstBelow b_Co_greatestFirstBelow 4 (some .int) :: tG) { frames := 1, cells := 0, slots := 0, locals := 29 } (va_Pc [.ref (ad 3), .int x1] (hPc D ca ad st sz)) (QcRead r) 0 0 (fun _ => False) := by
  refine hRead (by decide +kernel) ?_
  intro p e s m below meth c C G hP
  obtain ⟨hx, hb, hml, hr, hlocks, hno, hown, hts⟩ := id C
  have hown : s.vm.findClass "MuseumHouse$Contexts" = some m.cls := hown
  have hS : va_S (hA ad s.heap.size) s.heap s.heap [] := va_S.rf
  have hl := lv_entry ([.ref (ad 3), .int x1]) (n := 4) (Nat.le_of_ble_eq_true rfl)
  rw [lg_entry_eq]
  generalize (lg_sl ([.ref (ad 3), .int x1]) ++ List.replicate (4 - (lg_sl ([.ref (ad 3), .int x1])).length) Slot.unset).toArray = ls at hl ⊢
  have hl : lv_has ls 4 [(0, .ref (ad 3)), (1, .int x1)] := hl
  unfold f_Co_greatestFirstBelow at h
  refine lv_iconst (v := 0) hx hb d_Co_greatestFirstBelow_0 (by decide) ?_
  refine lv_istore_n (lv' := [(2, .int 0), (0, .ref (ad 3)), (1, .int x1)]) hx hb d_Co_greatestFirstBelow_1 rfl hl (by decide) rfl (fun ls hl => ?_)
  refine lv_iconst (v := 0) hx hb d_Co_greatestFirstBelow_2 (by decide) ?_
  refine lv_istore_n (lv' := [(3, .int 0), (2, .int 0), (0, .ref (ad 3)), (1, .int x1)]) hx hb d_Co_greatestFirstBelow_3 rfl hl (by decide) rfl (fun ls hl => ?_)
  exact t_Co_greatestFirstBelow_b4 C G hP hS pu_fu x1 0 0 h ls (lv_sub hl [2, 3, 1, 0] rfl)
set_option maxHeartbeats 4000000 in
set_option maxRecDepth 100000 in
theorem c_Rg_enter_De (l : Launch) (htl : l.stackTraces = false) (D : va_G) (ca : Nat → ClassId) (ad : Nat → Nat) (st : pu_St) (sz : Nat) (v : Int32) (st' : pu_St) (h : f_Rg_enter_De st = some (v, st')) : MetX l y_Rg_enter (.code y_Rg_enter b_Rg_enter 2 (some .int) :: tG) { frames := 0, cells := 0, slots := 0, locals := 0 } (va_Pc [.ref (ad 1)] (hPc D ca ad st sz)) (hQ D ca ad (fun v => some (.int v)) (.inl v) st' sz) 0 0 (hA ad sz) := by
  refine hMet (by decide +kernel) ?_
  intro p e s m below meth c hsz C G hP
  obtain ⟨hx, hb, hml, hr, hlocks, hno, hown, hts⟩ := id C
  have hown : s.vm.findClass "MuseumHouse$Register" = some m.cls := hown
  have hS : va_S (hA ad s.heap.size) s.heap s.heap [] := va_S.rf
  have hl := lv_entry ([.ref (ad 1)]) (n := 2) (Nat.le_of_ble_eq_true rfl)
  rw [lg_entry_eq]
  generalize (lg_sl ([.ref (ad 1)]) ++ List.replicate (2 - (lg_sl ([.ref (ad 1)])).length) Slot.unset).toArray = ls at hl ⊢
  have hl : lv_has ls 2 [(0, .ref (ad 1))] := hl
  unfold f_Rg_enter_De at h
  refine lv_aload_n hx hb d_Rg_enter_0 rfl (lv_at hl 0 rfl) ?_
  refine va_get (D := D) (ci := 1) (v := .int (st.1 2)) (C := R_De) (T := T_De) (N := 4) hx hb hts iw_De hown G.1 hP 1 rfl rfl 2 (by decide) (hts _ wd_1_47) (fun _ h9 => h9) rfl d_Rg_enter_1 ?_
  refine lv_istore_n (lv' := [(1, .int (st.1 2)), (0, .ref (ad 1))]) hx hb d_Rg_enter_4 rfl hl (by decide) rfl (fun ls hl => ?_)
  refine lv_aload_n hx hb d_Rg_enter_5 rfl (lv_at hl 1 rfl) ?_
  refine lv_dup hx hb d_Rg_enter_6 rfl ?_
  refine va_get (D := D) (ci := 1) (v := .int (st.1 2)) (C := R_De) (T := T_De) (N := 4) hx hb hts iw_De hown G.1 hP 1 rfl rfl 2 (by decide) (hts _ wd_1_47) (fun _ h9 => h9) rfl d_Rg_enter_7 ?_
  refine lv_iconst (v := 1) hx hb d_Rg_enter_10 (by decide) ?_
  refine lv_iadd hx hb d_Rg_enter_11 ?_
  refine va_put (D := D) (ci := 1) (v := .int ((st.1 2) + 1)) (ty := .int) (C := R_De) (T := T_De) (N := 4) hx hb hts iw_De ty_De to_De nm_De hown G.1 hP (G.D) hS 1 rfl rfl 2 (by decide) (hts _ wd_1_47) (fun _ h9 => h9) rfl (by decide +kernel) rfl rfl (Nat.le_of_ble_eq_true rfl) d_Rg_enter_12 (fun H locs hP _ hS => ?_)
  have hP : va_P D hcl (hW ca ad (va_up st.1 2 ((st.1 2) + 1), st.2)) H := hP
  refine lv_iload_n hx hb d_Rg_enter_15 rfl (lv_at hl 0 rfl) ?_
  cases h
  exact W.toX (W.iret hx hb hr (fun t ht _ => ⟨rfl, by rw [ht]; exact hP, hS.F ht⟩) hS.2.2 d_Rg_enter_16)
set_option maxHeartbeats 4000000 in
set_option maxRecDepth 100000 in
theorem c_Rg_handleOf_De (l : Launch) (D : va_G) (ca : Nat → ClassId) (ad : Nat → Nat) (st : pu_St) (sz : Nat) (x1 : Int32) (r : Int32) (h : f_Rg_handleOf_De st x1 = some r) : Met l y_Rg_handleOf (.code y_Rg_handleOf b_Rg_handleOf 2 (some .int) :: tG) { frames := 0, cells := 0, slots := 0, locals := 0 } (va_Pc [.ref (ad 1), .int x1] (hPc D ca ad st sz)) (QcRead r) 0 0 (fun _ => False) := by
  refine hRead (by decide +kernel) ?_
  intro p e s m below meth c C G hP
  obtain ⟨hx, hb, hml, hr, hlocks, hno, hown, hts⟩ := id C
  have hown : s.vm.findClass "MuseumHouse$Register" = some m.cls := hown
  have hS : va_S (hA ad s.heap.size) s.heap s.heap [] := va_S.rf
  have hl := lv_entry ([.ref (ad 1), .int x1]) (n := 2) (Nat.le_of_ble_eq_true rfl)
  rw [lg_entry_eq]
  generalize (lg_sl ([.ref (ad 1), .int x1]) ++ List.replicate (2 - (lg_sl ([.ref (ad 1), .int x1])).length) Slot.unset).toArray = ls at hl ⊢
  have hl : lv_has ls 2 [(0, .ref (ad 1)), (1, .int x1)] := hl
  unfold f_Rg_handleOf_De at h
  refine lv_aload_n hx hb d_Rg_handleOf_0 rfl (lv_at hl 0 rfl) ?_
  refine va_get (D := D) (ci := 1) (v := .int 100) (C := R_De) (T := T_De) (N := 4) hx hb hts iw_De hown G.1 hP 1 rfl rfl 0 (by decide) (hts _ wd_1_45) (fun _ h9 => h9) rfl d_Rg_handleOf_1 ?_
  refine lv_iload_n hx hb d_Rg_handleOf_4 rfl (lv_at hl 1 rfl) ?_
  refine lv_iadd hx hb d_Rg_handleOf_5 ?_
  have h := Option.some.inj h
  exact W.iret (v := (100 + x1)) hx hb hr (fun t ht _ => ⟨by rw [h], ht⟩) (fun _ q => by cases q) d_Rg_handleOf_6
set_option maxHeartbeats 4000000 in
set_option maxRecDepth 100000 in
theorem c_De_open (l : Launch) (htl : l.stackTraces = false) (D : va_G) (ca : Nat → ClassId) (ad : Nat → Nat) (st : pu_St) (sz : Nat) (x1 : Int32) (v : Int32) (st' : pu_St) (h : f_De_open st x1 = some (v, st')) : MetX l y_De_open (.code y_De_open b_De_open 3 (some .int) :: tG) { frames := 1, cells := 0, slots := 0, locals := 21 } (va_Pc [.ref (ad 1), .int x1] (hPc D ca ad st sz)) (hQ D ca ad (fun v => some (.int v)) (.inl v) st' sz) 0 0 (hA ad sz) := by
  refine hMet (by decide +kernel) ?_
  intro p e s m below meth c hsz C G hP
  obtain ⟨hx, hb, hml, hr, hlocks, hno, hown, hts⟩ := id C
  have hown : s.vm.findClass "MuseumHouse$Desks" = some m.cls := hown
  have hS : va_S (hA ad s.heap.size) s.heap s.heap [] := va_S.rf
  have hl := lv_entry ([.ref (ad 1), .int x1]) (n := 3) (Nat.le_of_ble_eq_true rfl)
  rw [lg_entry_eq]
  generalize (lg_sl ([.ref (ad 1), .int x1]) ++ List.replicate (3 - (lg_sl ([.ref (ad 1), .int x1])).length) Slot.unset).toArray = ls at hl ⊢
  have hl : lv_has ls 3 [(0, .ref (ad 1)), (1, .int x1)] := hl
  unfold f_De_open at h
  refine lv_aload_n hx hb d_De_open_0 rfl (lv_at hl 0 rfl) ?_
  obtain ⟨q1, e_q1, h⟩ := pu_ob h
  refine hCallI G hS (va_runU (As := []) (rest := []) ⟨hx, hb, hml, hown, hts⟩ (MetX.met (c_Rg_enter_De l htl D ca ad st _ q1.1 q1.2 e_q1) (fun _ _ _ _ q => ⟨_, q.1⟩)) (xCU (C := "MuseumHouse$Desks") (owner := "MuseumHouse$Register") (x := ⟨"MuseumHouse$Desks", "enter", "()I"⟩) 0 hts wd_1_43 wd_1_2 wd_1_38 wd_1_39 wd_1_42 wd_1_41 rfl (by decide +kernel) ⟨Nat.le_of_ble_eq_true rfl, Nat.le_of_ble_eq_true rfl⟩) (G.preV hP hS 1 rfl rfl) rfl rfl hl.1 rfl (lv_room (Nat.le_of_ble_eq_true rfl)) d_De_open_1 ⟨Nat.zero_le _, Nat.zero_le _⟩) (fun H locs hP hS => ?_)
  refine lv_istore_n (lv' := [(2, .int q1.1), (0, .ref (ad 1)), (1, .int x1)]) hx hb d_De_open_4 rfl hl (by decide) rfl (fun ls hl => ?_)
  refine lv_aload_n hx hb d_De_open_5 rfl (lv_at hl 1 rfl) ?_
  refine va_get (D := D) (ci := 1) (v := .ref (ad 11)) (C := R_De) (T := T_De) (N := 4) hx hb hts iw_De hown G.1 hP 1 rfl rfl 3 (by decide) (hts _ wd_1_44) (fun _ h9 => h9) rfl d_De_open_6 ?_
  refine lv_iload_n hx hb d_De_open_9 rfl (lv_at hl 0 rfl) ?_
  refine lv_iload_n hx hb d_De_open_10 rfl (lv_at hl 2 rfl) ?_
  obtain ⟨g2, e_g2, h⟩ := pu_ob h
  refine pu_iast hx hb G.1 hP (G.D) hS 11 0 rfl rfl e_g2 d_De_open_11 (fun H locs hP hS => ?_)
  have hP : va_P D hcl (hW ca ad (q1.2.1, va_up q1.2.2 0 g2)) H := hP
  refine lv_aload_n hx hb d_De_open_12 rfl (lv_at hl 1 rfl) ?_
  refine lv_iload_n hx hb d_De_open_13 rfl (lv_at hl 0 rfl) ?_
  obtain ⟨v3, e_v3, h⟩ := pu_ob h
  refine pu_callR (va_runU (As := [.int q1.1]) (rest := []) ⟨hx, hb, hml, hown, hts⟩ (c_Rg_handleOf_De l D ca ad (q1.2.1, va_up q1.2.2 0 g2) _ q1.1 v3 e_v3) (xCU (C := "MuseumHouse$Desks") (owner := "MuseumHouse$Register") (x := ⟨"MuseumHouse$Desks", "handleOf", "(I)I"⟩) 1 hts wd_2_164 wd_1_2 wd_2_159 wd_2_160 wd_2_163 wd_2_162 rfl (by decide +kernel) ⟨Nat.le_of_ble_eq_true rfl, Nat.le_of_ble_eq_true rfl⟩) (G.preV hP hS 1 rfl rfl) rfl rfl hl.1 rfl (lv_room (Nat.le_of_ble_eq_true rfl)) d_De_open_14 ⟨Nat.zero_le _, Nat.zero_le _⟩) ?_
  cases h
  exact W.toX (W.iret hx hb hr (fun t ht _ => ⟨rfl, by rw [ht]; exact hP, hS.F ht⟩) hS.2.2 d_De_open_17)
set_option maxHeartbeats 4000000 in
set_option maxRecDepth 100000 in
theorem c_De_hasAll (l : Launch) (D : va_G) (ca : Nat → ClassId) (ad : Nat → Nat) (st : pu_St) (sz : Nat) (x1 x2 : Int32) (r : Int32) (h : f_De_hasAll st x1 x2 = some r) : Met l y_De_hasAll (.code y_De_hasAll b_De_hasAll 3 (some .boolean) :: tG) { frames := 0, cells := 0, slots := 0, locals := 0 } (va_Pc [.ref (ad 1), .int x1, .int x2] (hPc D ca ad st sz)) (QcRead r) 0 0 (fun _ => False) := by
  refine hRead (by decide +kernel) ?_
  intro p e s m below meth c C G hP
  obtain ⟨hx, hb, hml, hr, hlocks, hno, hown, hts⟩ := id C
  have hown : s.vm.findClass "MuseumHouse$Desks" = some m.cls := hown
  have hS : va_S (hA ad s.heap.size) s.heap s.heap [] := va_S.rf
  have hl := lv_entry ([.ref (ad 1), .int x1, .int x2]) (n := 3) (Nat.le_of_ble_eq_true rfl)
  rw [lg_entry_eq]
  generalize (lg_sl ([.ref (ad 1), .int x1, .int x2]) ++ List.replicate (3 - (lg_sl ([.ref (ad 1), .int x1, .int x2])).length) Slot.unset).toArray = ls at hl ⊢
  have hl : lv_has ls 3 [(0, .ref (ad 1)), (1, .int x1), (2, .int x2)] := hl
  unfold f_De_hasAll at h
  refine lv_aload_n hx hb d_De_hasAll_0 rfl (lv_at hl 0 rfl) ?_
  refine va_get (D := D) (ci := 1) (v := .ref (ad 11)) (C := R_De) (T := T_De) (N := 4) hx hb hts iw_De hown G.1 hP 1 rfl rfl 3 (by decide) (hts _ wd_1_44) (fun _ h9 => h9) rfl d_De_hasAll_1 ?_
  refine lv_iload_n hx hb d_De_hasAll_4 rfl (lv_at hl 1 rfl) ?_
  obtain ⟨v1, e_v1, h⟩ := pu_ob h
  refine pu_iald hx hb G.1 hP 11 0 rfl rfl e_v1 d_De_hasAll_5 ?_
  refine lv_iload_n hx hb d_De_hasAll_6 rfl (lv_at hl 2 rfl) ?_
  refine lv_iand hx hb d_De_hasAll_7 ?_
  refine lv_iload_n hx hb d_De_hasAll_8 rfl (lv_at hl 2 rfl) ?_
  refine lv_icmp_ne (tgt := 16) hx hb d_De_hasAll_9 (by decide) (fun c2 => ?_) (fun c2 => ?_)
  · rw [if_neg c2] at h
    refine lv_iconst (v := 0) hx hb d_De_hasAll_16 (by decide) ?_
    have h := Option.some.inj h
    exact W.zret (v := 0) (ty := .boolean) hx hb hr rfl (fun t ht _ => ⟨by rw [h], ht⟩) (fun _ q => by cases q) d_De_hasAll_17
  · rw [if_pos c2] at h
    refine lv_iconst (v := 1) hx hb d_De_hasAll_12 (by decide) ?_
    refine lv_goto (tgt := 17) hx hb d_De_hasAll_13 (by decide) ?_
    have h := Option.some.inj h
    exact W.zret (v := 1) (ty := .boolean) hx hb hr rfl (fun t ht _ => ⟨by rw [h], ht⟩) (fun _ q => by cases q) d_De_hasAll_17
set_option maxHeartbeats 4000000 in
set_option maxRecDepth 100000 in
theorem c_H_numberOf_De (l : Launch) (htl : l.stackTraces = false) (D : va_G) (ca : Nat → ClassId) (ad : Nat → Nat) (st : pu_St) (sz : Nat) (x2 : Int32) (r : Int32 ⊕ Nat) (st' : pu_St) (h : f_H_numberOf_De st x2 = some (r, st')) : MetX l y_H_numberOf (.code y_H_numberOf b_H_numberOf 4 (some .int) :: tG) { frames := 6, cells := xc r, slots := xs r, locals := 90 } (va_Pc [.ref (ad 0), .ref (ad 1), .int x2] (hPc D ca ad st sz)) (hQ D ca ad (fun v => some (.int v)) r st' sz) (xc r) (xs r) (hA ad sz) := by
  refine hMet (by decide +kernel) ?_
  intro p e s m below meth c hsz C G hP
  obtain ⟨hx, hb, hml, hr, hlocks, hno, hown, hts⟩ := id C
  have hown : s.vm.findClass "MuseumHouse" = some m.cls := hown
  have hS : va_S (hA ad s.heap.size) s.heap s.heap [] := va_S.rf
  have hl := lv_entry ([.ref (ad 0), .ref (ad 1), .int x2]) (n := 4) (Nat.le_of_ble_eq_true rfl)
  rw [lg_entry_eq]
  generalize (lg_sl ([.ref (ad 0), .ref (ad 1), .int x2]) ++ List.replicate (4 - (lg_sl ([.ref (ad 0), .ref (ad 1), .int x2])).length) Slot.unset).toArray = ls at hl ⊢
  have hl : lv_has ls 4 [(0, .ref (ad 0)), (1, .ref (ad 1)), (2, .int x2)] := hl
  unfold f_H_numberOf_De at h
  refine lv_aload_n hx hb d_H_numberOf_0 rfl (lv_at hl 1 rfl) ?_
  refine lv_iload_n hx hb d_H_numberOf_1 rfl (lv_at hl 2 rfl) ?_
  obtain ⟨v1, e_v1, h⟩ := pu_ob h
  refine pu_callR (va_runV (As := [.int x2]) (rest := []) ⟨hx, hb, hml, hown, hts⟩ (c_Rg_numberFor_De l D ca ad st _ x2 v1 e_v1) (xCW (C := "MuseumHouse$Desks") 1 hts wd_2_39 wd_1_2 wd_2_27 wd_2_28 wd_2_32 (by decide +kernel) ⟨Nat.le_of_ble_eq_true rfl, Nat.le_of_ble_eq_true rfl⟩) (G.preV hP hS 1 rfl rfl) rfl rfl hl.1 rfl (lv_room (Nat.le_of_ble_eq_true rfl)) d_H_numberOf_2 ⟨Nat.zero_le _, Nat.zero_le _⟩) ?_
  refine lv_istore_n (lv' := [(3, .int v1), (0, .ref (ad 0)), (1, .ref (ad 1)), (2, .int x2)]) hx hb d_H_numberOf_5 rfl hl (by decide) rfl (fun ls hl => ?_)
  refine lv_iload_n hx hb d_H_numberOf_6 rfl (lv_at hl 0 rfl) ?_
  refine lv_iconst (v := (-1)) hx hb d_H_numberOf_7 (by decide) ?_
  refine lv_icmp_ne (tgt := 24) hx hb d_H_numberOf_8 (by decide) (fun c2 => ?_) (fun c2 => ?_)
  · rw [if_neg c2] at h
    refine lv_iload_n hx hb d_H_numberOf_24 rfl (lv_at hl 0 rfl) ?_
    cases h
    exact W.toX (W.iret hx hb hr (fun t ht _ => ⟨rfl, by rw [ht]; exact hP, hS.F ht⟩) hS.2.2 d_H_numberOf_25)
  · rw [if_pos c2] at h
    refine lv_aload_n hx hb d_H_numberOf_11 rfl (lv_at hl 1 rfl) ?_
    refine lv_iconst (v := 1) hx hb d_H_numberOf_12 (by decide) ?_
    refine va_put (D := D) (ci := 0) (v := .int 1) (ty := .int) (C := R_H) (T := T_H) (N := 12) hx hb hts iw_H ty_H to_H nm_H hown G.1 hP (G.D) hS 0 rfl rfl 11 (by decide) (hts _ wd_1_223) (fun _ h9 => h9) rfl (by decide +kernel) rfl rfl (Nat.le_of_ble_eq_true rfl) d_H_numberOf_13 (fun H locs hP _ hS => ?_)
    have hP : va_P D hcl (hW ca ad (va_up st.1 1 1, st.2)) H := hP
    cases h
    exact hThrow G hx hb (hl.1.trans hml.symm) hown hno hlocks htl hts (by decide +kernel) xo_1 wd_2_40 wd_2_41 wd_1_17 hP hS d_H_numberOf_16 d_H_numberOf_19 d_H_numberOf_20 d_H_numberOf_23 (Nat.le_of_ble_eq_true rfl) (Nat.le_of_ble_eq_true rfl) (Nat.le_of_ble_eq_true rfl) (Nat.le_of_ble_eq_true rfl) rfl
set_option maxHeartbeats 4000000 in
set_option maxRecDepth 100000 in
theorem c_H_ask (l : Launch) (htl : l.stackTraces = false) (D : va_G) (ca : Nat → ClassId) (ad : Nat → Nat) (st : pu_St) (sz : Nat) (x1 x2 : Int32) (r : Int32 ⊕ Nat) (st' : pu_St) (h : f_H_ask st x1 x2 = some (r, st')) : MetX l y_H_ask (.code y_H_ask b_H_ask 3 none :: tG) { frames := 6, cells := xc r, slots := xs r, locals := 90 } (va_Pc [.ref (ad 0), .int x1, .int x2] (hPc D ca ad st sz)) (hQ D ca ad (fun _ => none) r st' sz) (xc r) (xs r) (hA ad sz) := by
  refine hMet (by decide +kernel) ?_
  intro p e s m below meth c hsz C G hP
  obtain ⟨hx, hb, hml, hr, hlocks, hno, hown, hts⟩ := id C
  have hown : s.vm.findClass "MuseumHouse" = some m.cls := hown
  have hS : va_S (hA ad s.heap.size) s.heap s.heap [] := va_S.rf
  have hl := lv_entry ([.ref (ad 0), .int x1, .int x2]) (n := 3) (Nat.le_of_ble_eq_true rfl)
  rw [lg_entry_eq]
  generalize (lg_sl ([.ref (ad 0), .int x1, .int x2]) ++ List.replicate (3 - (lg_sl ([.ref (ad 0), .int x1, .int x2])).length) Slot.unset).toArray = ls at hl ⊢
  have hl : lv_has ls 3 [(0, .ref (ad 0)), (1, .int x1), (2, .int x2)] := hl
  unfold f_H_ask at h
  refine lv_iload_n hx hb d_H_ask_0 rfl (lv_at hl 2 rfl) ?_
  refine lv_if_ne (tgt := 17) hx hb d_H_ask_1 (by decide) (fun c1 => ?_) (fun c1 => ?_)
  · rw [if_neg c1] at h
    cases h
    exact W.toX (W.vret hx hb hr (fun t ht _ => ⟨rfl, by rw [ht]; exact hP, hS.F ht⟩) hS.2.2 d_H_ask_17)
  · rw [if_pos c1] at h
    refine lv_aload_n hx hb d_H_ask_4 rfl (lv_at hl 0 rfl) ?_
    refine lv_iload_n hx hb d_H_ask_5 rfl (lv_at hl 1 rfl) ?_
    refine va_put (D := D) (ci := 0) (v := .int x1) (ty := .int) (C := R_H) (T := T_H) (N := 12) hx hb hts iw_H ty_H to_H nm_H hown G.1 hP (G.D) hS 0 rfl rfl 11 (by decide) (hts _ wd_1_223) (fun _ h9 => h9) rfl (by decide +kernel) rfl rfl (Nat.le_of_ble_eq_true rfl) d_H_ask_6 (fun H locs hP _ hS => ?_)
    have hP : va_P D hcl (hW ca ad (va_up st.1 1 x1, st.2)) H := hP
    cases h
    exact hThrow G hx hb (hl.1.trans hml.symm) hown hno hlocks htl hts (by decide +kernel) xo_3 wd_2_140 wd_2_141 wd_1_19 hP hS d_H_ask_9 d_H_ask_12 d_H_ask_13 d_H_ask_16 (Nat.le_of_ble_eq_true rfl) (Nat.le_of_ble_eq_true rfl) (Nat.le_of_ble_eq_true rfl) (Nat.le_of_ble_eq_true rfl) rfl
set_option maxHeartbeats 4000000 in
set_option maxRecDepth 100000 in
theorem c_H_askRight (l : Launch) (htl : l.stackTraces = false) (D : va_G) (ca : Nat → ClassId) (ad : Nat → Nat) (st : pu_St) (sz : Nat) (x1 x2 : Int32) (r : Int32 ⊕ Nat) (st' : pu_St) (h : f_H_askRight st x1 x2 = some (r, st')) : MetX l y_H_askRight (.code y_H_askRight b_H_askRight 3 none :: tG) { frames := 6, cells := xc r, slots := xs r, locals := 90 } (va_Pc [.ref (ad 0), .int x1, .int x2] (hPc D ca ad st sz)) (hQ D ca ad (fun _ => none) r st' sz) (xc r) (xs r) (hA ad sz) := by
  refine hMet (by decide +kernel) ?_
  intro p e s m below meth c hsz C G hP
  obtain ⟨hx, hb, hml, hr, hlocks, hno, hown, hts⟩ := id C
  have hown : s.vm.findClass "MuseumHouse" = some m.cls := hown
  have hS : va_S (hA ad s.heap.size) s.heap s.heap [] := va_S.rf
  have hl := lv_entry ([.ref (ad 0), .int x1, .int x2]) (n := 3) (Nat.le_of_ble_eq_true rfl)
  rw [lg_entry_eq]
  generalize (lg_sl ([.ref (ad 0), .int x1, .int x2]) ++ List.replicate (3 - (lg_sl ([.ref (ad 0), .int x1, .int x2])).length) Slot.unset).toArray = ls at hl ⊢
  have hl : lv_has ls 3 [(0, .ref (ad 0)), (1, .int x1), (2, .int x2)] := hl
  unfold f_H_askRight at h
  refine lv_aload_n hx hb d_H_askRight_0 rfl (lv_at hl 0 rfl) ?_
  refine va_get (D := D) (ci := 0) (v := .ref (ad 1)) (C := R_H) (T := T_H) (N := 12) hx hb hts iw_H hown G.1 hP 0 rfl rfl 0 (by decide) (hts _ wd_1_212) (fun _ h9 => h9) rfl d_H_askRight_1 ?_
  refine lv_iload_n hx hb d_H_askRight_4 rfl (lv_at hl 1 rfl) ?_
  refine lv_iload_n hx hb d_H_askRight_5 rfl (lv_at hl 2 rfl) ?_
  obtain ⟨v1, e_v1, h⟩ := pu_ob h
  refine pu_callR (va_runV (As := [.int x1, .int x2]) (rest := []) ⟨hx, hb, hml, hown, hts⟩ (c_De_hasAll l D ca ad st _ x1 x2 v1 e_v1) (xCW (C := "MuseumHouse$Desks") 2 hts wd_2_110 wd_1_3 wd_2_107 wd_2_108 wd_2_109 (by decide +kernel) ⟨Nat.le_of_ble_eq_true rfl, Nat.le_of_ble_eq_true rfl⟩) (G.preV hP hS 1 rfl rfl) rfl rfl hl.1 rfl (lv_room (Nat.le_of_ble_eq_true rfl)) d_H_askRight_6 ⟨Nat.zero_le _, Nat.zero_le _⟩) ?_
  refine lv_if_ne (tgt := 25) hx hb d_H_askRight_9 (by decide) (fun c2 => ?_) (fun c2 => ?_)
  · rw [if_neg c2] at h
    cases h
    exact W.toX (W.vret hx hb hr (fun t ht _ => ⟨rfl, by rw [ht]; exact hP, hS.F ht⟩) hS.2.2 d_H_askRight_25)
  · rw [if_pos c2] at h
    refine lv_aload_n hx hb d_H_askRight_12 rfl (lv_at hl 0 rfl) ?_
    refine lv_iconst (v := 2) hx hb d_H_askRight_13 (by decide) ?_
    refine va_put (D := D) (ci := 0) (v := .int 2) (ty := .int) (C := R_H) (T := T_H) (N := 12) hx hb hts iw_H ty_H to_H nm_H hown G.1 hP (G.D) hS 0 rfl rfl 11 (by decide) (hts _ wd_1_223) (fun _ h9 => h9) rfl (by decide +kernel) rfl rfl (Nat.le_of_ble_eq_true rfl) d_H_askRight_14 (fun H locs hP _ hS => ?_)
    have hP : va_P D hcl (hW ca ad (va_up st.1 1 2, st.2)) H := hP
    cases h
    exact hThrow G hx hb (hl.1.trans hml.symm) hown hno hlocks htl hts (by decide +kernel) xo_2 wd_2_111 wd_2_112 wd_1_18 hP hS d_H_askRight_17 d_H_askRight_20 d_H_askRight_21 d_H_askRight_24 (Nat.le_of_ble_eq_true rfl) (Nat.le_of_ble_eq_true rfl) (Nat.le_of_ble_eq_true rfl) (Nat.le_of_ble_eq_true rfl) rfl
set_option maxHeartbeats 4000000 in
set_option maxRecDepth 100000 in
theorem c_Rg_isFull_De (l : Launch) (D : va_G) (ca : Nat → ClassId) (ad : Nat → Nat) (st : pu_St) (sz : Nat) (r : Int32) (h : f_Rg_isFull_De st = some r) : Met l y_Rg_isFull (.code y_Rg_isFull b_Rg_isFull 1 (some .boolean) :: tG) { frames := 0, cells := 0, slots := 0, locals := 0 } (va_Pc [.ref (ad 1)] (hPc D ca ad st sz)) (QcRead r) 0 0 (fun _ => False) := by
  refine hRead (by decide +kernel) ?_
  intro p e s m below meth c C G hP
  obtain ⟨hx, hb, hml, hr, hlocks, hno, hown, hts⟩ := id C
  have hown : s.vm.findClass "MuseumHouse$Register" = some m.cls := hown
  have hS : va_S (hA ad s.heap.size) s.heap s.heap [] := va_S.rf
  have hl := lv_entry ([.ref (ad 1)]) (n := 1) (Nat.le_of_ble_eq_true rfl)
  rw [lg_entry_eq]
  generalize (lg_sl ([.ref (ad 1)]) ++ List.replicate (1 - (lg_sl ([.ref (ad 1)])).length) Slot.unset).toArray = ls at hl ⊢
  have hl : lv_has ls 1 [(0, .ref (ad 1))] := hl
  unfold f_Rg_isFull_De at h
  refine lv_aload_n hx hb d_Rg_isFull_0 rfl (lv_at hl 0 rfl) ?_
  refine va_get (D := D) (ci := 1) (v := .int (st.1 2)) (C := R_De) (T := T_De) (N := 4) hx hb hts iw_De hown G.1 hP 1 rfl rfl 2 (by decide) (hts _ wd_1_47) (fun _ h9 => h9) rfl d_Rg_isFull_1 ?_
  refine lv_aload_n hx hb d_Rg_isFull_4 rfl (lv_at hl 0 rfl) ?_
  refine va_get (D := D) (ci := 1) (v := .int 6) (C := R_De) (T := T_De) (N := 4) hx hb hts iw_De hown G.1 hP 1 rfl rfl 1 (by decide) (hts _ wd_1_46) (fun _ h9 => h9) rfl d_Rg_isFull_5 ?_
  refine lv_icmp_lt (tgt := 15) hx hb d_Rg_isFull_8 (by decide) (fun c1 => ?_) (fun c1 => ?_)
  · rw [if_pos c1] at h
    refine lv_iconst (v := 0) hx hb d_Rg_isFull_15 (by decide) ?_
    have h := Option.some.inj h
    exact W.zret (v := 0) (ty := .boolean) hx hb hr rfl (fun t ht _ => ⟨by rw [h], ht⟩) (fun _ q => by cases q) d_Rg_isFull_16
  · rw [if_neg c1] at h
    refine lv_iconst (v := 1) hx hb d_Rg_isFull_11 (by decide) ?_
    refine lv_goto (tgt := 16) hx hb d_Rg_isFull_12 (by decide) ?_
    have h := Option.some.inj h
    exact W.zret (v := 1) (ty := .boolean) hx hb hr rfl (fun t ht _ => ⟨by rw [h], ht⟩) (fun _ q => by cases q) d_Rg_isFull_16
set_option maxHeartbeats 4000000 in
set_option maxRecDepth 100000 in
theorem c_H_askRoom (l : Launch) (htl : l.stackTraces = false) (D : va_G) (ca : Nat → ClassId) (ad : Nat → Nat) (st : pu_St) (sz : Nat) (x1 : Int32) (r : Int32 ⊕ Nat) (st' : pu_St) (h : f_H_askRoom st x1 = some (r, st')) : MetX l y_H_askRoom (.code y_H_askRoom b_H_askRoom 2 none :: tG) { frames := 6, cells := xc r, slots := xs r, locals := 90 } (va_Pc [.ref (ad 0), .int x1] (hPc D ca ad st sz)) (hQ D ca ad (fun _ => none) r st' sz) (xc r) (xs r) (hA ad sz) := by
  refine hMet (by decide +kernel) ?_
  intro p e s m below meth c hsz C G hP
  obtain ⟨hx, hb, hml, hr, hlocks, hno, hown, hts⟩ := id C
  have hown : s.vm.findClass "MuseumHouse" = some m.cls := hown
  have hS : va_S (hA ad s.heap.size) s.heap s.heap [] := va_S.rf
  have hl := lv_entry ([.ref (ad 0), .int x1]) (n := 2) (Nat.le_of_ble_eq_true rfl)
  rw [lg_entry_eq]
  generalize (lg_sl ([.ref (ad 0), .int x1]) ++ List.replicate (2 - (lg_sl ([.ref (ad 0), .int x1])).length) Slot.unset).toArray = ls at hl ⊢
  have hl : lv_has ls 2 [(0, .ref (ad 0)), (1, .int x1)] := hl
  unfold f_H_askRoom at h
  refine lv_iload_n hx hb d_H_askRoom_0 rfl (lv_at hl 1 rfl) ?_
  refine lv_if_ne (tgt := 17) hx hb d_H_askRoom_1 (by decide) (fun c1 => ?_) (fun c1 => ?_)
  · rw [if_neg c1] at h
    cases h
    exact W.toX (W.vret hx hb hr (fun t ht _ => ⟨rfl, by rw [ht]; exact hP, hS.F ht⟩) hS.2.2 d_H_askRoom_17)
  · rw [if_pos c1] at h
    refine lv_aload_n hx hb d_H_askRoom_4 rfl (lv_at hl 0 rfl) ?_
    refine lv_iconst (v := 3) hx hb d_H_askRoom_5 (by decide) ?_
    refine va_put (D := D) (ci := 0) (v := .int 3) (ty := .int) (C := R_H) (T := T_H) (N := 12) hx hb hts iw_H ty_H to_H nm_H hown G.1 hP (G.D) hS 0 rfl rfl 11 (by decide) (hts _ wd_1_223) (fun _ h9 => h9) rfl (by decide +kernel) rfl rfl (Nat.le_of_ble_eq_true rfl) d_H_askRoom_6 (fun H locs hP _ hS => ?_)
    have hP : va_P D hcl (hW ca ad (va_up st.1 1 3, st.2)) H := hP
    cases h
    exact hThrow G hx hb (hl.1.trans hml.symm) hown hno hlocks htl hts (by decide +kernel) xo_2 wd_2_111 wd_2_112 wd_1_18 hP hS d_H_askRoom_9 d_H_askRoom_12 d_H_askRoom_13 d_H_askRoom_16 (Nat.le_of_ble_eq_true rfl) (Nat.le_of_ble_eq_true rfl) (Nat.le_of_ble_eq_true rfl) (Nat.le_of_ble_eq_true rfl) rfl
set_option maxHeartbeats 4000000 in
set_option maxRecDepth 100000 in
theorem t_H_desk_b52 {l : Launch} (htl : l.stackTraces = false) {p : Program} {e : Env} {s : State} {m : MethodId} {args : Array Value} {below : List Frame} {meth : Method} {c : Code} {D : va_G} {ca : Nat → ClassId} {ad : Nat → Nat} {st' : pu_St} {r : Int32 ⊕ Nat} (C : hC p s m meth c args b_H_desk 4 (some .int) "MuseumHouse") (G : hX D ca ad (hA ad s.heap.size) s) :
    ∀ (_ : Unit) (st : pu_St) (x1 x2 x3 z0 z1 : Int32), f_H_desk_b52 st x1 x2 x3 z0 z1 = some (r, st') → ∀ (H : Heap) (locs : List Loc), va_P D hcl (hW ca ad st) H → va_S (hA ad s.heap.size) s.heap H locs → ∀ ls : Array Slot, lv_has ls 4 [(0, .ref (ad 0)), (1, .int x1), (2, .int x2), (3, .int x3)] → W p l e { frames := 7, cells := xc r, slots := xs r, locals := 113 } s m args below meth c H locs 0 0 (MQX below (hQ D ca ad (fun v => some (.int v)) r st' s.heap.size) args s (xc r) (xs r) (hA ad s.heap.size)) (F0 m 52 ls [.int z0, .int z1, .ref (ad 0)]) := by
  obtain ⟨hx, hb, hml, hr, hlocks, hno, hown, hts⟩ := id C
  intro _ st x1 x2 x3 z0 z1 h H locs hP hS ls hl
  unfold f_H_desk_b52 at h
  rcases pu_xb_inv h with ⟨v11, st12, e_v11, h⟩ | ⟨v11, st12, e_v11, h⟩
  · refine hCallU G hS (va_runV (As := [.int z1, .int z0]) (rest := []) ⟨hx, hb, hml, hown, hts⟩ (MetX.met (c_H_ask l htl D ca ad st _ z1 z0 _ _ e_v11) (fun _ _ _ _ q => ⟨_, q.1⟩)) (xCW (C := "MuseumHouse") 2 hts wd_2_139 wd_1_1 wd_2_136 wd_2_138 wd_0_4 (by decide +kernel) ⟨Nat.le_of_ble_eq_true rfl, Nat.le_of_ble_eq_true rfl⟩) (G.preV hP hS 0 rfl rfl) rfl rfl hl.1 rfl (lv_room (Nat.le_of_ble_eq_true rfl)) d_H_desk_52 ⟨Nat.zero_le _, Nat.zero_le _⟩) (fun H locs hP hS => ?_)
    refine lv_aload_n hx hb d_H_desk_55 rfl (lv_at hl 0 rfl) ?_
    refine lv_iconst (v := 5) hx hb d_H_desk_56 (by decide) ?_
    refine lv_aload_n hx hb d_H_desk_57 rfl (lv_at hl 0 rfl) ?_
    refine va_get (D := D) (ci := 0) (v := .ref (ad 1)) (C := R_H) (T := T_H) (N := 12) hx hb hts iw_H hown G.1 hP 0 rfl rfl 0 (by decide) (hts _ wd_1_212) (fun _ h9 => h9) rfl d_H_desk_58 ?_
    refine lv_iload_n hx hb d_H_desk_61 rfl (lv_at hl 3 rfl) ?_
    refine lv_iload_n hx hb d_H_desk_62 rfl (lv_at hl 2 rfl) ?_
    obtain ⟨v13, e_v13, h⟩ := pu_ob h
    refine pu_callR (va_runV (As := [.int x3, .int x2]) (rest := [.int 5, .ref (ad 0)]) ⟨hx, hb, hml, hown, hts⟩ (c_De_hasAll l D ca ad st12 _ x3 x2 v13 e_v13) (xCW (C := "MuseumHouse$Desks") 2 hts wd_2_110 wd_1_3 wd_2_107 wd_2_108 wd_2_109 (by decide +kernel) ⟨Nat.le_of_ble_eq_true rfl, Nat.le_of_ble_eq_true rfl⟩) (G.preV hP hS 1 rfl rfl) rfl rfl hl.1 rfl (lv_room (Nat.le_of_ble_eq_true rfl)) d_H_desk_63 ⟨Nat.zero_le _, Nat.zero_le _⟩) ?_
    rcases pu_xb_inv h with ⟨v14, st15, e_v14, h⟩ | ⟨v14, st15, e_v14, h⟩
    · refine hCallU G hS (va_runV (As := [.int 5, .int v13]) (rest := []) ⟨hx, hb, hml, hown, hts⟩ (MetX.met (c_H_ask l htl D ca ad st12 _ 5 v13 _ _ e_v14) (fun _ _ _ _ q => ⟨_, q.1⟩)) (xCW (C := "MuseumHouse") 2 hts wd_2_139 wd_1_1 wd_2_136 wd_2_138 wd_0_4 (by decide +kernel) ⟨Nat.le_of_ble_eq_true rfl, Nat.le_of_ble_eq_true rfl⟩) (G.preV hP hS 0 rfl rfl) rfl rfl hl.1 rfl (lv_room (Nat.le_of_ble_eq_true rfl)) d_H_desk_66 ⟨Nat.zero_le _, Nat.zero_le _⟩) (fun H locs hP hS => ?_)
      refine lv_aload_n hx hb d_H_desk_69 rfl (lv_at hl 0 rfl) ?_
      refine va_get (D := D) (ci := 0) (v := .ref (ad 1)) (C := R_H) (T := T_H) (N := 12) hx hb hts iw_H hown G.1 hP 0 rfl rfl 0 (by decide) (hts _ wd_1_212) (fun _ h9 => h9) rfl d_H_desk_70 ?_
      refine lv_iload_n hx hb d_H_desk_73 rfl (lv_at hl 2 rfl) ?_
      obtain ⟨q16, e_q16, h⟩ := pu_ob h
      refine hCallI G hS (va_runV (As := [.int x2]) (rest := []) ⟨hx, hb, hml, hown, hts⟩ (MetX.met (c_De_open l htl D ca ad st15 _ x2 q16.1 q16.2 e_q16) (fun _ _ _ _ q => ⟨_, q.1⟩)) (xCW (C := "MuseumHouse$Desks") 1 hts wd_2_158 wd_1_3 wd_2_155 wd_2_156 wd_2_157 (by decide +kernel) ⟨Nat.le_of_ble_eq_true rfl, Nat.le_of_ble_eq_true rfl⟩) (G.preV hP hS 1 rfl rfl) rfl rfl hl.1 rfl (lv_room (Nat.le_of_ble_eq_true rfl)) d_H_desk_74 ⟨Nat.zero_le _, Nat.zero_le _⟩) (fun H locs hP hS => ?_)
      cases h
      exact W.toX (W.iret hx hb hr (fun t ht _ => ⟨rfl, by rw [ht]; exact hP, hS.F ht⟩) hS.2.2 d_H_desk_77)
    · cases h
      exact hThrV G hS hno hlocks ⟨hx, hb, hml, hown, hts⟩ (As := [.int 5, .int v13]) (rest := []) (c_H_ask l htl D ca ad st12 _ 5 v13 _ _ e_v14) (xCW (C := "MuseumHouse") 2 hts wd_2_139 wd_1_1 wd_2_136 wd_2_138 wd_0_4 (by decide +kernel) ⟨Nat.le_of_ble_eq_true rfl, Nat.le_of_ble_eq_true rfl⟩) (G.preV hP hS 0 rfl rfl) rfl rfl hl.1 rfl (lv_room (Nat.le_of_ble_eq_true rfl)) d_H_desk_66 ⟨Nat.le_of_ble_eq_true rfl, Nat.le_of_ble_eq_true rfl⟩
  · cases h
    exact hThrV G hS hno hlocks ⟨hx, hb, hml, hown, hts⟩ (As := [.int z1, .int z0]) (rest := []) (c_H_ask l htl D ca ad st _ z1 z0 _ _ e_v11) (xCW (C := "MuseumHouse") 2 hts wd_2_139 wd_1_1 wd_2_136 wd_2_138 wd_0_4 (by decide +kernel) ⟨Nat.le_of_ble_eq_true rfl, Nat.le_of_ble_eq_true rfl⟩) (G.preV hP hS 0 rfl rfl) rfl rfl hl.1 rfl (lv_room (Nat.le_of_ble_eq_true rfl)) d_H_desk_52 ⟨Nat.le_of_ble_eq_true rfl, Nat.le_of_ble_eq_true rfl⟩
set_option maxHeartbeats 4000000 in
set_option maxRecDepth 100000 in
theorem t_H_desk_b51 {l : Launch} (htl : l.stackTraces = false) {p : Program} {e : Env} {s : State} {m : MethodId} {args : Array Value} {below : List Frame} {meth : Method} {c : Code} {D : va_G} {ca : Nat → ClassId} {ad : Nat → Nat} {st' : pu_St} {r : Int32 ⊕ Nat} (C : hC p s m meth c args b_H_desk 4 (some .int) "MuseumHouse") (G : hX D ca ad (hA ad s.heap.size) s) :
    ∀ (_ : Unit) (st : pu_St) (x1 x2 x3 z0 : Int32), f_H_desk_b51 st x1 x2 x3 z0 = some (r, st') → ∀ (H : Heap) (locs : List Loc), va_P D hcl (hW ca ad st) H → va_S (hA ad s.heap.size) s.heap H locs → ∀ ls : Array Slot, lv_has ls 4 [(0, .ref (ad 0)), (1, .int x1), (2, .int x2), (3, .int x3)] → W p l e { frames := 7, cells := xc r, slots := xs r, locals := 113 } s m args below meth c H locs 0 0 (MQX below (hQ D ca ad (fun v => some (.int v)) r st' s.heap.size) args s (xc r) (xs r) (hA ad s.heap.size)) (F0 m 51 ls [.int z0, .ref (ad 0)]) := by
  obtain ⟨hx, hb, hml, hr, hlocks, hno, hown, hts⟩ := id C
  intro _ st x1 x2 x3 z0 h H locs hP hS ls hl
  unfold f_H_desk_b51 at h
  refine lv_iconst (v := 0) hx hb d_H_desk_51 (by decide) ?_
  exact t_H_desk_b52 htl C G () st x1 x2 x3 0 z0 h H locs hP hS ls (lv_sub hl [0, 1, 2, 3] rfl)
set_option maxHeartbeats 4000000 in
set_option maxRecDepth 100000 in
theorem t_H_desk_b32 {l : Launch} (htl : l.stackTraces = false) {p : Program} {e : Env} {s : State} {m : MethodId} {args : Array Value} {below : List Frame} {meth : Method} {c : Code} {D : va_G} {ca : Nat → ClassId} {ad : Nat → Nat} {st' : pu_St} {r : Int32 ⊕ Nat} (C : hC p s m meth c args b_H_desk 4 (some .int) "MuseumHouse") (G : hX D ca ad (hA ad s.heap.size) s) :
    ∀ (_ : Unit) (st : pu_St) (x1 x2 x3 z0 : Int32), f_H_desk_b32 st x1 x2 x3 z0 = some (r, st') → ∀ (H : Heap) (locs : List Loc), va_P D hcl (hW ca ad st) H → va_S (hA ad s.heap.size) s.heap H locs → ∀ ls : Array Slot, lv_has ls 4 [(0, .ref (ad 0)), (1, .int x1), (2, .int x2), (3, .int x3)] → W p l e { frames := 7, cells := xc r, slots := xs r, locals := 113 } s m args below meth c H locs 0 0 (MQX below (hQ D ca ad (fun v => some (.int v)) r st' s.heap.size) args s (xc r) (xs r) (hA ad s.heap.size)) (F0 m 32 ls [.int z0, .ref (ad 0)]) := by
  obtain ⟨hx, hb, hml, hr, hlocks, hno, hown, hts⟩ := id C
  intro _ st x1 x2 x3 z0 h H locs hP hS ls hl
  unfold f_H_desk_b32 at h
  rcases pu_xb_inv h with ⟨v7, st8, e_v7, h⟩ | ⟨v7, st8, e_v7, h⟩
  · refine hCallU G hS (va_runV (As := [.int z0]) (rest := []) ⟨hx, hb, hml, hown, hts⟩ (MetX.met (c_H_askRoom l htl D ca ad st _ z0 _ _ e_v7) (fun _ _ _ _ q => ⟨_, q.1⟩)) (xCW (C := "MuseumHouse") 1 hts wd_2_135 wd_1_1 wd_2_132 wd_2_134 wd_0_3 (by decide +kernel) ⟨Nat.le_of_ble_eq_true rfl, Nat.le_of_ble_eq_true rfl⟩) (G.preV hP hS 0 rfl rfl) rfl rfl hl.1 rfl (lv_room (Nat.le_of_ble_eq_true rfl)) d_H_desk_32 ⟨Nat.zero_le _, Nat.zero_le _⟩) (fun H locs hP hS => ?_)
    refine lv_aload_n hx hb d_H_desk_35 rfl (lv_at hl 0 rfl) ?_
    refine lv_iconst (v := 4) hx hb d_H_desk_36 (by decide) ?_
    refine lv_iload_n hx hb d_H_desk_37 rfl (lv_at hl 2 rfl) ?_
    refine lv_if_lt (tgt := 51) hx hb d_H_desk_38 (by decide) (fun c9 => ?_) (fun c9 => ?_)
    · rw [if_pos c9] at h
      exact t_H_desk_b51 htl C G () st8 x1 x2 x3 4 h H locs hP hS ls (lv_sub hl [0, 1, 2, 3] rfl)
    · rw [if_neg c9] at h
      refine lv_iload_n hx hb d_H_desk_41 rfl (lv_at hl 2 rfl) ?_
      refine lv_bipush (v := 63) hx hb d_H_desk_42 (by decide) ?_
      refine lv_icmp_gt (tgt := 51) hx hb d_H_desk_44 (by decide) (fun c10 => ?_) (fun c10 => ?_)
      · rw [if_pos c10] at h
        exact t_H_desk_b51 htl C G () st8 x1 x2 x3 4 h H locs hP hS ls (lv_sub hl [0, 1, 2, 3] rfl)
      · rw [if_neg c10] at h
        refine lv_iconst (v := 1) hx hb d_H_desk_47 (by decide) ?_
        refine lv_goto (tgt := 52) hx hb d_H_desk_48 (by decide) ?_
        exact t_H_desk_b52 htl C G () st8 x1 x2 x3 1 4 h H locs hP hS ls (lv_sub hl [0, 1, 2, 3] rfl)
  · cases h
    exact hThrV G hS hno hlocks ⟨hx, hb, hml, hown, hts⟩ (As := [.int z0]) (rest := []) (c_H_askRoom l htl D ca ad st _ z0 _ _ e_v7) (xCW (C := "MuseumHouse") 1 hts wd_2_135 wd_1_1 wd_2_132 wd_2_134 wd_0_3 (by decide +kernel) ⟨Nat.le_of_ble_eq_true rfl, Nat.le_of_ble_eq_true rfl⟩) (G.preV hP hS 0 rfl rfl) rfl rfl hl.1 rfl (lv_room (Nat.le_of_ble_eq_true rfl)) d_H_desk_32 ⟨Nat.le_of_ble_eq_true rfl, Nat.le_of_ble_eq_true rfl⟩
set_option maxHeartbeats 4000000 in
set_option maxRecDepth 100000 in
theorem c_H_desk (l : Launch) (htl : l.stackTraces = false) (D : va_G) (ca : Nat → ClassId) (ad : Nat → Nat) (st : pu_St) (sz : Nat) (x1 x2 : Int32) (r : Int32 ⊕ Nat) (st' : pu_St) (h : f_H_desk st x1 x2 = some (r, st')) : MetX l y_H_desk (.code y_H_desk b_H_desk 4 (some .int) :: tG) { frames := 7, cells := xc r, slots := xs r, locals := 113 } (va_Pc [.ref (ad 0), .int x1, .int x2] (hPc D ca ad st sz)) (hQ D ca ad (fun v => some (.int v)) r st' sz) (xc r) (xs r) (hA ad sz) := by
  refine hMet (by decide +kernel) ?_
  intro p e s m below meth c hsz C G hP
  obtain ⟨hx, hb, hml, hr, hlocks, hno, hown, hts⟩ := id C
  have hown : s.vm.findClass "MuseumHouse" = some m.cls := hown
  have hS : va_S (hA ad s.heap.size) s.heap s.heap [] := va_S.rf
  have hl := lv_entry ([.ref (ad 0), .int x1, .int x2]) (n := 4) (Nat.le_of_ble_eq_true rfl)
  rw [lg_entry_eq]
  generalize (lg_sl ([.ref (ad 0), .int x1, .int x2]) ++ List.replicate (4 - (lg_sl ([.ref (ad 0), .int x1, .int x2])).length) Slot.unset).toArray = ls at hl ⊢
  have hl : lv_has ls 4 [(0, .ref (ad 0)), (1, .int x1), (2, .int x2)] := hl
  unfold f_H_desk at h
  refine lv_aload_n hx hb d_H_desk_0 rfl (lv_at hl 0 rfl) ?_
  refine lv_aload_n hx hb d_H_desk_1 rfl (lv_at hl 0 rfl) ?_
  refine va_get (D := D) (ci := 0) (v := .ref (ad 1)) (C := R_H) (T := T_H) (N := 12) hx hb hts iw_H hown G.1 hP 0 rfl rfl 0 (by decide) (hts _ wd_1_212) (fun _ h9 => h9) rfl d_H_desk_2 ?_
  refine lv_iload_n hx hb d_H_desk_5 rfl (lv_at hl 1 rfl) ?_
  rcases pu_xb_inv h with ⟨v1, st2, e_v1, h⟩ | ⟨v1, st2, e_v1, h⟩
  · refine hCallI G hS (va_runV (As := [.ref (ad 1), .int x1]) (rest := []) ⟨hx, hb, hml, hown, hts⟩ (MetX.met (c_H_numberOf_De l htl D ca ad st _ x1 _ _ e_v1) (fun _ _ _ _ q => ⟨_, q.1⟩)) (xCW (C := "MuseumHouse") 2 hts wd_2_26 wd_1_1 wd_2_23 wd_2_25 wd_0_0 (by decide +kernel) ⟨Nat.le_of_ble_eq_true rfl, Nat.le_of_ble_eq_true rfl⟩) (G.preV hP hS 0 rfl rfl) rfl rfl hl.1 rfl (lv_room (Nat.le_of_ble_eq_true rfl)) d_H_desk_6 ⟨Nat.zero_le _, Nat.zero_le _⟩) (fun H locs hP hS => ?_)
    refine lv_istore_n (lv' := [(3, .int v1), (0, .ref (ad 0)), (1, .int x1), (2, .int x2)]) hx hb d_H_desk_9 rfl hl (by decide) rfl (fun ls hl => ?_)
    refine lv_aload_n hx hb d_H_desk_10 rfl (lv_at hl 1 rfl) ?_
    refine lv_iload_n hx hb d_H_desk_11 rfl (lv_at hl 0 rfl) ?_
    refine lv_iconst (v := 1) hx hb d_H_desk_12 (by decide) ?_
    rcases pu_xb_inv h with ⟨v3, st4, e_v3, h⟩ | ⟨v3, st4, e_v3, h⟩
    · refine hCallU G hS (va_runV (As := [.int v1, .int 1]) (rest := []) ⟨hx, hb, hml, hown, hts⟩ (MetX.met (c_H_askRight l htl D ca ad st2 _ v1 1 _ _ e_v3) (fun _ _ _ _ q => ⟨_, q.1⟩)) (xCW (C := "MuseumHouse") 2 hts wd_2_106 wd_1_1 wd_2_103 wd_2_105 wd_0_2 (by decide +kernel) ⟨Nat.le_of_ble_eq_true rfl, Nat.le_of_ble_eq_true rfl⟩) (G.preV hP hS 0 rfl rfl) rfl rfl hl.1 rfl (lv_room (Nat.le_of_ble_eq_true rfl)) d_H_desk_13 ⟨Nat.zero_le _, Nat.zero_le _⟩) (fun H locs hP hS => ?_)
      refine lv_aload_n hx hb d_H_desk_16 rfl (lv_at hl 1 rfl) ?_
      refine lv_aload_n hx hb d_H_desk_17 rfl (lv_at hl 1 rfl) ?_
      refine va_get (D := D) (ci := 0) (v := .ref (ad 1)) (C := R_H) (T := T_H) (N := 12) hx hb hts iw_H hown G.1 hP 0 rfl rfl 0 (by decide) (hts _ wd_1_212) (fun _ h9 => h9) rfl d_H_desk_18 ?_
      obtain ⟨v5, e_v5, h⟩ := pu_ob h
      refine pu_callR (va_runU (As := []) (rest := [.ref (ad 0)]) ⟨hx, hb, hml, hown, hts⟩ (c_Rg_isFull_De l D ca ad st4 _ v5 e_v5) (xCU (C := "MuseumHouse$Desks") (owner := "MuseumHouse$Register") (x := ⟨"MuseumHouse$Desks", "isFull", "()Z"⟩) 0 hts wd_2_131 wd_1_2 wd_2_126 wd_2_127 wd_2_130 wd_2_129 rfl (by decide +kernel) ⟨Nat.le_of_ble_eq_true rfl, Nat.le_of_ble_eq_true rfl⟩) (G.preV hP hS 1 rfl rfl) rfl rfl hl.1 rfl (lv_room (Nat.le_of_ble_eq_true rfl)) d_H_desk_21 ⟨Nat.zero_le _, Nat.zero_le _⟩) ?_
      refine lv_if_ne (tgt := 31) hx hb d_H_desk_24 (by decide) (fun c6 => ?_) (fun c6 => ?_)
      · rw [if_neg c6] at h
        refine lv_iconst (v := 0) hx hb d_H_desk_31 (by decide) ?_
        exact t_H_desk_b32 htl C G () st4 x1 x2 v1 0 h H locs hP hS ls (lv_sub hl [1, 2, 3, 0] rfl)
      · rw [if_pos c6] at h
        refine lv_iconst (v := 1) hx hb d_H_desk_27 (by decide) ?_
        refine lv_goto (tgt := 32) hx hb d_H_desk_28 (by decide) ?_
        exact t_H_desk_b32 htl C G () st4 x1 x2 v1 1 h H locs hP hS ls (lv_sub hl [1, 2, 3, 0] rfl)
    · cases h
      exact hThrV G hS hno hlocks ⟨hx, hb, hml, hown, hts⟩ (As := [.int v1, .int 1]) (rest := []) (c_H_askRight l htl D ca ad st2 _ v1 1 _ _ e_v3) (xCW (C := "MuseumHouse") 2 hts wd_2_106 wd_1_1 wd_2_103 wd_2_105 wd_0_2 (by decide +kernel) ⟨Nat.le_of_ble_eq_true rfl, Nat.le_of_ble_eq_true rfl⟩) (G.preV hP hS 0 rfl rfl) rfl rfl hl.1 rfl (lv_room (Nat.le_of_ble_eq_true rfl)) d_H_desk_13 ⟨Nat.le_of_ble_eq_true rfl, Nat.le_of_ble_eq_true rfl⟩
  · cases h
    exact hThrV G hS hno hlocks ⟨hx, hb, hml, hown, hts⟩ (As := [.ref (ad 1), .int x1]) (rest := []) (c_H_numberOf_De l htl D ca ad st _ x1 _ _ e_v1) (xCW (C := "MuseumHouse") 2 hts wd_2_26 wd_1_1 wd_2_23 wd_2_25 wd_0_0 (by decide +kernel) ⟨Nat.le_of_ble_eq_true rfl, Nat.le_of_ble_eq_true rfl⟩) (G.preV hP hS 0 rfl rfl) rfl rfl hl.1 rfl (lv_room (Nat.le_of_ble_eq_true rfl)) d_H_desk_6 ⟨Nat.le_of_ble_eq_true rfl, Nat.le_of_ble_eq_true rfl⟩
end

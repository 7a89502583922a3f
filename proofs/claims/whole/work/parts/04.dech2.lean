theorem d_H_count_60 : decode b_H_count 60 = .ok (.aload_n 0, 1) := by decide +kernel
theorem d_H_count_61 : decode b_H_count 61 = .ok (.getfield 19, 3) := by decide +kernel
theorem d_H_count_64 : decode b_H_count 64 = .ok (.invokevirtual 284, 3) := by decide +kernel
theorem d_H_count_67 : decode b_H_count 67 = .ok (.ireturn, 1) := by decide +kernel
theorem d_H_count_68 : decode b_H_count 68 = .ok (.aload_n 0, 1) := by decide +kernel
theorem d_H_count_69 : decode b_H_count 69 = .ok (.getfield 26, 3) := by decide +kernel
theorem d_H_count_72 : decode b_H_count 72 = .ok (.invokevirtual 285, 3) := by decide +kernel
theorem d_H_count_75 : decode b_H_count 75 = .ok (.ireturn, 1) := by decide +kernel
theorem d_H_count_76 : decode b_H_count 76 = .ok (.aload_n 0, 1) := by decide +kernel
theorem d_H_count_77 : decode b_H_count 77 = .ok (.getfield 33, 3) := by decide +kernel
theorem d_H_count_80 : decode b_H_count 80 = .ok (.invokevirtual 286, 3) := by decide +kernel
theorem d_H_count_83 : decode b_H_count 83 = .ok (.ireturn, 1) := by decide +kernel
theorem d_H_count_84 : decode b_H_count 84 = .ok (.aload_n 0, 1) := by decide +kernel
theorem d_H_count_85 : decode b_H_count 85 = .ok (.getfield 40, 3) := by decide +kernel
theorem d_H_count_88 : decode b_H_count 88 = .ok (.invokevirtual 204, 3) := by decide +kernel
theorem d_H_count_91 : decode b_H_count 91 = .ok (.ireturn, 1) := by decide +kernel
theorem d_H_count_92 : decode b_H_count 92 = .ok (.aload_n 0, 1) := by decide +kernel
theorem d_H_count_93 : decode b_H_count 93 = .ok (.getfield 54, 3) := by decide +kernel
theorem d_H_count_96 : decode b_H_count 96 = .ok (.invokevirtual 287, 3) := by decide +kernel
theorem d_H_count_99 : decode b_H_count 99 = .ok (.ireturn, 1) := by decide +kernel
theorem d_H_count_100 : decode b_H_count 100 = .ok (.aload_n 0, 1) := by decide +kernel
theorem d_H_count_101 : decode b_H_count 101 = .ok (.getfield 61, 3) := by decide +kernel
theorem d_H_count_104 : decode b_H_count 104 = .ok (.invokevirtual 288, 3) := by decide +kernel
theorem d_H_count_107 : decode b_H_count 107 = .ok (.ireturn, 1) := by decide +kernel
theorem d_H_count_108 : decode b_H_count 108 = .ok (.aload_n 0, 1) := by decide +kernel
theorem d_H_count_109 : decode b_H_count 109 = .ok (.getfield 68, 3) := by decide +kernel
theorem d_H_count_112 : decode b_H_count 112 = .ok (.invokevirtual 289, 3) := by decide +kernel
theorem d_H_count_115 : decode b_H_count 115 = .ok (.ireturn, 1) := by decide +kernel
theorem d_H_count_116 : decode b_H_count 116 = .ok (.aload_n 0, 1) := by decide +kernel
theorem d_H_count_117 : decode b_H_count 117 = .ok (.getfield 75, 3) := by decide +kernel
theorem d_H_count_120 : decode b_H_count 120 = .ok (.invokevirtual 290, 3) := by decide +kernel
theorem d_H_count_123 : decode b_H_count 123 = .ok (.ireturn, 1) := by decide +kernel
theorem d_H_count_124 : decode b_H_count 124 = .ok (.new 291, 3) := by decide +kernel
theorem d_H_count_127 : decode b_H_count 127 = .ok (.dup, 1) := by decide +kernel
theorem d_H_count_128 : decode b_H_count 128 = .ok (.invokespecial 293, 3) := by decide +kernel
theorem d_H_count_131 : decode b_H_count 131 = .ok (.athrow, 1) := by decide +kernel
theorem d_H_numberOf_0 : decode b_H_numberOf 0 = .ok (.aload_n 1, 1) := by decide +kernel
theorem d_H_numberOf_1 : decode b_H_numberOf 1 = .ok (.iload_n 2, 1) := by decide +kernel
theorem d_H_numberOf_2 : decode b_H_numberOf 2 = .ok (.invokevirtual 294, 3) := by decide +kernel
theorem d_H_numberOf_5 : decode b_H_numberOf 5 = .ok (.istore_n 3, 1) := by decide +kernel
theorem d_H_numberOf_6 : decode b_H_numberOf 6 = .ok (.iload_n 3, 1) := by decide +kernel
theorem d_H_numberOf_7 : decode b_H_numberOf 7 = .ok (.iconst (-1), 1) := by decide +kernel
theorem d_H_numberOf_8 : decode b_H_numberOf 8 = .ok (.if_icmp .ne 16, 3) := by decide +kernel
theorem d_H_numberOf_11 : decode b_H_numberOf 11 = .ok (.aload_n 0, 1) := by decide +kernel
theorem d_H_numberOf_12 : decode b_H_numberOf 12 = .ok (.iconst 1, 1) := by decide +kernel
theorem d_H_numberOf_13 : decode b_H_numberOf 13 = .ok (.putfield 83, 3) := by decide +kernel
theorem d_H_numberOf_16 : decode b_H_numberOf 16 = .ok (.new 291, 3) := by decide +kernel
theorem d_H_numberOf_19 : decode b_H_numberOf 19 = .ok (.dup, 1) := by decide +kernel
theorem d_H_numberOf_20 : decode b_H_numberOf 20 = .ok (.invokespecial 293, 3) := by decide +kernel
theorem d_H_numberOf_23 : decode b_H_numberOf 23 = .ok (.athrow, 1) := by decide +kernel
theorem d_H_numberOf_24 : decode b_H_numberOf 24 = .ok (.iload_n 3, 1) := by decide +kernel
theorem d_H_numberOf_25 : decode b_H_numberOf 25 = .ok (.ireturn, 1) := by decide +kernel
theorem d_H_parentNumberOf_0 : decode b_H_parentNumberOf 0 = .ok (.iload_n 1, 1) := by decide +kernel
theorem d_H_parentNumberOf_1 : decode b_H_parentNumberOf 1 = .ok (.ifCond .ne 7, 3) := by decide +kernel
theorem d_H_parentNumberOf_4 : decode b_H_parentNumberOf 4 = .ok (.iconst (-1), 1) := by decide +kernel
theorem d_H_parentNumberOf_5 : decode b_H_parentNumberOf 5 = .ok (.goto 12, 3) := by decide +kernel
theorem d_H_parentNumberOf_8 : decode b_H_parentNumberOf 8 = .ok (.aload_n 0, 1) := by decide +kernel
theorem d_H_parentNumberOf_9 : decode b_H_parentNumberOf 9 = .ok (.aload_n 0, 1) := by decide +kernel
theorem d_H_parentNumberOf_10 : decode b_H_parentNumberOf 10 = .ok (.getfield 54, 3) := by decide +kernel
theorem d_H_parentNumberOf_13 : decode b_H_parentNumberOf 13 = .ok (.iload_n 1, 1) := by decide +kernel
theorem d_H_parentNumberOf_14 : decode b_H_parentNumberOf 14 = .ok (.invokevirtual 86, 3) := by decide +kernel
theorem d_H_parentNumberOf_17 : decode b_H_parentNumberOf 17 = .ok (.ireturn, 1) := by decide +kernel
theorem d_H_askRight_0 : decode b_H_askRight 0 = .ok (.aload_n 0, 1) := by decide +kernel
theorem d_H_askRight_1 : decode b_H_askRight 1 = .ok (.getfield 10, 3) := by decide +kernel
theorem d_H_askRight_4 : decode b_H_askRight 4 = .ok (.iload_n 1, 1) := by decide +kernel
theorem d_H_askRight_5 : decode b_H_askRight 5 = .ok (.iload_n 2, 1) := by decide +kernel
theorem d_H_askRight_6 : decode b_H_askRight 6 = .ok (.invokevirtual 106, 3) := by decide +kernel
theorem d_H_askRight_9 : decode b_H_askRight 9 = .ok (.ifCond .ne 16, 3) := by decide +kernel
theorem d_H_askRight_12 : decode b_H_askRight 12 = .ok (.aload_n 0, 1) := by decide +kernel
theorem d_H_askRight_13 : decode b_H_askRight 13 = .ok (.iconst 2, 1) := by decide +kernel
theorem d_H_askRight_14 : decode b_H_askRight 14 = .ok (.putfield 83, 3) := by decide +kernel
theorem d_H_askRight_17 : decode b_H_askRight 17 = .ok (.new 297, 3) := by decide +kernel
theorem d_H_askRight_20 : decode b_H_askRight 20 = .ok (.dup, 1) := by decide +kernel
theorem d_H_askRight_21 : decode b_H_askRight 21 = .ok (.invokespecial 299, 3) := by decide +kernel
theorem d_H_askRight_24 : decode b_H_askRight 24 = .ok (.athrow, 1) := by decide +kernel
theorem d_H_askRight_25 : decode b_H_askRight 25 = .ok (.return_, 1) := by decide +kernel
theorem d_H_askRoom_0 : decode b_H_askRoom 0 = .ok (.iload_n 1, 1) := by decide +kernel
theorem d_H_askRoom_1 : decode b_H_askRoom 1 = .ok (.ifCond .ne 16, 3) := by decide +kernel
theorem d_H_askRoom_4 : decode b_H_askRoom 4 = .ok (.aload_n 0, 1) := by decide +kernel
theorem d_H_askRoom_5 : decode b_H_askRoom 5 = .ok (.iconst 3, 1) := by decide +kernel
theorem d_H_askRoom_6 : decode b_H_askRoom 6 = .ok (.putfield 83, 3) := by decide +kernel
theorem d_H_askRoom_9 : decode b_H_askRoom 9 = .ok (.new 297, 3) := by decide +kernel
theorem d_H_askRoom_12 : decode b_H_askRoom 12 = .ok (.dup, 1) := by decide +kernel
theorem d_H_askRoom_13 : decode b_H_askRoom 13 = .ok (.invokespecial 299, 3) := by decide +kernel
theorem d_H_askRoom_16 : decode b_H_askRoom 16 = .ok (.athrow, 1) := by decide +kernel
theorem d_H_askRoom_17 : decode b_H_askRoom 17 = .ok (.return_, 1) := by decide +kernel
theorem d_H_ask_0 : decode b_H_ask 0 = .ok (.iload_n 2, 1) := by decide +kernel
theorem d_H_ask_1 : decode b_H_ask 1 = .ok (.ifCond .ne 16, 3) := by decide +kernel
theorem d_H_ask_4 : decode b_H_ask 4 = .ok (.aload_n 0, 1) := by decide +kernel
theorem d_H_ask_5 : decode b_H_ask 5 = .ok (.iload_n 1, 1) := by decide +kernel
theorem d_H_ask_6 : decode b_H_ask 6 = .ok (.putfield 83, 3) := by decide +kernel
theorem d_H_ask_9 : decode b_H_ask 9 = .ok (.new 300, 3) := by decide +kernel
theorem d_H_ask_12 : decode b_H_ask 12 = .ok (.dup, 1) := by decide +kernel
theorem d_H_ask_13 : decode b_H_ask 13 = .ok (.invokespecial 302, 3) := by decide +kernel
theorem d_H_ask_16 : decode b_H_ask 16 = .ok (.athrow, 1) := by decide +kernel
theorem d_H_ask_17 : decode b_H_ask 17 = .ok (.return_, 1) := by decide +kernel
theorem d_H_askFree_0 : decode b_H_askFree 0 = .ok (.aload_n 0, 1) := by decide +kernel
theorem d_H_askFree_1 : decode b_H_askFree 1 = .ok (.bipush 11, 2) := by decide +kernel
theorem d_H_askFree_3 : decode b_H_askFree 3 = .ok (.iload_n 2, 1) := by decide +kernel
theorem d_H_askFree_4 : decode b_H_askFree 4 = .ok (.aload_n 0, 1) := by decide +kernel
theorem d_H_askFree_5 : decode b_H_askFree 5 = .ok (.getfield 40, 3) := by decide +kernel
theorem d_H_askFree_8 : decode b_H_askFree 8 = .ok (.iload_n 1, 1) := by decide +kernel
theorem d_H_askFree_9 : decode b_H_askFree 9 = .ok (.invokevirtual 193, 3) := by decide +kernel
theorem d_H_askFree_12 : decode b_H_askFree 12 = .ok (.if_icmp .lt 7, 3) := by decide +kernel
theorem d_H_askFree_15 : decode b_H_askFree 15 = .ok (.iconst 1, 1) := by decide +kernel
theorem d_H_askFree_16 : decode b_H_askFree 16 = .ok (.goto 4, 3) := by decide +kernel
theorem d_H_askFree_19 : decode b_H_askFree 19 = .ok (.iconst 0, 1) := by decide +kernel
theorem d_H_askFree_20 : decode b_H_askFree 20 = .ok (.invokevirtual 102, 3) := by decide +kernel
theorem d_H_askFree_23 : decode b_H_askFree 23 = .ok (.aload_n 0, 1) := by decide +kernel
theorem d_H_askFree_24 : decode b_H_askFree 24 = .ok (.bipush 13, 2) := by decide +kernel
theorem d_H_askFree_26 : decode b_H_askFree 26 = .ok (.aload_n 0, 1) := by decide +kernel
theorem d_H_askFree_27 : decode b_H_askFree 27 = .ok (.getfield 75, 3) := by decide +kernel
theorem d_H_askFree_30 : decode b_H_askFree 30 = .ok (.iload_n 1, 1) := by decide +kernel
theorem d_H_askFree_31 : decode b_H_askFree 31 = .ok (.invokevirtual 258, 3) := by decide +kernel
theorem d_H_askFree_34 : decode b_H_askFree 34 = .ok (.ifCond .ne 7, 3) := by decide +kernel
theorem d_H_askFree_37 : decode b_H_askFree 37 = .ok (.iconst 1, 1) := by decide +kernel
theorem d_H_askFree_38 : decode b_H_askFree 38 = .ok (.goto 4, 3) := by decide +kernel
theorem d_H_askFree_41 : decode b_H_askFree 41 = .ok (.iconst 0, 1) := by decide +kernel
theorem d_H_askFree_42 : decode b_H_askFree 42 = .ok (.invokevirtual 102, 3) := by decide +kernel
theorem d_H_askFree_45 : decode b_H_askFree 45 = .ok (.aload_n 0, 1) := by decide +kernel
theorem d_H_askFree_46 : decode b_H_askFree 46 = .ok (.bipush 14, 2) := by decide +kernel
theorem d_H_askFree_48 : decode b_H_askFree 48 = .ok (.aload_n 0, 1) := by decide +kernel
theorem d_H_askFree_49 : decode b_H_askFree 49 = .ok (.getfield 61, 3) := by decide +kernel
theorem d_H_askFree_52 : decode b_H_askFree 52 = .ok (.iload_n 1, 1) := by decide +kernel
theorem d_H_askFree_53 : decode b_H_askFree 53 = .ok (.iload_n 2, 1) := by decide +kernel
theorem d_H_askFree_54 : decode b_H_askFree 54 = .ok (.iload_n 3, 1) := by decide +kernel
theorem d_H_askFree_55 : decode b_H_askFree 55 = .ok (.invokevirtual 194, 3) := by decide +kernel
theorem d_H_askFree_58 : decode b_H_askFree 58 = .ok (.iconst (-1), 1) := by decide +kernel
theorem d_H_askFree_59 : decode b_H_askFree 59 = .ok (.if_icmp .ne 21, 3) := by decide +kernel
theorem d_H_askFree_62 : decode b_H_askFree 62 = .ok (.aload_n 0, 1) := by decide +kernel
theorem d_H_askFree_63 : decode b_H_askFree 63 = .ok (.getfield 68, 3) := by decide +kernel
theorem d_H_askFree_66 : decode b_H_askFree 66 = .ok (.iload_n 1, 1) := by decide +kernel
theorem d_H_askFree_67 : decode b_H_askFree 67 = .ok (.iload_n 2, 1) := by decide +kernel
theorem d_H_askFree_68 : decode b_H_askFree 68 = .ok (.iload_n 3, 1) := by decide +kernel
theorem d_H_askFree_69 : decode b_H_askFree 69 = .ok (.invokevirtual 264, 3) := by decide +kernel
theorem d_H_askFree_72 : decode b_H_askFree 72 = .ok (.iconst (-1), 1) := by decide +kernel
theorem d_H_askFree_73 : decode b_H_askFree 73 = .ok (.if_icmp .ne 7, 3) := by decide +kernel
theorem d_H_askFree_76 : decode b_H_askFree 76 = .ok (.iconst 1, 1) := by decide +kernel
theorem d_H_askFree_77 : decode b_H_askFree 77 = .ok (.goto 4, 3) := by decide +kernel
theorem d_H_askFree_80 : decode b_H_askFree 80 = .ok (.iconst 0, 1) := by decide +kernel
theorem d_H_askFree_81 : decode b_H_askFree 81 = .ok (.invokevirtual 102, 3) := by decide +kernel
theorem d_H_askFree_84 : decode b_H_askFree 84 = .ok (.return_, 1) := by decide +kernel
theorem d_H_placeHandle_0 : decode b_H_placeHandle 0 = .ok (.aload_n 0, 1) := by decide +kernel
theorem d_H_placeHandle_1 : decode b_H_placeHandle 1 = .ok (.getfield 47, 3) := by decide +kernel
theorem d_H_placeHandle_4 : decode b_H_placeHandle 4 = .ok (.iload_n 1, 1) := by decide +kernel
theorem d_H_placeHandle_5 : decode b_H_placeHandle 5 = .ok (.iload_n 2, 1) := by decide +kernel
theorem d_H_placeHandle_6 : decode b_H_placeHandle 6 = .ok (.invokevirtual 207, 3) := by decide +kernel
theorem d_H_placeHandle_9 : decode b_H_placeHandle 9 = .ok (.istore_n 3, 1) := by decide +kernel
theorem d_H_placeHandle_10 : decode b_H_placeHandle 10 = .ok (.iload_n 3, 1) := by decide +kernel
theorem d_H_placeHandle_11 : decode b_H_placeHandle 11 = .ok (.iconst (-1), 1) := by decide +kernel
theorem d_H_placeHandle_12 : decode b_H_placeHandle 12 = .ok (.if_icmp .ne 7, 3) := by decide +kernel
theorem d_H_placeHandle_15 : decode b_H_placeHandle 15 = .ok (.iconst 0, 1) := by decide +kernel
theorem d_H_placeHandle_16 : decode b_H_placeHandle 16 = .ok (.goto 11, 3) := by decide +kernel
theorem d_H_placeHandle_19 : decode b_H_placeHandle 19 = .ok (.aload_n 0, 1) := by decide +kernel
theorem d_H_placeHandle_20 : decode b_H_placeHandle 20 = .ok (.getfield 54, 3) := by decide +kernel
theorem d_H_placeHandle_23 : decode b_H_placeHandle 23 = .ok (.iload_n 3, 1) := by decide +kernel
theorem d_H_placeHandle_24 : decode b_H_placeHandle 24 = .ok (.invokevirtual 282, 3) := by decide +kernel
theorem d_H_placeHandle_27 : decode b_H_placeHandle 27 = .ok (.ireturn, 1) := by decide +kernel
theorem d_H_isDay_0 : decode b_H_isDay 0 = .ok (.iload_n 0, 1) := by decide +kernel
theorem d_H_isDay_1 : decode b_H_isDay 1 = .ok (.ifCond .lt 14, 3) := by decide +kernel
theorem d_H_isDay_4 : decode b_H_isDay 4 = .ok (.iload_n 0, 1) := by decide +kernel
theorem d_H_isDay_5 : decode b_H_isDay 5 = .ok (.sipush 9999, 3) := by decide +kernel
theorem d_H_isDay_8 : decode b_H_isDay 8 = .ok (.if_icmp .gt 7, 3) := by decide +kernel
theorem d_H_isDay_11 : decode b_H_isDay 11 = .ok (.iconst 1, 1) := by decide +kernel
theorem d_H_isDay_12 : decode b_H_isDay 12 = .ok (.goto 4, 3) := by decide +kernel
theorem d_H_isDay_15 : decode b_H_isDay 15 = .ok (.iconst 0, 1) := by decide +kernel
theorem d_H_isDay_16 : decode b_H_isDay 16 = .ok (.ireturn, 1) := by decide +kernel
theorem d_H_daysMeet_0 : decode b_H_daysMeet 0 = .ok (.iload_n 0, 1) := by decide +kernel
theorem d_H_daysMeet_1 : decode b_H_daysMeet 1 = .ok (.iload_n 3, 1) := by decide +kernel
theorem d_H_daysMeet_2 : decode b_H_daysMeet 2 = .ok (.if_icmp .gt 12, 3) := by decide +kernel
theorem d_H_daysMeet_5 : decode b_H_daysMeet 5 = .ok (.iload_n 2, 1) := by decide +kernel
theorem d_H_daysMeet_6 : decode b_H_daysMeet 6 = .ok (.iload_n 1, 1) := by decide +kernel
theorem d_H_daysMeet_7 : decode b_H_daysMeet 7 = .ok (.if_icmp .gt 7, 3) := by decide +kernel
theorem d_H_daysMeet_10 : decode b_H_daysMeet 10 = .ok (.iconst 1, 1) := by decide +kernel
theorem d_H_daysMeet_11 : decode b_H_daysMeet 11 = .ok (.goto 4, 3) := by decide +kernel
theorem d_H_daysMeet_14 : decode b_H_daysMeet 14 = .ok (.iconst 0, 1) := by decide +kernel
theorem d_H_daysMeet_15 : decode b_H_daysMeet 15 = .ok (.ireturn, 1) := by decide +kernel
theorem d_Cl_init_0 : decode b_Cl_init 0 = .ok (.aload_n 0, 1) := by decide +kernel
theorem d_Cl_init_1 : decode b_Cl_init 1 = .ok (.bipush 9, 2) := by decide +kernel
theorem d_Cl_init_3 : decode b_Cl_init 3 = .ok (.bipush 20, 2) := by decide +kernel
theorem d_Cl_init_5 : decode b_Cl_init 5 = .ok (.invokespecial 3, 3) := by decide +kernel
theorem d_Cl_init_8 : decode b_Cl_init 8 = .ok (.aload_n 0, 1) := by decide +kernel
theorem d_Cl_init_9 : decode b_Cl_init 9 = .ok (.bipush 20, 2) := by decide +kernel
theorem d_Cl_init_11 : decode b_Cl_init 11 = .ok (.newarray .int, 2) := by decide +kernel
theorem d_Cl_init_13 : decode b_Cl_init 13 = .ok (.putfield 9, 3) := by decide +kernel
theorem d_Cl_init_16 : decode b_Cl_init 16 = .ok (.aload_n 0, 1) := by decide +kernel
theorem d_Cl_init_17 : decode b_Cl_init 17 = .ok (.bipush 20, 2) := by decide +kernel
theorem d_Cl_init_19 : decode b_Cl_init 19 = .ok (.newarray .int, 2) := by decide +kernel
theorem d_Cl_init_21 : decode b_Cl_init 21 = .ok (.putfield 15, 3) := by decide +kernel
theorem d_Cl_init_24 : decode b_Cl_init 24 = .ok (.aload_n 0, 1) := by decide +kernel
theorem d_Cl_init_25 : decode b_Cl_init 25 = .ok (.bipush 20, 2) := by decide +kernel
theorem d_Cl_init_27 : decode b_Cl_init 27 = .ok (.newarray .boolean, 2) := by decide +kernel
theorem d_Cl_init_29 : decode b_Cl_init 29 = .ok (.putfield 18, 3) := by decide +kernel
theorem d_Cl_init_32 : decode b_Cl_init 32 = .ok (.return_, 1) := by decide +kernel
theorem d_Cl_raise_0 : decode b_Cl_raise 0 = .ok (.aload_n 0, 1) := by decide +kernel
theorem d_Cl_raise_1 : decode b_Cl_raise 1 = .ok (.invokevirtual 22, 3) := by decide +kernel
theorem d_Cl_raise_4 : decode b_Cl_raise 4 = .ok (.istore_n 3, 1) := by decide +kernel
theorem d_Cl_raise_5 : decode b_Cl_raise 5 = .ok (.aload_n 0, 1) := by decide +kernel
theorem d_Cl_raise_6 : decode b_Cl_raise 6 = .ok (.getfield 9, 3) := by decide +kernel
theorem d_Cl_raise_9 : decode b_Cl_raise 9 = .ok (.iload_n 3, 1) := by decide +kernel
theorem d_Cl_raise_10 : decode b_Cl_raise 10 = .ok (.iload_n 1, 1) := by decide +kernel
theorem d_Cl_raise_11 : decode b_Cl_raise 11 = .ok (.iastore, 1) := by decide +kernel
theorem d_Cl_raise_12 : decode b_Cl_raise 12 = .ok (.aload_n 0, 1) := by decide +kernel
theorem d_Cl_raise_13 : decode b_Cl_raise 13 = .ok (.getfield 15, 3) := by decide +kernel
theorem d_Cl_raise_16 : decode b_Cl_raise 16 = .ok (.iload_n 3, 1) := by decide +kernel
theorem d_Cl_raise_17 : decode b_Cl_raise 17 = .ok (.iload_n 2, 1) := by decide +kernel
theorem d_Cl_raise_18 : decode b_Cl_raise 18 = .ok (.iastore, 1) := by decide +kernel
theorem d_Cl_raise_19 : decode b_Cl_raise 19 = .ok (.aload_n 0, 1) := by decide +kernel
theorem d_Cl_raise_20 : decode b_Cl_raise 20 = .ok (.getfield 18, 3) := by decide +kernel
theorem d_Cl_raise_23 : decode b_Cl_raise 23 = .ok (.iload_n 3, 1) := by decide +kernel
theorem d_Cl_raise_24 : decode b_Cl_raise 24 = .ok (.iconst 1, 1) := by decide +kernel
theorem d_Cl_raise_25 : decode b_Cl_raise 25 = .ok (.bastore, 1) := by decide +kernel
theorem d_Cl_raise_26 : decode b_Cl_raise 26 = .ok (.aload_n 0, 1) := by decide +kernel
theorem d_Cl_raise_27 : decode b_Cl_raise 27 = .ok (.iload_n 3, 1) := by decide +kernel
theorem d_Cl_raise_28 : decode b_Cl_raise 28 = .ok (.invokevirtual 26, 3) := by decide +kernel
theorem d_Cl_raise_31 : decode b_Cl_raise 31 = .ok (.ireturn, 1) := by decide +kernel
theorem d_Cl_itemOf_0 : decode b_Cl_itemOf 0 = .ok (.aload_n 0, 1) := by decide +kernel
theorem d_Cl_itemOf_1 : decode b_Cl_itemOf 1 = .ok (.getfield 9, 3) := by decide +kernel
theorem d_Cl_itemOf_4 : decode b_Cl_itemOf 4 = .ok (.iload_n 1, 1) := by decide +kernel
theorem d_Cl_itemOf_5 : decode b_Cl_itemOf 5 = .ok (.iaload, 1) := by decide +kernel
theorem d_Cl_itemOf_6 : decode b_Cl_itemOf 6 = .ok (.ireturn, 1) := by decide +kernel
theorem d_Cl_isOpen_0 : decode b_Cl_isOpen 0 = .ok (.aload_n 0, 1) := by decide +kernel
theorem d_Cl_isOpen_1 : decode b_Cl_isOpen 1 = .ok (.getfield 18, 3) := by decide +kernel
theorem d_Cl_isOpen_4 : decode b_Cl_isOpen 4 = .ok (.iload_n 1, 1) := by decide +kernel
theorem d_Cl_isOpen_5 : decode b_Cl_isOpen 5 = .ok (.baload, 1) := by decide +kernel
theorem d_Cl_isOpen_6 : decode b_Cl_isOpen 6 = .ok (.ireturn, 1) := by decide +kernel
theorem d_Cl_settle_0 : decode b_Cl_settle 0 = .ok (.aload_n 0, 1) := by decide +kernel
theorem d_Cl_settle_1 : decode b_Cl_settle 1 = .ok (.getfield 18, 3) := by decide +kernel
theorem d_Cl_settle_4 : decode b_Cl_settle 4 = .ok (.iload_n 1, 1) := by decide +kernel
theorem d_Cl_settle_5 : decode b_Cl_settle 5 = .ok (.iconst 0, 1) := by decide +kernel
theorem d_Cl_settle_6 : decode b_Cl_settle 6 = .ok (.bastore, 1) := by decide +kernel
theorem d_Cl_settle_7 : decode b_Cl_settle 7 = .ok (.return_, 1) := by decide +kernel
theorem d_Cl_hasOpenOf_0 : decode b_Cl_hasOpenOf 0 = .ok (.iconst 0, 1) := by decide +kernel
theorem d_Cl_hasOpenOf_1 : decode b_Cl_hasOpenOf 1 = .ok (.istore_n 3, 1) := by decide +kernel
theorem d_Cl_hasOpenOf_2 : decode b_Cl_hasOpenOf 2 = .ok (.iload_n 3, 1) := by decide +kernel
theorem d_Cl_hasOpenOf_3 : decode b_Cl_hasOpenOf 3 = .ok (.aload_n 0, 1) := by decide +kernel
theorem d_Cl_hasOpenOf_4 : decode b_Cl_hasOpenOf 4 = .ok (.invokevirtual 30, 3) := by decide +kernel
theorem d_Cl_hasOpenOf_7 : decode b_Cl_hasOpenOf 7 = .ok (.if_icmp .ge 40, 3) := by decide +kernel
theorem d_Cl_hasOpenOf_10 : decode b_Cl_hasOpenOf 10 = .ok (.aload_n 0, 1) := by decide +kernel
theorem d_Cl_hasOpenOf_11 : decode b_Cl_hasOpenOf 11 = .ok (.getfield 18, 3) := by decide +kernel
theorem d_Cl_hasOpenOf_14 : decode b_Cl_hasOpenOf 14 = .ok (.iload_n 3, 1) := by decide +kernel
theorem d_Cl_hasOpenOf_15 : decode b_Cl_hasOpenOf 15 = .ok (.baload, 1) := by decide +kernel
theorem d_Cl_hasOpenOf_16 : decode b_Cl_hasOpenOf 16 = .ok (.ifCond .eq 25, 3) := by decide +kernel
theorem d_Cl_hasOpenOf_19 : decode b_Cl_hasOpenOf 19 = .ok (.aload_n 0, 1) := by decide +kernel
theorem d_Cl_hasOpenOf_20 : decode b_Cl_hasOpenOf 20 = .ok (.getfield 9, 3) := by decide +kernel
theorem d_Cl_hasOpenOf_23 : decode b_Cl_hasOpenOf 23 = .ok (.iload_n 3, 1) := by decide +kernel
theorem d_Cl_hasOpenOf_24 : decode b_Cl_hasOpenOf 24 = .ok (.iaload, 1) := by decide +kernel
theorem d_Cl_hasOpenOf_25 : decode b_Cl_hasOpenOf 25 = .ok (.iload_n 1, 1) := by decide +kernel
theorem d_Cl_hasOpenOf_26 : decode b_Cl_hasOpenOf 26 = .ok (.if_icmp .ne 15, 3) := by decide +kernel
theorem d_Cl_hasOpenOf_29 : decode b_Cl_hasOpenOf 29 = .ok (.aload_n 0, 1) := by decide +kernel
theorem d_Cl_hasOpenOf_30 : decode b_Cl_hasOpenOf 30 = .ok (.getfield 15, 3) := by decide +kernel
theorem d_Cl_hasOpenOf_33 : decode b_Cl_hasOpenOf 33 = .ok (.iload_n 3, 1) := by decide +kernel
theorem d_Cl_hasOpenOf_34 : decode b_Cl_hasOpenOf 34 = .ok (.iaload, 1) := by decide +kernel
theorem d_Cl_hasOpenOf_35 : decode b_Cl_hasOpenOf 35 = .ok (.iload_n 2, 1) := by decide +kernel
theorem d_Cl_hasOpenOf_36 : decode b_Cl_hasOpenOf 36 = .ok (.if_icmp .ne 5, 3) := by decide +kernel
theorem d_Cl_hasOpenOf_39 : decode b_Cl_hasOpenOf 39 = .ok (.iconst 1, 1) := by decide +kernel
theorem d_Cl_hasOpenOf_40 : decode b_Cl_hasOpenOf 40 = .ok (.ireturn, 1) := by decide +kernel
theorem d_Cl_hasOpenOf_41 : decode b_Cl_hasOpenOf 41 = .ok (.iinc 3 1, 3) := by decide +kernel
theorem d_Cl_hasOpenOf_44 : decode b_Cl_hasOpenOf 44 = .ok (.goto (-42), 3) := by decide +kernel
theorem d_Cl_hasOpenOf_47 : decode b_Cl_hasOpenOf 47 = .ok (.iconst 0, 1) := by decide +kernel
theorem d_Cl_hasOpenOf_48 : decode b_Cl_hasOpenOf 48 = .ok (.ireturn, 1) := by decide +kernel
theorem d_Cl_openFor_0 : decode b_Cl_openFor 0 = .ok (.iconst 0, 1) := by decide +kernel
theorem d_Cl_openFor_1 : decode b_Cl_openFor 1 = .ok (.istore_n 2, 1) := by decide +kernel
theorem d_Cl_openFor_2 : decode b_Cl_openFor 2 = .ok (.iconst 0, 1) := by decide +kernel
theorem d_Cl_openFor_3 : decode b_Cl_openFor 3 = .ok (.istore_n 3, 1) := by decide +kernel
theorem d_Cl_openFor_4 : decode b_Cl_openFor 4 = .ok (.iload_n 3, 1) := by decide +kernel
theorem d_Cl_openFor_5 : decode b_Cl_openFor 5 = .ok (.aload_n 0, 1) := by decide +kernel
theorem d_Cl_openFor_6 : decode b_Cl_openFor 6 = .ok (.invokevirtual 30, 3) := by decide +kernel
theorem d_Cl_openFor_9 : decode b_Cl_openFor 9 = .ok (.if_icmp .ge 31, 3) := by decide +kernel
theorem d_Cl_openFor_12 : decode b_Cl_openFor 12 = .ok (.aload_n 0, 1) := by decide +kernel
theorem d_Cl_openFor_13 : decode b_Cl_openFor 13 = .ok (.getfield 18, 3) := by decide +kernel
theorem d_Cl_openFor_16 : decode b_Cl_openFor 16 = .ok (.iload_n 3, 1) := by decide +kernel
theorem d_Cl_openFor_17 : decode b_Cl_openFor 17 = .ok (.baload, 1) := by decide +kernel
theorem d_Cl_openFor_18 : decode b_Cl_openFor 18 = .ok (.ifCond .eq 16, 3) := by decide +kernel
theorem d_Cl_openFor_21 : decode b_Cl_openFor 21 = .ok (.aload_n 0, 1) := by decide +kernel
theorem d_Cl_openFor_22 : decode b_Cl_openFor 22 = .ok (.getfield 9, 3) := by decide +kernel
theorem d_Cl_openFor_25 : decode b_Cl_openFor 25 = .ok (.iload_n 3, 1) := by decide +kernel
theorem d_Cl_openFor_26 : decode b_Cl_openFor 26 = .ok (.iaload, 1) := by decide +kernel
theorem d_Cl_openFor_27 : decode b_Cl_openFor 27 = .ok (.iload_n 1, 1) := by decide +kernel
theorem d_Cl_openFor_28 : decode b_Cl_openFor 28 = .ok (.if_icmp .ne 6, 3) := by decide +kernel
theorem d_Cl_openFor_31 : decode b_Cl_openFor 31 = .ok (.iinc 2 1, 3) := by decide +kernel
theorem d_Cl_openFor_34 : decode b_Cl_openFor 34 = .ok (.iinc 3 1, 3) := by decide +kernel
theorem d_Cl_openFor_37 : decode b_Cl_openFor 37 = .ok (.goto (-33), 3) := by decide +kernel
theorem d_Cl_openFor_40 : decode b_Cl_openFor 40 = .ok (.iload_n 2, 1) := by decide +kernel
theorem d_Cl_openFor_41 : decode b_Cl_openFor 41 = .ok (.ireturn, 1) := by decide +kernel
theorem d_Co_init_0 : decode b_Co_init 0 = .ok (.aload_n 0, 1) := by decide +kernel
theorem d_Co_init_1 : decode b_Co_init 1 = .ok (.iconst 3, 1) := by decide +kernel
theorem d_Co_init_2 : decode b_Co_init 2 = .ok (.bipush 20, 2) := by decide +kernel
theorem d_Co_init_4 : decode b_Co_init 4 = .ok (.invokespecial 3, 3) := by decide +kernel
theorem d_Co_init_7 : decode b_Co_init 7 = .ok (.aload_n 0, 1) := by decide +kernel
theorem d_Co_init_8 : decode b_Co_init 8 = .ok (.bipush 20, 2) := by decide +kernel
theorem d_Co_init_10 : decode b_Co_init 10 = .ok (.newarray .int, 2) := by decide +kernel
theorem d_Co_init_12 : decode b_Co_init 12 = .ok (.putfield 9, 3) := by decide +kernel
theorem d_Co_init_15 : decode b_Co_init 15 = .ok (.aload_n 0, 1) := by decide +kernel
theorem d_Co_init_16 : decode b_Co_init 16 = .ok (.bipush 20, 2) := by decide +kernel
theorem d_Co_init_18 : decode b_Co_init 18 = .ok (.newarray .int, 2) := by decide +kernel
theorem d_Co_init_20 : decode b_Co_init 20 = .ok (.putfield 15, 3) := by decide +kernel
theorem d_Co_init_23 : decode b_Co_init 23 = .ok (.aload_n 0, 1) := by decide +kernel
theorem d_Co_init_24 : decode b_Co_init 24 = .ok (.bipush 20, 2) := by decide +kernel
theorem d_Co_init_26 : decode b_Co_init 26 = .ok (.newarray .int, 2) := by decide +kernel
theorem d_Co_init_28 : decode b_Co_init 28 = .ok (.putfield 18, 3) := by decide +kernel
theorem d_Co_init_31 : decode b_Co_init 31 = .ok (.aload_n 0, 1) := by decide +kernel
theorem d_Co_init_32 : decode b_Co_init 32 = .ok (.bipush 20, 2) := by decide +kernel
theorem d_Co_init_34 : decode b_Co_init 34 = .ok (.newarray .int, 2) := by decide +kernel
theorem d_Co_init_36 : decode b_Co_init 36 = .ok (.putfield 21, 3) := by decide +kernel
theorem d_Co_init_39 : decode b_Co_init 39 = .ok (.return_, 1) := by decide +kernel
theorem d_Co_dig_0 : decode b_Co_dig 0 = .ok (.aload_n 0, 1) := by decide +kernel
theorem d_Co_dig_1 : decode b_Co_dig 1 = .ok (.invokevirtual 24, 3) := by decide +kernel
theorem d_Co_dig_4 : decode b_Co_dig 4 = .ok (.istore_n 2, 1) := by decide +kernel
theorem d_Co_dig_5 : decode b_Co_dig 5 = .ok (.aload_n 0, 1) := by decide +kernel
theorem d_Co_dig_6 : decode b_Co_dig 6 = .ok (.getfield 9, 3) := by decide +kernel
theorem d_Co_dig_9 : decode b_Co_dig 9 = .ok (.iload_n 2, 1) := by decide +kernel
theorem d_Co_dig_10 : decode b_Co_dig 10 = .ok (.iload_n 1, 1) := by decide +kernel
theorem d_Co_dig_11 : decode b_Co_dig 11 = .ok (.iastore, 1) := by decide +kernel
theorem d_Co_dig_12 : decode b_Co_dig 12 = .ok (.aload_n 0, 1) := by decide +kernel
theorem d_Co_dig_13 : decode b_Co_dig 13 = .ok (.getfield 15, 3) := by decide +kernel
theorem d_Co_dig_16 : decode b_Co_dig 16 = .ok (.iload_n 2, 1) := by decide +kernel
theorem d_Co_dig_17 : decode b_Co_dig 17 = .ok (.iconst 0, 1) := by decide +kernel
theorem d_Co_dig_18 : decode b_Co_dig 18 = .ok (.iastore, 1) := by decide +kernel
theorem d_Co_dig_19 : decode b_Co_dig 19 = .ok (.aload_n 0, 1) := by decide +kernel
theorem d_Co_dig_20 : decode b_Co_dig 20 = .ok (.getfield 18, 3) := by decide +kernel
theorem d_Co_dig_23 : decode b_Co_dig 23 = .ok (.iload_n 2, 1) := by decide +kernel
theorem d_Co_dig_24 : decode b_Co_dig 24 = .ok (.sipush 999, 3) := by decide +kernel
theorem d_Co_dig_27 : decode b_Co_dig 27 = .ok (.iastore, 1) := by decide +kernel
theorem d_Co_dig_28 : decode b_Co_dig 28 = .ok (.aload_n 0, 1) := by decide +kernel
theorem d_Co_dig_29 : decode b_Co_dig 29 = .ok (.getfield 21, 3) := by decide +kernel
theorem d_Co_dig_32 : decode b_Co_dig 32 = .ok (.iload_n 2, 1) := by decide +kernel
theorem d_Co_dig_33 : decode b_Co_dig 33 = .ok (.iconst 0, 1) := by decide +kernel
theorem d_Co_dig_34 : decode b_Co_dig 34 = .ok (.iastore, 1) := by decide +kernel
theorem d_Co_dig_35 : decode b_Co_dig 35 = .ok (.aload_n 0, 1) := by decide +kernel
theorem d_Co_dig_36 : decode b_Co_dig 36 = .ok (.iload_n 2, 1) := by decide +kernel
theorem d_Co_dig_37 : decode b_Co_dig 37 = .ok (.invokevirtual 28, 3) := by decide +kernel
theorem d_Co_dig_40 : decode b_Co_dig 40 = .ok (.ireturn, 1) := by decide +kernel
theorem d_Co_siteOf_0 : decode b_Co_siteOf 0 = .ok (.aload_n 0, 1) := by decide +kernel
theorem d_Co_siteOf_1 : decode b_Co_siteOf 1 = .ok (.getfield 9, 3) := by decide +kernel
theorem d_Co_siteOf_4 : decode b_Co_siteOf 4 = .ok (.iload_n 1, 1) := by decide +kernel
theorem d_Co_siteOf_5 : decode b_Co_siteOf 5 = .ok (.iaload, 1) := by decide +kernel
theorem d_Co_siteOf_6 : decode b_Co_siteOf 6 = .ok (.ireturn, 1) := by decide +kernel
theorem d_Co_isOver_0 : decode b_Co_isOver 0 = .ok (.aload_n 0, 1) := by decide +kernel
theorem d_Co_isOver_1 : decode b_Co_isOver 1 = .ok (.getfield 21, 3) := by decide +kernel
theorem d_Co_isOver_4 : decode b_Co_isOver 4 = .ok (.iload_n 1, 1) := by decide +kernel
theorem d_Co_isOver_5 : decode b_Co_isOver 5 = .ok (.iaload, 1) := by decide +kernel
theorem d_Co_isOver_6 : decode b_Co_isOver 6 = .ok (.iconst 1, 1) := by decide +kernel
theorem d_Co_isOver_7 : decode b_Co_isOver 7 = .ok (.iload_n 2, 1) := by decide +kernel
theorem d_Co_isOver_8 : decode b_Co_isOver 8 = .ok (.ishl, 1) := by decide +kernel
theorem d_Co_isOver_9 : decode b_Co_isOver 9 = .ok (.iand, 1) := by decide +kernel
theorem d_Co_isOver_10 : decode b_Co_isOver 10 = .ok (.ifCond .eq 7, 3) := by decide +kernel
theorem d_Co_isOver_13 : decode b_Co_isOver 13 = .ok (.iconst 1, 1) := by decide +kernel
theorem d_Co_isOver_14 : decode b_Co_isOver 14 = .ok (.goto 4, 3) := by decide +kernel
theorem d_Co_isOver_17 : decode b_Co_isOver 17 = .ok (.iconst 0, 1) := by decide +kernel
theorem d_Co_isOver_18 : decode b_Co_isOver 18 = .ok (.ireturn, 1) := by decide +kernel
theorem d_Co_putOver_0 : decode b_Co_putOver 0 = .ok (.aload_n 0, 1) := by decide +kernel
theorem d_Co_putOver_1 : decode b_Co_putOver 1 = .ok (.getfield 21, 3) := by decide +kernel
theorem d_Co_putOver_4 : decode b_Co_putOver 4 = .ok (.iload_n 2, 1) := by decide +kernel
theorem d_Co_putOver_5 : decode b_Co_putOver 5 = .ok (.iaload, 1) := by decide +kernel
theorem d_Co_putOver_6 : decode b_Co_putOver 6 = .ok (.iconst 1, 1) := by decide +kernel
theorem d_Co_putOver_7 : decode b_Co_putOver 7 = .ok (.iload_n 2, 1) := by decide +kernel
theorem d_Co_putOver_8 : decode b_Co_putOver 8 = .ok (.ishl, 1) := by decide +kernel
theorem d_Co_putOver_9 : decode b_Co_putOver 9 = .ok (.ior, 1) := by decide +kernel
theorem d_Co_putOver_10 : decode b_Co_putOver 10 = .ok (.istore_n 3, 1) := by decide +kernel
theorem d_Co_putOver_11 : decode b_Co_putOver 11 = .ok (.iconst 0, 1) := by decide +kernel
theorem d_Co_putOver_12 : decode b_Co_putOver 12 = .ok (.istore 4, 2) := by decide +kernel
theorem d_Co_putOver_14 : decode b_Co_putOver 14 = .ok (.iload 4, 2) := by decide +kernel
theorem d_Co_putOver_16 : decode b_Co_putOver 16 = .ok (.aload_n 0, 1) := by decide +kernel
theorem d_Co_putOver_17 : decode b_Co_putOver 17 = .ok (.invokevirtual 32, 3) := by decide +kernel
theorem d_Co_putOver_20 : decode b_Co_putOver 20 = .ok (.if_icmp .ge 36, 3) := by decide +kernel
theorem d_Co_putOver_23 : decode b_Co_putOver 23 = .ok (.iload 4, 2) := by decide +kernel
theorem d_Co_putOver_25 : decode b_Co_putOver 25 = .ok (.iload_n 1, 1) := by decide +kernel
theorem d_Co_putOver_26 : decode b_Co_putOver 26 = .ok (.if_icmp .eq 13, 3) := by decide +kernel
theorem d_Co_putOver_29 : decode b_Co_putOver 29 = .ok (.aload_n 0, 1) := by decide +kernel
theorem d_Co_putOver_30 : decode b_Co_putOver 30 = .ok (.iload 4, 2) := by decide +kernel
theorem d_Co_putOver_32 : decode b_Co_putOver 32 = .ok (.iload_n 1, 1) := by decide +kernel
theorem d_Co_putOver_33 : decode b_Co_putOver 33 = .ok (.invokevirtual 35, 3) := by decide +kernel
theorem d_Co_putOver_36 : decode b_Co_putOver 36 = .ok (.ifCond .eq 14, 3) := by decide +kernel
theorem d_Co_putOver_39 : decode b_Co_putOver 39 = .ok (.aload_n 0, 1) := by decide +kernel
theorem d_Co_putOver_40 : decode b_Co_putOver 40 = .ok (.getfield 21, 3) := by decide +kernel
theorem d_Co_putOver_43 : decode b_Co_putOver 43 = .ok (.iload 4, 2) := by decide +kernel
theorem d_Co_putOver_45 : decode b_Co_putOver 45 = .ok (.dup2, 1) := by decide +kernel
theorem d_Co_putOver_46 : decode b_Co_putOver 46 = .ok (.iaload, 1) := by decide +kernel
theorem d_Co_putOver_47 : decode b_Co_putOver 47 = .ok (.iload_n 3, 1) := by decide +kernel
theorem d_Co_putOver_48 : decode b_Co_putOver 48 = .ok (.ior, 1) := by decide +kernel
theorem d_Co_putOver_49 : decode b_Co_putOver 49 = .ok (.iastore, 1) := by decide +kernel
theorem d_Co_putOver_50 : decode b_Co_putOver 50 = .ok (.iinc 4 1, 3) := by decide +kernel
theorem d_Co_putOver_53 : decode b_Co_putOver 53 = .ok (.goto (-39), 3) := by decide +kernel
theorem d_Co_putOver_56 : decode b_Co_putOver 56 = .ok (.return_, 1) := by decide +kernel
theorem d_Co_setSpan_0 : decode b_Co_setSpan 0 = .ok (.aload_n 0, 1) := by decide +kernel
theorem d_Co_setSpan_1 : decode b_Co_setSpan 1 = .ok (.getfield 15, 3) := by decide +kernel
theorem d_Co_setSpan_4 : decode b_Co_setSpan 4 = .ok (.iload_n 1, 1) := by decide +kernel
theorem d_Co_setSpan_5 : decode b_Co_setSpan 5 = .ok (.iload_n 2, 1) := by decide +kernel
theorem d_Co_setSpan_6 : decode b_Co_setSpan 6 = .ok (.iastore, 1) := by decide +kernel
theorem d_Co_setSpan_7 : decode b_Co_setSpan 7 = .ok (.aload_n 0, 1) := by decide +kernel
theorem d_Co_setSpan_8 : decode b_Co_setSpan 8 = .ok (.getfield 18, 3) := by decide +kernel
theorem d_Co_setSpan_11 : decode b_Co_setSpan 11 = .ok (.iload_n 1, 1) := by decide +kernel
theorem d_Co_setSpan_12 : decode b_Co_setSpan 12 = .ok (.iload_n 3, 1) := by decide +kernel
theorem d_Co_setSpan_13 : decode b_Co_setSpan 13 = .ok (.iastore, 1) := by decide +kernel
theorem d_Co_setSpan_14 : decode b_Co_setSpan 14 = .ok (.return_, 1) := by decide +kernel
theorem d_Co_earliest_0 : decode b_Co_earliest 0 = .ok (.aload_n 0, 1) := by decide +kernel
theorem d_Co_earliest_1 : decode b_Co_earliest 1 = .ok (.getfield 15, 3) := by decide +kernel
theorem d_Co_earliest_4 : decode b_Co_earliest 4 = .ok (.iload_n 1, 1) := by decide +kernel
theorem d_Co_earliest_5 : decode b_Co_earliest 5 = .ok (.iaload, 1) := by decide +kernel
theorem d_Co_earliest_6 : decode b_Co_earliest 6 = .ok (.aload_n 0, 1) := by decide +kernel
theorem d_Co_earliest_7 : decode b_Co_earliest 7 = .ok (.iload_n 1, 1) := by decide +kernel
theorem d_Co_earliest_8 : decode b_Co_earliest 8 = .ok (.invokevirtual 39, 3) := by decide +kernel
theorem d_Co_earliest_11 : decode b_Co_earliest 11 = .ok (.invokestatic 42, 3) := by decide +kernel
theorem d_Co_earliest_14 : decode b_Co_earliest 14 = .ok (.ireturn, 1) := by decide +kernel
theorem d_Co_latest_0 : decode b_Co_latest 0 = .ok (.aload_n 0, 1) := by decide +kernel
theorem d_Co_latest_1 : decode b_Co_latest 1 = .ok (.getfield 18, 3) := by decide +kernel
theorem d_Co_latest_4 : decode b_Co_latest 4 = .ok (.iload_n 1, 1) := by decide +kernel
theorem d_Co_latest_5 : decode b_Co_latest 5 = .ok (.iaload, 1) := by decide +kernel
theorem d_Co_latest_6 : decode b_Co_latest 6 = .ok (.aload_n 0, 1) := by decide +kernel
theorem d_Co_latest_7 : decode b_Co_latest 7 = .ok (.iload_n 1, 1) := by decide +kernel
theorem d_Co_latest_8 : decode b_Co_latest 8 = .ok (.invokevirtual 48, 3) := by decide +kernel
theorem d_Co_latest_11 : decode b_Co_latest 11 = .ok (.invokestatic 51, 3) := by decide +kernel
theorem d_Co_latest_14 : decode b_Co_latest 14 = .ok (.ireturn, 1) := by decide +kernel
theorem d_Co_yearsLetOver_0 : decode b_Co_yearsLetOver 0 = .ok (.aload_n 0, 1) := by decide +kernel
theorem d_Co_yearsLetOver_1 : decode b_Co_yearsLetOver 1 = .ok (.iload_n 2, 1) := by decide +kernel
theorem d_Co_yearsLetOver_2 : decode b_Co_yearsLetOver 2 = .ok (.invokevirtual 54, 3) := by decide +kernel
theorem d_Co_yearsLetOver_5 : decode b_Co_yearsLetOver 5 = .ok (.aload_n 0, 1) := by decide +kernel
theorem d_Co_yearsLetOver_6 : decode b_Co_yearsLetOver 6 = .ok (.iload_n 1, 1) := by decide +kernel
theorem d_Co_yearsLetOver_7 : decode b_Co_yearsLetOver 7 = .ok (.invokevirtual 57, 3) := by decide +kernel
theorem d_Co_yearsLetOver_10 : decode b_Co_yearsLetOver 10 = .ok (.if_icmp .gt 7, 3) := by decide +kernel
theorem d_Co_yearsLetOver_13 : decode b_Co_yearsLetOver 13 = .ok (.iconst 1, 1) := by decide +kernel
theorem d_Co_yearsLetOver_14 : decode b_Co_yearsLetOver 14 = .ok (.goto 4, 3) := by decide +kernel
theorem d_Co_yearsLetOver_17 : decode b_Co_yearsLetOver 17 = .ok (.iconst 0, 1) := by decide +kernel
theorem d_Co_yearsLetOver_18 : decode b_Co_yearsLetOver 18 = .ok (.ireturn, 1) := by decide +kernel
theorem d_Co_yearsLetSpan_0 : decode b_Co_yearsLetSpan 0 = .ok (.aload_n 0, 1) := by decide +kernel
theorem d_Co_yearsLetSpan_1 : decode b_Co_yearsLetSpan 1 = .ok (.iload_n 1, 1) := by decide +kernel
theorem d_Co_yearsLetSpan_2 : decode b_Co_yearsLetSpan 2 = .ok (.invokevirtual 39, 3) := by decide +kernel
theorem d_Co_yearsLetSpan_5 : decode b_Co_yearsLetSpan 5 = .ok (.iload_n 3, 1) := by decide +kernel
theorem d_Co_yearsLetSpan_6 : decode b_Co_yearsLetSpan 6 = .ok (.if_icmp .gt 16, 3) := by decide +kernel
theorem d_Co_yearsLetSpan_9 : decode b_Co_yearsLetSpan 9 = .ok (.iload_n 2, 1) := by decide +kernel
theorem d_Co_yearsLetSpan_10 : decode b_Co_yearsLetSpan 10 = .ok (.aload_n 0, 1) := by decide +kernel
theorem d_Co_yearsLetSpan_11 : decode b_Co_yearsLetSpan 11 = .ok (.iload_n 1, 1) := by decide +kernel
theorem d_Co_yearsLetSpan_12 : decode b_Co_yearsLetSpan 12 = .ok (.invokevirtual 48, 3) := by decide +kernel
theorem d_Co_yearsLetSpan_15 : decode b_Co_yearsLetSpan 15 = .ok (.if_icmp .gt 7, 3) := by decide +kernel
theorem d_Co_yearsLetSpan_18 : decode b_Co_yearsLetSpan 18 = .ok (.iconst 1, 1) := by decide +kernel
theorem d_Co_yearsLetSpan_19 : decode b_Co_yearsLetSpan 19 = .ok (.goto 4, 3) := by decide +kernel
theorem d_Co_yearsLetSpan_22 : decode b_Co_yearsLetSpan 22 = .ok (.iconst 0, 1) := by decide +kernel
theorem d_Co_yearsLetSpan_23 : decode b_Co_yearsLetSpan 23 = .ok (.ireturn, 1) := by decide +kernel
theorem d_Co_greatestFirstBelow_0 : decode b_Co_greatestFirstBelow 0 = .ok (.iconst 0, 1) := by decide +kernel
theorem d_Co_greatestFirstBelow_1 : decode b_Co_greatestFirstBelow 1 = .ok (.istore_n 2, 1) := by decide +kernel
theorem d_Co_greatestFirstBelow_2 : decode b_Co_greatestFirstBelow 2 = .ok (.iconst 0, 1) := by decide +kernel
theorem d_Co_greatestFirstBelow_3 : decode b_Co_greatestFirstBelow 3 = .ok (.istore_n 3, 1) := by decide +kernel
theorem d_Co_greatestFirstBelow_4 : decode b_Co_greatestFirstBelow 4 = .ok (.iload_n 3, 1) := by decide +kernel
theorem d_Co_greatestFirstBelow_5 : decode b_Co_greatestFirstBelow 5 = .ok (.aload_n 0, 1) := by decide +kernel
theorem d_Co_greatestFirstBelow_6 : decode b_Co_greatestFirstBelow 6 = .ok (.invokevirtual 32, 3) := by decide +kernel
theorem d_Co_greatestFirstBelow_9 : decode b_Co_greatestFirstBelow 9 = .ok (.if_icmp .ge 29, 3) := by decide +kernel
theorem d_Co_greatestFirstBelow_12 : decode b_Co_greatestFirstBelow 12 = .ok (.aload_n 0, 1) := by decide +kernel
theorem d_Co_greatestFirstBelow_13 : decode b_Co_greatestFirstBelow 13 = .ok (.iload_n 1, 1) := by decide +kernel
theorem d_Co_greatestFirstBelow_14 : decode b_Co_greatestFirstBelow 14 = .ok (.iload_n 3, 1) := by decide +kernel
theorem d_Co_greatestFirstBelow_15 : decode b_Co_greatestFirstBelow 15 = .ok (.invokevirtual 35, 3) := by decide +kernel
theorem d_Co_greatestFirstBelow_18 : decode b_Co_greatestFirstBelow 18 = .ok (.ifCond .eq 14, 3) := by decide +kernel
theorem d_Co_greatestFirstBelow_21 : decode b_Co_greatestFirstBelow 21 = .ok (.iload_n 2, 1) := by decide +kernel
theorem d_Co_greatestFirstBelow_22 : decode b_Co_greatestFirstBelow 22 = .ok (.aload_n 0, 1) := by decide +kernel
theorem d_Co_greatestFirstBelow_23 : decode b_Co_greatestFirstBelow 23 = .ok (.getfield 15, 3) := by decide +kernel
theorem d_Co_greatestFirstBelow_26 : decode b_Co_greatestFirstBelow 26 = .ok (.iload_n 3, 1) := by decide +kernel
theorem d_Co_greatestFirstBelow_27 : decode b_Co_greatestFirstBelow 27 = .ok (.iaload, 1) := by decide +kernel
theorem d_Co_greatestFirstBelow_28 : decode b_Co_greatestFirstBelow 28 = .ok (.invokestatic 42, 3) := by decide +kernel
theorem d_Co_greatestFirstBelow_31 : decode b_Co_greatestFirstBelow 31 = .ok (.istore_n 2, 1) := by decide +kernel
theorem d_Co_greatestFirstBelow_32 : decode b_Co_greatestFirstBelow 32 = .ok (.iinc 3 1, 3) := by decide +kernel
theorem d_Co_greatestFirstBelow_35 : decode b_Co_greatestFirstBelow 35 = .ok (.goto (-31), 3) := by decide +kernel
theorem d_Co_greatestFirstBelow_38 : decode b_Co_greatestFirstBelow 38 = .ok (.iload_n 2, 1) := by decide +kernel
theorem d_Co_greatestFirstBelow_39 : decode b_Co_greatestFirstBelow 39 = .ok (.ireturn, 1) := by decide +kernel
theorem d_Co_leastLastAbove_0 : decode b_Co_leastLastAbove 0 = .ok (.sipush 999, 3) := by decide +kernel
theorem d_Co_leastLastAbove_3 : decode b_Co_leastLastAbove 3 = .ok (.istore_n 2, 1) := by decide +kernel
theorem d_Co_leastLastAbove_4 : decode b_Co_leastLastAbove 4 = .ok (.iconst 0, 1) := by decide +kernel
theorem d_Co_leastLastAbove_5 : decode b_Co_leastLastAbove 5 = .ok (.istore_n 3, 1) := by decide +kernel
theorem d_Co_leastLastAbove_6 : decode b_Co_leastLastAbove 6 = .ok (.iload_n 3, 1) := by decide +kernel
theorem d_Co_leastLastAbove_7 : decode b_Co_leastLastAbove 7 = .ok (.aload_n 0, 1) := by decide +kernel
theorem d_Co_leastLastAbove_8 : decode b_Co_leastLastAbove 8 = .ok (.invokevirtual 32, 3) := by decide +kernel
theorem d_Co_leastLastAbove_11 : decode b_Co_leastLastAbove 11 = .ok (.if_icmp .ge 29, 3) := by decide +kernel
theorem d_Co_leastLastAbove_14 : decode b_Co_leastLastAbove 14 = .ok (.aload_n 0, 1) := by decide +kernel
theorem d_Co_leastLastAbove_15 : decode b_Co_leastLastAbove 15 = .ok (.iload_n 3, 1) := by decide +kernel
theorem d_Co_leastLastAbove_16 : decode b_Co_leastLastAbove 16 = .ok (.iload_n 1, 1) := by decide +kernel
theorem d_Co_leastLastAbove_17 : decode b_Co_leastLastAbove 17 = .ok (.invokevirtual 35, 3) := by decide +kernel
theorem d_Co_leastLastAbove_20 : decode b_Co_leastLastAbove 20 = .ok (.ifCond .eq 14, 3) := by decide +kernel
theorem d_Co_leastLastAbove_23 : decode b_Co_leastLastAbove 23 = .ok (.iload_n 2, 1) := by decide +kernel
theorem d_Co_leastLastAbove_24 : decode b_Co_leastLastAbove 24 = .ok (.aload_n 0, 1) := by decide +kernel
theorem d_Co_leastLastAbove_25 : decode b_Co_leastLastAbove 25 = .ok (.getfield 18, 3) := by decide +kernel
theorem d_Co_leastLastAbove_28 : decode b_Co_leastLastAbove 28 = .ok (.iload_n 3, 1) := by decide +kernel
theorem d_Co_leastLastAbove_29 : decode b_Co_leastLastAbove 29 = .ok (.iaload, 1) := by decide +kernel
theorem d_Co_leastLastAbove_30 : decode b_Co_leastLastAbove 30 = .ok (.invokestatic 51, 3) := by decide +kernel
theorem d_Co_leastLastAbove_33 : decode b_Co_leastLastAbove 33 = .ok (.istore_n 2, 1) := by decide +kernel
theorem d_Co_leastLastAbove_34 : decode b_Co_leastLastAbove 34 = .ok (.iinc 3 1, 3) := by decide +kernel
theorem d_Co_leastLastAbove_37 : decode b_Co_leastLastAbove 37 = .ok (.goto (-31), 3) := by decide +kernel
theorem d_Co_leastLastAbove_40 : decode b_Co_leastLastAbove 40 = .ok (.iload_n 2, 1) := by decide +kernel
theorem d_Co_leastLastAbove_41 : decode b_Co_leastLastAbove 41 = .ok (.ireturn, 1) := by decide +kernel
theorem d_De_init_0 : decode b_De_init 0 = .ok (.aload_n 0, 1) := by decide +kernel
theorem d_De_init_1 : decode b_De_init 1 = .ok (.iconst 1, 1) := by decide +kernel
theorem d_De_init_2 : decode b_De_init 2 = .ok (.bipush 6, 2) := by decide +kernel
theorem d_De_init_4 : decode b_De_init 4 = .ok (.invokespecial 3, 3) := by decide +kernel
theorem d_De_init_7 : decode b_De_init 7 = .ok (.aload_n 0, 1) := by decide +kernel
theorem d_De_init_8 : decode b_De_init 8 = .ok (.bipush 6, 2) := by decide +kernel
theorem d_De_init_10 : decode b_De_init 10 = .ok (.newarray .int, 2) := by decide +kernel
theorem d_De_init_12 : decode b_De_init 12 = .ok (.putfield 9, 3) := by decide +kernel
theorem d_De_init_15 : decode b_De_init 15 = .ok (.aload_n 0, 1) := by decide +kernel
theorem d_De_init_16 : decode b_De_init 16 = .ok (.getfield 9, 3) := by decide +kernel
theorem d_De_init_19 : decode b_De_init 19 = .ok (.aload_n 0, 1) := by decide +kernel
theorem d_De_init_20 : decode b_De_init 20 = .ok (.invokevirtual 15, 3) := by decide +kernel
theorem d_De_init_23 : decode b_De_init 23 = .ok (.bipush 63, 2) := by decide +kernel
theorem d_De_init_25 : decode b_De_init 25 = .ok (.iastore, 1) := by decide +kernel
theorem d_De_init_26 : decode b_De_init 26 = .ok (.return_, 1) := by decide +kernel
theorem d_De_open_0 : decode b_De_open 0 = .ok (.aload_n 0, 1) := by decide +kernel
theorem d_De_open_1 : decode b_De_open 1 = .ok (.invokevirtual 15, 3) := by decide +kernel
theorem d_De_open_4 : decode b_De_open 4 = .ok (.istore_n 2, 1) := by decide +kernel
theorem d_De_open_5 : decode b_De_open 5 = .ok (.aload_n 0, 1) := by decide +kernel
theorem d_De_open_6 : decode b_De_open 6 = .ok (.getfield 9, 3) := by decide +kernel
theorem d_De_open_9 : decode b_De_open 9 = .ok (.iload_n 2, 1) := by decide +kernel
theorem d_De_open_10 : decode b_De_open 10 = .ok (.iload_n 1, 1) := by decide +kernel
theorem d_De_open_11 : decode b_De_open 11 = .ok (.iastore, 1) := by decide +kernel
theorem d_De_open_12 : decode b_De_open 12 = .ok (.aload_n 0, 1) := by decide +kernel
theorem d_De_open_13 : decode b_De_open 13 = .ok (.iload_n 2, 1) := by decide +kernel
theorem d_De_open_14 : decode b_De_open 14 = .ok (.invokevirtual 19, 3) := by decide +kernel
theorem d_De_open_17 : decode b_De_open 17 = .ok (.ireturn, 1) := by decide +kernel
theorem d_De_hasAll_0 : decode b_De_hasAll 0 = .ok (.aload_n 0, 1) := by decide +kernel
theorem d_De_hasAll_1 : decode b_De_hasAll 1 = .ok (.getfield 9, 3) := by decide +kernel
theorem d_De_hasAll_4 : decode b_De_hasAll 4 = .ok (.iload_n 1, 1) := by decide +kernel
theorem d_De_hasAll_5 : decode b_De_hasAll 5 = .ok (.iaload, 1) := by decide +kernel
theorem d_De_hasAll_6 : decode b_De_hasAll 6 = .ok (.iload_n 2, 1) := by decide +kernel
theorem d_De_hasAll_7 : decode b_De_hasAll 7 = .ok (.iand, 1) := by decide +kernel
theorem d_De_hasAll_8 : decode b_De_hasAll 8 = .ok (.iload_n 2, 1) := by decide +kernel
theorem d_De_hasAll_9 : decode b_De_hasAll 9 = .ok (.if_icmp .ne 7, 3) := by decide +kernel
theorem d_De_hasAll_12 : decode b_De_hasAll 12 = .ok (.iconst 1, 1) := by decide +kernel
theorem d_De_hasAll_13 : decode b_De_hasAll 13 = .ok (.goto 4, 3) := by decide +kernel
theorem d_De_hasAll_16 : decode b_De_hasAll 16 = .ok (.iconst 0, 1) := by decide +kernel
theorem d_De_hasAll_17 : decode b_De_hasAll 17 = .ok (.ireturn, 1) := by decide +kernel
theorem d_Fi_init_0 : decode b_Fi_init 0 = .ok (.aload_n 0, 1) := by decide +kernel
theorem d_Fi_init_1 : decode b_Fi_init 1 = .ok (.iconst 4, 1) := by decide +kernel
theorem d_Fi_init_2 : decode b_Fi_init 2 = .ok (.bipush 30, 2) := by decide +kernel
theorem d_Fi_init_4 : decode b_Fi_init 4 = .ok (.invokespecial 3, 3) := by decide +kernel
theorem d_Fi_init_7 : decode b_Fi_init 7 = .ok (.aload_n 0, 1) := by decide +kernel
theorem d_Fi_init_8 : decode b_Fi_init 8 = .ok (.bipush 30, 2) := by decide +kernel
theorem d_Fi_init_10 : decode b_Fi_init 10 = .ok (.newarray .int, 2) := by decide +kernel
theorem d_Fi_init_12 : decode b_Fi_init 12 = .ok (.putfield 9, 3) := by decide +kernel
theorem d_Fi_init_15 : decode b_Fi_init 15 = .ok (.aload_n 0, 1) := by decide +kernel
theorem d_Fi_init_16 : decode b_Fi_init 16 = .ok (.bipush 30, 2) := by decide +kernel
theorem d_Fi_init_18 : decode b_Fi_init 18 = .ok (.newarray .int, 2) := by decide +kernel
theorem d_Fi_init_20 : decode b_Fi_init 20 = .ok (.putfield 15, 3) := by decide +kernel
theorem d_Fi_init_23 : decode b_Fi_init 23 = .ok (.return_, 1) := by decide +kernel
theorem d_Fi_bringUp_0 : decode b_Fi_bringUp 0 = .ok (.aload_n 0, 1) := by decide +kernel
theorem d_Fi_bringUp_1 : decode b_Fi_bringUp 1 = .ok (.invokevirtual 18, 3) := by decide +kernel
theorem d_Fi_bringUp_4 : decode b_Fi_bringUp 4 = .ok (.istore_n 3, 1) := by decide +kernel
theorem d_Fi_bringUp_5 : decode b_Fi_bringUp 5 = .ok (.aload_n 0, 1) := by decide +kernel
theorem d_Fi_bringUp_6 : decode b_Fi_bringUp 6 = .ok (.getfield 9, 3) := by decide +kernel
theorem d_Fi_bringUp_9 : decode b_Fi_bringUp 9 = .ok (.iload_n 3, 1) := by decide +kernel
theorem d_Fi_bringUp_10 : decode b_Fi_bringUp 10 = .ok (.iload_n 1, 1) := by decide +kernel
theorem d_Fi_bringUp_11 : decode b_Fi_bringUp 11 = .ok (.iastore, 1) := by decide +kernel
theorem d_Fi_bringUp_12 : decode b_Fi_bringUp 12 = .ok (.aload_n 0, 1) := by decide +kernel
theorem d_Fi_bringUp_13 : decode b_Fi_bringUp 13 = .ok (.getfield 15, 3) := by decide +kernel
theorem d_Fi_bringUp_16 : decode b_Fi_bringUp 16 = .ok (.iload_n 3, 1) := by decide +kernel
theorem d_Fi_bringUp_17 : decode b_Fi_bringUp 17 = .ok (.iload_n 2, 1) := by decide +kernel
theorem d_Fi_bringUp_18 : decode b_Fi_bringUp 18 = .ok (.iastore, 1) := by decide +kernel
theorem d_Fi_bringUp_19 : decode b_Fi_bringUp 19 = .ok (.aload_n 0, 1) := by decide +kernel
theorem d_Fi_bringUp_20 : decode b_Fi_bringUp 20 = .ok (.iload_n 3, 1) := by decide +kernel
theorem d_Fi_bringUp_21 : decode b_Fi_bringUp 21 = .ok (.invokevirtual 22, 3) := by decide +kernel
theorem d_Fi_bringUp_24 : decode b_Fi_bringUp 24 = .ok (.ireturn, 1) := by decide +kernel
theorem d_Fi_contextOf_0 : decode b_Fi_contextOf 0 = .ok (.aload_n 0, 1) := by decide +kernel
theorem d_Fi_contextOf_1 : decode b_Fi_contextOf 1 = .ok (.getfield 9, 3) := by decide +kernel
theorem d_Fi_contextOf_4 : decode b_Fi_contextOf 4 = .ok (.iload_n 1, 1) := by decide +kernel
theorem d_Fi_contextOf_5 : decode b_Fi_contextOf 5 = .ok (.iaload, 1) := by decide +kernel
theorem d_Fi_contextOf_6 : decode b_Fi_contextOf 6 = .ok (.ireturn, 1) := by decide +kernel
theorem d_Fi_dayOf_0 : decode b_Fi_dayOf 0 = .ok (.aload_n 0, 1) := by decide +kernel
theorem d_Fi_dayOf_1 : decode b_Fi_dayOf 1 = .ok (.getfield 15, 3) := by decide +kernel
theorem d_Fi_dayOf_4 : decode b_Fi_dayOf 4 = .ok (.iload_n 1, 1) := by decide +kernel
theorem d_Fi_dayOf_5 : decode b_Fi_dayOf 5 = .ok (.iaload, 1) := by decide +kernel
theorem d_Fi_dayOf_6 : decode b_Fi_dayOf 6 = .ok (.ireturn, 1) := by decide +kernel
theorem d_It_init_0 : decode b_It_init 0 = .ok (.aload_n 0, 1) := by decide +kernel
theorem d_It_init_1 : decode b_It_init 1 = .ok (.iconst 5, 1) := by decide +kernel
theorem d_It_init_2 : decode b_It_init 2 = .ok (.bipush 30, 2) := by decide +kernel
theorem d_It_init_4 : decode b_It_init 4 = .ok (.invokespecial 3, 3) := by decide +kernel
theorem d_It_init_7 : decode b_It_init 7 = .ok (.aload_n 0, 1) := by decide +kernel
theorem d_It_init_8 : decode b_It_init 8 = .ok (.bipush 30, 2) := by decide +kernel
theorem d_It_init_10 : decode b_It_init 10 = .ok (.newarray .int, 2) := by decide +kernel
theorem d_It_init_12 : decode b_It_init 12 = .ok (.putfield 9, 3) := by decide +kernel
theorem d_It_init_15 : decode b_It_init 15 = .ok (.aload_n 0, 1) := by decide +kernel
theorem d_It_init_16 : decode b_It_init 16 = .ok (.bipush 30, 2) := by decide +kernel
theorem d_It_init_18 : decode b_It_init 18 = .ok (.newarray .int, 2) := by decide +kernel
theorem d_It_init_20 : decode b_It_init 20 = .ok (.putfield 15, 3) := by decide +kernel
theorem d_It_init_23 : decode b_It_init 23 = .ok (.return_, 1) := by decide +kernel
theorem d_It_accept_0 : decode b_It_accept 0 = .ok (.aload_n 0, 1) := by decide +kernel
theorem d_It_accept_1 : decode b_It_accept 1 = .ok (.invokevirtual 18, 3) := by decide +kernel
theorem d_It_accept_4 : decode b_It_accept 4 = .ok (.istore_n 3, 1) := by decide +kernel
theorem d_It_accept_5 : decode b_It_accept 5 = .ok (.aload_n 0, 1) := by decide +kernel
theorem d_It_accept_6 : decode b_It_accept 6 = .ok (.getfield 9, 3) := by decide +kernel
theorem d_It_accept_9 : decode b_It_accept 9 = .ok (.iload_n 3, 1) := by decide +kernel
theorem d_It_accept_10 : decode b_It_accept 10 = .ok (.iload_n 1, 1) := by decide +kernel
theorem d_It_accept_11 : decode b_It_accept 11 = .ok (.iastore, 1) := by decide +kernel
theorem d_It_accept_12 : decode b_It_accept 12 = .ok (.aload_n 0, 1) := by decide +kernel
theorem d_It_accept_13 : decode b_It_accept 13 = .ok (.getfield 15, 3) := by decide +kernel
theorem d_It_accept_16 : decode b_It_accept 16 = .ok (.iload_n 3, 1) := by decide +kernel
theorem d_It_accept_17 : decode b_It_accept 17 = .ok (.iload_n 2, 1) := by decide +kernel
theorem d_It_accept_18 : decode b_It_accept 18 = .ok (.iastore, 1) := by decide +kernel
theorem d_It_accept_19 : decode b_It_accept 19 = .ok (.aload_n 0, 1) := by decide +kernel
theorem d_It_accept_20 : decode b_It_accept 20 = .ok (.iload_n 3, 1) := by decide +kernel
theorem d_It_accept_21 : decode b_It_accept 21 = .ok (.invokevirtual 22, 3) := by decide +kernel
theorem d_It_accept_24 : decode b_It_accept 24 = .ok (.ireturn, 1) := by decide +kernel
theorem d_It_hasFind_0 : decode b_It_hasFind 0 = .ok (.iconst 0, 1) := by decide +kernel
theorem d_It_hasFind_1 : decode b_It_hasFind 1 = .ok (.istore_n 2, 1) := by decide +kernel
theorem d_It_hasFind_2 : decode b_It_hasFind 2 = .ok (.iload_n 2, 1) := by decide +kernel
theorem d_It_hasFind_3 : decode b_It_hasFind 3 = .ok (.aload_n 0, 1) := by decide +kernel
theorem d_It_hasFind_4 : decode b_It_hasFind 4 = .ok (.invokevirtual 26, 3) := by decide +kernel
theorem d_It_hasFind_7 : decode b_It_hasFind 7 = .ok (.if_icmp .ge 21, 3) := by decide +kernel
theorem d_It_hasFind_10 : decode b_It_hasFind 10 = .ok (.aload_n 0, 1) := by decide +kernel
theorem d_It_hasFind_11 : decode b_It_hasFind 11 = .ok (.getfield 9, 3) := by decide +kernel
theorem d_It_hasFind_14 : decode b_It_hasFind 14 = .ok (.iload_n 2, 1) := by decide +kernel
theorem d_It_hasFind_15 : decode b_It_hasFind 15 = .ok (.iaload, 1) := by decide +kernel
theorem d_It_hasFind_16 : decode b_It_hasFind 16 = .ok (.iload_n 1, 1) := by decide +kernel
theorem d_It_hasFind_17 : decode b_It_hasFind 17 = .ok (.if_icmp .ne 5, 3) := by decide +kernel
theorem d_It_hasFind_20 : decode b_It_hasFind 20 = .ok (.iconst 1, 1) := by decide +kernel
theorem d_It_hasFind_21 : decode b_It_hasFind 21 = .ok (.ireturn, 1) := by decide +kernel
theorem d_It_hasFind_22 : decode b_It_hasFind 22 = .ok (.iinc 2 1, 3) := by decide +kernel
theorem d_It_hasFind_25 : decode b_It_hasFind 25 = .ok (.goto (-23), 3) := by decide +kernel
theorem d_It_hasFind_28 : decode b_It_hasFind 28 = .ok (.iconst 0, 1) := by decide +kernel
theorem d_It_hasFind_29 : decode b_It_hasFind 29 = .ok (.ireturn, 1) := by decide +kernel
theorem d_It_findOf_0 : decode b_It_findOf 0 = .ok (.aload_n 0, 1) := by decide +kernel
theorem d_It_findOf_1 : decode b_It_findOf 1 = .ok (.getfield 9, 3) := by decide +kernel
theorem d_It_findOf_4 : decode b_It_findOf 4 = .ok (.iload_n 1, 1) := by decide +kernel
theorem d_It_findOf_5 : decode b_It_findOf 5 = .ok (.iaload, 1) := by decide +kernel
theorem d_It_findOf_6 : decode b_It_findOf 6 = .ok (.ireturn, 1) := by decide +kernel
theorem d_It_dayOf_0 : decode b_It_dayOf 0 = .ok (.aload_n 0, 1) := by decide +kernel
theorem d_It_dayOf_1 : decode b_It_dayOf 1 = .ok (.getfield 15, 3) := by decide +kernel
theorem d_It_dayOf_4 : decode b_It_dayOf 4 = .ok (.iload_n 1, 1) := by decide +kernel
theorem d_It_dayOf_5 : decode b_It_dayOf 5 = .ok (.iaload, 1) := by decide +kernel
theorem d_It_dayOf_6 : decode b_It_dayOf 6 = .ok (.ireturn, 1) := by decide +kernel
theorem d_Lo_init_0 : decode b_Lo_init 0 = .ok (.aload_n 0, 1) := by decide +kernel
theorem d_Lo_init_1 : decode b_Lo_init 1 = .ok (.bipush 7, 2) := by decide +kernel
theorem d_Lo_init_3 : decode b_Lo_init 3 = .ok (.bipush 40, 2) := by decide +kernel
theorem d_Lo_init_5 : decode b_Lo_init 5 = .ok (.invokespecial 3, 3) := by decide +kernel
theorem d_Lo_init_8 : decode b_Lo_init 8 = .ok (.aload_n 0, 1) := by decide +kernel
theorem d_Lo_init_9 : decode b_Lo_init 9 = .ok (.bipush 40, 2) := by decide +kernel
theorem d_Lo_init_11 : decode b_Lo_init 11 = .ok (.newarray .int, 2) := by decide +kernel
theorem d_Lo_init_13 : decode b_Lo_init 13 = .ok (.putfield 9, 3) := by decide +kernel
theorem d_Lo_init_16 : decode b_Lo_init 16 = .ok (.aload_n 0, 1) := by decide +kernel
theorem d_Lo_init_17 : decode b_Lo_init 17 = .ok (.bipush 40, 2) := by decide +kernel
theorem d_Lo_init_19 : decode b_Lo_init 19 = .ok (.newarray .int, 2) := by decide +kernel
theorem d_Lo_init_21 : decode b_Lo_init 21 = .ok (.putfield 15, 3) := by decide +kernel
theorem d_Lo_init_24 : decode b_Lo_init 24 = .ok (.aload_n 0, 1) := by decide +kernel
theorem d_Lo_init_25 : decode b_Lo_init 25 = .ok (.bipush 40, 2) := by decide +kernel
theorem d_Lo_init_27 : decode b_Lo_init 27 = .ok (.newarray .int, 2) := by decide +kernel
theorem d_Lo_init_29 : decode b_Lo_init 29 = .ok (.putfield 18, 3) := by decide +kernel
theorem d_Lo_init_32 : decode b_Lo_init 32 = .ok (.return_, 1) := by decide +kernel
theorem d_Lo_lend_0 : decode b_Lo_lend 0 = .ok (.aload_n 0, 1) := by decide +kernel
theorem d_Lo_lend_1 : decode b_Lo_lend 1 = .ok (.invokevirtual 21, 3) := by decide +kernel
theorem d_Lo_lend_4 : decode b_Lo_lend 4 = .ok (.istore 4, 2) := by decide +kernel
theorem d_Lo_lend_6 : decode b_Lo_lend 6 = .ok (.aload_n 0, 1) := by decide +kernel
theorem d_Lo_lend_7 : decode b_Lo_lend 7 = .ok (.getfield 9, 3) := by decide +kernel
theorem d_Lo_lend_10 : decode b_Lo_lend 10 = .ok (.iload 4, 2) := by decide +kernel
theorem d_Lo_lend_12 : decode b_Lo_lend 12 = .ok (.iload_n 1, 1) := by decide +kernel
theorem d_Lo_lend_13 : decode b_Lo_lend 13 = .ok (.iastore, 1) := by decide +kernel
theorem d_Lo_lend_14 : decode b_Lo_lend 14 = .ok (.aload_n 0, 1) := by decide +kernel
theorem d_Lo_lend_15 : decode b_Lo_lend 15 = .ok (.getfield 15, 3) := by decide +kernel
theorem d_Lo_lend_18 : decode b_Lo_lend 18 = .ok (.iload 4, 2) := by decide +kernel
theorem d_Lo_lend_20 : decode b_Lo_lend 20 = .ok (.iload_n 2, 1) := by decide +kernel
theorem d_Lo_lend_21 : decode b_Lo_lend 21 = .ok (.iastore, 1) := by decide +kernel
theorem d_Lo_lend_22 : decode b_Lo_lend 22 = .ok (.aload_n 0, 1) := by decide +kernel
theorem d_Lo_lend_23 : decode b_Lo_lend 23 = .ok (.getfield 18, 3) := by decide +kernel
theorem d_Lo_lend_26 : decode b_Lo_lend 26 = .ok (.iload 4, 2) := by decide +kernel
theorem d_Lo_lend_28 : decode b_Lo_lend 28 = .ok (.iload_n 3, 1) := by decide +kernel
theorem d_Lo_lend_29 : decode b_Lo_lend 29 = .ok (.iastore, 1) := by decide +kernel
theorem d_Lo_lend_30 : decode b_Lo_lend 30 = .ok (.aload_n 0, 1) := by decide +kernel
theorem d_Lo_lend_31 : decode b_Lo_lend 31 = .ok (.iload 4, 2) := by decide +kernel
theorem d_Lo_lend_33 : decode b_Lo_lend 33 = .ok (.invokevirtual 25, 3) := by decide +kernel
theorem d_Lo_lend_36 : decode b_Lo_lend 36 = .ok (.ireturn, 1) := by decide +kernel
theorem d_Lo_hasDay_0 : decode b_Lo_hasDay 0 = .ok (.aload_n 0, 1) := by decide +kernel
theorem d_Lo_hasDay_1 : decode b_Lo_hasDay 1 = .ok (.getfield 15, 3) := by decide +kernel
theorem d_Lo_hasDay_4 : decode b_Lo_hasDay 4 = .ok (.iload_n 1, 1) := by decide +kernel
theorem d_Lo_hasDay_5 : decode b_Lo_hasDay 5 = .ok (.iaload, 1) := by decide +kernel
theorem d_Lo_hasDay_6 : decode b_Lo_hasDay 6 = .ok (.iload_n 2, 1) := by decide +kernel
theorem d_Lo_hasDay_7 : decode b_Lo_hasDay 7 = .ok (.if_icmp .gt 17, 3) := by decide +kernel
theorem d_Lo_hasDay_10 : decode b_Lo_hasDay 10 = .ok (.iload_n 2, 1) := by decide +kernel
theorem d_Lo_hasDay_11 : decode b_Lo_hasDay 11 = .ok (.aload_n 0, 1) := by decide +kernel
theorem d_Lo_hasDay_12 : decode b_Lo_hasDay 12 = .ok (.getfield 18, 3) := by decide +kernel
theorem d_Lo_hasDay_15 : decode b_Lo_hasDay 15 = .ok (.iload_n 1, 1) := by decide +kernel
theorem d_Lo_hasDay_16 : decode b_Lo_hasDay 16 = .ok (.iaload, 1) := by decide +kernel
theorem d_Lo_hasDay_17 : decode b_Lo_hasDay 17 = .ok (.if_icmp .gt 7, 3) := by decide +kernel
theorem d_Lo_hasDay_20 : decode b_Lo_hasDay 20 = .ok (.iconst 1, 1) := by decide +kernel
theorem d_Lo_hasDay_21 : decode b_Lo_hasDay 21 = .ok (.goto 4, 3) := by decide +kernel
theorem d_Lo_hasDay_24 : decode b_Lo_hasDay 24 = .ok (.iconst 0, 1) := by decide +kernel
theorem d_Lo_hasDay_25 : decode b_Lo_hasDay 25 = .ok (.ireturn, 1) := by decide +kernel
theorem d_Lo_lastDayOf_0 : decode b_Lo_lastDayOf 0 = .ok (.aload_n 0, 1) := by decide +kernel
theorem d_Lo_lastDayOf_1 : decode b_Lo_lastDayOf 1 = .ok (.getfield 18, 3) := by decide +kernel
theorem d_Lo_lastDayOf_4 : decode b_Lo_lastDayOf 4 = .ok (.iload_n 1, 1) := by decide +kernel
theorem d_Lo_lastDayOf_5 : decode b_Lo_lastDayOf 5 = .ok (.iaload, 1) := by decide +kernel
theorem d_Lo_lastDayOf_6 : decode b_Lo_lastDayOf 6 = .ok (.ireturn, 1) := by decide +kernel
theorem d_Lo_endOn_0 : decode b_Lo_endOn 0 = .ok (.aload_n 0, 1) := by decide +kernel
theorem d_Lo_endOn_1 : decode b_Lo_endOn 1 = .ok (.getfield 18, 3) := by decide +kernel
theorem d_Lo_endOn_4 : decode b_Lo_endOn 4 = .ok (.iload_n 1, 1) := by decide +kernel
theorem d_Lo_endOn_5 : decode b_Lo_endOn 5 = .ok (.iload_n 2, 1) := by decide +kernel
theorem d_Lo_endOn_6 : decode b_Lo_endOn 6 = .ok (.iastore, 1) := by decide +kernel
theorem d_Lo_endOn_7 : decode b_Lo_endOn 7 = .ok (.return_, 1) := by decide +kernel
theorem d_Lo_having_0 : decode b_Lo_having 0 = .ok (.iconst 0, 1) := by decide +kernel
theorem d_Lo_having_1 : decode b_Lo_having 1 = .ok (.istore 4, 2) := by decide +kernel
theorem d_Lo_having_3 : decode b_Lo_having 3 = .ok (.iload 4, 2) := by decide +kernel
theorem d_Lo_having_5 : decode b_Lo_having 5 = .ok (.aload_n 0, 1) := by decide +kernel
theorem d_Lo_having_6 : decode b_Lo_having 6 = .ok (.invokevirtual 29, 3) := by decide +kernel
theorem d_Lo_having_9 : decode b_Lo_having 9 = .ok (.if_icmp .ge 45, 3) := by decide +kernel
theorem d_Lo_having_12 : decode b_Lo_having 12 = .ok (.aload_n 0, 1) := by decide +kernel
theorem d_Lo_having_13 : decode b_Lo_having 13 = .ok (.getfield 9, 3) := by decide +kernel
theorem d_Lo_having_16 : decode b_Lo_having 16 = .ok (.iload 4, 2) := by decide +kernel
theorem d_Lo_having_18 : decode b_Lo_having 18 = .ok (.iaload, 1) := by decide +kernel
theorem d_Lo_having_19 : decode b_Lo_having 19 = .ok (.iload_n 1, 1) := by decide +kernel
theorem d_Lo_having_20 : decode b_Lo_having 20 = .ok (.if_icmp .ne 28, 3) := by decide +kernel
theorem d_Lo_having_23 : decode b_Lo_having 23 = .ok (.aload_n 0, 1) := by decide +kernel
theorem d_Lo_having_24 : decode b_Lo_having 24 = .ok (.getfield 15, 3) := by decide +kernel
theorem d_Lo_having_27 : decode b_Lo_having 27 = .ok (.iload 4, 2) := by decide +kernel
theorem d_Lo_having_29 : decode b_Lo_having 29 = .ok (.iaload, 1) := by decide +kernel
theorem d_Lo_having_30 : decode b_Lo_having 30 = .ok (.aload_n 0, 1) := by decide +kernel
theorem d_Lo_having_31 : decode b_Lo_having 31 = .ok (.getfield 18, 3) := by decide +kernel
theorem d_Lo_having_34 : decode b_Lo_having 34 = .ok (.iload 4, 2) := by decide +kernel
theorem d_Lo_having_36 : decode b_Lo_having 36 = .ok (.iaload, 1) := by decide +kernel
theorem d_Lo_having_37 : decode b_Lo_having 37 = .ok (.iload_n 2, 1) := by decide +kernel
theorem d_Lo_having_38 : decode b_Lo_having 38 = .ok (.iload_n 3, 1) := by decide +kernel
theorem d_Lo_having_39 : decode b_Lo_having 39 = .ok (.invokestatic 32, 3) := by decide +kernel
theorem d_Lo_having_42 : decode b_Lo_having 42 = .ok (.ifCond .eq 6, 3) := by decide +kernel
theorem d_Lo_having_45 : decode b_Lo_having 45 = .ok (.iload 4, 2) := by decide +kernel
theorem d_Lo_having_47 : decode b_Lo_having 47 = .ok (.ireturn, 1) := by decide +kernel
theorem d_Lo_having_48 : decode b_Lo_having 48 = .ok (.iinc 4 1, 3) := by decide +kernel
theorem d_Lo_having_51 : decode b_Lo_having 51 = .ok (.goto (-48), 3) := by decide +kernel
theorem d_Lo_having_54 : decode b_Lo_having 54 = .ok (.iconst (-1), 1) := by decide +kernel
theorem d_Lo_having_55 : decode b_Lo_having 55 = .ok (.ireturn, 1) := by decide +kernel
theorem d_Mo_init_0 : decode b_Mo_init 0 = .ok (.aload_n 0, 1) := by decide +kernel
theorem d_Mo_init_1 : decode b_Mo_init 1 = .ok (.invokespecial 3, 3) := by decide +kernel
theorem d_Mo_init_4 : decode b_Mo_init 4 = .ok (.aload_n 0, 1) := by decide +kernel
theorem d_Mo_init_5 : decode b_Mo_init 5 = .ok (.sipush 360, 3) := by decide +kernel
theorem d_Mo_init_8 : decode b_Mo_init 8 = .ok (.newarray .int, 2) := by decide +kernel
theorem d_Mo_init_10 : decode b_Mo_init 10 = .ok (.putfield 9, 3) := by decide +kernel
theorem d_Mo_init_13 : decode b_Mo_init 13 = .ok (.aload_n 0, 1) := by decide +kernel
theorem d_Mo_init_14 : decode b_Mo_init 14 = .ok (.sipush 360, 3) := by decide +kernel
theorem d_Mo_init_17 : decode b_Mo_init 17 = .ok (.newarray .int, 2) := by decide +kernel
theorem d_Mo_init_19 : decode b_Mo_init 19 = .ok (.putfield 15, 3) := by decide +kernel
theorem d_Mo_init_22 : decode b_Mo_init 22 = .ok (.aload_n 0, 1) := by decide +kernel
theorem d_Mo_init_23 : decode b_Mo_init 23 = .ok (.bipush 30, 2) := by decide +kernel
theorem d_Mo_init_25 : decode b_Mo_init 25 = .ok (.newarray .int, 2) := by decide +kernel
theorem d_Mo_init_27 : decode b_Mo_init 27 = .ok (.putfield 18, 3) := by decide +kernel
theorem d_Mo_init_30 : decode b_Mo_init 30 = .ok (.return_, 1) := by decide +kernel
theorem d_Mo_isFullFor_0 : decode b_Mo_isFullFor 0 = .ok (.aload_n 0, 1) := by decide +kernel
theorem d_Mo_isFullFor_1 : decode b_Mo_isFullFor 1 = .ok (.getfield 18, 3) := by decide +kernel
theorem d_Mo_isFullFor_4 : decode b_Mo_isFullFor 4 = .ok (.iload_n 1, 1) := by decide +kernel
theorem d_Mo_isFullFor_5 : decode b_Mo_isFullFor 5 = .ok (.iaload, 1) := by decide +kernel
theorem d_Mo_isFullFor_6 : decode b_Mo_isFullFor 6 = .ok (.bipush 12, 2) := by decide +kernel
theorem d_Mo_isFullFor_8 : decode b_Mo_isFullFor 8 = .ok (.if_icmp .lt 7, 3) := by decide +kernel
theorem d_Mo_isFullFor_11 : decode b_Mo_isFullFor 11 = .ok (.iconst 1, 1) := by decide +kernel
theorem d_Mo_isFullFor_12 : decode b_Mo_isFullFor 12 = .ok (.goto 4, 3) := by decide +kernel
theorem d_Mo_isFullFor_15 : decode b_Mo_isFullFor 15 = .ok (.iconst 0, 1) := by decide +kernel
theorem d_Mo_isFullFor_16 : decode b_Mo_isFullFor 16 = .ok (.ireturn, 1) := by decide +kernel
theorem d_Mo_hasDay_0 : decode b_Mo_hasDay 0 = .ok (.aload_n 0, 1) := by decide +kernel
theorem d_Mo_hasDay_1 : decode b_Mo_hasDay 1 = .ok (.iload_n 1, 1) := by decide +kernel
theorem d_Mo_hasDay_2 : decode b_Mo_hasDay 2 = .ok (.iload_n 2, 1) := by decide +kernel
theorem d_Mo_hasDay_3 : decode b_Mo_hasDay 3 = .ok (.invokevirtual 21, 3) := by decide +kernel
theorem d_Mo_hasDay_6 : decode b_Mo_hasDay 6 = .ok (.iconst (-1), 1) := by decide +kernel
theorem d_Mo_hasDay_7 : decode b_Mo_hasDay 7 = .ok (.if_icmp .eq 7, 3) := by decide +kernel
theorem d_Mo_hasDay_10 : decode b_Mo_hasDay 10 = .ok (.iconst 1, 1) := by decide +kernel
theorem d_Mo_hasDay_11 : decode b_Mo_hasDay 11 = .ok (.goto 4, 3) := by decide +kernel
theorem d_Mo_hasDay_14 : decode b_Mo_hasDay 14 = .ok (.iconst 0, 1) := by decide +kernel
theorem d_Mo_hasDay_15 : decode b_Mo_hasDay 15 = .ok (.ireturn, 1) := by decide +kernel
theorem d_Mo_tell_0 : decode b_Mo_tell 0 = .ok (.aload_n 0, 1) := by decide +kernel
theorem d_Mo_tell_1 : decode b_Mo_tell 1 = .ok (.iload_n 1, 1) := by decide +kernel
theorem d_Mo_tell_2 : decode b_Mo_tell 2 = .ok (.iload_n 3, 1) := by decide +kernel
theorem d_Mo_tell_3 : decode b_Mo_tell 3 = .ok (.invokevirtual 21, 3) := by decide +kernel
theorem d_Mo_tell_6 : decode b_Mo_tell 6 = .ok (.istore 4, 2) := by decide +kernel
theorem d_Mo_tell_8 : decode b_Mo_tell 8 = .ok (.iload 4, 2) := by decide +kernel
theorem d_Mo_tell_10 : decode b_Mo_tell 10 = .ok (.iconst (-1), 1) := by decide +kernel
theorem d_Mo_tell_11 : decode b_Mo_tell 11 = .ok (.if_icmp .ne 20, 3) := by decide +kernel
theorem d_Mo_tell_14 : decode b_Mo_tell 14 = .ok (.aload_n 0, 1) := by decide +kernel
theorem d_Mo_tell_15 : decode b_Mo_tell 15 = .ok (.iload_n 1, 1) := by decide +kernel
theorem d_Mo_tell_16 : decode b_Mo_tell 16 = .ok (.invokevirtual 25, 3) := by decide +kernel
theorem d_Mo_tell_19 : decode b_Mo_tell 19 = .ok (.istore 4, 2) := by decide +kernel
theorem d_Mo_tell_21 : decode b_Mo_tell 21 = .ok (.aload_n 0, 1) := by decide +kernel
theorem d_Mo_tell_22 : decode b_Mo_tell 22 = .ok (.getfield 18, 3) := by decide +kernel
theorem d_Mo_tell_25 : decode b_Mo_tell 25 = .ok (.iload_n 1, 1) := by decide +kernel
theorem d_Mo_tell_26 : decode b_Mo_tell 26 = .ok (.dup2, 1) := by decide +kernel
theorem d_Mo_tell_27 : decode b_Mo_tell 27 = .ok (.iaload, 1) := by decide +kernel
theorem d_Mo_tell_28 : decode b_Mo_tell 28 = .ok (.iconst 1, 1) := by decide +kernel
theorem d_Mo_tell_29 : decode b_Mo_tell 29 = .ok (.iadd, 1) := by decide +kernel
theorem d_Mo_tell_30 : decode b_Mo_tell 30 = .ok (.iastore, 1) := by decide +kernel
theorem d_Mo_tell_31 : decode b_Mo_tell 31 = .ok (.aload_n 0, 1) := by decide +kernel
theorem d_Mo_tell_32 : decode b_Mo_tell 32 = .ok (.getfield 9, 3) := by decide +kernel
theorem d_Mo_tell_35 : decode b_Mo_tell 35 = .ok (.iload 4, 2) := by decide +kernel
theorem d_Mo_tell_37 : decode b_Mo_tell 37 = .ok (.iload_n 3, 1) := by decide +kernel
theorem d_Mo_tell_38 : decode b_Mo_tell 38 = .ok (.iastore, 1) := by decide +kernel
theorem d_Mo_tell_39 : decode b_Mo_tell 39 = .ok (.aload_n 0, 1) := by decide +kernel
theorem d_Mo_tell_40 : decode b_Mo_tell 40 = .ok (.getfield 15, 3) := by decide +kernel
theorem d_Mo_tell_43 : decode b_Mo_tell 43 = .ok (.iload 4, 2) := by decide +kernel
theorem d_Mo_tell_45 : decode b_Mo_tell 45 = .ok (.iload_n 2, 1) := by decide +kernel
theorem d_Mo_tell_46 : decode b_Mo_tell 46 = .ok (.iastore, 1) := by decide +kernel
theorem d_Mo_tell_47 : decode b_Mo_tell 47 = .ok (.return_, 1) := by decide +kernel
theorem d_Mo_storeOn_0 : decode b_Mo_storeOn 0 = .ok (.iconst (-1), 1) := by decide +kernel
theorem d_Mo_storeOn_1 : decode b_Mo_storeOn 1 = .ok (.istore_n 3, 1) := by decide +kernel
theorem d_Mo_storeOn_2 : decode b_Mo_storeOn 2 = .ok (.iconst (-1), 1) := by decide +kernel
theorem d_Mo_storeOn_3 : decode b_Mo_storeOn 3 = .ok (.istore 4, 2) := by decide +kernel
theorem d_Mo_storeOn_5 : decode b_Mo_storeOn 5 = .ok (.aload_n 0, 1) := by decide +kernel
theorem d_Mo_storeOn_6 : decode b_Mo_storeOn 6 = .ok (.iload_n 1, 1) := by decide +kernel
theorem d_Mo_storeOn_7 : decode b_Mo_storeOn 7 = .ok (.invokevirtual 25, 3) := by decide +kernel
theorem d_Mo_storeOn_10 : decode b_Mo_storeOn 10 = .ok (.istore 5, 2) := by decide +kernel
theorem d_Mo_storeOn_12 : decode b_Mo_storeOn 12 = .ok (.aload_n 0, 1) := by decide +kernel
theorem d_Mo_storeOn_13 : decode b_Mo_storeOn 13 = .ok (.iload_n 1, 1) := by decide +kernel
theorem d_Mo_storeOn_14 : decode b_Mo_storeOn 14 = .ok (.invokevirtual 29, 3) := by decide +kernel
theorem d_Mo_storeOn_17 : decode b_Mo_storeOn 17 = .ok (.istore 6, 2) := by decide +kernel
theorem d_Mo_storeOn_19 : decode b_Mo_storeOn 19 = .ok (.iload 6, 2) := by decide +kernel
theorem d_Mo_storeOn_21 : decode b_Mo_storeOn 21 = .ok (.iload 5, 2) := by decide +kernel
theorem d_Mo_storeOn_23 : decode b_Mo_storeOn 23 = .ok (.if_icmp .ge 49, 3) := by decide +kernel
theorem d_Mo_storeOn_26 : decode b_Mo_storeOn 26 = .ok (.aload_n 0, 1) := by decide +kernel
theorem d_Mo_storeOn_27 : decode b_Mo_storeOn 27 = .ok (.getfield 9, 3) := by decide +kernel
theorem d_Mo_storeOn_30 : decode b_Mo_storeOn 30 = .ok (.iload 6, 2) := by decide +kernel
theorem d_Mo_storeOn_32 : decode b_Mo_storeOn 32 = .ok (.iaload, 1) := by decide +kernel
theorem d_Mo_storeOn_33 : decode b_Mo_storeOn 33 = .ok (.iload_n 2, 1) := by decide +kernel
theorem d_Mo_storeOn_34 : decode b_Mo_storeOn 34 = .ok (.if_icmp .gt 32, 3) := by decide +kernel
theorem d_Mo_storeOn_37 : decode b_Mo_storeOn 37 = .ok (.aload_n 0, 1) := by decide +kernel
theorem d_Mo_storeOn_38 : decode b_Mo_storeOn 38 = .ok (.getfield 9, 3) := by decide +kernel
theorem d_Mo_storeOn_41 : decode b_Mo_storeOn 41 = .ok (.iload 6, 2) := by decide +kernel
theorem d_Mo_storeOn_43 : decode b_Mo_storeOn 43 = .ok (.iaload, 1) := by decide +kernel
theorem d_Mo_storeOn_44 : decode b_Mo_storeOn 44 = .ok (.iload 4, 2) := by decide +kernel
theorem d_Mo_storeOn_46 : decode b_Mo_storeOn 46 = .ok (.if_icmp .le 20, 3) := by decide +kernel
theorem d_Mo_storeOn_49 : decode b_Mo_storeOn 49 = .ok (.aload_n 0, 1) := by decide +kernel
theorem d_Mo_storeOn_50 : decode b_Mo_storeOn 50 = .ok (.getfield 9, 3) := by decide +kernel
theorem d_Mo_storeOn_53 : decode b_Mo_storeOn 53 = .ok (.iload 6, 2) := by decide +kernel
theorem d_Mo_storeOn_55 : decode b_Mo_storeOn 55 = .ok (.iaload, 1) := by decide +kernel
theorem d_Mo_storeOn_56 : decode b_Mo_storeOn 56 = .ok (.istore 4, 2) := by decide +kernel
theorem d_Mo_storeOn_58 : decode b_Mo_storeOn 58 = .ok (.aload_n 0, 1) := by decide +kernel
theorem d_Mo_storeOn_59 : decode b_Mo_storeOn 59 = .ok (.getfield 15, 3) := by decide +kernel
theorem d_Mo_storeOn_62 : decode b_Mo_storeOn 62 = .ok (.iload 6, 2) := by decide +kernel
theorem d_Mo_storeOn_64 : decode b_Mo_storeOn 64 = .ok (.iaload, 1) := by decide +kernel
theorem d_Mo_storeOn_65 : decode b_Mo_storeOn 65 = .ok (.istore_n 3, 1) := by decide +kernel
theorem d_Mo_storeOn_66 : decode b_Mo_storeOn 66 = .ok (.iinc 6 1, 3) := by decide +kernel
theorem d_Mo_storeOn_69 : decode b_Mo_storeOn 69 = .ok (.goto (-50), 3) := by decide +kernel
theorem d_Mo_storeOn_72 : decode b_Mo_storeOn 72 = .ok (.iload_n 3, 1) := by decide +kernel
theorem d_Mo_storeOn_73 : decode b_Mo_storeOn 73 = .ok (.ireturn, 1) := by decide +kernel
theorem d_Mo_slotOf_0 : decode b_Mo_slotOf 0 = .ok (.aload_n 0, 1) := by decide +kernel
theorem d_Mo_slotOf_1 : decode b_Mo_slotOf 1 = .ok (.iload_n 1, 1) := by decide +kernel
theorem d_Mo_slotOf_2 : decode b_Mo_slotOf 2 = .ok (.invokevirtual 25, 3) := by decide +kernel
theorem d_Mo_slotOf_5 : decode b_Mo_slotOf 5 = .ok (.istore_n 3, 1) := by decide +kernel
theorem d_Mo_slotOf_6 : decode b_Mo_slotOf 6 = .ok (.aload_n 0, 1) := by decide +kernel
theorem d_Mo_slotOf_7 : decode b_Mo_slotOf 7 = .ok (.iload_n 1, 1) := by decide +kernel
theorem d_Mo_slotOf_8 : decode b_Mo_slotOf 8 = .ok (.invokevirtual 29, 3) := by decide +kernel
theorem d_Mo_slotOf_11 : decode b_Mo_slotOf 11 = .ok (.istore 4, 2) := by decide +kernel
theorem d_Mo_slotOf_13 : decode b_Mo_slotOf 13 = .ok (.iload 4, 2) := by decide +kernel
theorem d_Mo_slotOf_15 : decode b_Mo_slotOf 15 = .ok (.iload_n 3, 1) := by decide +kernel
theorem d_Mo_slotOf_16 : decode b_Mo_slotOf 16 = .ok (.if_icmp .ge 23, 3) := by decide +kernel
theorem d_Mo_slotOf_19 : decode b_Mo_slotOf 19 = .ok (.aload_n 0, 1) := by decide +kernel
theorem d_Mo_slotOf_20 : decode b_Mo_slotOf 20 = .ok (.getfield 9, 3) := by decide +kernel
theorem d_Mo_slotOf_23 : decode b_Mo_slotOf 23 = .ok (.iload 4, 2) := by decide +kernel
theorem d_Mo_slotOf_25 : decode b_Mo_slotOf 25 = .ok (.iaload, 1) := by decide +kernel
theorem d_Mo_slotOf_26 : decode b_Mo_slotOf 26 = .ok (.iload_n 2, 1) := by decide +kernel
theorem d_Mo_slotOf_27 : decode b_Mo_slotOf 27 = .ok (.if_icmp .ne 6, 3) := by decide +kernel
theorem d_Mo_slotOf_30 : decode b_Mo_slotOf 30 = .ok (.iload 4, 2) := by decide +kernel
theorem d_Mo_slotOf_32 : decode b_Mo_slotOf 32 = .ok (.ireturn, 1) := by decide +kernel
theorem d_Mo_slotOf_33 : decode b_Mo_slotOf 33 = .ok (.iinc 4 1, 3) := by decide +kernel
theorem d_Mo_slotOf_36 : decode b_Mo_slotOf 36 = .ok (.goto (-23), 3) := by decide +kernel
theorem d_Mo_slotOf_39 : decode b_Mo_slotOf 39 = .ok (.iconst (-1), 1) := by decide +kernel
theorem d_Mo_slotOf_40 : decode b_Mo_slotOf 40 = .ok (.ireturn, 1) := by decide +kernel
theorem d_Mo_firstSlot_0 : decode b_Mo_firstSlot 0 = .ok (.iload_n 1, 1) := by decide +kernel
theorem d_Mo_firstSlot_1 : decode b_Mo_firstSlot 1 = .ok (.bipush 12, 2) := by decide +kernel
theorem d_Mo_firstSlot_3 : decode b_Mo_firstSlot 3 = .ok (.imul, 1) := by decide +kernel
theorem d_Mo_firstSlot_4 : decode b_Mo_firstSlot 4 = .ok (.ireturn, 1) := by decide +kernel
theorem d_Mo_endOfSlots_0 : decode b_Mo_endOfSlots 0 = .ok (.aload_n 0, 1) := by decide +kernel
theorem d_Mo_endOfSlots_1 : decode b_Mo_endOfSlots 1 = .ok (.iload_n 1, 1) := by decide +kernel
theorem d_Mo_endOfSlots_2 : decode b_Mo_endOfSlots 2 = .ok (.invokevirtual 29, 3) := by decide +kernel
theorem d_Mo_endOfSlots_5 : decode b_Mo_endOfSlots 5 = .ok (.aload_n 0, 1) := by decide +kernel
theorem d_Mo_endOfSlots_6 : decode b_Mo_endOfSlots 6 = .ok (.getfield 18, 3) := by decide +kernel
theorem d_Mo_endOfSlots_9 : decode b_Mo_endOfSlots 9 = .ok (.iload_n 1, 1) := by decide +kernel
theorem d_Mo_endOfSlots_10 : decode b_Mo_endOfSlots 10 = .ok (.iaload, 1) := by decide +kernel
theorem d_Mo_endOfSlots_11 : decode b_Mo_endOfSlots 11 = .ok (.iadd, 1) := by decide +kernel
theorem d_Mo_endOfSlots_12 : decode b_Mo_endOfSlots 12 = .ok (.ireturn, 1) := by decide +kernel
theorem d_Rg_init_0 : decode b_Rg_init 0 = .ok (.aload_n 0, 1) := by decide +kernel
theorem d_Rg_init_1 : decode b_Rg_init 1 = .ok (.invokespecial 3, 3) := by decide +kernel
theorem d_Rg_init_4 : decode b_Rg_init 4 = .ok (.aload_n 0, 1) := by decide +kernel
theorem d_Rg_init_5 : decode b_Rg_init 5 = .ok (.bipush 100, 2) := by decide +kernel
theorem d_Rg_init_7 : decode b_Rg_init 7 = .ok (.iload_n 1, 1) := by decide +kernel
theorem d_Rg_init_8 : decode b_Rg_init 8 = .ok (.imul, 1) := by decide +kernel
theorem d_Rg_init_9 : decode b_Rg_init 9 = .ok (.putfield 9, 3) := by decide +kernel
theorem d_Rg_init_12 : decode b_Rg_init 12 = .ok (.aload_n 0, 1) := by decide +kernel
theorem d_Rg_init_13 : decode b_Rg_init 13 = .ok (.iload_n 2, 1) := by decide +kernel
theorem d_Rg_init_14 : decode b_Rg_init 14 = .ok (.putfield 15, 3) := by decide +kernel
theorem d_Rg_init_17 : decode b_Rg_init 17 = .ok (.aload_n 0, 1) := by decide +kernel
theorem d_Rg_init_18 : decode b_Rg_init 18 = .ok (.iconst 0, 1) := by decide +kernel
theorem d_Rg_init_19 : decode b_Rg_init 19 = .ok (.putfield 18, 3) := by decide +kernel
theorem d_Rg_init_22 : decode b_Rg_init 22 = .ok (.return_, 1) := by decide +kernel
theorem d_Rg_size_0 : decode b_Rg_size 0 = .ok (.aload_n 0, 1) := by decide +kernel
theorem d_Rg_size_1 : decode b_Rg_size 1 = .ok (.getfield 18, 3) := by decide +kernel
theorem d_Rg_size_4 : decode b_Rg_size 4 = .ok (.ireturn, 1) := by decide +kernel
theorem d_Rg_isFull_0 : decode b_Rg_isFull 0 = .ok (.aload_n 0, 1) := by decide +kernel
theorem d_Rg_isFull_1 : decode b_Rg_isFull 1 = .ok (.getfield 18, 3) := by decide +kernel
theorem d_Rg_isFull_4 : decode b_Rg_isFull 4 = .ok (.aload_n 0, 1) := by decide +kernel
theorem d_Rg_isFull_5 : decode b_Rg_isFull 5 = .ok (.getfield 15, 3) := by decide +kernel
theorem d_Rg_isFull_8 : decode b_Rg_isFull 8 = .ok (.if_icmp .lt 7, 3) := by decide +kernel
theorem d_Rg_isFull_11 : decode b_Rg_isFull 11 = .ok (.iconst 1, 1) := by decide +kernel
theorem d_Rg_isFull_12 : decode b_Rg_isFull 12 = .ok (.goto 4, 3) := by decide +kernel
theorem d_Rg_isFull_15 : decode b_Rg_isFull 15 = .ok (.iconst 0, 1) := by decide +kernel
theorem d_Rg_isFull_16 : decode b_Rg_isFull 16 = .ok (.ireturn, 1) := by decide +kernel
theorem d_Rg_handleOf_0 : decode b_Rg_handleOf 0 = .ok (.aload_n 0, 1) := by decide +kernel
theorem d_Rg_handleOf_1 : decode b_Rg_handleOf 1 = .ok (.getfield 9, 3) := by decide +kernel
theorem d_Rg_handleOf_4 : decode b_Rg_handleOf 4 = .ok (.iload_n 1, 1) := by decide +kernel
theorem d_Rg_handleOf_5 : decode b_Rg_handleOf 5 = .ok (.iadd, 1) := by decide +kernel
theorem d_Rg_handleOf_6 : decode b_Rg_handleOf 6 = .ok (.ireturn, 1) := by decide +kernel
theorem d_Rg_numberFor_0 : decode b_Rg_numberFor 0 = .ok (.iload_n 1, 1) := by decide +kernel
theorem d_Rg_numberFor_1 : decode b_Rg_numberFor 1 = .ok (.aload_n 0, 1) := by decide +kernel
theorem d_Rg_numberFor_2 : decode b_Rg_numberFor 2 = .ok (.getfield 9, 3) := by decide +kernel
theorem d_Rg_numberFor_5 : decode b_Rg_numberFor 5 = .ok (.isub, 1) := by decide +kernel
theorem d_Rg_numberFor_6 : decode b_Rg_numberFor 6 = .ok (.istore_n 2, 1) := by decide +kernel
theorem d_Rg_numberFor_7 : decode b_Rg_numberFor 7 = .ok (.iload_n 2, 1) := by decide +kernel
theorem d_Rg_numberFor_8 : decode b_Rg_numberFor 8 = .ok (.ifCond .lt 15, 3) := by decide +kernel
theorem d_Rg_numberFor_11 : decode b_Rg_numberFor 11 = .ok (.iload_n 2, 1) := by decide +kernel
theorem d_Rg_numberFor_12 : decode b_Rg_numberFor 12 = .ok (.aload_n 0, 1) := by decide +kernel
theorem d_Rg_numberFor_13 : decode b_Rg_numberFor 13 = .ok (.getfield 18, 3) := by decide +kernel
theorem d_Rg_numberFor_16 : decode b_Rg_numberFor 16 = .ok (.if_icmp .ge 7, 3) := by decide +kernel
theorem d_Rg_numberFor_19 : decode b_Rg_numberFor 19 = .ok (.iload_n 2, 1) := by decide +kernel
theorem d_Rg_numberFor_20 : decode b_Rg_numberFor 20 = .ok (.goto 4, 3) := by decide +kernel
theorem d_Rg_numberFor_23 : decode b_Rg_numberFor 23 = .ok (.iconst (-1), 1) := by decide +kernel
theorem d_Rg_numberFor_24 : decode b_Rg_numberFor 24 = .ok (.ireturn, 1) := by decide +kernel
theorem d_Rg_enter_0 : decode b_Rg_enter 0 = .ok (.aload_n 0, 1) := by decide +kernel
theorem d_Rg_enter_1 : decode b_Rg_enter 1 = .ok (.getfield 18, 3) := by decide +kernel
theorem d_Rg_enter_4 : decode b_Rg_enter 4 = .ok (.istore_n 1, 1) := by decide +kernel
theorem d_Rg_enter_5 : decode b_Rg_enter 5 = .ok (.aload_n 0, 1) := by decide +kernel
theorem d_Rg_enter_6 : decode b_Rg_enter 6 = .ok (.dup, 1) := by decide +kernel
theorem d_Rg_enter_7 : decode b_Rg_enter 7 = .ok (.getfield 18, 3) := by decide +kernel
theorem d_Rg_enter_10 : decode b_Rg_enter 10 = .ok (.iconst 1, 1) := by decide +kernel
theorem d_Rg_enter_11 : decode b_Rg_enter 11 = .ok (.iadd, 1) := by decide +kernel
theorem d_Rg_enter_12 : decode b_Rg_enter 12 = .ok (.putfield 18, 3) := by decide +kernel
theorem d_Rg_enter_15 : decode b_Rg_enter 15 = .ok (.iload_n 1, 1) := by decide +kernel
theorem d_Rg_enter_16 : decode b_Rg_enter 16 = .ok (.ireturn, 1) := by decide +kernel
theorem d_Sh_init_0 : decode b_Sh_init 0 = .ok (.aload_n 0, 1) := by decide +kernel
theorem d_Sh_init_1 : decode b_Sh_init 1 = .ok (.bipush 8, 2) := by decide +kernel
theorem d_Sh_init_3 : decode b_Sh_init 3 = .ok (.bipush 10, 2) := by decide +kernel
theorem d_Sh_init_5 : decode b_Sh_init 5 = .ok (.invokespecial 3, 3) := by decide +kernel
theorem d_Sh_init_8 : decode b_Sh_init 8 = .ok (.aload_n 0, 1) := by decide +kernel
theorem d_Sh_init_9 : decode b_Sh_init 9 = .ok (.bipush 10, 2) := by decide +kernel
theorem d_Sh_init_11 : decode b_Sh_init 11 = .ok (.newarray .int, 2) := by decide +kernel
theorem d_Sh_init_13 : decode b_Sh_init 13 = .ok (.putfield 9, 3) := by decide +kernel
theorem d_Sh_init_16 : decode b_Sh_init 16 = .ok (.aload_n 0, 1) := by decide +kernel
theorem d_Sh_init_17 : decode b_Sh_init 17 = .ok (.bipush 10, 2) := by decide +kernel
theorem d_Sh_init_19 : decode b_Sh_init 19 = .ok (.newarray .int, 2) := by decide +kernel
theorem d_Sh_init_21 : decode b_Sh_init 21 = .ok (.putfield 15, 3) := by decide +kernel
theorem d_Sh_init_24 : decode b_Sh_init 24 = .ok (.aload_n 0, 1) := by decide +kernel
theorem d_Sh_init_25 : decode b_Sh_init 25 = .ok (.bipush 10, 2) := by decide +kernel
theorem d_Sh_init_27 : decode b_Sh_init 27 = .ok (.newarray .int, 2) := by decide +kernel
theorem d_Sh_init_29 : decode b_Sh_init 29 = .ok (.putfield 18, 3) := by decide +kernel
theorem d_Sh_init_32 : decode b_Sh_init 32 = .ok (.aload_n 0, 1) := by decide +kernel
theorem d_Sh_init_33 : decode b_Sh_init 33 = .ok (.bipush 10, 2) := by decide +kernel
theorem d_Sh_init_35 : decode b_Sh_init 35 = .ok (.newarray .int, 2) := by decide +kernel
theorem d_Sh_init_37 : decode b_Sh_init 37 = .ok (.putfield 21, 3) := by decide +kernel
theorem d_Sh_init_40 : decode b_Sh_init 40 = .ok (.return_, 1) := by decide +kernel
theorem d_Sh_plan_0 : decode b_Sh_plan 0 = .ok (.aload_n 0, 1) := by decide +kernel
theorem d_Sh_plan_1 : decode b_Sh_plan 1 = .ok (.invokevirtual 24, 3) := by decide +kernel
theorem d_Sh_plan_4 : decode b_Sh_plan 4 = .ok (.istore 4, 2) := by decide +kernel
theorem d_Sh_plan_6 : decode b_Sh_plan 6 = .ok (.aload_n 0, 1) := by decide +kernel
theorem d_Sh_plan_7 : decode b_Sh_plan 7 = .ok (.getfield 9, 3) := by decide +kernel
theorem d_Sh_plan_10 : decode b_Sh_plan 10 = .ok (.iload 4, 2) := by decide +kernel
theorem d_Sh_plan_12 : decode b_Sh_plan 12 = .ok (.iload_n 1, 1) := by decide +kernel
theorem d_Sh_plan_13 : decode b_Sh_plan 13 = .ok (.iastore, 1) := by decide +kernel
theorem d_Sh_plan_14 : decode b_Sh_plan 14 = .ok (.aload_n 0, 1) := by decide +kernel
theorem d_Sh_plan_15 : decode b_Sh_plan 15 = .ok (.getfield 15, 3) := by decide +kernel
theorem d_Sh_plan_18 : decode b_Sh_plan 18 = .ok (.iload 4, 2) := by decide +kernel
theorem d_Sh_plan_20 : decode b_Sh_plan 20 = .ok (.iload_n 2, 1) := by decide +kernel
theorem d_Sh_plan_21 : decode b_Sh_plan 21 = .ok (.iastore, 1) := by decide +kernel
theorem d_Sh_plan_22 : decode b_Sh_plan 22 = .ok (.aload_n 0, 1) := by decide +kernel
theorem d_Sh_plan_23 : decode b_Sh_plan 23 = .ok (.getfield 18, 3) := by decide +kernel
theorem d_Sh_plan_26 : decode b_Sh_plan 26 = .ok (.iload 4, 2) := by decide +kernel
theorem d_Sh_plan_28 : decode b_Sh_plan 28 = .ok (.iload_n 3, 1) := by decide +kernel
theorem d_Sh_plan_29 : decode b_Sh_plan 29 = .ok (.iastore, 1) := by decide +kernel
theorem d_Sh_plan_30 : decode b_Sh_plan 30 = .ok (.aload_n 0, 1) := by decide +kernel
theorem d_Sh_plan_31 : decode b_Sh_plan 31 = .ok (.getfield 21, 3) := by decide +kernel
theorem d_Sh_plan_34 : decode b_Sh_plan 34 = .ok (.iload 4, 2) := by decide +kernel
theorem d_Sh_plan_36 : decode b_Sh_plan 36 = .ok (.iconst 0, 1) := by decide +kernel
theorem d_Sh_plan_37 : decode b_Sh_plan 37 = .ok (.iastore, 1) := by decide +kernel
theorem d_Sh_plan_38 : decode b_Sh_plan 38 = .ok (.aload_n 0, 1) := by decide +kernel
theorem d_Sh_plan_39 : decode b_Sh_plan 39 = .ok (.iload 4, 2) := by decide +kernel
theorem d_Sh_plan_41 : decode b_Sh_plan 41 = .ok (.invokevirtual 28, 3) := by decide +kernel
theorem d_Sh_plan_44 : decode b_Sh_plan 44 = .ok (.ireturn, 1) := by decide +kernel
theorem d_Sh_storeOf_0 : decode b_Sh_storeOf 0 = .ok (.aload_n 0, 1) := by decide +kernel
theorem d_Sh_storeOf_1 : decode b_Sh_storeOf 1 = .ok (.getfield 9, 3) := by decide +kernel
theorem d_Sh_storeOf_4 : decode b_Sh_storeOf 4 = .ok (.iload_n 1, 1) := by decide +kernel
theorem d_Sh_storeOf_5 : decode b_Sh_storeOf 5 = .ok (.iaload, 1) := by decide +kernel
theorem d_Sh_storeOf_6 : decode b_Sh_storeOf 6 = .ok (.ireturn, 1) := by decide +kernel
theorem d_Sh_firstDayOf_0 : decode b_Sh_firstDayOf 0 = .ok (.aload_n 0, 1) := by decide +kernel
theorem d_Sh_firstDayOf_1 : decode b_Sh_firstDayOf 1 = .ok (.getfield 15, 3) := by decide +kernel
theorem d_Sh_firstDayOf_4 : decode b_Sh_firstDayOf 4 = .ok (.iload_n 1, 1) := by decide +kernel
theorem d_Sh_firstDayOf_5 : decode b_Sh_firstDayOf 5 = .ok (.iaload, 1) := by decide +kernel
theorem d_Sh_firstDayOf_6 : decode b_Sh_firstDayOf 6 = .ok (.ireturn, 1) := by decide +kernel
theorem d_Sh_lastDayOf_0 : decode b_Sh_lastDayOf 0 = .ok (.aload_n 0, 1) := by decide +kernel
theorem d_Sh_lastDayOf_1 : decode b_Sh_lastDayOf 1 = .ok (.getfield 18, 3) := by decide +kernel
theorem d_Sh_lastDayOf_4 : decode b_Sh_lastDayOf 4 = .ok (.iload_n 1, 1) := by decide +kernel
theorem d_Sh_lastDayOf_5 : decode b_Sh_lastDayOf 5 = .ok (.iaload, 1) := by decide +kernel
theorem d_Sh_lastDayOf_6 : decode b_Sh_lastDayOf 6 = .ok (.ireturn, 1) := by decide +kernel
theorem d_Sh_holds_0 : decode b_Sh_holds 0 = .ok (.aload_n 0, 1) := by decide +kernel
theorem d_Sh_holds_1 : decode b_Sh_holds 1 = .ok (.getfield 21, 3) := by decide +kernel
theorem d_Sh_holds_4 : decode b_Sh_holds 4 = .ok (.iload_n 1, 1) := by decide +kernel
theorem d_Sh_holds_5 : decode b_Sh_holds 5 = .ok (.iaload, 1) := by decide +kernel
theorem d_Sh_holds_6 : decode b_Sh_holds 6 = .ok (.iconst 1, 1) := by decide +kernel
theorem d_Sh_holds_7 : decode b_Sh_holds 7 = .ok (.iload_n 2, 1) := by decide +kernel
theorem d_Sh_holds_8 : decode b_Sh_holds 8 = .ok (.ishl, 1) := by decide +kernel
theorem d_Sh_holds_9 : decode b_Sh_holds 9 = .ok (.iand, 1) := by decide +kernel
theorem d_Sh_holds_10 : decode b_Sh_holds 10 = .ok (.ifCond .eq 7, 3) := by decide +kernel
theorem d_Sh_holds_13 : decode b_Sh_holds 13 = .ok (.iconst 1, 1) := by decide +kernel
theorem d_Sh_holds_14 : decode b_Sh_holds 14 = .ok (.goto 4, 3) := by decide +kernel
theorem d_Sh_holds_17 : decode b_Sh_holds 17 = .ok (.iconst 0, 1) := by decide +kernel
theorem d_Sh_holds_18 : decode b_Sh_holds 18 = .ok (.ireturn, 1) := by decide +kernel
theorem d_Sh_putIn_0 : decode b_Sh_putIn 0 = .ok (.aload_n 0, 1) := by decide +kernel
theorem d_Sh_putIn_1 : decode b_Sh_putIn 1 = .ok (.getfield 21, 3) := by decide +kernel
theorem d_Sh_putIn_4 : decode b_Sh_putIn 4 = .ok (.iload_n 1, 1) := by decide +kernel
theorem d_Sh_putIn_5 : decode b_Sh_putIn 5 = .ok (.dup2, 1) := by decide +kernel
theorem d_Sh_putIn_6 : decode b_Sh_putIn 6 = .ok (.iaload, 1) := by decide +kernel
theorem d_Sh_putIn_7 : decode b_Sh_putIn 7 = .ok (.iconst 1, 1) := by decide +kernel
theorem d_Sh_putIn_8 : decode b_Sh_putIn 8 = .ok (.iload_n 2, 1) := by decide +kernel
theorem d_Sh_putIn_9 : decode b_Sh_putIn 9 = .ok (.ishl, 1) := by decide +kernel
theorem d_Sh_putIn_10 : decode b_Sh_putIn 10 = .ok (.ior, 1) := by decide +kernel
theorem d_Sh_putIn_11 : decode b_Sh_putIn 11 = .ok (.iastore, 1) := by decide +kernel
theorem d_Sh_putIn_12 : decode b_Sh_putIn 12 = .ok (.return_, 1) := by decide +kernel
theorem d_Sh_putOut_0 : decode b_Sh_putOut 0 = .ok (.aload_n 0, 1) := by decide +kernel
theorem d_Sh_putOut_1 : decode b_Sh_putOut 1 = .ok (.getfield 21, 3) := by decide +kernel
theorem d_Sh_putOut_4 : decode b_Sh_putOut 4 = .ok (.iload_n 1, 1) := by decide +kernel
theorem d_Sh_putOut_5 : decode b_Sh_putOut 5 = .ok (.dup2, 1) := by decide +kernel
theorem d_Sh_putOut_6 : decode b_Sh_putOut 6 = .ok (.iaload, 1) := by decide +kernel
theorem d_Sh_putOut_7 : decode b_Sh_putOut 7 = .ok (.iconst 1, 1) := by decide +kernel
theorem d_Sh_putOut_8 : decode b_Sh_putOut 8 = .ok (.iload_n 2, 1) := by decide +kernel
theorem d_Sh_putOut_9 : decode b_Sh_putOut 9 = .ok (.ishl, 1) := by decide +kernel
theorem d_Sh_putOut_10 : decode b_Sh_putOut 10 = .ok (.iconst (-1), 1) := by decide +kernel
theorem d_Sh_putOut_11 : decode b_Sh_putOut 11 = .ok (.ixor, 1) := by decide +kernel
theorem d_Sh_putOut_12 : decode b_Sh_putOut 12 = .ok (.iand, 1) := by decide +kernel
theorem d_Sh_putOut_13 : decode b_Sh_putOut 13 = .ok (.iastore, 1) := by decide +kernel
theorem d_Sh_putOut_14 : decode b_Sh_putOut 14 = .ok (.return_, 1) := by decide +kernel
theorem d_Sh_having_0 : decode b_Sh_having 0 = .ok (.iconst 0, 1) := by decide +kernel
theorem d_Sh_having_1 : decode b_Sh_having 1 = .ok (.istore 4, 2) := by decide +kernel
theorem d_Sh_having_3 : decode b_Sh_having 3 = .ok (.iload 4, 2) := by decide +kernel
theorem d_Sh_having_5 : decode b_Sh_having 5 = .ok (.aload_n 0, 1) := by decide +kernel
theorem d_Sh_having_6 : decode b_Sh_having 6 = .ok (.invokevirtual 32, 3) := by decide +kernel
theorem d_Sh_having_9 : decode b_Sh_having 9 = .ok (.if_icmp .ge 44, 3) := by decide +kernel
theorem d_Sh_having_12 : decode b_Sh_having 12 = .ok (.aload_n 0, 1) := by decide +kernel
theorem d_Sh_having_13 : decode b_Sh_having 13 = .ok (.iload 4, 2) := by decide +kernel
theorem d_Sh_having_15 : decode b_Sh_having 15 = .ok (.iload_n 1, 1) := by decide +kernel
theorem d_Sh_having_16 : decode b_Sh_having 16 = .ok (.invokevirtual 35, 3) := by decide +kernel
theorem d_Sh_having_19 : decode b_Sh_having 19 = .ok (.ifCond .eq 28, 3) := by decide +kernel
theorem d_Sh_having_22 : decode b_Sh_having 22 = .ok (.aload_n 0, 1) := by decide +kernel
theorem d_Sh_having_23 : decode b_Sh_having 23 = .ok (.getfield 15, 3) := by decide +kernel
theorem d_Sh_having_26 : decode b_Sh_having 26 = .ok (.iload 4, 2) := by decide +kernel
theorem d_Sh_having_28 : decode b_Sh_having 28 = .ok (.iaload, 1) := by decide +kernel
theorem d_Sh_having_29 : decode b_Sh_having 29 = .ok (.aload_n 0, 1) := by decide +kernel
theorem d_Sh_having_30 : decode b_Sh_having 30 = .ok (.getfield 18, 3) := by decide +kernel
theorem d_Sh_having_33 : decode b_Sh_having 33 = .ok (.iload 4, 2) := by decide +kernel
theorem d_Sh_having_35 : decode b_Sh_having 35 = .ok (.iaload, 1) := by decide +kernel
theorem d_Sh_having_36 : decode b_Sh_having 36 = .ok (.iload_n 2, 1) := by decide +kernel
theorem d_Sh_having_37 : decode b_Sh_having 37 = .ok (.iload_n 3, 1) := by decide +kernel
theorem d_Sh_having_38 : decode b_Sh_having 38 = .ok (.invokestatic 39, 3) := by decide +kernel
theorem d_Sh_having_41 : decode b_Sh_having 41 = .ok (.ifCond .eq 6, 3) := by decide +kernel
theorem d_Sh_having_44 : decode b_Sh_having 44 = .ok (.iload 4, 2) := by decide +kernel
theorem d_Sh_having_46 : decode b_Sh_having 46 = .ok (.ireturn, 1) := by decide +kernel
theorem d_Sh_having_47 : decode b_Sh_having 47 = .ok (.iinc 4 1, 3) := by decide +kernel
theorem d_Sh_having_50 : decode b_Sh_having 50 = .ok (.goto (-47), 3) := by decide +kernel
theorem d_Sh_having_53 : decode b_Sh_having 53 = .ok (.iconst (-1), 1) := by decide +kernel
theorem d_Sh_having_54 : decode b_Sh_having 54 = .ok (.ireturn, 1) := by decide +kernel
theorem d_Si_init_0 : decode b_Si_init 0 = .ok (.aload_n 0, 1) := by decide +kernel
theorem d_Si_init_1 : decode b_Si_init 1 = .ok (.iconst 2, 1) := by decide +kernel
theorem d_Si_init_2 : decode b_Si_init 2 = .ok (.iconst 4, 1) := by decide +kernel
theorem d_Si_init_3 : decode b_Si_init 3 = .ok (.invokespecial 3, 3) := by decide +kernel
theorem d_Si_init_6 : decode b_Si_init 6 = .ok (.return_, 1) := by decide +kernel
theorem d_Si_stakeOut_0 : decode b_Si_stakeOut 0 = .ok (.aload_n 0, 1) := by decide +kernel
theorem d_Si_stakeOut_1 : decode b_Si_stakeOut 1 = .ok (.aload_n 0, 1) := by decide +kernel
theorem d_Si_stakeOut_2 : decode b_Si_stakeOut 2 = .ok (.invokevirtual 9, 3) := by decide +kernel
theorem d_Si_stakeOut_5 : decode b_Si_stakeOut 5 = .ok (.invokevirtual 15, 3) := by decide +kernel
theorem d_Si_stakeOut_8 : decode b_Si_stakeOut 8 = .ok (.ireturn, 1) := by decide +kernel
theorem d_So_init_0 : decode b_So_init 0 = .ok (.aload_n 0, 1) := by decide +kernel
theorem d_So_init_1 : decode b_So_init 1 = .ok (.bipush 6, 2) := by decide +kernel
theorem d_So_init_3 : decode b_So_init 3 = .ok (.bipush 16, 2) := by decide +kernel
theorem d_So_init_5 : decode b_So_init 5 = .ok (.invokespecial 3, 3) := by decide +kernel
theorem d_So_init_8 : decode b_So_init 8 = .ok (.aload_n 0, 1) := by decide +kernel
theorem d_So_init_9 : decode b_So_init 9 = .ok (.bipush 16, 2) := by decide +kernel
theorem d_So_init_11 : decode b_So_init 11 = .ok (.newarray .int, 2) := by decide +kernel
theorem d_So_init_13 : decode b_So_init 13 = .ok (.putfield 9, 3) := by decide +kernel
theorem d_So_init_16 : decode b_So_init 16 = .ok (.return_, 1) := by decide +kernel
theorem d_So_build_0 : decode b_So_build 0 = .ok (.aload_n 0, 1) := by decide +kernel
theorem d_So_build_1 : decode b_So_build 1 = .ok (.invokevirtual 15, 3) := by decide +kernel
theorem d_So_build_4 : decode b_So_build 4 = .ok (.istore_n 2, 1) := by decide +kernel
theorem d_So_build_5 : decode b_So_build 5 = .ok (.aload_n 0, 1) := by decide +kernel
theorem d_So_build_6 : decode b_So_build 6 = .ok (.getfield 9, 3) := by decide +kernel
theorem d_So_build_9 : decode b_So_build 9 = .ok (.iload_n 2, 1) := by decide +kernel
theorem d_So_build_10 : decode b_So_build 10 = .ok (.iload_n 1, 1) := by decide +kernel
theorem d_So_build_11 : decode b_So_build 11 = .ok (.iastore, 1) := by decide +kernel
theorem d_So_build_12 : decode b_So_build 12 = .ok (.aload_n 0, 1) := by decide +kernel
theorem d_So_build_13 : decode b_So_build 13 = .ok (.iload_n 2, 1) := by decide +kernel
theorem d_So_build_14 : decode b_So_build 14 = .ok (.invokevirtual 19, 3) := by decide +kernel
theorem d_So_build_17 : decode b_So_build 17 = .ok (.ireturn, 1) := by decide +kernel
theorem d_So_parentOf_0 : decode b_So_parentOf 0 = .ok (.aload_n 0, 1) := by decide +kernel
theorem d_So_parentOf_1 : decode b_So_parentOf 1 = .ok (.getfield 9, 3) := by decide +kernel
theorem d_So_parentOf_4 : decode b_So_parentOf 4 = .ok (.iload_n 1, 1) := by decide +kernel
theorem d_So_parentOf_5 : decode b_So_parentOf 5 = .ok (.iaload, 1) := by decide +kernel
theorem d_So_parentOf_6 : decode b_So_parentOf 6 = .ok (.ireturn, 1) := by decide +kernel
theorem d_So_setParent_0 : decode b_So_setParent 0 = .ok (.aload_n 0, 1) := by decide +kernel
theorem d_So_setParent_1 : decode b_So_setParent 1 = .ok (.getfield 9, 3) := by decide +kernel
theorem d_So_setParent_4 : decode b_So_setParent 4 = .ok (.iload_n 1, 1) := by decide +kernel
theorem d_So_setParent_5 : decode b_So_setParent 5 = .ok (.iload_n 2, 1) := by decide +kernel
theorem d_So_setParent_6 : decode b_So_setParent 6 = .ok (.iastore, 1) := by decide +kernel
theorem d_So_setParent_7 : decode b_So_setParent 7 = .ok (.return_, 1) := by decide +kernel
theorem d_So_isIn_0 : decode b_So_isIn 0 = .ok (.aload_n 0, 1) := by decide +kernel
theorem d_So_isIn_1 : decode b_So_isIn 1 = .ok (.getfield 9, 3) := by decide +kernel
theorem d_So_isIn_4 : decode b_So_isIn 4 = .ok (.iload_n 1, 1) := by decide +kernel
theorem d_So_isIn_5 : decode b_So_isIn 5 = .ok (.iaload, 1) := by decide +kernel
theorem d_So_isIn_6 : decode b_So_isIn 6 = .ok (.istore_n 3, 1) := by decide +kernel
theorem d_So_isIn_7 : decode b_So_isIn 7 = .ok (.iconst 0, 1) := by decide +kernel
theorem d_So_isIn_8 : decode b_So_isIn 8 = .ok (.istore 4, 2) := by decide +kernel
theorem d_So_isIn_10 : decode b_So_isIn 10 = .ok (.iload 4, 2) := by decide +kernel
theorem d_So_isIn_12 : decode b_So_isIn 12 = .ok (.bipush 16, 2) := by decide +kernel
theorem d_So_isIn_14 : decode b_So_isIn 14 = .ok (.if_icmp .ge 28, 3) := by decide +kernel
theorem d_So_isIn_17 : decode b_So_isIn 17 = .ok (.iload_n 3, 1) := by decide +kernel
theorem d_So_isIn_18 : decode b_So_isIn 18 = .ok (.iconst (-1), 1) := by decide +kernel
theorem d_So_isIn_19 : decode b_So_isIn 19 = .ok (.if_icmp .eq 23, 3) := by decide +kernel
theorem d_So_isIn_22 : decode b_So_isIn 22 = .ok (.iload_n 3, 1) := by decide +kernel
theorem d_So_isIn_23 : decode b_So_isIn 23 = .ok (.iload_n 2, 1) := by decide +kernel
theorem d_So_isIn_24 : decode b_So_isIn 24 = .ok (.if_icmp .ne 5, 3) := by decide +kernel
theorem d_So_isIn_27 : decode b_So_isIn 27 = .ok (.iconst 1, 1) := by decide +kernel
theorem d_So_isIn_28 : decode b_So_isIn 28 = .ok (.ireturn, 1) := by decide +kernel
theorem d_So_isIn_29 : decode b_So_isIn 29 = .ok (.aload_n 0, 1) := by decide +kernel
theorem d_So_isIn_30 : decode b_So_isIn 30 = .ok (.getfield 9, 3) := by decide +kernel
theorem d_So_isIn_33 : decode b_So_isIn 33 = .ok (.iload_n 3, 1) := by decide +kernel
theorem d_So_isIn_34 : decode b_So_isIn 34 = .ok (.iaload, 1) := by decide +kernel
theorem d_So_isIn_35 : decode b_So_isIn 35 = .ok (.istore_n 3, 1) := by decide +kernel
theorem d_So_isIn_36 : decode b_So_isIn 36 = .ok (.iinc 4 1, 3) := by decide +kernel
theorem d_So_isIn_39 : decode b_So_isIn 39 = .ok (.goto (-29), 3) := by decide +kernel
theorem d_So_isIn_42 : decode b_So_isIn 42 = .ok (.iconst 0, 1) := by decide +kernel
theorem d_So_isIn_43 : decode b_So_isIn 43 = .ok (.ireturn, 1) := by decide +kernel
theorem d_So_isAtOrIn_0 : decode b_So_isAtOrIn 0 = .ok (.iload_n 1, 1) := by decide +kernel
theorem d_So_isAtOrIn_1 : decode b_So_isAtOrIn 1 = .ok (.iload_n 2, 1) := by decide +kernel
theorem d_So_isAtOrIn_2 : decode b_So_isAtOrIn 2 = .ok (.if_icmp .eq 12, 3) := by decide +kernel
theorem d_So_isAtOrIn_5 : decode b_So_isAtOrIn 5 = .ok (.aload_n 0, 1) := by decide +kernel
theorem d_So_isAtOrIn_6 : decode b_So_isAtOrIn 6 = .ok (.iload_n 1, 1) := by decide +kernel
theorem d_So_isAtOrIn_7 : decode b_So_isAtOrIn 7 = .ok (.iload_n 2, 1) := by decide +kernel
theorem d_So_isAtOrIn_8 : decode b_So_isAtOrIn 8 = .ok (.invokevirtual 23, 3) := by decide +kernel
theorem d_So_isAtOrIn_11 : decode b_So_isAtOrIn 11 = .ok (.ifCond .eq 7, 3) := by decide +kernel
theorem d_So_isAtOrIn_14 : decode b_So_isAtOrIn 14 = .ok (.iconst 1, 1) := by decide +kernel
theorem d_So_isAtOrIn_15 : decode b_So_isAtOrIn 15 = .ok (.goto 4, 3) := by decide +kernel
theorem d_So_isAtOrIn_18 : decode b_So_isAtOrIn 18 = .ok (.iconst 0, 1) := by decide +kernel
theorem d_So_isAtOrIn_19 : decode b_So_isAtOrIn 19 = .ok (.ireturn, 1) := by decide +kernel

theorem d_Md_init_0 : decode b_Md_init 0 = .ok (.aload_n 0, 1) := by decide +kernel
theorem d_Md_init_1 : decode b_Md_init 1 = .ok (.invokespecial 1, 3) := by decide +kernel
theorem d_Md_init_4 : decode b_Md_init 4 = .ok (.aload_n 0, 1) := by decide +kernel
theorem d_Md_init_5 : decode b_Md_init 5 = .ok (.bipush 10, 2) := by decide +kernel
theorem d_Md_init_7 : decode b_Md_init 7 = .ok (.newarray .int, 2) := by decide +kernel
theorem d_Md_init_9 : decode b_Md_init 9 = .ok (.putfield 7, 3) := by decide +kernel
theorem d_Md_init_12 : decode b_Md_init 12 = .ok (.aload_n 0, 1) := by decide +kernel
theorem d_Md_init_13 : decode b_Md_init 13 = .ok (.bipush 6, 2) := by decide +kernel
theorem d_Md_init_15 : decode b_Md_init 15 = .ok (.newarray .int, 2) := by decide +kernel
theorem d_Md_init_17 : decode b_Md_init 17 = .ok (.putfield 13, 3) := by decide +kernel
theorem d_Md_init_20 : decode b_Md_init 20 = .ok (.aload_n 0, 1) := by decide +kernel
theorem d_Md_init_21 : decode b_Md_init 21 = .ok (.bipush 20, 2) := by decide +kernel
theorem d_Md_init_23 : decode b_Md_init 23 = .ok (.newarray .int, 2) := by decide +kernel
theorem d_Md_init_25 : decode b_Md_init 25 = .ok (.putfield 16, 3) := by decide +kernel
theorem d_Md_init_28 : decode b_Md_init 28 = .ok (.aload_n 0, 1) := by decide +kernel
theorem d_Md_init_29 : decode b_Md_init 29 = .ok (.bipush 20, 2) := by decide +kernel
theorem d_Md_init_31 : decode b_Md_init 31 = .ok (.newarray .int, 2) := by decide +kernel
theorem d_Md_init_33 : decode b_Md_init 33 = .ok (.putfield 19, 3) := by decide +kernel
theorem d_Md_init_36 : decode b_Md_init 36 = .ok (.aload_n 0, 1) := by decide +kernel
theorem d_Md_init_37 : decode b_Md_init 37 = .ok (.bipush 20, 2) := by decide +kernel
theorem d_Md_init_39 : decode b_Md_init 39 = .ok (.newarray .int, 2) := by decide +kernel
theorem d_Md_init_41 : decode b_Md_init 41 = .ok (.putfield 22, 3) := by decide +kernel
theorem d_Md_init_44 : decode b_Md_init 44 = .ok (.aload_n 0, 1) := by decide +kernel
theorem d_Md_init_45 : decode b_Md_init 45 = .ok (.sipush 400, 3) := by decide +kernel
theorem d_Md_init_48 : decode b_Md_init 48 = .ok (.newarray .boolean, 2) := by decide +kernel
theorem d_Md_init_50 : decode b_Md_init 50 = .ok (.putfield 25, 3) := by decide +kernel
theorem d_Md_init_53 : decode b_Md_init 53 = .ok (.aload_n 0, 1) := by decide +kernel
theorem d_Md_init_54 : decode b_Md_init 54 = .ok (.sipush 400, 3) := by decide +kernel
theorem d_Md_init_57 : decode b_Md_init 57 = .ok (.newarray .boolean, 2) := by decide +kernel
theorem d_Md_init_59 : decode b_Md_init 59 = .ok (.putfield 29, 3) := by decide +kernel
theorem d_Md_init_62 : decode b_Md_init 62 = .ok (.aload_n 0, 1) := by decide +kernel
theorem d_Md_init_63 : decode b_Md_init 63 = .ok (.bipush 30, 2) := by decide +kernel
theorem d_Md_init_65 : decode b_Md_init 65 = .ok (.newarray .int, 2) := by decide +kernel
theorem d_Md_init_67 : decode b_Md_init 67 = .ok (.putfield 32, 3) := by decide +kernel
theorem d_Md_init_70 : decode b_Md_init 70 = .ok (.aload_n 0, 1) := by decide +kernel
theorem d_Md_init_71 : decode b_Md_init 71 = .ok (.bipush 30, 2) := by decide +kernel
theorem d_Md_init_73 : decode b_Md_init 73 = .ok (.newarray .int, 2) := by decide +kernel
theorem d_Md_init_75 : decode b_Md_init 75 = .ok (.putfield 35, 3) := by decide +kernel
theorem d_Md_init_78 : decode b_Md_init 78 = .ok (.aload_n 0, 1) := by decide +kernel
theorem d_Md_init_79 : decode b_Md_init 79 = .ok (.bipush 30, 2) := by decide +kernel
theorem d_Md_init_81 : decode b_Md_init 81 = .ok (.newarray .int, 2) := by decide +kernel
theorem d_Md_init_83 : decode b_Md_init 83 = .ok (.putfield 38, 3) := by decide +kernel
theorem d_Md_init_86 : decode b_Md_init 86 = .ok (.aload_n 0, 1) := by decide +kernel
theorem d_Md_init_87 : decode b_Md_init 87 = .ok (.bipush 16, 2) := by decide +kernel
theorem d_Md_init_89 : decode b_Md_init 89 = .ok (.newarray .int, 2) := by decide +kernel
theorem d_Md_init_91 : decode b_Md_init 91 = .ok (.putfield 41, 3) := by decide +kernel
theorem d_Md_init_94 : decode b_Md_init 94 = .ok (.aload_n 0, 1) := by decide +kernel
theorem d_Md_init_95 : decode b_Md_init 95 = .ok (.bipush 30, 2) := by decide +kernel
theorem d_Md_init_97 : decode b_Md_init 97 = .ok (.newarray .int, 2) := by decide +kernel
theorem d_Md_init_99 : decode b_Md_init 99 = .ok (.putfield 44, 3) := by decide +kernel
theorem d_Md_init_102 : decode b_Md_init 102 = .ok (.aload_n 0, 1) := by decide +kernel
theorem d_Md_init_103 : decode b_Md_init 103 = .ok (.sipush 360, 3) := by decide +kernel
theorem d_Md_init_106 : decode b_Md_init 106 = .ok (.newarray .int, 2) := by decide +kernel
theorem d_Md_init_108 : decode b_Md_init 108 = .ok (.putfield 47, 3) := by decide +kernel
theorem d_Md_init_111 : decode b_Md_init 111 = .ok (.aload_n 0, 1) := by decide +kernel
theorem d_Md_init_112 : decode b_Md_init 112 = .ok (.sipush 360, 3) := by decide +kernel
theorem d_Md_init_115 : decode b_Md_init 115 = .ok (.newarray .int, 2) := by decide +kernel
theorem d_Md_init_117 : decode b_Md_init 117 = .ok (.putfield 50, 3) := by decide +kernel
theorem d_Md_init_120 : decode b_Md_init 120 = .ok (.aload_n 0, 1) := by decide +kernel
theorem d_Md_init_121 : decode b_Md_init 121 = .ok (.bipush 40, 2) := by decide +kernel
theorem d_Md_init_123 : decode b_Md_init 123 = .ok (.newarray .int, 2) := by decide +kernel
theorem d_Md_init_125 : decode b_Md_init 125 = .ok (.putfield 53, 3) := by decide +kernel
theorem d_Md_init_128 : decode b_Md_init 128 = .ok (.aload_n 0, 1) := by decide +kernel
theorem d_Md_init_129 : decode b_Md_init 129 = .ok (.bipush 40, 2) := by decide +kernel
theorem d_Md_init_131 : decode b_Md_init 131 = .ok (.newarray .int, 2) := by decide +kernel
theorem d_Md_init_133 : decode b_Md_init 133 = .ok (.putfield 56, 3) := by decide +kernel
theorem d_Md_init_136 : decode b_Md_init 136 = .ok (.aload_n 0, 1) := by decide +kernel
theorem d_Md_init_137 : decode b_Md_init 137 = .ok (.bipush 40, 2) := by decide +kernel
theorem d_Md_init_139 : decode b_Md_init 139 = .ok (.newarray .int, 2) := by decide +kernel
theorem d_Md_init_141 : decode b_Md_init 141 = .ok (.putfield 59, 3) := by decide +kernel
theorem d_Md_init_144 : decode b_Md_init 144 = .ok (.aload_n 0, 1) := by decide +kernel
theorem d_Md_init_145 : decode b_Md_init 145 = .ok (.bipush 10, 2) := by decide +kernel
theorem d_Md_init_147 : decode b_Md_init 147 = .ok (.newarray .int, 2) := by decide +kernel
theorem d_Md_init_149 : decode b_Md_init 149 = .ok (.putfield 62, 3) := by decide +kernel
theorem d_Md_init_152 : decode b_Md_init 152 = .ok (.aload_n 0, 1) := by decide +kernel
theorem d_Md_init_153 : decode b_Md_init 153 = .ok (.bipush 10, 2) := by decide +kernel
theorem d_Md_init_155 : decode b_Md_init 155 = .ok (.newarray .int, 2) := by decide +kernel
theorem d_Md_init_157 : decode b_Md_init 157 = .ok (.putfield 65, 3) := by decide +kernel
theorem d_Md_init_160 : decode b_Md_init 160 = .ok (.aload_n 0, 1) := by decide +kernel
theorem d_Md_init_161 : decode b_Md_init 161 = .ok (.bipush 10, 2) := by decide +kernel
theorem d_Md_init_163 : decode b_Md_init 163 = .ok (.newarray .int, 2) := by decide +kernel
theorem d_Md_init_165 : decode b_Md_init 165 = .ok (.putfield 68, 3) := by decide +kernel
theorem d_Md_init_168 : decode b_Md_init 168 = .ok (.aload_n 0, 1) := by decide +kernel
theorem d_Md_init_169 : decode b_Md_init 169 = .ok (.sipush 300, 3) := by decide +kernel
theorem d_Md_init_172 : decode b_Md_init 172 = .ok (.newarray .boolean, 2) := by decide +kernel
theorem d_Md_init_174 : decode b_Md_init 174 = .ok (.putfield 71, 3) := by decide +kernel
theorem d_Md_init_177 : decode b_Md_init 177 = .ok (.aload_n 0, 1) := by decide +kernel
theorem d_Md_init_178 : decode b_Md_init 178 = .ok (.bipush 20, 2) := by decide +kernel
theorem d_Md_init_180 : decode b_Md_init 180 = .ok (.newarray .int, 2) := by decide +kernel
theorem d_Md_init_182 : decode b_Md_init 182 = .ok (.putfield 74, 3) := by decide +kernel
theorem d_Md_init_185 : decode b_Md_init 185 = .ok (.aload_n 0, 1) := by decide +kernel
theorem d_Md_init_186 : decode b_Md_init 186 = .ok (.bipush 20, 2) := by decide +kernel
theorem d_Md_init_188 : decode b_Md_init 188 = .ok (.newarray .int, 2) := by decide +kernel
theorem d_Md_init_190 : decode b_Md_init 190 = .ok (.putfield 77, 3) := by decide +kernel
theorem d_Md_init_193 : decode b_Md_init 193 = .ok (.aload_n 0, 1) := by decide +kernel
theorem d_Md_init_194 : decode b_Md_init 194 = .ok (.bipush 20, 2) := by decide +kernel
theorem d_Md_init_196 : decode b_Md_init 196 = .ok (.newarray .boolean, 2) := by decide +kernel
theorem d_Md_init_198 : decode b_Md_init 198 = .ok (.putfield 80, 3) := by decide +kernel
theorem d_Md_init_201 : decode b_Md_init 201 = .ok (.aload_n 0, 1) := by decide +kernel
theorem d_Md_init_202 : decode b_Md_init 202 = .ok (.getfield 7, 3) := by decide +kernel
theorem d_Md_init_205 : decode b_Md_init 205 = .ok (.iconst 1, 1) := by decide +kernel
theorem d_Md_init_206 : decode b_Md_init 206 = .ok (.iconst 1, 1) := by decide +kernel
theorem d_Md_init_207 : decode b_Md_init 207 = .ok (.iastore, 1) := by decide +kernel
theorem d_Md_init_208 : decode b_Md_init 208 = .ok (.aload_n 0, 1) := by decide +kernel
theorem d_Md_init_209 : decode b_Md_init 209 = .ok (.getfield 13, 3) := by decide +kernel
theorem d_Md_init_212 : decode b_Md_init 212 = .ok (.iconst 0, 1) := by decide +kernel
theorem d_Md_init_213 : decode b_Md_init 213 = .ok (.bipush 63, 2) := by decide +kernel
theorem d_Md_init_215 : decode b_Md_init 215 = .ok (.iastore, 1) := by decide +kernel
theorem d_Md_init_216 : decode b_Md_init 216 = .ok (.return_, 1) := by decide +kernel
theorem d_Md_thrown_0 : decode b_Md_thrown 0 = .ok (.aload_n 0, 1) := by decide +kernel
theorem d_Md_thrown_1 : decode b_Md_thrown 1 = .ok (.getfield 83, 3) := by decide +kernel
theorem d_Md_thrown_4 : decode b_Md_thrown 4 = .ok (.ireturn, 1) := by decide +kernel
theorem d_Md_holds_0 : decode b_Md_holds 0 = .ok (.aload_n 0, 1) := by decide +kernel
theorem d_Md_holds_1 : decode b_Md_holds 1 = .ok (.iload_n 1, 1) := by decide +kernel
theorem d_Md_holds_2 : decode b_Md_holds 2 = .ok (.ifCond .ne 10, 3) := by decide +kernel
theorem d_Md_holds_5 : decode b_Md_holds 5 = .ok (.aload_n 0, 1) := by decide +kernel
theorem d_Md_holds_6 : decode b_Md_holds 6 = .ok (.getfield 87, 3) := by decide +kernel
theorem d_Md_holds_9 : decode b_Md_holds 9 = .ok (.goto 4, 3) := by decide +kernel
theorem d_Md_holds_12 : decode b_Md_holds 12 = .ok (.iload_n 1, 1) := by decide +kernel
theorem d_Md_holds_13 : decode b_Md_holds 13 = .ok (.putfield 87, 3) := by decide +kernel
theorem d_Md_holds_16 : decode b_Md_holds 16 = .ok (.aload_n 0, 1) := by decide +kernel
theorem d_Md_holds_17 : decode b_Md_holds 17 = .ok (.iload_n 1, 1) := by decide +kernel
theorem d_Md_holds_18 : decode b_Md_holds 18 = .ok (.ifCond .ne 7, 3) := by decide +kernel
theorem d_Md_holds_21 : decode b_Md_holds 21 = .ok (.iconst 0, 1) := by decide +kernel
theorem d_Md_holds_22 : decode b_Md_holds 22 = .ok (.goto 22, 3) := by decide +kernel
theorem d_Md_holds_25 : decode b_Md_holds 25 = .ok (.iload_n 1, 1) := by decide +kernel
theorem d_Md_holds_26 : decode b_Md_holds 26 = .ok (.iconst 1, 1) := by decide +kernel
theorem d_Md_holds_27 : decode b_Md_holds 27 = .ok (.if_icmp .ne 7, 3) := by decide +kernel
theorem d_Md_holds_30 : decode b_Md_holds 30 = .ok (.iconst 1, 1) := by decide +kernel
theorem d_Md_holds_31 : decode b_Md_holds 31 = .ok (.goto 13, 3) := by decide +kernel
theorem d_Md_holds_34 : decode b_Md_holds 34 = .ok (.iload_n 1, 1) := by decide +kernel
theorem d_Md_holds_35 : decode b_Md_holds 35 = .ok (.iconst 4, 1) := by decide +kernel
theorem d_Md_holds_36 : decode b_Md_holds 36 = .ok (.if_icmp .ge 7, 3) := by decide +kernel
theorem d_Md_holds_39 : decode b_Md_holds 39 = .ok (.iconst 2, 1) := by decide +kernel
theorem d_Md_holds_40 : decode b_Md_holds 40 = .ok (.goto 4, 3) := by decide +kernel
theorem d_Md_holds_43 : decode b_Md_holds 43 = .ok (.iconst 3, 1) := by decide +kernel
theorem d_Md_holds_44 : decode b_Md_holds 44 = .ok (.putfield 83, 3) := by decide +kernel
theorem d_Md_holds_47 : decode b_Md_holds 47 = .ok (.iload_n 1, 1) := by decide +kernel
theorem d_Md_holds_48 : decode b_Md_holds 48 = .ok (.ifCond .ne 7, 3) := by decide +kernel
theorem d_Md_holds_51 : decode b_Md_holds 51 = .ok (.iconst 1, 1) := by decide +kernel
theorem d_Md_holds_52 : decode b_Md_holds 52 = .ok (.goto 4, 3) := by decide +kernel
theorem d_Md_holds_55 : decode b_Md_holds 55 = .ok (.iconst 0, 1) := by decide +kernel
theorem d_Md_holds_56 : decode b_Md_holds 56 = .ok (.ireturn, 1) := by decide +kernel
theorem d_Md_holdsShort_0 : decode b_Md_holdsShort 0 = .ok (.aload_n 0, 1) := by decide +kernel
theorem d_Md_holdsShort_1 : decode b_Md_holdsShort 1 = .ok (.iload_n 1, 1) := by decide +kernel
theorem d_Md_holdsShort_2 : decode b_Md_holdsShort 2 = .ok (.ifCond .ne 10, 3) := by decide +kernel
theorem d_Md_holdsShort_5 : decode b_Md_holdsShort 5 = .ok (.aload_n 0, 1) := by decide +kernel
theorem d_Md_holdsShort_6 : decode b_Md_holdsShort 6 = .ok (.getfield 87, 3) := by decide +kernel
theorem d_Md_holdsShort_9 : decode b_Md_holdsShort 9 = .ok (.goto 4, 3) := by decide +kernel
theorem d_Md_holdsShort_12 : decode b_Md_holdsShort 12 = .ok (.iload_n 1, 1) := by decide +kernel
theorem d_Md_holdsShort_13 : decode b_Md_holdsShort 13 = .ok (.putfield 87, 3) := by decide +kernel
theorem d_Md_holdsShort_16 : decode b_Md_holdsShort 16 = .ok (.aload_n 0, 1) := by decide +kernel
theorem d_Md_holdsShort_17 : decode b_Md_holdsShort 17 = .ok (.iload_n 1, 1) := by decide +kernel
theorem d_Md_holdsShort_18 : decode b_Md_holdsShort 18 = .ok (.ifCond .ne 7, 3) := by decide +kernel
theorem d_Md_holdsShort_21 : decode b_Md_holdsShort 21 = .ok (.iconst 0, 1) := by decide +kernel
theorem d_Md_holdsShort_22 : decode b_Md_holdsShort 22 = .ok (.goto 13, 3) := by decide +kernel
theorem d_Md_holdsShort_25 : decode b_Md_holdsShort 25 = .ok (.iload_n 1, 1) := by decide +kernel
theorem d_Md_holdsShort_26 : decode b_Md_holdsShort 26 = .ok (.iconst 1, 1) := by decide +kernel
theorem d_Md_holdsShort_27 : decode b_Md_holdsShort 27 = .ok (.if_icmp .ne 7, 3) := by decide +kernel
theorem d_Md_holdsShort_30 : decode b_Md_holdsShort 30 = .ok (.iconst 1, 1) := by decide +kernel
theorem d_Md_holdsShort_31 : decode b_Md_holdsShort 31 = .ok (.goto 4, 3) := by decide +kernel
theorem d_Md_holdsShort_34 : decode b_Md_holdsShort 34 = .ok (.iconst 2, 1) := by decide +kernel
theorem d_Md_holdsShort_35 : decode b_Md_holdsShort 35 = .ok (.putfield 83, 3) := by decide +kernel
theorem d_Md_holdsShort_38 : decode b_Md_holdsShort 38 = .ok (.iload_n 1, 1) := by decide +kernel
theorem d_Md_holdsShort_39 : decode b_Md_holdsShort 39 = .ok (.ifCond .ne 7, 3) := by decide +kernel
theorem d_Md_holdsShort_42 : decode b_Md_holdsShort 42 = .ok (.iconst 1, 1) := by decide +kernel
theorem d_Md_holdsShort_43 : decode b_Md_holdsShort 43 = .ok (.goto 4, 3) := by decide +kernel
theorem d_Md_holdsShort_46 : decode b_Md_holdsShort 46 = .ok (.iconst 0, 1) := by decide +kernel
theorem d_Md_holdsShort_47 : decode b_Md_holdsShort 47 = .ok (.ireturn, 1) := by decide +kernel
theorem d_Md_is_0 : decode b_Md_is 0 = .ok (.iload_n 1, 1) := by decide +kernel
theorem d_Md_is_1 : decode b_Md_is 1 = .ok (.bipush 100, 2) := by decide +kernel
theorem d_Md_is_3 : decode b_Md_is 3 = .ok (.iload_n 2, 1) := by decide +kernel
theorem d_Md_is_4 : decode b_Md_is 4 = .ok (.imul, 1) := by decide +kernel
theorem d_Md_is_5 : decode b_Md_is 5 = .ok (.if_icmp .lt 22, 3) := by decide +kernel
theorem d_Md_is_8 : decode b_Md_is 8 = .ok (.iload_n 1, 1) := by decide +kernel
theorem d_Md_is_9 : decode b_Md_is 9 = .ok (.bipush 100, 2) := by decide +kernel
theorem d_Md_is_11 : decode b_Md_is 11 = .ok (.iload_n 2, 1) := by decide +kernel
theorem d_Md_is_12 : decode b_Md_is 12 = .ok (.imul, 1) := by decide +kernel
theorem d_Md_is_13 : decode b_Md_is 13 = .ok (.aload_n 0, 1) := by decide +kernel
theorem d_Md_is_14 : decode b_Md_is 14 = .ok (.getfield 7, 3) := by decide +kernel
theorem d_Md_is_17 : decode b_Md_is 17 = .ok (.iload_n 2, 1) := by decide +kernel
theorem d_Md_is_18 : decode b_Md_is 18 = .ok (.iaload, 1) := by decide +kernel
theorem d_Md_is_19 : decode b_Md_is 19 = .ok (.iadd, 1) := by decide +kernel
theorem d_Md_is_20 : decode b_Md_is 20 = .ok (.if_icmp .ge 7, 3) := by decide +kernel
theorem d_Md_is_23 : decode b_Md_is 23 = .ok (.iconst 1, 1) := by decide +kernel
theorem d_Md_is_24 : decode b_Md_is 24 = .ok (.goto 4, 3) := by decide +kernel
theorem d_Md_is_27 : decode b_Md_is 27 = .ok (.iconst 0, 1) := by decide +kernel
theorem d_Md_is_28 : decode b_Md_is 28 = .ok (.ireturn, 1) := by decide +kernel
theorem d_Md_may_0 : decode b_Md_may 0 = .ok (.aload_n 0, 1) := by decide +kernel
theorem d_Md_may_1 : decode b_Md_may 1 = .ok (.getfield 13, 3) := by decide +kernel
theorem d_Md_may_4 : decode b_Md_may 4 = .ok (.iload_n 1, 1) := by decide +kernel
theorem d_Md_may_5 : decode b_Md_may 5 = .ok (.bipush 100, 2) := by decide +kernel
theorem d_Md_may_7 : decode b_Md_may 7 = .ok (.isub, 1) := by decide +kernel
theorem d_Md_may_8 : decode b_Md_may 8 = .ok (.iaload, 1) := by decide +kernel
theorem d_Md_may_9 : decode b_Md_may 9 = .ok (.iload_n 2, 1) := by decide +kernel
theorem d_Md_may_10 : decode b_Md_may 10 = .ok (.iand, 1) := by decide +kernel
theorem d_Md_may_11 : decode b_Md_may 11 = .ok (.ifCond .le 7, 3) := by decide +kernel
theorem d_Md_may_14 : decode b_Md_may 14 = .ok (.iconst 1, 1) := by decide +kernel
theorem d_Md_may_15 : decode b_Md_may 15 = .ok (.goto 4, 3) := by decide +kernel
theorem d_Md_may_18 : decode b_Md_may 18 = .ok (.iconst 0, 1) := by decide +kernel
theorem d_Md_may_19 : decode b_Md_may 19 = .ok (.ireturn, 1) := by decide +kernel
theorem d_Md_lies_0 : decode b_Md_lies 0 = .ok (.iload_n 0, 1) := by decide +kernel
theorem d_Md_lies_1 : decode b_Md_lies 1 = .ok (.iload_n 1, 1) := by decide +kernel
theorem d_Md_lies_2 : decode b_Md_lies 2 = .ok (.if_icmp .lt 12, 3) := by decide +kernel
theorem d_Md_lies_5 : decode b_Md_lies 5 = .ok (.iload_n 0, 1) := by decide +kernel
theorem d_Md_lies_6 : decode b_Md_lies 6 = .ok (.iload_n 2, 1) := by decide +kernel
theorem d_Md_lies_7 : decode b_Md_lies 7 = .ok (.if_icmp .gt 7, 3) := by decide +kernel
theorem d_Md_lies_10 : decode b_Md_lies 10 = .ok (.iconst 1, 1) := by decide +kernel
theorem d_Md_lies_11 : decode b_Md_lies 11 = .ok (.goto 4, 3) := by decide +kernel
theorem d_Md_lies_14 : decode b_Md_lies 14 = .ok (.iconst 0, 1) := by decide +kernel
theorem d_Md_lies_15 : decode b_Md_lies 15 = .ok (.ireturn, 1) := by decide +kernel
theorem d_Md_isSpan_0 : decode b_Md_isSpan 0 = .ok (.iload_n 0, 1) := by decide +kernel
theorem d_Md_isSpan_1 : decode b_Md_isSpan 1 = .ok (.ifCond .lt 19, 3) := by decide +kernel
theorem d_Md_isSpan_4 : decode b_Md_isSpan 4 = .ok (.iload_n 0, 1) := by decide +kernel
theorem d_Md_isSpan_5 : decode b_Md_isSpan 5 = .ok (.iload_n 1, 1) := by decide +kernel
theorem d_Md_isSpan_6 : decode b_Md_isSpan 6 = .ok (.if_icmp .gt 14, 3) := by decide +kernel
theorem d_Md_isSpan_9 : decode b_Md_isSpan 9 = .ok (.iload_n 1, 1) := by decide +kernel
theorem d_Md_isSpan_10 : decode b_Md_isSpan 10 = .ok (.sipush 9999, 3) := by decide +kernel
theorem d_Md_isSpan_13 : decode b_Md_isSpan 13 = .ok (.if_icmp .gt 7, 3) := by decide +kernel
theorem d_Md_isSpan_16 : decode b_Md_isSpan 16 = .ok (.iconst 1, 1) := by decide +kernel
theorem d_Md_isSpan_17 : decode b_Md_isSpan 17 = .ok (.goto 4, 3) := by decide +kernel
theorem d_Md_isSpan_20 : decode b_Md_isSpan 20 = .ok (.iconst 0, 1) := by decide +kernel
theorem d_Md_isSpan_21 : decode b_Md_isSpan 21 = .ok (.ireturn, 1) := by decide +kernel
theorem d_Md_first_0 : decode b_Md_first 0 = .ok (.iload_n 1, 1) := by decide +kernel
theorem d_Md_first_1 : decode b_Md_first 1 = .ok (.ifCond .eq 12, 3) := by decide +kernel
theorem d_Md_first_4 : decode b_Md_first 4 = .ok (.aload_n 0, 1) := by decide +kernel
theorem d_Md_first_5 : decode b_Md_first 5 = .ok (.iload_n 2, 1) := by decide +kernel
theorem d_Md_first_6 : decode b_Md_first 6 = .ok (.iconst 1, 1) := by decide +kernel
theorem d_Md_first_7 : decode b_Md_first 7 = .ok (.invokevirtual 90, 3) := by decide +kernel
theorem d_Md_first_10 : decode b_Md_first 10 = .ok (.ifCond .ne 5, 3) := by decide +kernel
theorem d_Md_first_13 : decode b_Md_first 13 = .ok (.iconst 1, 1) := by decide +kernel
theorem d_Md_first_14 : decode b_Md_first 14 = .ok (.ireturn, 1) := by decide +kernel
theorem d_Md_first_15 : decode b_Md_first 15 = .ok (.aload_n 0, 1) := by decide +kernel
theorem d_Md_first_16 : decode b_Md_first 16 = .ok (.iload_n 2, 1) := by decide +kernel
theorem d_Md_first_17 : decode b_Md_first 17 = .ok (.iload_n 3, 1) := by decide +kernel
theorem d_Md_first_18 : decode b_Md_first 18 = .ok (.invokevirtual 94, 3) := by decide +kernel
theorem d_Md_first_21 : decode b_Md_first 21 = .ok (.ifCond .ne 7, 3) := by decide +kernel
theorem d_Md_first_24 : decode b_Md_first 24 = .ok (.iconst 2, 1) := by decide +kernel
theorem d_Md_first_25 : decode b_Md_first 25 = .ok (.goto 13, 3) := by decide +kernel
theorem d_Md_first_28 : decode b_Md_first 28 = .ok (.iload 4, 2) := by decide +kernel
theorem d_Md_first_30 : decode b_Md_first 30 = .ok (.ifCond .ne 7, 3) := by decide +kernel
theorem d_Md_first_33 : decode b_Md_first 33 = .ok (.iconst 3, 1) := by decide +kernel
theorem d_Md_first_34 : decode b_Md_first 34 = .ok (.goto 4, 3) := by decide +kernel
theorem d_Md_first_37 : decode b_Md_first 37 = .ok (.iconst 0, 1) := by decide +kernel
theorem d_Md_first_38 : decode b_Md_first 38 = .ok (.ireturn, 1) := by decide +kernel
theorem d_Md_then_0 : decode b_Md_then 0 = .ok (.iload_n 0, 1) := by decide +kernel
theorem d_Md_then_1 : decode b_Md_then 1 = .ok (.ifCond .gt 7, 3) := by decide +kernel
theorem d_Md_then_4 : decode b_Md_then 4 = .ok (.iload_n 1, 1) := by decide +kernel
theorem d_Md_then_5 : decode b_Md_then 5 = .ok (.ifCond .eq 7, 3) := by decide +kernel
theorem d_Md_then_8 : decode b_Md_then 8 = .ok (.iload_n 0, 1) := by decide +kernel
theorem d_Md_then_9 : decode b_Md_then 9 = .ok (.goto 4, 3) := by decide +kernel
theorem d_Md_then_12 : decode b_Md_then 12 = .ok (.iload_n 2, 1) := by decide +kernel
theorem d_Md_then_13 : decode b_Md_then 13 = .ok (.ireturn, 1) := by decide +kernel
theorem d_Md_made_0 : decode b_Md_made 0 = .ok (.aload_n 0, 1) := by decide +kernel
theorem d_Md_made_1 : decode b_Md_made 1 = .ok (.getfield 7, 3) := by decide +kernel
theorem d_Md_made_4 : decode b_Md_made 4 = .ok (.iload_n 1, 1) := by decide +kernel
theorem d_Md_made_5 : decode b_Md_made 5 = .ok (.dup2, 1) := by decide +kernel
theorem d_Md_made_6 : decode b_Md_made 6 = .ok (.iaload, 1) := by decide +kernel
theorem d_Md_made_7 : decode b_Md_made 7 = .ok (.iconst 1, 1) := by decide +kernel
theorem d_Md_made_8 : decode b_Md_made 8 = .ok (.iadd, 1) := by decide +kernel
theorem d_Md_made_9 : decode b_Md_made 9 = .ok (.iastore, 1) := by decide +kernel
theorem d_Md_made_10 : decode b_Md_made 10 = .ok (.bipush 100, 2) := by decide +kernel
theorem d_Md_made_12 : decode b_Md_made 12 = .ok (.iload_n 1, 1) := by decide +kernel
theorem d_Md_made_13 : decode b_Md_made 13 = .ok (.imul, 1) := by decide +kernel
theorem d_Md_made_14 : decode b_Md_made 14 = .ok (.aload_n 0, 1) := by decide +kernel
theorem d_Md_made_15 : decode b_Md_made 15 = .ok (.getfield 7, 3) := by decide +kernel
theorem d_Md_made_18 : decode b_Md_made 18 = .ok (.iload_n 1, 1) := by decide +kernel
theorem d_Md_made_19 : decode b_Md_made 19 = .ok (.iaload, 1) := by decide +kernel
theorem d_Md_made_20 : decode b_Md_made 20 = .ok (.iadd, 1) := by decide +kernel
theorem d_Md_made_21 : decode b_Md_made 21 = .ok (.iconst 1, 1) := by decide +kernel
theorem d_Md_made_22 : decode b_Md_made 22 = .ok (.isub, 1) := by decide +kernel
theorem d_Md_made_23 : decode b_Md_made 23 = .ok (.ireturn, 1) := by decide +kernel
theorem d_Md_desk_0 : decode b_Md_desk 0 = .ok (.aload_n 0, 1) := by decide +kernel
theorem d_Md_desk_1 : decode b_Md_desk 1 = .ok (.iconst 1, 1) := by decide +kernel
theorem d_Md_desk_2 : decode b_Md_desk 2 = .ok (.iload_n 1, 1) := by decide +kernel
theorem d_Md_desk_3 : decode b_Md_desk 3 = .ok (.iconst 1, 1) := by decide +kernel
theorem d_Md_desk_4 : decode b_Md_desk 4 = .ok (.aload_n 0, 1) := by decide +kernel
theorem d_Md_desk_5 : decode b_Md_desk 5 = .ok (.getfield 7, 3) := by decide +kernel
theorem d_Md_desk_8 : decode b_Md_desk 8 = .ok (.iconst 1, 1) := by decide +kernel
theorem d_Md_desk_9 : decode b_Md_desk 9 = .ok (.iaload, 1) := by decide +kernel
theorem d_Md_desk_10 : decode b_Md_desk 10 = .ok (.bipush 6, 2) := by decide +kernel
theorem d_Md_desk_12 : decode b_Md_desk 12 = .ok (.if_icmp .ge 7, 3) := by decide +kernel
theorem d_Md_desk_15 : decode b_Md_desk 15 = .ok (.iconst 1, 1) := by decide +kernel
theorem d_Md_desk_16 : decode b_Md_desk 16 = .ok (.goto 4, 3) := by decide +kernel
theorem d_Md_desk_19 : decode b_Md_desk 19 = .ok (.iconst 0, 1) := by decide +kernel
theorem d_Md_desk_20 : decode b_Md_desk 20 = .ok (.invokevirtual 97, 3) := by decide +kernel
theorem d_Md_desk_23 : decode b_Md_desk 23 = .ok (.istore_n 3, 1) := by decide +kernel
theorem d_Md_desk_24 : decode b_Md_desk 24 = .ok (.iload_n 3, 1) := by decide +kernel
theorem d_Md_desk_25 : decode b_Md_desk 25 = .ok (.iload_n 2, 1) := by decide +kernel
theorem d_Md_desk_26 : decode b_Md_desk 26 = .ok (.iconst 0, 1) := by decide +kernel
theorem d_Md_desk_27 : decode b_Md_desk 27 = .ok (.bipush 63, 2) := by decide +kernel
theorem d_Md_desk_29 : decode b_Md_desk 29 = .ok (.invokestatic 101, 3) := by decide +kernel
theorem d_Md_desk_32 : decode b_Md_desk 32 = .ok (.iconst 4, 1) := by decide +kernel
theorem d_Md_desk_33 : decode b_Md_desk 33 = .ok (.invokestatic 105, 3) := by decide +kernel
theorem d_Md_desk_36 : decode b_Md_desk 36 = .ok (.istore_n 3, 1) := by decide +kernel
theorem d_Md_desk_37 : decode b_Md_desk 37 = .ok (.iload_n 3, 1) := by decide +kernel
theorem d_Md_desk_38 : decode b_Md_desk 38 = .ok (.iload_n 3, 1) := by decide +kernel
theorem d_Md_desk_39 : decode b_Md_desk 39 = .ok (.ifCond .gt 19, 3) := by decide +kernel
theorem d_Md_desk_42 : decode b_Md_desk 42 = .ok (.iload_n 2, 1) := by decide +kernel
theorem d_Md_desk_43 : decode b_Md_desk 43 = .ok (.aload_n 0, 1) := by decide +kernel
theorem d_Md_desk_44 : decode b_Md_desk 44 = .ok (.getfield 13, 3) := by decide +kernel
theorem d_Md_desk_47 : decode b_Md_desk 47 = .ok (.iload_n 1, 1) := by decide +kernel
theorem d_Md_desk_48 : decode b_Md_desk 48 = .ok (.bipush 100, 2) := by decide +kernel
theorem d_Md_desk_50 : decode b_Md_desk 50 = .ok (.isub, 1) := by decide +kernel
theorem d_Md_desk_51 : decode b_Md_desk 51 = .ok (.iaload, 1) := by decide +kernel
theorem d_Md_desk_52 : decode b_Md_desk 52 = .ok (.iconst (-1), 1) := by decide +kernel
theorem d_Md_desk_53 : decode b_Md_desk 53 = .ok (.ixor, 1) := by decide +kernel
theorem d_Md_desk_54 : decode b_Md_desk 54 = .ok (.iand, 1) := by decide +kernel
theorem d_Md_desk_55 : decode b_Md_desk 55 = .ok (.ifCond .ne 7, 3) := by decide +kernel
theorem d_Md_desk_58 : decode b_Md_desk 58 = .ok (.iconst 1, 1) := by decide +kernel
theorem d_Md_desk_59 : decode b_Md_desk 59 = .ok (.goto 4, 3) := by decide +kernel
theorem d_Md_desk_62 : decode b_Md_desk 62 = .ok (.iconst 0, 1) := by decide +kernel
theorem d_Md_desk_63 : decode b_Md_desk 63 = .ok (.iconst 5, 1) := by decide +kernel
theorem d_Md_desk_64 : decode b_Md_desk 64 = .ok (.invokestatic 105, 3) := by decide +kernel
theorem d_Md_desk_67 : decode b_Md_desk 67 = .ok (.istore_n 3, 1) := by decide +kernel
theorem d_Md_desk_68 : decode b_Md_desk 68 = .ok (.aload_n 0, 1) := by decide +kernel
theorem d_Md_desk_69 : decode b_Md_desk 69 = .ok (.iload_n 3, 1) := by decide +kernel
theorem d_Md_desk_70 : decode b_Md_desk 70 = .ok (.invokevirtual 109, 3) := by decide +kernel
theorem d_Md_desk_73 : decode b_Md_desk 73 = .ok (.ifCond .ne 5, 3) := by decide +kernel
theorem d_Md_desk_76 : decode b_Md_desk 76 = .ok (.iconst 0, 1) := by decide +kernel
theorem d_Md_desk_77 : decode b_Md_desk 77 = .ok (.ireturn, 1) := by decide +kernel
theorem d_Md_desk_78 : decode b_Md_desk 78 = .ok (.aload_n 0, 1) := by decide +kernel
theorem d_Md_desk_79 : decode b_Md_desk 79 = .ok (.getfield 13, 3) := by decide +kernel
theorem d_Md_desk_82 : decode b_Md_desk 82 = .ok (.aload_n 0, 1) := by decide +kernel
theorem d_Md_desk_83 : decode b_Md_desk 83 = .ok (.getfield 7, 3) := by decide +kernel
theorem d_Md_desk_86 : decode b_Md_desk 86 = .ok (.iconst 1, 1) := by decide +kernel
theorem d_Md_desk_87 : decode b_Md_desk 87 = .ok (.iaload, 1) := by decide +kernel
theorem d_Md_desk_88 : decode b_Md_desk 88 = .ok (.iload_n 2, 1) := by decide +kernel
theorem d_Md_desk_89 : decode b_Md_desk 89 = .ok (.iastore, 1) := by decide +kernel
theorem d_Md_desk_90 : decode b_Md_desk 90 = .ok (.aload_n 0, 1) := by decide +kernel
theorem d_Md_desk_91 : decode b_Md_desk 91 = .ok (.iconst 1, 1) := by decide +kernel
theorem d_Md_desk_92 : decode b_Md_desk 92 = .ok (.invokevirtual 113, 3) := by decide +kernel
theorem d_Md_desk_95 : decode b_Md_desk 95 = .ok (.ireturn, 1) := by decide +kernel
theorem d_Md_day_0 : decode b_Md_day 0 = .ok (.iload_n 1, 1) := by decide +kernel
theorem d_Md_day_1 : decode b_Md_day 1 = .ok (.iconst 0, 1) := by decide +kernel
theorem d_Md_day_2 : decode b_Md_day 2 = .ok (.sipush 1000, 3) := by decide +kernel
theorem d_Md_day_5 : decode b_Md_day 5 = .ok (.invokestatic 101, 3) := by decide +kernel
theorem d_Md_day_8 : decode b_Md_day 8 = .ok (.ifCond .eq 19, 3) := by decide +kernel
theorem d_Md_day_11 : decode b_Md_day 11 = .ok (.aload_n 0, 1) := by decide +kernel
theorem d_Md_day_12 : decode b_Md_day 12 = .ok (.getfield 117, 3) := by decide +kernel
theorem d_Md_day_15 : decode b_Md_day 15 = .ok (.iload_n 1, 1) := by decide +kernel
theorem d_Md_day_16 : decode b_Md_day 16 = .ok (.iadd, 1) := by decide +kernel
theorem d_Md_day_17 : decode b_Md_day 17 = .ok (.sipush 9999, 3) := by decide +kernel
theorem d_Md_day_20 : decode b_Md_day 20 = .ok (.if_icmp .gt 7, 3) := by decide +kernel
theorem d_Md_day_23 : decode b_Md_day 23 = .ok (.iconst 1, 1) := by decide +kernel
theorem d_Md_day_24 : decode b_Md_day 24 = .ok (.goto 4, 3) := by decide +kernel
theorem d_Md_day_27 : decode b_Md_day 27 = .ok (.iconst 0, 1) := by decide +kernel
theorem d_Md_day_28 : decode b_Md_day 28 = .ok (.istore_n 2, 1) := by decide +kernel
theorem d_Md_day_29 : decode b_Md_day 29 = .ok (.aload_n 0, 1) := by decide +kernel
theorem d_Md_day_30 : decode b_Md_day 30 = .ok (.iload_n 2, 1) := by decide +kernel
theorem d_Md_day_31 : decode b_Md_day 31 = .ok (.ifCond .eq 10, 3) := by decide +kernel
theorem d_Md_day_34 : decode b_Md_day 34 = .ok (.aload_n 0, 1) := by decide +kernel
theorem d_Md_day_35 : decode b_Md_day 35 = .ok (.getfield 87, 3) := by decide +kernel
theorem d_Md_day_38 : decode b_Md_day 38 = .ok (.goto 4, 3) := by decide +kernel
theorem d_Md_day_41 : decode b_Md_day 41 = .ok (.iconst 4, 1) := by decide +kernel
theorem d_Md_day_42 : decode b_Md_day 42 = .ok (.putfield 87, 3) := by decide +kernel
theorem d_Md_day_45 : decode b_Md_day 45 = .ok (.aload_n 0, 1) := by decide +kernel
theorem d_Md_day_46 : decode b_Md_day 46 = .ok (.iload_n 2, 1) := by decide +kernel
theorem d_Md_day_47 : decode b_Md_day 47 = .ok (.ifCond .eq 7, 3) := by decide +kernel
theorem d_Md_day_50 : decode b_Md_day 50 = .ok (.iconst 0, 1) := by decide +kernel
theorem d_Md_day_51 : decode b_Md_day 51 = .ok (.goto 4, 3) := by decide +kernel
theorem d_Md_day_54 : decode b_Md_day 54 = .ok (.iconst 1, 1) := by decide +kernel
theorem d_Md_day_55 : decode b_Md_day 55 = .ok (.putfield 83, 3) := by decide +kernel
theorem d_Md_day_58 : decode b_Md_day 58 = .ok (.aload_n 0, 1) := by decide +kernel
theorem d_Md_day_59 : decode b_Md_day 59 = .ok (.iload_n 2, 1) := by decide +kernel
theorem d_Md_day_60 : decode b_Md_day 60 = .ok (.ifCond .eq 12, 3) := by decide +kernel
theorem d_Md_day_63 : decode b_Md_day 63 = .ok (.aload_n 0, 1) := by decide +kernel
theorem d_Md_day_64 : decode b_Md_day 64 = .ok (.getfield 117, 3) := by decide +kernel
theorem d_Md_day_67 : decode b_Md_day 67 = .ok (.iload_n 1, 1) := by decide +kernel
theorem d_Md_day_68 : decode b_Md_day 68 = .ok (.iadd, 1) := by decide +kernel
theorem d_Md_day_69 : decode b_Md_day 69 = .ok (.goto 7, 3) := by decide +kernel
theorem d_Md_day_72 : decode b_Md_day 72 = .ok (.aload_n 0, 1) := by decide +kernel
theorem d_Md_day_73 : decode b_Md_day 73 = .ok (.getfield 117, 3) := by decide +kernel
theorem d_Md_day_76 : decode b_Md_day 76 = .ok (.putfield 117, 3) := by decide +kernel
theorem d_Md_day_79 : decode b_Md_day 79 = .ok (.iload_n 2, 1) := by decide +kernel
theorem d_Md_day_80 : decode b_Md_day 80 = .ok (.ifCond .eq 10, 3) := by decide +kernel
theorem d_Md_day_83 : decode b_Md_day 83 = .ok (.aload_n 0, 1) := by decide +kernel
theorem d_Md_day_84 : decode b_Md_day 84 = .ok (.getfield 117, 3) := by decide +kernel
theorem d_Md_day_87 : decode b_Md_day 87 = .ok (.goto 4, 3) := by decide +kernel
theorem d_Md_day_90 : decode b_Md_day 90 = .ok (.iconst 0, 1) := by decide +kernel
theorem d_Md_day_91 : decode b_Md_day 91 = .ok (.ireturn, 1) := by decide +kernel
theorem d_Md_site_0 : decode b_Md_site 0 = .ok (.aload_n 0, 1) := by decide +kernel
theorem d_Md_site_1 : decode b_Md_site 1 = .ok (.aload_n 0, 1) := by decide +kernel
theorem d_Md_site_2 : decode b_Md_site 2 = .ok (.iconst 1, 1) := by decide +kernel
theorem d_Md_site_3 : decode b_Md_site 3 = .ok (.iload_n 1, 1) := by decide +kernel
theorem d_Md_site_4 : decode b_Md_site 4 = .ok (.iconst 2, 1) := by decide +kernel
theorem d_Md_site_5 : decode b_Md_site 5 = .ok (.aload_n 0, 1) := by decide +kernel
theorem d_Md_site_6 : decode b_Md_site 6 = .ok (.getfield 7, 3) := by decide +kernel
theorem d_Md_site_9 : decode b_Md_site 9 = .ok (.iconst 2, 1) := by decide +kernel
theorem d_Md_site_10 : decode b_Md_site 10 = .ok (.iaload, 1) := by decide +kernel
theorem d_Md_site_11 : decode b_Md_site 11 = .ok (.iconst 4, 1) := by decide +kernel
theorem d_Md_site_12 : decode b_Md_site 12 = .ok (.if_icmp .ge 7, 3) := by decide +kernel
theorem d_Md_site_15 : decode b_Md_site 15 = .ok (.iconst 1, 1) := by decide +kernel
theorem d_Md_site_16 : decode b_Md_site 16 = .ok (.goto 4, 3) := by decide +kernel
theorem d_Md_site_19 : decode b_Md_site 19 = .ok (.iconst 0, 1) := by decide +kernel
theorem d_Md_site_20 : decode b_Md_site 20 = .ok (.invokevirtual 97, 3) := by decide +kernel
theorem d_Md_site_23 : decode b_Md_site 23 = .ok (.invokevirtual 109, 3) := by decide +kernel
theorem d_Md_site_26 : decode b_Md_site 26 = .ok (.ifCond .eq 11, 3) := by decide +kernel
theorem d_Md_site_29 : decode b_Md_site 29 = .ok (.aload_n 0, 1) := by decide +kernel
theorem d_Md_site_30 : decode b_Md_site 30 = .ok (.iconst 2, 1) := by decide +kernel
theorem d_Md_site_31 : decode b_Md_site 31 = .ok (.invokevirtual 113, 3) := by decide +kernel
theorem d_Md_site_34 : decode b_Md_site 34 = .ok (.goto 4, 3) := by decide +kernel
theorem d_Md_site_37 : decode b_Md_site 37 = .ok (.iconst 0, 1) := by decide +kernel
theorem d_Md_site_38 : decode b_Md_site 38 = .ok (.ireturn, 1) := by decide +kernel
theorem d_Md_context_0 : decode b_Md_context 0 = .ok (.aload_n 0, 1) := by decide +kernel
theorem d_Md_context_1 : decode b_Md_context 1 = .ok (.aload_n 0, 1) := by decide +kernel
theorem d_Md_context_2 : decode b_Md_context 2 = .ok (.aload_n 0, 1) := by decide +kernel
theorem d_Md_context_3 : decode b_Md_context 3 = .ok (.iload_n 2, 1) := by decide +kernel
theorem d_Md_context_4 : decode b_Md_context 4 = .ok (.iconst 2, 1) := by decide +kernel
theorem d_Md_context_5 : decode b_Md_context 5 = .ok (.invokevirtual 90, 3) := by decide +kernel
theorem d_Md_context_8 : decode b_Md_context 8 = .ok (.iload_n 1, 1) := by decide +kernel
theorem d_Md_context_9 : decode b_Md_context 9 = .ok (.iconst 2, 1) := by decide +kernel
theorem d_Md_context_10 : decode b_Md_context 10 = .ok (.aload_n 0, 1) := by decide +kernel
theorem d_Md_context_11 : decode b_Md_context 11 = .ok (.getfield 7, 3) := by decide +kernel
theorem d_Md_context_14 : decode b_Md_context 14 = .ok (.iconst 3, 1) := by decide +kernel
theorem d_Md_context_15 : decode b_Md_context 15 = .ok (.iaload, 1) := by decide +kernel
theorem d_Md_context_16 : decode b_Md_context 16 = .ok (.bipush 20, 2) := by decide +kernel
theorem d_Md_context_18 : decode b_Md_context 18 = .ok (.if_icmp .ge 7, 3) := by decide +kernel
theorem d_Md_context_21 : decode b_Md_context 21 = .ok (.iconst 1, 1) := by decide +kernel
theorem d_Md_context_22 : decode b_Md_context 22 = .ok (.goto 4, 3) := by decide +kernel
theorem d_Md_context_25 : decode b_Md_context 25 = .ok (.iconst 0, 1) := by decide +kernel
theorem d_Md_context_26 : decode b_Md_context 26 = .ok (.invokevirtual 97, 3) := by decide +kernel
theorem d_Md_context_29 : decode b_Md_context 29 = .ok (.invokevirtual 109, 3) := by decide +kernel
theorem d_Md_context_32 : decode b_Md_context 32 = .ok (.ifCond .ne 5, 3) := by decide +kernel
theorem d_Md_context_35 : decode b_Md_context 35 = .ok (.iconst 0, 1) := by decide +kernel
theorem d_Md_context_36 : decode b_Md_context 36 = .ok (.ireturn, 1) := by decide +kernel
theorem d_Md_context_37 : decode b_Md_context 37 = .ok (.aload_n 0, 1) := by decide +kernel
theorem d_Md_context_38 : decode b_Md_context 38 = .ok (.getfield 16, 3) := by decide +kernel
theorem d_Md_context_41 : decode b_Md_context 41 = .ok (.aload_n 0, 1) := by decide +kernel
theorem d_Md_context_42 : decode b_Md_context 42 = .ok (.getfield 7, 3) := by decide +kernel
theorem d_Md_context_45 : decode b_Md_context 45 = .ok (.iconst 3, 1) := by decide +kernel
theorem d_Md_context_46 : decode b_Md_context 46 = .ok (.iaload, 1) := by decide +kernel
theorem d_Md_context_47 : decode b_Md_context 47 = .ok (.iload_n 2, 1) := by decide +kernel
theorem d_Md_context_48 : decode b_Md_context 48 = .ok (.iastore, 1) := by decide +kernel
theorem d_Md_context_49 : decode b_Md_context 49 = .ok (.aload_n 0, 1) := by decide +kernel
theorem d_Md_context_50 : decode b_Md_context 50 = .ok (.getfield 19, 3) := by decide +kernel
theorem d_Md_context_53 : decode b_Md_context 53 = .ok (.aload_n 0, 1) := by decide +kernel
theorem d_Md_context_54 : decode b_Md_context 54 = .ok (.getfield 7, 3) := by decide +kernel
theorem d_Md_context_57 : decode b_Md_context 57 = .ok (.iconst 3, 1) := by decide +kernel
theorem d_Md_context_58 : decode b_Md_context 58 = .ok (.iaload, 1) := by decide +kernel
theorem d_Md_context_59 : decode b_Md_context 59 = .ok (.iconst 0, 1) := by decide +kernel
theorem d_Md_context_60 : decode b_Md_context 60 = .ok (.iastore, 1) := by decide +kernel
theorem d_Md_context_61 : decode b_Md_context 61 = .ok (.aload_n 0, 1) := by decide +kernel
theorem d_Md_context_62 : decode b_Md_context 62 = .ok (.getfield 22, 3) := by decide +kernel
theorem d_Md_context_65 : decode b_Md_context 65 = .ok (.aload_n 0, 1) := by decide +kernel
theorem d_Md_context_66 : decode b_Md_context 66 = .ok (.getfield 7, 3) := by decide +kernel
theorem d_Md_context_69 : decode b_Md_context 69 = .ok (.iconst 3, 1) := by decide +kernel
theorem d_Md_context_70 : decode b_Md_context 70 = .ok (.iaload, 1) := by decide +kernel
theorem d_Md_context_71 : decode b_Md_context 71 = .ok (.sipush 999, 3) := by decide +kernel
theorem d_Md_context_74 : decode b_Md_context 74 = .ok (.iastore, 1) := by decide +kernel
theorem d_Md_context_75 : decode b_Md_context 75 = .ok (.aload_n 0, 1) := by decide +kernel
theorem d_Md_context_76 : decode b_Md_context 76 = .ok (.iconst 3, 1) := by decide +kernel
theorem d_Md_context_77 : decode b_Md_context 77 = .ok (.invokevirtual 113, 3) := by decide +kernel
theorem d_Md_context_80 : decode b_Md_context 80 = .ok (.ireturn, 1) := by decide +kernel
theorem d_Md_follow_0 : decode b_Md_follow 0 = .ok (.iconst 0, 1) := by decide +kernel
theorem d_Md_follow_1 : decode b_Md_follow 1 = .ok (.istore_n 1, 1) := by decide +kernel
theorem d_Md_follow_2 : decode b_Md_follow 2 = .ok (.iload_n 1, 1) := by decide +kernel
theorem d_Md_follow_3 : decode b_Md_follow 3 = .ok (.sipush 400, 3) := by decide +kernel
theorem d_Md_follow_6 : decode b_Md_follow 6 = .ok (.if_icmp .ge 21, 3) := by decide +kernel
theorem d_Md_follow_9 : decode b_Md_follow 9 = .ok (.aload_n 0, 1) := by decide +kernel
theorem d_Md_follow_10 : decode b_Md_follow 10 = .ok (.getfield 29, 3) := by decide +kernel
theorem d_Md_follow_13 : decode b_Md_follow 13 = .ok (.iload_n 1, 1) := by decide +kernel
theorem d_Md_follow_14 : decode b_Md_follow 14 = .ok (.aload_n 0, 1) := by decide +kernel
theorem d_Md_follow_15 : decode b_Md_follow 15 = .ok (.getfield 25, 3) := by decide +kernel
theorem d_Md_follow_18 : decode b_Md_follow 18 = .ok (.iload_n 1, 1) := by decide +kernel
theorem d_Md_follow_19 : decode b_Md_follow 19 = .ok (.baload, 1) := by decide +kernel
theorem d_Md_follow_20 : decode b_Md_follow 20 = .ok (.bastore, 1) := by decide +kernel
theorem d_Md_follow_21 : decode b_Md_follow 21 = .ok (.iinc 1 1, 3) := by decide +kernel
theorem d_Md_follow_24 : decode b_Md_follow 24 = .ok (.goto (-22), 3) := by decide +kernel
theorem d_Md_follow_27 : decode b_Md_follow 27 = .ok (.iconst 1, 1) := by decide +kernel
theorem d_Md_follow_28 : decode b_Md_follow 28 = .ok (.istore_n 1, 1) := by decide +kernel
theorem d_Md_follow_29 : decode b_Md_follow 29 = .ok (.iload_n 1, 1) := by decide +kernel
theorem d_Md_follow_30 : decode b_Md_follow 30 = .ok (.ifCond .eq 105, 3) := by decide +kernel
theorem d_Md_follow_33 : decode b_Md_follow 33 = .ok (.iconst 0, 1) := by decide +kernel
theorem d_Md_follow_34 : decode b_Md_follow 34 = .ok (.istore_n 1, 1) := by decide +kernel
theorem d_Md_follow_35 : decode b_Md_follow 35 = .ok (.iconst 0, 1) := by decide +kernel
theorem d_Md_follow_36 : decode b_Md_follow 36 = .ok (.istore_n 2, 1) := by decide +kernel
theorem d_Md_follow_37 : decode b_Md_follow 37 = .ok (.iload_n 2, 1) := by decide +kernel
theorem d_Md_follow_38 : decode b_Md_follow 38 = .ok (.sipush 8000, 3) := by decide +kernel
theorem d_Md_follow_41 : decode b_Md_follow 41 = .ok (.if_icmp .ge 91, 3) := by decide +kernel
theorem d_Md_follow_44 : decode b_Md_follow 44 = .ok (.iload_n 2, 1) := by decide +kernel
theorem d_Md_follow_45 : decode b_Md_follow 45 = .ok (.sipush 400, 3) := by decide +kernel
theorem d_Md_follow_48 : decode b_Md_follow 48 = .ok (.idiv, 1) := by decide +kernel
theorem d_Md_follow_49 : decode b_Md_follow 49 = .ok (.istore_n 3, 1) := by decide +kernel
theorem d_Md_follow_50 : decode b_Md_follow 50 = .ok (.iload_n 2, 1) := by decide +kernel
theorem d_Md_follow_51 : decode b_Md_follow 51 = .ok (.bipush 20, 2) := by decide +kernel
theorem d_Md_follow_53 : decode b_Md_follow 53 = .ok (.idiv, 1) := by decide +kernel
theorem d_Md_follow_54 : decode b_Md_follow 54 = .ok (.bipush 20, 2) := by decide +kernel
theorem d_Md_follow_56 : decode b_Md_follow 56 = .ok (.irem, 1) := by decide +kernel
theorem d_Md_follow_57 : decode b_Md_follow 57 = .ok (.istore 4, 2) := by decide +kernel
theorem d_Md_follow_59 : decode b_Md_follow 59 = .ok (.iload_n 2, 1) := by decide +kernel
theorem d_Md_follow_60 : decode b_Md_follow 60 = .ok (.bipush 20, 2) := by decide +kernel
theorem d_Md_follow_62 : decode b_Md_follow 62 = .ok (.irem, 1) := by decide +kernel
theorem d_Md_follow_63 : decode b_Md_follow 63 = .ok (.istore 5, 2) := by decide +kernel
theorem d_Md_follow_65 : decode b_Md_follow 65 = .ok (.aload_n 0, 1) := by decide +kernel
theorem d_Md_follow_66 : decode b_Md_follow 66 = .ok (.getfield 29, 3) := by decide +kernel
theorem d_Md_follow_69 : decode b_Md_follow 69 = .ok (.bipush 20, 2) := by decide +kernel
theorem d_Md_follow_71 : decode b_Md_follow 71 = .ok (.iload_n 3, 1) := by decide +kernel
theorem d_Md_follow_72 : decode b_Md_follow 72 = .ok (.imul, 1) := by decide +kernel
theorem d_Md_follow_73 : decode b_Md_follow 73 = .ok (.iload 4, 2) := by decide +kernel
theorem d_Md_follow_75 : decode b_Md_follow 75 = .ok (.iadd, 1) := by decide +kernel
theorem d_Md_follow_76 : decode b_Md_follow 76 = .ok (.baload, 1) := by decide +kernel
theorem d_Md_follow_77 : decode b_Md_follow 77 = .ok (.ifCond .eq 49, 3) := by decide +kernel
theorem d_Md_follow_80 : decode b_Md_follow 80 = .ok (.aload_n 0, 1) := by decide +kernel
theorem d_Md_follow_81 : decode b_Md_follow 81 = .ok (.getfield 29, 3) := by decide +kernel
theorem d_Md_follow_84 : decode b_Md_follow 84 = .ok (.bipush 20, 2) := by decide +kernel
theorem d_Md_follow_86 : decode b_Md_follow 86 = .ok (.iload 4, 2) := by decide +kernel
theorem d_Md_follow_88 : decode b_Md_follow 88 = .ok (.imul, 1) := by decide +kernel
theorem d_Md_follow_89 : decode b_Md_follow 89 = .ok (.iload 5, 2) := by decide +kernel
theorem d_Md_follow_91 : decode b_Md_follow 91 = .ok (.iadd, 1) := by decide +kernel
theorem d_Md_follow_92 : decode b_Md_follow 92 = .ok (.baload, 1) := by decide +kernel
theorem d_Md_follow_93 : decode b_Md_follow 93 = .ok (.ifCond .eq 33, 3) := by decide +kernel
theorem d_Md_follow_96 : decode b_Md_follow 96 = .ok (.aload_n 0, 1) := by decide +kernel
theorem d_Md_follow_97 : decode b_Md_follow 97 = .ok (.getfield 29, 3) := by decide +kernel
theorem d_Md_follow_100 : decode b_Md_follow 100 = .ok (.bipush 20, 2) := by decide +kernel
theorem d_Md_follow_102 : decode b_Md_follow 102 = .ok (.iload_n 3, 1) := by decide +kernel
theorem d_Md_follow_103 : decode b_Md_follow 103 = .ok (.imul, 1) := by decide +kernel
theorem d_Md_follow_104 : decode b_Md_follow 104 = .ok (.iload 5, 2) := by decide +kernel
theorem d_Md_follow_106 : decode b_Md_follow 106 = .ok (.iadd, 1) := by decide +kernel
theorem d_Md_follow_107 : decode b_Md_follow 107 = .ok (.baload, 1) := by decide +kernel
theorem d_Md_follow_108 : decode b_Md_follow 108 = .ok (.ifCond .ne 18, 3) := by decide +kernel
theorem d_Md_follow_111 : decode b_Md_follow 111 = .ok (.aload_n 0, 1) := by decide +kernel
theorem d_Md_follow_112 : decode b_Md_follow 112 = .ok (.getfield 29, 3) := by decide +kernel
theorem d_Md_follow_115 : decode b_Md_follow 115 = .ok (.bipush 20, 2) := by decide +kernel
theorem d_Md_follow_117 : decode b_Md_follow 117 = .ok (.iload_n 3, 1) := by decide +kernel
theorem d_Md_follow_118 : decode b_Md_follow 118 = .ok (.imul, 1) := by decide +kernel
theorem d_Md_follow_119 : decode b_Md_follow 119 = .ok (.iload 5, 2) := by decide +kernel
theorem d_Md_follow_121 : decode b_Md_follow 121 = .ok (.iadd, 1) := by decide +kernel
theorem d_Md_follow_122 : decode b_Md_follow 122 = .ok (.iconst 1, 1) := by decide +kernel
theorem d_Md_follow_123 : decode b_Md_follow 123 = .ok (.bastore, 1) := by decide +kernel
theorem d_Md_follow_124 : decode b_Md_follow 124 = .ok (.iconst 1, 1) := by decide +kernel
theorem d_Md_follow_125 : decode b_Md_follow 125 = .ok (.istore_n 1, 1) := by decide +kernel
theorem d_Md_follow_126 : decode b_Md_follow 126 = .ok (.iinc 2 1, 3) := by decide +kernel
theorem d_Md_follow_129 : decode b_Md_follow 129 = .ok (.goto (-92), 3) := by decide +kernel
theorem d_Md_follow_132 : decode b_Md_follow 132 = .ok (.goto (-103), 3) := by decide +kernel
theorem d_Md_follow_135 : decode b_Md_follow 135 = .ok (.return_, 1) := by decide +kernel
theorem d_Md_earliest_0 : decode b_Md_earliest 0 = .ok (.aload_n 0, 1) := by decide +kernel
theorem d_Md_earliest_1 : decode b_Md_earliest 1 = .ok (.getfield 19, 3) := by decide +kernel
theorem d_Md_earliest_4 : decode b_Md_earliest 4 = .ok (.iload_n 1, 1) := by decide +kernel
theorem d_Md_earliest_5 : decode b_Md_earliest 5 = .ok (.iaload, 1) := by decide +kernel
theorem d_Md_earliest_6 : decode b_Md_earliest 6 = .ok (.istore_n 2, 1) := by decide +kernel
theorem d_Md_earliest_7 : decode b_Md_earliest 7 = .ok (.iconst 0, 1) := by decide +kernel
theorem d_Md_earliest_8 : decode b_Md_earliest 8 = .ok (.istore_n 3, 1) := by decide +kernel
theorem d_Md_earliest_9 : decode b_Md_earliest 9 = .ok (.iload_n 3, 1) := by decide +kernel
theorem d_Md_earliest_10 : decode b_Md_earliest 10 = .ok (.aload_n 0, 1) := by decide +kernel
theorem d_Md_earliest_11 : decode b_Md_earliest 11 = .ok (.getfield 7, 3) := by decide +kernel
theorem d_Md_earliest_14 : decode b_Md_earliest 14 = .ok (.iconst 3, 1) := by decide +kernel
theorem d_Md_earliest_15 : decode b_Md_earliest 15 = .ok (.iaload, 1) := by decide +kernel
theorem d_Md_earliest_16 : decode b_Md_earliest 16 = .ok (.if_icmp .ge 44, 3) := by decide +kernel
theorem d_Md_earliest_19 : decode b_Md_earliest 19 = .ok (.aload_n 0, 1) := by decide +kernel
theorem d_Md_earliest_20 : decode b_Md_earliest 20 = .ok (.getfield 29, 3) := by decide +kernel
theorem d_Md_earliest_23 : decode b_Md_earliest 23 = .ok (.bipush 20, 2) := by decide +kernel
theorem d_Md_earliest_25 : decode b_Md_earliest 25 = .ok (.iload_n 1, 1) := by decide +kernel
theorem d_Md_earliest_26 : decode b_Md_earliest 26 = .ok (.imul, 1) := by decide +kernel
theorem d_Md_earliest_27 : decode b_Md_earliest 27 = .ok (.iload_n 3, 1) := by decide +kernel
theorem d_Md_earliest_28 : decode b_Md_earliest 28 = .ok (.iadd, 1) := by decide +kernel
theorem d_Md_earliest_29 : decode b_Md_earliest 29 = .ok (.baload, 1) := by decide +kernel
theorem d_Md_earliest_30 : decode b_Md_earliest 30 = .ok (.ifCond .eq 22, 3) := by decide +kernel
theorem d_Md_earliest_33 : decode b_Md_earliest 33 = .ok (.aload_n 0, 1) := by decide +kernel
theorem d_Md_earliest_34 : decode b_Md_earliest 34 = .ok (.getfield 19, 3) := by decide +kernel
theorem d_Md_earliest_37 : decode b_Md_earliest 37 = .ok (.iload_n 3, 1) := by decide +kernel
theorem d_Md_earliest_38 : decode b_Md_earliest 38 = .ok (.iaload, 1) := by decide +kernel
theorem d_Md_earliest_39 : decode b_Md_earliest 39 = .ok (.iload_n 2, 1) := by decide +kernel
theorem d_Md_earliest_40 : decode b_Md_earliest 40 = .ok (.if_icmp .le 12, 3) := by decide +kernel
theorem d_Md_earliest_43 : decode b_Md_earliest 43 = .ok (.aload_n 0, 1) := by decide +kernel
theorem d_Md_earliest_44 : decode b_Md_earliest 44 = .ok (.getfield 19, 3) := by decide +kernel
theorem d_Md_earliest_47 : decode b_Md_earliest 47 = .ok (.iload_n 3, 1) := by decide +kernel
theorem d_Md_earliest_48 : decode b_Md_earliest 48 = .ok (.iaload, 1) := by decide +kernel
theorem d_Md_earliest_49 : decode b_Md_earliest 49 = .ok (.goto 4, 3) := by decide +kernel
theorem d_Md_earliest_52 : decode b_Md_earliest 52 = .ok (.iload_n 2, 1) := by decide +kernel
theorem d_Md_earliest_53 : decode b_Md_earliest 53 = .ok (.istore_n 2, 1) := by decide +kernel
theorem d_Md_earliest_54 : decode b_Md_earliest 54 = .ok (.iinc 3 1, 3) := by decide +kernel
theorem d_Md_earliest_57 : decode b_Md_earliest 57 = .ok (.goto (-48), 3) := by decide +kernel
theorem d_Md_earliest_60 : decode b_Md_earliest 60 = .ok (.iload_n 2, 1) := by decide +kernel
theorem d_Md_earliest_61 : decode b_Md_earliest 61 = .ok (.ireturn, 1) := by decide +kernel
theorem d_Md_latest_0 : decode b_Md_latest 0 = .ok (.aload_n 0, 1) := by decide +kernel
theorem d_Md_latest_1 : decode b_Md_latest 1 = .ok (.getfield 22, 3) := by decide +kernel
theorem d_Md_latest_4 : decode b_Md_latest 4 = .ok (.iload_n 1, 1) := by decide +kernel
theorem d_Md_latest_5 : decode b_Md_latest 5 = .ok (.iaload, 1) := by decide +kernel
theorem d_Md_latest_6 : decode b_Md_latest 6 = .ok (.istore_n 2, 1) := by decide +kernel
theorem d_Md_latest_7 : decode b_Md_latest 7 = .ok (.iconst 0, 1) := by decide +kernel
theorem d_Md_latest_8 : decode b_Md_latest 8 = .ok (.istore_n 3, 1) := by decide +kernel
theorem d_Md_latest_9 : decode b_Md_latest 9 = .ok (.iload_n 3, 1) := by decide +kernel
theorem d_Md_latest_10 : decode b_Md_latest 10 = .ok (.aload_n 0, 1) := by decide +kernel
theorem d_Md_latest_11 : decode b_Md_latest 11 = .ok (.getfield 7, 3) := by decide +kernel
theorem d_Md_latest_14 : decode b_Md_latest 14 = .ok (.iconst 3, 1) := by decide +kernel
theorem d_Md_latest_15 : decode b_Md_latest 15 = .ok (.iaload, 1) := by decide +kernel
theorem d_Md_latest_16 : decode b_Md_latest 16 = .ok (.if_icmp .ge 44, 3) := by decide +kernel
theorem d_Md_latest_19 : decode b_Md_latest 19 = .ok (.aload_n 0, 1) := by decide +kernel
theorem d_Md_latest_20 : decode b_Md_latest 20 = .ok (.getfield 29, 3) := by decide +kernel
theorem d_Md_latest_23 : decode b_Md_latest 23 = .ok (.bipush 20, 2) := by decide +kernel
theorem d_Md_latest_25 : decode b_Md_latest 25 = .ok (.iload_n 3, 1) := by decide +kernel
theorem d_Md_latest_26 : decode b_Md_latest 26 = .ok (.imul, 1) := by decide +kernel
theorem d_Md_latest_27 : decode b_Md_latest 27 = .ok (.iload_n 1, 1) := by decide +kernel
theorem d_Md_latest_28 : decode b_Md_latest 28 = .ok (.iadd, 1) := by decide +kernel
theorem d_Md_latest_29 : decode b_Md_latest 29 = .ok (.baload, 1) := by decide +kernel
theorem d_Md_latest_30 : decode b_Md_latest 30 = .ok (.ifCond .eq 22, 3) := by decide +kernel
theorem d_Md_latest_33 : decode b_Md_latest 33 = .ok (.aload_n 0, 1) := by decide +kernel
theorem d_Md_latest_34 : decode b_Md_latest 34 = .ok (.getfield 22, 3) := by decide +kernel
theorem d_Md_latest_37 : decode b_Md_latest 37 = .ok (.iload_n 3, 1) := by decide +kernel
theorem d_Md_latest_38 : decode b_Md_latest 38 = .ok (.iaload, 1) := by decide +kernel
theorem d_Md_latest_39 : decode b_Md_latest 39 = .ok (.iload_n 2, 1) := by decide +kernel
theorem d_Md_latest_40 : decode b_Md_latest 40 = .ok (.if_icmp .ge 12, 3) := by decide +kernel
theorem d_Md_latest_43 : decode b_Md_latest 43 = .ok (.aload_n 0, 1) := by decide +kernel
theorem d_Md_latest_44 : decode b_Md_latest 44 = .ok (.getfield 22, 3) := by decide +kernel
theorem d_Md_latest_47 : decode b_Md_latest 47 = .ok (.iload_n 3, 1) := by decide +kernel
theorem d_Md_latest_48 : decode b_Md_latest 48 = .ok (.iaload, 1) := by decide +kernel
theorem d_Md_latest_49 : decode b_Md_latest 49 = .ok (.goto 4, 3) := by decide +kernel
theorem d_Md_latest_52 : decode b_Md_latest 52 = .ok (.iload_n 2, 1) := by decide +kernel
theorem d_Md_latest_53 : decode b_Md_latest 53 = .ok (.istore_n 2, 1) := by decide +kernel
theorem d_Md_latest_54 : decode b_Md_latest 54 = .ok (.iinc 3 1, 3) := by decide +kernel
theorem d_Md_latest_57 : decode b_Md_latest 57 = .ok (.goto (-48), 3) := by decide +kernel
theorem d_Md_latest_60 : decode b_Md_latest 60 = .ok (.iload_n 2, 1) := by decide +kernel
theorem d_Md_latest_61 : decode b_Md_latest 61 = .ok (.ireturn, 1) := by decide +kernel
theorem d_Md_fits_0 : decode b_Md_fits 0 = .ok (.aload_n 0, 1) := by decide +kernel
theorem d_Md_fits_1 : decode b_Md_fits 1 = .ok (.invokevirtual 120, 3) := by decide +kernel
theorem d_Md_fits_4 : decode b_Md_fits 4 = .ok (.iconst 1, 1) := by decide +kernel
theorem d_Md_fits_5 : decode b_Md_fits 5 = .ok (.istore_n 1, 1) := by decide +kernel
theorem d_Md_fits_6 : decode b_Md_fits 6 = .ok (.iconst 0, 1) := by decide +kernel
theorem d_Md_fits_7 : decode b_Md_fits 7 = .ok (.istore_n 2, 1) := by decide +kernel
theorem d_Md_fits_8 : decode b_Md_fits 8 = .ok (.iload_n 2, 1) := by decide +kernel
theorem d_Md_fits_9 : decode b_Md_fits 9 = .ok (.aload_n 0, 1) := by decide +kernel
theorem d_Md_fits_10 : decode b_Md_fits 10 = .ok (.getfield 7, 3) := by decide +kernel
theorem d_Md_fits_13 : decode b_Md_fits 13 = .ok (.iconst 3, 1) := by decide +kernel
theorem d_Md_fits_14 : decode b_Md_fits 14 = .ok (.iaload, 1) := by decide +kernel
theorem d_Md_fits_15 : decode b_Md_fits 15 = .ok (.if_icmp .ge 32, 3) := by decide +kernel
theorem d_Md_fits_18 : decode b_Md_fits 18 = .ok (.iload_n 1, 1) := by decide +kernel
theorem d_Md_fits_19 : decode b_Md_fits 19 = .ok (.ifCond .eq 20, 3) := by decide +kernel
theorem d_Md_fits_22 : decode b_Md_fits 22 = .ok (.aload_n 0, 1) := by decide +kernel
theorem d_Md_fits_23 : decode b_Md_fits 23 = .ok (.iload_n 2, 1) := by decide +kernel
theorem d_Md_fits_24 : decode b_Md_fits 24 = .ok (.invokevirtual 123, 3) := by decide +kernel
theorem d_Md_fits_27 : decode b_Md_fits 27 = .ok (.aload_n 0, 1) := by decide +kernel
theorem d_Md_fits_28 : decode b_Md_fits 28 = .ok (.iload_n 2, 1) := by decide +kernel
theorem d_Md_fits_29 : decode b_Md_fits 29 = .ok (.invokevirtual 126, 3) := by decide +kernel
theorem d_Md_fits_32 : decode b_Md_fits 32 = .ok (.if_icmp .gt 7, 3) := by decide +kernel
theorem d_Md_fits_35 : decode b_Md_fits 35 = .ok (.iconst 1, 1) := by decide +kernel
theorem d_Md_fits_36 : decode b_Md_fits 36 = .ok (.goto 4, 3) := by decide +kernel
theorem d_Md_fits_39 : decode b_Md_fits 39 = .ok (.iconst 0, 1) := by decide +kernel
theorem d_Md_fits_40 : decode b_Md_fits 40 = .ok (.istore_n 1, 1) := by decide +kernel
theorem d_Md_fits_41 : decode b_Md_fits 41 = .ok (.iinc 2 1, 3) := by decide +kernel
theorem d_Md_fits_44 : decode b_Md_fits 44 = .ok (.goto (-36), 3) := by decide +kernel
theorem d_Md_fits_47 : decode b_Md_fits 47 = .ok (.iload_n 1, 1) := by decide +kernel
theorem d_Md_fits_48 : decode b_Md_fits 48 = .ok (.ireturn, 1) := by decide +kernel
theorem d_Md_above_0 : decode b_Md_above 0 = .ok (.aload_n 0, 1) := by decide +kernel
theorem d_Md_above_1 : decode b_Md_above 1 = .ok (.aload_n 0, 1) := by decide +kernel
theorem d_Md_above_2 : decode b_Md_above 2 = .ok (.iload_n 2, 1) := by decide +kernel
theorem d_Md_above_3 : decode b_Md_above 3 = .ok (.iconst 3, 1) := by decide +kernel
theorem d_Md_above_4 : decode b_Md_above 4 = .ok (.invokevirtual 90, 3) := by decide +kernel
theorem d_Md_above_7 : decode b_Md_above 7 = .ok (.ifCond .eq 16, 3) := by decide +kernel
theorem d_Md_above_10 : decode b_Md_above 10 = .ok (.aload_n 0, 1) := by decide +kernel
theorem d_Md_above_11 : decode b_Md_above 11 = .ok (.iload_n 3, 1) := by decide +kernel
theorem d_Md_above_12 : decode b_Md_above 12 = .ok (.iconst 3, 1) := by decide +kernel
theorem d_Md_above_13 : decode b_Md_above 13 = .ok (.invokevirtual 90, 3) := by decide +kernel
theorem d_Md_above_16 : decode b_Md_above 16 = .ok (.ifCond .eq 7, 3) := by decide +kernel
theorem d_Md_above_19 : decode b_Md_above 19 = .ok (.iconst 1, 1) := by decide +kernel
theorem d_Md_above_20 : decode b_Md_above 20 = .ok (.goto 4, 3) := by decide +kernel
theorem d_Md_above_23 : decode b_Md_above 23 = .ok (.iconst 0, 1) := by decide +kernel
theorem d_Md_above_24 : decode b_Md_above 24 = .ok (.iload_n 1, 1) := by decide +kernel
theorem d_Md_above_25 : decode b_Md_above 25 = .ok (.iconst 2, 1) := by decide +kernel
theorem d_Md_above_26 : decode b_Md_above 26 = .ok (.iconst 1, 1) := by decide +kernel
theorem d_Md_above_27 : decode b_Md_above 27 = .ok (.invokevirtual 97, 3) := by decide +kernel
theorem d_Md_above_30 : decode b_Md_above 30 = .ok (.istore 4, 2) := by decide +kernel
theorem d_Md_above_32 : decode b_Md_above 32 = .ok (.iload 4, 2) := by decide +kernel
theorem d_Md_above_34 : decode b_Md_above 34 = .ok (.ifCond .le 12, 3) := by decide +kernel
theorem d_Md_above_37 : decode b_Md_above 37 = .ok (.aload_n 0, 1) := by decide +kernel
theorem d_Md_above_38 : decode b_Md_above 38 = .ok (.iload 4, 2) := by decide +kernel
theorem d_Md_above_40 : decode b_Md_above 40 = .ok (.invokevirtual 109, 3) := by decide +kernel
theorem d_Md_above_43 : decode b_Md_above 43 = .ok (.pop, 1) := by decide +kernel
theorem d_Md_above_44 : decode b_Md_above 44 = .ok (.iconst 0, 1) := by decide +kernel
theorem d_Md_above_45 : decode b_Md_above 45 = .ok (.ireturn, 1) := by decide +kernel
theorem d_Md_above_46 : decode b_Md_above 46 = .ok (.iload_n 2, 1) := by decide +kernel
theorem d_Md_above_47 : decode b_Md_above 47 = .ok (.sipush 300, 3) := by decide +kernel
theorem d_Md_above_50 : decode b_Md_above 50 = .ok (.isub, 1) := by decide +kernel
theorem d_Md_above_51 : decode b_Md_above 51 = .ok (.istore 5, 2) := by decide +kernel
theorem d_Md_above_53 : decode b_Md_above 53 = .ok (.iload_n 3, 1) := by decide +kernel
theorem d_Md_above_54 : decode b_Md_above 54 = .ok (.sipush 300, 3) := by decide +kernel
theorem d_Md_above_57 : decode b_Md_above 57 = .ok (.isub, 1) := by decide +kernel
theorem d_Md_above_58 : decode b_Md_above 58 = .ok (.istore 6, 2) := by decide +kernel
theorem d_Md_above_60 : decode b_Md_above 60 = .ok (.aload_n 0, 1) := by decide +kernel
theorem d_Md_above_61 : decode b_Md_above 61 = .ok (.invokevirtual 120, 3) := by decide +kernel
theorem d_Md_above_64 : decode b_Md_above 64 = .ok (.aload_n 0, 1) := by decide +kernel
theorem d_Md_above_65 : decode b_Md_above 65 = .ok (.getfield 29, 3) := by decide +kernel
theorem d_Md_above_68 : decode b_Md_above 68 = .ok (.bipush 20, 2) := by decide +kernel
theorem d_Md_above_70 : decode b_Md_above 70 = .ok (.iload 5, 2) := by decide +kernel
theorem d_Md_above_72 : decode b_Md_above 72 = .ok (.imul, 1) := by decide +kernel
theorem d_Md_above_73 : decode b_Md_above 73 = .ok (.iload 6, 2) := by decide +kernel
theorem d_Md_above_75 : decode b_Md_above 75 = .ok (.iadd, 1) := by decide +kernel
theorem d_Md_above_76 : decode b_Md_above 76 = .ok (.baload, 1) := by decide +kernel
theorem d_Md_above_77 : decode b_Md_above 77 = .ok (.istore 7, 2) := by decide +kernel
theorem d_Md_above_79 : decode b_Md_above 79 = .ok (.iload 4, 2) := by decide +kernel
theorem d_Md_above_81 : decode b_Md_above 81 = .ok (.aload_n 0, 1) := by decide +kernel
theorem d_Md_above_82 : decode b_Md_above 82 = .ok (.getfield 16, 3) := by decide +kernel
theorem d_Md_above_85 : decode b_Md_above 85 = .ok (.iload 5, 2) := by decide +kernel
theorem d_Md_above_87 : decode b_Md_above 87 = .ok (.iaload, 1) := by decide +kernel
theorem d_Md_above_88 : decode b_Md_above 88 = .ok (.aload_n 0, 1) := by decide +kernel
theorem d_Md_above_89 : decode b_Md_above 89 = .ok (.getfield 16, 3) := by decide +kernel
theorem d_Md_above_92 : decode b_Md_above 92 = .ok (.iload 6, 2) := by decide +kernel
theorem d_Md_above_94 : decode b_Md_above 94 = .ok (.iaload, 1) := by decide +kernel
theorem d_Md_above_95 : decode b_Md_above 95 = .ok (.if_icmp .ne 7, 3) := by decide +kernel
theorem d_Md_above_98 : decode b_Md_above 98 = .ok (.iconst 1, 1) := by decide +kernel
theorem d_Md_above_99 : decode b_Md_above 99 = .ok (.goto 4, 3) := by decide +kernel
theorem d_Md_above_102 : decode b_Md_above 102 = .ok (.iconst 0, 1) := by decide +kernel
theorem d_Md_above_103 : decode b_Md_above 103 = .ok (.bipush 6, 2) := by decide +kernel
theorem d_Md_above_105 : decode b_Md_above 105 = .ok (.invokestatic 105, 3) := by decide +kernel
theorem d_Md_above_108 : decode b_Md_above 108 = .ok (.istore 4, 2) := by decide +kernel
theorem d_Md_above_110 : decode b_Md_above 110 = .ok (.iload 4, 2) := by decide +kernel
theorem d_Md_above_112 : decode b_Md_above 112 = .ok (.iload 5, 2) := by decide +kernel
theorem d_Md_above_114 : decode b_Md_above 114 = .ok (.iload 6, 2) := by decide +kernel
theorem d_Md_above_116 : decode b_Md_above 116 = .ok (.if_icmp .eq 23, 3) := by decide +kernel
theorem d_Md_above_119 : decode b_Md_above 119 = .ok (.aload_n 0, 1) := by decide +kernel
theorem d_Md_above_120 : decode b_Md_above 120 = .ok (.getfield 29, 3) := by decide +kernel
theorem d_Md_above_123 : decode b_Md_above 123 = .ok (.bipush 20, 2) := by decide +kernel
theorem d_Md_above_125 : decode b_Md_above 125 = .ok (.iload 6, 2) := by decide +kernel
theorem d_Md_above_127 : decode b_Md_above 127 = .ok (.imul, 1) := by decide +kernel
theorem d_Md_above_128 : decode b_Md_above 128 = .ok (.iload 5, 2) := by decide +kernel
theorem d_Md_above_130 : decode b_Md_above 130 = .ok (.iadd, 1) := by decide +kernel
theorem d_Md_above_131 : decode b_Md_above 131 = .ok (.baload, 1) := by decide +kernel
theorem d_Md_above_132 : decode b_Md_above 132 = .ok (.ifCond .ne 7, 3) := by decide +kernel
theorem d_Md_above_135 : decode b_Md_above 135 = .ok (.iconst 1, 1) := by decide +kernel
theorem d_Md_above_136 : decode b_Md_above 136 = .ok (.goto 4, 3) := by decide +kernel
theorem d_Md_above_139 : decode b_Md_above 139 = .ok (.iconst 0, 1) := by decide +kernel
theorem d_Md_above_140 : decode b_Md_above 140 = .ok (.bipush 7, 2) := by decide +kernel
theorem d_Md_above_142 : decode b_Md_above 142 = .ok (.invokestatic 105, 3) := by decide +kernel
theorem d_Md_above_145 : decode b_Md_above 145 = .ok (.istore 4, 2) := by decide +kernel
theorem d_Md_above_147 : decode b_Md_above 147 = .ok (.iload 4, 2) := by decide +kernel
theorem d_Md_above_149 : decode b_Md_above 149 = .ok (.ifCond .ne 75, 3) := by decide +kernel
theorem d_Md_above_152 : decode b_Md_above 152 = .ok (.aload_n 0, 1) := by decide +kernel
theorem d_Md_above_153 : decode b_Md_above 153 = .ok (.getfield 25, 3) := by decide +kernel
theorem d_Md_above_156 : decode b_Md_above 156 = .ok (.bipush 20, 2) := by decide +kernel
theorem d_Md_above_158 : decode b_Md_above 158 = .ok (.iload 5, 2) := by decide +kernel
theorem d_Md_above_160 : decode b_Md_above 160 = .ok (.imul, 1) := by decide +kernel
theorem d_Md_above_161 : decode b_Md_above 161 = .ok (.iload 6, 2) := by decide +kernel
theorem d_Md_above_163 : decode b_Md_above 163 = .ok (.iadd, 1) := by decide +kernel
theorem d_Md_above_164 : decode b_Md_above 164 = .ok (.baload, 1) := by decide +kernel
theorem d_Md_above_165 : decode b_Md_above 165 = .ok (.istore 8, 2) := by decide +kernel
theorem d_Md_above_167 : decode b_Md_above 167 = .ok (.aload_n 0, 1) := by decide +kernel
theorem d_Md_above_168 : decode b_Md_above 168 = .ok (.getfield 25, 3) := by decide +kernel
theorem d_Md_above_171 : decode b_Md_above 171 = .ok (.bipush 20, 2) := by decide +kernel
theorem d_Md_above_173 : decode b_Md_above 173 = .ok (.iload 5, 2) := by decide +kernel
theorem d_Md_above_175 : decode b_Md_above 175 = .ok (.imul, 1) := by decide +kernel
theorem d_Md_above_176 : decode b_Md_above 176 = .ok (.iload 6, 2) := by decide +kernel
theorem d_Md_above_178 : decode b_Md_above 178 = .ok (.iadd, 1) := by decide +kernel
theorem d_Md_above_179 : decode b_Md_above 179 = .ok (.iconst 1, 1) := by decide +kernel
theorem d_Md_above_180 : decode b_Md_above 180 = .ok (.bastore, 1) := by decide +kernel
theorem d_Md_above_181 : decode b_Md_above 181 = .ok (.aload_n 0, 1) := by decide +kernel
theorem d_Md_above_182 : decode b_Md_above 182 = .ok (.invokevirtual 129, 3) := by decide +kernel
theorem d_Md_above_185 : decode b_Md_above 185 = .ok (.ifCond .eq 7, 3) := by decide +kernel
theorem d_Md_above_188 : decode b_Md_above 188 = .ok (.iconst 0, 1) := by decide +kernel
theorem d_Md_above_189 : decode b_Md_above 189 = .ok (.goto 5, 3) := by decide +kernel
theorem d_Md_above_192 : decode b_Md_above 192 = .ok (.bipush 8, 2) := by decide +kernel
theorem d_Md_above_194 : decode b_Md_above 194 = .ok (.istore 4, 2) := by decide +kernel
theorem d_Md_above_196 : decode b_Md_above 196 = .ok (.aload_n 0, 1) := by decide +kernel
theorem d_Md_above_197 : decode b_Md_above 197 = .ok (.getfield 25, 3) := by decide +kernel
theorem d_Md_above_200 : decode b_Md_above 200 = .ok (.bipush 20, 2) := by decide +kernel
theorem d_Md_above_202 : decode b_Md_above 202 = .ok (.iload 5, 2) := by decide +kernel
theorem d_Md_above_204 : decode b_Md_above 204 = .ok (.imul, 1) := by decide +kernel
theorem d_Md_above_205 : decode b_Md_above 205 = .ok (.iload 6, 2) := by decide +kernel
theorem d_Md_above_207 : decode b_Md_above 207 = .ok (.iadd, 1) := by decide +kernel
theorem d_Md_above_208 : decode b_Md_above 208 = .ok (.iload 4, 2) := by decide +kernel
theorem d_Md_above_210 : decode b_Md_above 210 = .ok (.ifCond .eq 8, 3) := by decide +kernel
theorem d_Md_above_213 : decode b_Md_above 213 = .ok (.iload 8, 2) := by decide +kernel
theorem d_Md_above_215 : decode b_Md_above 215 = .ok (.ifCond .eq 7, 3) := by decide +kernel
theorem d_Md_above_218 : decode b_Md_above 218 = .ok (.iconst 1, 1) := by decide +kernel
theorem d_Md_above_219 : decode b_Md_above 219 = .ok (.goto 4, 3) := by decide +kernel
theorem d_Md_above_222 : decode b_Md_above 222 = .ok (.iconst 0, 1) := by decide +kernel
theorem d_Md_above_223 : decode b_Md_above 223 = .ok (.bastore, 1) := by decide +kernel
theorem d_Md_above_224 : decode b_Md_above 224 = .ok (.aload_n 0, 1) := by decide +kernel
theorem d_Md_above_225 : decode b_Md_above 225 = .ok (.iload 4, 2) := by decide +kernel
theorem d_Md_above_227 : decode b_Md_above 227 = .ok (.invokevirtual 109, 3) := by decide +kernel
theorem d_Md_above_230 : decode b_Md_above 230 = .ok (.ifCond .eq 12, 3) := by decide +kernel
theorem d_Md_above_233 : decode b_Md_above 233 = .ok (.iload 7, 2) := by decide +kernel
theorem d_Md_above_235 : decode b_Md_above 235 = .ok (.ifCond .ne 7, 3) := by decide +kernel
theorem d_Md_above_238 : decode b_Md_above 238 = .ok (.iconst 1, 1) := by decide +kernel
theorem d_Md_above_239 : decode b_Md_above 239 = .ok (.goto 4, 3) := by decide +kernel
theorem d_Md_above_242 : decode b_Md_above 242 = .ok (.iconst 0, 1) := by decide +kernel
theorem d_Md_above_243 : decode b_Md_above 243 = .ok (.ireturn, 1) := by decide +kernel
theorem d_Md_span_0 : decode b_Md_span 0 = .ok (.aload_n 0, 1) := by decide +kernel
theorem d_Md_span_1 : decode b_Md_span 1 = .ok (.aload_n 0, 1) := by decide +kernel
theorem d_Md_span_2 : decode b_Md_span 2 = .ok (.iload_n 2, 1) := by decide +kernel
theorem d_Md_span_3 : decode b_Md_span 3 = .ok (.iconst 3, 1) := by decide +kernel
theorem d_Md_span_4 : decode b_Md_span 4 = .ok (.invokevirtual 90, 3) := by decide +kernel
theorem d_Md_span_7 : decode b_Md_span 7 = .ok (.iload_n 1, 1) := by decide +kernel
theorem d_Md_span_8 : decode b_Md_span 8 = .ok (.iconst 2, 1) := by decide +kernel
theorem d_Md_span_9 : decode b_Md_span 9 = .ok (.iconst 1, 1) := by decide +kernel
theorem d_Md_span_10 : decode b_Md_span 10 = .ok (.invokevirtual 97, 3) := by decide +kernel
theorem d_Md_span_13 : decode b_Md_span 13 = .ok (.istore 5, 2) := by decide +kernel
theorem d_Md_span_15 : decode b_Md_span 15 = .ok (.iload 5, 2) := by decide +kernel
theorem d_Md_span_17 : decode b_Md_span 17 = .ok (.iload_n 3, 1) := by decide +kernel
theorem d_Md_span_18 : decode b_Md_span 18 = .ok (.ifCond .lt 21, 3) := by decide +kernel
theorem d_Md_span_21 : decode b_Md_span 21 = .ok (.iload_n 3, 1) := by decide +kernel
theorem d_Md_span_22 : decode b_Md_span 22 = .ok (.iload 4, 2) := by decide +kernel
theorem d_Md_span_24 : decode b_Md_span 24 = .ok (.if_icmp .gt 15, 3) := by decide +kernel
theorem d_Md_span_27 : decode b_Md_span 27 = .ok (.iload 4, 2) := by decide +kernel
theorem d_Md_span_29 : decode b_Md_span 29 = .ok (.sipush 999, 3) := by decide +kernel
theorem d_Md_span_32 : decode b_Md_span 32 = .ok (.if_icmp .gt 7, 3) := by decide +kernel
theorem d_Md_span_35 : decode b_Md_span 35 = .ok (.iconst 1, 1) := by decide +kernel
theorem d_Md_span_36 : decode b_Md_span 36 = .ok (.goto 4, 3) := by decide +kernel
theorem d_Md_span_39 : decode b_Md_span 39 = .ok (.iconst 0, 1) := by decide +kernel
theorem d_Md_span_40 : decode b_Md_span 40 = .ok (.iconst 4, 1) := by decide +kernel
theorem d_Md_span_41 : decode b_Md_span 41 = .ok (.invokestatic 105, 3) := by decide +kernel
theorem d_Md_span_44 : decode b_Md_span 44 = .ok (.istore 5, 2) := by decide +kernel
theorem d_Md_span_46 : decode b_Md_span 46 = .ok (.iload 5, 2) := by decide +kernel
theorem d_Md_span_48 : decode b_Md_span 48 = .ok (.ifCond .le 12, 3) := by decide +kernel
theorem d_Md_span_51 : decode b_Md_span 51 = .ok (.aload_n 0, 1) := by decide +kernel
theorem d_Md_span_52 : decode b_Md_span 52 = .ok (.iload 5, 2) := by decide +kernel
theorem d_Md_span_54 : decode b_Md_span 54 = .ok (.invokevirtual 109, 3) := by decide +kernel
theorem d_Md_span_57 : decode b_Md_span 57 = .ok (.pop, 1) := by decide +kernel
theorem d_Md_span_58 : decode b_Md_span 58 = .ok (.iconst 0, 1) := by decide +kernel
theorem d_Md_span_59 : decode b_Md_span 59 = .ok (.ireturn, 1) := by decide +kernel
theorem d_Md_span_60 : decode b_Md_span 60 = .ok (.iload_n 2, 1) := by decide +kernel
theorem d_Md_span_61 : decode b_Md_span 61 = .ok (.sipush 300, 3) := by decide +kernel
theorem d_Md_span_64 : decode b_Md_span 64 = .ok (.isub, 1) := by decide +kernel
theorem d_Md_span_65 : decode b_Md_span 65 = .ok (.istore 6, 2) := by decide +kernel
theorem d_Md_span_67 : decode b_Md_span 67 = .ok (.aload_n 0, 1) := by decide +kernel
theorem d_Md_span_68 : decode b_Md_span 68 = .ok (.getfield 19, 3) := by decide +kernel
theorem d_Md_span_71 : decode b_Md_span 71 = .ok (.iload 6, 2) := by decide +kernel
theorem d_Md_span_73 : decode b_Md_span 73 = .ok (.iaload, 1) := by decide +kernel
theorem d_Md_span_74 : decode b_Md_span 74 = .ok (.istore 7, 2) := by decide +kernel
theorem d_Md_span_76 : decode b_Md_span 76 = .ok (.aload_n 0, 1) := by decide +kernel
theorem d_Md_span_77 : decode b_Md_span 77 = .ok (.getfield 22, 3) := by decide +kernel
theorem d_Md_span_80 : decode b_Md_span 80 = .ok (.iload 6, 2) := by decide +kernel
theorem d_Md_span_82 : decode b_Md_span 82 = .ok (.iaload, 1) := by decide +kernel
theorem d_Md_span_83 : decode b_Md_span 83 = .ok (.istore 8, 2) := by decide +kernel
theorem d_Md_span_85 : decode b_Md_span 85 = .ok (.aload_n 0, 1) := by decide +kernel
theorem d_Md_span_86 : decode b_Md_span 86 = .ok (.getfield 19, 3) := by decide +kernel
theorem d_Md_span_89 : decode b_Md_span 89 = .ok (.iload 6, 2) := by decide +kernel
theorem d_Md_span_91 : decode b_Md_span 91 = .ok (.iload_n 3, 1) := by decide +kernel
theorem d_Md_span_92 : decode b_Md_span 92 = .ok (.iastore, 1) := by decide +kernel
theorem d_Md_span_93 : decode b_Md_span 93 = .ok (.aload_n 0, 1) := by decide +kernel
theorem d_Md_span_94 : decode b_Md_span 94 = .ok (.getfield 22, 3) := by decide +kernel
theorem d_Md_span_97 : decode b_Md_span 97 = .ok (.iload 6, 2) := by decide +kernel
theorem d_Md_span_99 : decode b_Md_span 99 = .ok (.iload 4, 2) := by decide +kernel
theorem d_Md_span_101 : decode b_Md_span 101 = .ok (.iastore, 1) := by decide +kernel
theorem d_Md_span_102 : decode b_Md_span 102 = .ok (.aload_n 0, 1) := by decide +kernel
theorem d_Md_span_103 : decode b_Md_span 103 = .ok (.invokevirtual 129, 3) := by decide +kernel
theorem d_Md_span_106 : decode b_Md_span 106 = .ok (.ifCond .eq 7, 3) := by decide +kernel
theorem d_Md_span_109 : decode b_Md_span 109 = .ok (.iconst 0, 1) := by decide +kernel
theorem d_Md_span_110 : decode b_Md_span 110 = .ok (.goto 5, 3) := by decide +kernel
theorem d_Md_span_113 : decode b_Md_span 113 = .ok (.bipush 8, 2) := by decide +kernel
theorem d_Md_span_115 : decode b_Md_span 115 = .ok (.istore 5, 2) := by decide +kernel
theorem d_Md_span_117 : decode b_Md_span 117 = .ok (.aload_n 0, 1) := by decide +kernel
theorem d_Md_span_118 : decode b_Md_span 118 = .ok (.getfield 19, 3) := by decide +kernel
theorem d_Md_span_121 : decode b_Md_span 121 = .ok (.iload 6, 2) := by decide +kernel
theorem d_Md_span_123 : decode b_Md_span 123 = .ok (.iload 5, 2) := by decide +kernel
theorem d_Md_span_125 : decode b_Md_span 125 = .ok (.ifCond .ne 7, 3) := by decide +kernel
theorem d_Md_span_128 : decode b_Md_span 128 = .ok (.iload_n 3, 1) := by decide +kernel
theorem d_Md_span_129 : decode b_Md_span 129 = .ok (.goto 5, 3) := by decide +kernel
theorem d_Md_span_132 : decode b_Md_span 132 = .ok (.iload 7, 2) := by decide +kernel
theorem d_Md_span_134 : decode b_Md_span 134 = .ok (.iastore, 1) := by decide +kernel
theorem d_Md_span_135 : decode b_Md_span 135 = .ok (.aload_n 0, 1) := by decide +kernel
theorem d_Md_span_136 : decode b_Md_span 136 = .ok (.getfield 22, 3) := by decide +kernel
theorem d_Md_span_139 : decode b_Md_span 139 = .ok (.iload 6, 2) := by decide +kernel
theorem d_Md_span_141 : decode b_Md_span 141 = .ok (.iload 5, 2) := by decide +kernel
theorem d_Md_span_143 : decode b_Md_span 143 = .ok (.ifCond .ne 8, 3) := by decide +kernel
theorem d_Md_span_146 : decode b_Md_span 146 = .ok (.iload 4, 2) := by decide +kernel
theorem d_Md_span_148 : decode b_Md_span 148 = .ok (.goto 5, 3) := by decide +kernel
theorem d_Md_span_151 : decode b_Md_span 151 = .ok (.iload 8, 2) := by decide +kernel
theorem d_Md_span_153 : decode b_Md_span 153 = .ok (.iastore, 1) := by decide +kernel
theorem d_Md_span_154 : decode b_Md_span 154 = .ok (.aload_n 0, 1) := by decide +kernel
theorem d_Md_span_155 : decode b_Md_span 155 = .ok (.iload 5, 2) := by decide +kernel
theorem d_Md_span_157 : decode b_Md_span 157 = .ok (.invokevirtual 109, 3) := by decide +kernel
theorem d_Md_span_160 : decode b_Md_span 160 = .ok (.ifCond .eq 12, 3) := by decide +kernel
theorem d_Md_span_163 : decode b_Md_span 163 = .ok (.aload_n 0, 1) := by decide +kernel
theorem d_Md_span_164 : decode b_Md_span 164 = .ok (.iload 6, 2) := by decide +kernel
theorem d_Md_span_166 : decode b_Md_span 166 = .ok (.invokevirtual 123, 3) := by decide +kernel
theorem d_Md_span_169 : decode b_Md_span 169 = .ok (.goto 4, 3) := by decide +kernel
theorem d_Md_span_172 : decode b_Md_span 172 = .ok (.iconst 0, 1) := by decide +kernel
theorem d_Md_span_173 : decode b_Md_span 173 = .ok (.ireturn, 1) := by decide +kernel
theorem d_Md_isAbove_0 : decode b_Md_isAbove 0 = .ok (.aload_n 0, 1) := by decide +kernel
theorem d_Md_isAbove_1 : decode b_Md_isAbove 1 = .ok (.aload_n 0, 1) := by decide +kernel
theorem d_Md_isAbove_2 : decode b_Md_isAbove 2 = .ok (.iload_n 1, 1) := by decide +kernel
theorem d_Md_isAbove_3 : decode b_Md_isAbove 3 = .ok (.iconst 3, 1) := by decide +kernel
theorem d_Md_isAbove_4 : decode b_Md_isAbove 4 = .ok (.invokevirtual 90, 3) := by decide +kernel
theorem d_Md_isAbove_7 : decode b_Md_isAbove 7 = .ok (.ifCond .eq 16, 3) := by decide +kernel
theorem d_Md_isAbove_10 : decode b_Md_isAbove 10 = .ok (.aload_n 0, 1) := by decide +kernel
theorem d_Md_isAbove_11 : decode b_Md_isAbove 11 = .ok (.iload_n 2, 1) := by decide +kernel
theorem d_Md_isAbove_12 : decode b_Md_isAbove 12 = .ok (.iconst 3, 1) := by decide +kernel
theorem d_Md_isAbove_13 : decode b_Md_isAbove 13 = .ok (.invokevirtual 90, 3) := by decide +kernel
theorem d_Md_isAbove_16 : decode b_Md_isAbove 16 = .ok (.ifCond .eq 7, 3) := by decide +kernel
theorem d_Md_isAbove_19 : decode b_Md_isAbove 19 = .ok (.iconst 0, 1) := by decide +kernel
theorem d_Md_isAbove_20 : decode b_Md_isAbove 20 = .ok (.goto 4, 3) := by decide +kernel
theorem d_Md_isAbove_23 : decode b_Md_isAbove 23 = .ok (.iconst 1, 1) := by decide +kernel
theorem d_Md_isAbove_24 : decode b_Md_isAbove 24 = .ok (.invokevirtual 109, 3) := by decide +kernel
theorem d_Md_isAbove_27 : decode b_Md_isAbove 27 = .ok (.ifCond .ne 5, 3) := by decide +kernel
theorem d_Md_isAbove_30 : decode b_Md_isAbove 30 = .ok (.iconst 0, 1) := by decide +kernel
theorem d_Md_isAbove_31 : decode b_Md_isAbove 31 = .ok (.ireturn, 1) := by decide +kernel
theorem d_Md_isAbove_32 : decode b_Md_isAbove 32 = .ok (.aload_n 0, 1) := by decide +kernel
theorem d_Md_isAbove_33 : decode b_Md_isAbove 33 = .ok (.invokevirtual 120, 3) := by decide +kernel
theorem d_Md_isAbove_36 : decode b_Md_isAbove 36 = .ok (.aload_n 0, 1) := by decide +kernel
theorem d_Md_isAbove_37 : decode b_Md_isAbove 37 = .ok (.getfield 29, 3) := by decide +kernel
theorem d_Md_isAbove_40 : decode b_Md_isAbove 40 = .ok (.bipush 20, 2) := by decide +kernel
theorem d_Md_isAbove_42 : decode b_Md_isAbove 42 = .ok (.iload_n 1, 1) := by decide +kernel
theorem d_Md_isAbove_43 : decode b_Md_isAbove 43 = .ok (.sipush 300, 3) := by decide +kernel
theorem d_Md_isAbove_46 : decode b_Md_isAbove 46 = .ok (.isub, 1) := by decide +kernel
theorem d_Md_isAbove_47 : decode b_Md_isAbove 47 = .ok (.imul, 1) := by decide +kernel
theorem d_Md_isAbove_48 : decode b_Md_isAbove 48 = .ok (.iload_n 2, 1) := by decide +kernel
theorem d_Md_isAbove_49 : decode b_Md_isAbove 49 = .ok (.iadd, 1) := by decide +kernel
theorem d_Md_isAbove_50 : decode b_Md_isAbove 50 = .ok (.sipush 300, 3) := by decide +kernel
theorem d_Md_isAbove_53 : decode b_Md_isAbove 53 = .ok (.isub, 1) := by decide +kernel
theorem d_Md_isAbove_54 : decode b_Md_isAbove 54 = .ok (.baload, 1) := by decide +kernel
theorem d_Md_isAbove_55 : decode b_Md_isAbove 55 = .ok (.ireturn, 1) := by decide +kernel
theorem d_Md_year_0 : decode b_Md_year 0 = .ok (.aload_n 0, 1) := by decide +kernel
theorem d_Md_year_1 : decode b_Md_year 1 = .ok (.iload_n 1, 1) := by decide +kernel
theorem d_Md_year_2 : decode b_Md_year 2 = .ok (.iconst 3, 1) := by decide +kernel
theorem d_Md_year_3 : decode b_Md_year 3 = .ok (.invokevirtual 90, 3) := by decide +kernel
theorem d_Md_year_6 : decode b_Md_year 6 = .ok (.ifCond .eq 7, 3) := by decide +kernel
theorem d_Md_year_9 : decode b_Md_year 9 = .ok (.iconst 0, 1) := by decide +kernel
theorem d_Md_year_10 : decode b_Md_year 10 = .ok (.goto 4, 3) := by decide +kernel
theorem d_Md_year_13 : decode b_Md_year 13 = .ok (.iconst 1, 1) := by decide +kernel
theorem d_Md_year_14 : decode b_Md_year 14 = .ok (.istore_n 3, 1) := by decide +kernel
theorem d_Md_year_15 : decode b_Md_year 15 = .ok (.iload_n 3, 1) := by decide +kernel
theorem d_Md_year_16 : decode b_Md_year 16 = .ok (.iload_n 2, 1) := by decide +kernel
theorem d_Md_year_17 : decode b_Md_year 17 = .ok (.iconst 0, 1) := by decide +kernel
theorem d_Md_year_18 : decode b_Md_year 18 = .ok (.iconst 1, 1) := by decide +kernel
theorem d_Md_year_19 : decode b_Md_year 19 = .ok (.invokestatic 101, 3) := by decide +kernel
theorem d_Md_year_22 : decode b_Md_year 22 = .ok (.iconst 4, 1) := by decide +kernel
theorem d_Md_year_23 : decode b_Md_year 23 = .ok (.invokestatic 105, 3) := by decide +kernel
theorem d_Md_year_26 : decode b_Md_year 26 = .ok (.istore_n 3, 1) := by decide +kernel
theorem d_Md_year_27 : decode b_Md_year 27 = .ok (.aload_n 0, 1) := by decide +kernel
theorem d_Md_year_28 : decode b_Md_year 28 = .ok (.iload_n 3, 1) := by decide +kernel
theorem d_Md_year_29 : decode b_Md_year 29 = .ok (.invokevirtual 133, 3) := by decide +kernel
theorem d_Md_year_32 : decode b_Md_year 32 = .ok (.ifCond .ne 5, 3) := by decide +kernel
theorem d_Md_year_35 : decode b_Md_year 35 = .ok (.iconst 0, 1) := by decide +kernel
theorem d_Md_year_36 : decode b_Md_year 36 = .ok (.ireturn, 1) := by decide +kernel
theorem d_Md_year_37 : decode b_Md_year 37 = .ok (.aload_n 0, 1) := by decide +kernel
theorem d_Md_year_38 : decode b_Md_year 38 = .ok (.invokevirtual 120, 3) := by decide +kernel
theorem d_Md_year_41 : decode b_Md_year 41 = .ok (.iload_n 2, 1) := by decide +kernel
theorem d_Md_year_42 : decode b_Md_year 42 = .ok (.ifCond .ne 15, 3) := by decide +kernel
theorem d_Md_year_45 : decode b_Md_year 45 = .ok (.aload_n 0, 1) := by decide +kernel
theorem d_Md_year_46 : decode b_Md_year 46 = .ok (.iload_n 1, 1) := by decide +kernel
theorem d_Md_year_47 : decode b_Md_year 47 = .ok (.sipush 300, 3) := by decide +kernel
theorem d_Md_year_50 : decode b_Md_year 50 = .ok (.isub, 1) := by decide +kernel
theorem d_Md_year_51 : decode b_Md_year 51 = .ok (.invokevirtual 123, 3) := by decide +kernel
theorem d_Md_year_54 : decode b_Md_year 54 = .ok (.goto 12, 3) := by decide +kernel
theorem d_Md_year_57 : decode b_Md_year 57 = .ok (.aload_n 0, 1) := by decide +kernel
theorem d_Md_year_58 : decode b_Md_year 58 = .ok (.iload_n 1, 1) := by decide +kernel
theorem d_Md_year_59 : decode b_Md_year 59 = .ok (.sipush 300, 3) := by decide +kernel
theorem d_Md_year_62 : decode b_Md_year 62 = .ok (.isub, 1) := by decide +kernel
theorem d_Md_year_63 : decode b_Md_year 63 = .ok (.invokevirtual 126, 3) := by decide +kernel
theorem d_Md_year_66 : decode b_Md_year 66 = .ok (.ireturn, 1) := by decide +kernel
theorem d_Md_find_0 : decode b_Md_find 0 = .ok (.aload_n 0, 1) := by decide +kernel
theorem d_Md_find_1 : decode b_Md_find 1 = .ok (.aload_n 0, 1) := by decide +kernel
theorem d_Md_find_2 : decode b_Md_find 2 = .ok (.iload_n 2, 1) := by decide +kernel
theorem d_Md_find_3 : decode b_Md_find 3 = .ok (.iconst 3, 1) := by decide +kernel
theorem d_Md_find_4 : decode b_Md_find 4 = .ok (.invokevirtual 90, 3) := by decide +kernel
theorem d_Md_find_7 : decode b_Md_find 7 = .ok (.iload_n 1, 1) := by decide +kernel
theorem d_Md_find_8 : decode b_Md_find 8 = .ok (.iconst 2, 1) := by decide +kernel
theorem d_Md_find_9 : decode b_Md_find 9 = .ok (.aload_n 0, 1) := by decide +kernel
theorem d_Md_find_10 : decode b_Md_find 10 = .ok (.getfield 7, 3) := by decide +kernel
theorem d_Md_find_13 : decode b_Md_find 13 = .ok (.iconst 4, 1) := by decide +kernel
theorem d_Md_find_14 : decode b_Md_find 14 = .ok (.iaload, 1) := by decide +kernel
theorem d_Md_find_15 : decode b_Md_find 15 = .ok (.bipush 30, 2) := by decide +kernel
theorem d_Md_find_17 : decode b_Md_find 17 = .ok (.if_icmp .ge 7, 3) := by decide +kernel
theorem d_Md_find_20 : decode b_Md_find 20 = .ok (.iconst 1, 1) := by decide +kernel
theorem d_Md_find_21 : decode b_Md_find 21 = .ok (.goto 4, 3) := by decide +kernel
theorem d_Md_find_24 : decode b_Md_find 24 = .ok (.iconst 0, 1) := by decide +kernel
theorem d_Md_find_25 : decode b_Md_find 25 = .ok (.invokevirtual 97, 3) := by decide +kernel
theorem d_Md_find_28 : decode b_Md_find 28 = .ok (.istore 4, 2) := by decide +kernel
theorem d_Md_find_30 : decode b_Md_find 30 = .ok (.aload_n 0, 1) := by decide +kernel
theorem d_Md_find_31 : decode b_Md_find 31 = .ok (.iload 4, 2) := by decide +kernel
theorem d_Md_find_33 : decode b_Md_find 33 = .ok (.iload_n 3, 1) := by decide +kernel
theorem d_Md_find_34 : decode b_Md_find 34 = .ok (.iconst 0, 1) := by decide +kernel
theorem d_Md_find_35 : decode b_Md_find 35 = .ok (.aload_n 0, 1) := by decide +kernel
theorem d_Md_find_36 : decode b_Md_find 36 = .ok (.getfield 117, 3) := by decide +kernel
theorem d_Md_find_39 : decode b_Md_find 39 = .ok (.invokestatic 101, 3) := by decide +kernel
theorem d_Md_find_42 : decode b_Md_find 42 = .ok (.iconst 4, 1) := by decide +kernel
theorem d_Md_find_43 : decode b_Md_find 43 = .ok (.invokestatic 105, 3) := by decide +kernel
theorem d_Md_find_46 : decode b_Md_find 46 = .ok (.invokevirtual 109, 3) := by decide +kernel
theorem d_Md_find_49 : decode b_Md_find 49 = .ok (.ifCond .ne 5, 3) := by decide +kernel
theorem d_Md_find_52 : decode b_Md_find 52 = .ok (.iconst 0, 1) := by decide +kernel
theorem d_Md_find_53 : decode b_Md_find 53 = .ok (.ireturn, 1) := by decide +kernel
theorem d_Md_find_54 : decode b_Md_find 54 = .ok (.aload_n 0, 1) := by decide +kernel
theorem d_Md_find_55 : decode b_Md_find 55 = .ok (.getfield 32, 3) := by decide +kernel
theorem d_Md_find_58 : decode b_Md_find 58 = .ok (.aload_n 0, 1) := by decide +kernel
theorem d_Md_find_59 : decode b_Md_find 59 = .ok (.getfield 7, 3) := by decide +kernel
theorem d_Md_find_62 : decode b_Md_find 62 = .ok (.iconst 4, 1) := by decide +kernel
theorem d_Md_find_63 : decode b_Md_find 63 = .ok (.iaload, 1) := by decide +kernel
theorem d_Md_find_64 : decode b_Md_find 64 = .ok (.iload_n 2, 1) := by decide +kernel
theorem d_Md_find_65 : decode b_Md_find 65 = .ok (.iastore, 1) := by decide +kernel
theorem d_Md_find_66 : decode b_Md_find 66 = .ok (.aload_n 0, 1) := by decide +kernel
theorem d_Md_find_67 : decode b_Md_find 67 = .ok (.getfield 35, 3) := by decide +kernel
theorem d_Md_find_70 : decode b_Md_find 70 = .ok (.aload_n 0, 1) := by decide +kernel
theorem d_Md_find_71 : decode b_Md_find 71 = .ok (.getfield 7, 3) := by decide +kernel
theorem d_Md_find_74 : decode b_Md_find 74 = .ok (.iconst 4, 1) := by decide +kernel
theorem d_Md_find_75 : decode b_Md_find 75 = .ok (.iaload, 1) := by decide +kernel
theorem d_Md_find_76 : decode b_Md_find 76 = .ok (.iload_n 3, 1) := by decide +kernel
theorem d_Md_find_77 : decode b_Md_find 77 = .ok (.iastore, 1) := by decide +kernel
theorem d_Md_find_78 : decode b_Md_find 78 = .ok (.aload_n 0, 1) := by decide +kernel
theorem d_Md_find_79 : decode b_Md_find 79 = .ok (.iconst 4, 1) := by decide +kernel
theorem d_Md_find_80 : decode b_Md_find 80 = .ok (.invokevirtual 113, 3) := by decide +kernel
theorem d_Md_find_83 : decode b_Md_find 83 = .ok (.ireturn, 1) := by decide +kernel
theorem d_Md_object_0 : decode b_Md_object 0 = .ok (.aload_n 0, 1) := by decide +kernel
theorem d_Md_object_1 : decode b_Md_object 1 = .ok (.aload_n 0, 1) := by decide +kernel
theorem d_Md_object_2 : decode b_Md_object 2 = .ok (.iload_n 2, 1) := by decide +kernel
theorem d_Md_object_3 : decode b_Md_object 3 = .ok (.iconst 4, 1) := by decide +kernel
theorem d_Md_object_4 : decode b_Md_object 4 = .ok (.invokevirtual 90, 3) := by decide +kernel
theorem d_Md_object_7 : decode b_Md_object 7 = .ok (.iload_n 1, 1) := by decide +kernel
theorem d_Md_object_8 : decode b_Md_object 8 = .ok (.iconst 4, 1) := by decide +kernel
theorem d_Md_object_9 : decode b_Md_object 9 = .ok (.aload_n 0, 1) := by decide +kernel
theorem d_Md_object_10 : decode b_Md_object 10 = .ok (.getfield 7, 3) := by decide +kernel
theorem d_Md_object_13 : decode b_Md_object 13 = .ok (.iconst 5, 1) := by decide +kernel
theorem d_Md_object_14 : decode b_Md_object 14 = .ok (.iaload, 1) := by decide +kernel
theorem d_Md_object_15 : decode b_Md_object 15 = .ok (.bipush 30, 2) := by decide +kernel
theorem d_Md_object_17 : decode b_Md_object 17 = .ok (.if_icmp .ge 7, 3) := by decide +kernel
theorem d_Md_object_20 : decode b_Md_object 20 = .ok (.iconst 1, 1) := by decide +kernel
theorem d_Md_object_21 : decode b_Md_object 21 = .ok (.goto 4, 3) := by decide +kernel
theorem d_Md_object_24 : decode b_Md_object 24 = .ok (.iconst 0, 1) := by decide +kernel
theorem d_Md_object_25 : decode b_Md_object 25 = .ok (.invokevirtual 97, 3) := by decide +kernel
theorem d_Md_object_28 : decode b_Md_object 28 = .ok (.istore_n 3, 1) := by decide +kernel
theorem d_Md_object_29 : decode b_Md_object 29 = .ok (.iconst 0, 1) := by decide +kernel
theorem d_Md_object_30 : decode b_Md_object 30 = .ok (.istore 4, 2) := by decide +kernel
theorem d_Md_object_32 : decode b_Md_object 32 = .ok (.iconst 0, 1) := by decide +kernel
theorem d_Md_object_33 : decode b_Md_object 33 = .ok (.istore 5, 2) := by decide +kernel
theorem d_Md_object_35 : decode b_Md_object 35 = .ok (.iload 5, 2) := by decide +kernel
theorem d_Md_object_37 : decode b_Md_object 37 = .ok (.aload_n 0, 1) := by decide +kernel
theorem d_Md_object_38 : decode b_Md_object 38 = .ok (.getfield 7, 3) := by decide +kernel
theorem d_Md_object_41 : decode b_Md_object 41 = .ok (.iconst 5, 1) := by decide +kernel
theorem d_Md_object_42 : decode b_Md_object 42 = .ok (.iaload, 1) := by decide +kernel
theorem d_Md_object_43 : decode b_Md_object 43 = .ok (.if_icmp .ge 32, 3) := by decide +kernel
theorem d_Md_object_46 : decode b_Md_object 46 = .ok (.iload 4, 2) := by decide +kernel
theorem d_Md_object_48 : decode b_Md_object 48 = .ok (.ifCond .ne 14, 3) := by decide +kernel
theorem d_Md_object_51 : decode b_Md_object 51 = .ok (.aload_n 0, 1) := by decide +kernel
theorem d_Md_object_52 : decode b_Md_object 52 = .ok (.getfield 38, 3) := by decide +kernel
theorem d_Md_object_55 : decode b_Md_object 55 = .ok (.iload 5, 2) := by decide +kernel
theorem d_Md_object_57 : decode b_Md_object 57 = .ok (.iaload, 1) := by decide +kernel
theorem d_Md_object_58 : decode b_Md_object 58 = .ok (.iload_n 2, 1) := by decide +kernel
theorem d_Md_object_59 : decode b_Md_object 59 = .ok (.if_icmp .ne 7, 3) := by decide +kernel
theorem d_Md_object_62 : decode b_Md_object 62 = .ok (.iconst 1, 1) := by decide +kernel
theorem d_Md_object_63 : decode b_Md_object 63 = .ok (.goto 4, 3) := by decide +kernel
theorem d_Md_object_66 : decode b_Md_object 66 = .ok (.iconst 0, 1) := by decide +kernel
theorem d_Md_object_67 : decode b_Md_object 67 = .ok (.istore 4, 2) := by decide +kernel
theorem d_Md_object_69 : decode b_Md_object 69 = .ok (.iinc 5 1, 3) := by decide +kernel
theorem d_Md_object_72 : decode b_Md_object 72 = .ok (.goto (-37), 3) := by decide +kernel
theorem d_Md_object_75 : decode b_Md_object 75 = .ok (.aload_n 0, 1) := by decide +kernel
theorem d_Md_object_76 : decode b_Md_object 76 = .ok (.iload_n 3, 1) := by decide +kernel
theorem d_Md_object_77 : decode b_Md_object 77 = .ok (.iload 4, 2) := by decide +kernel
theorem d_Md_object_79 : decode b_Md_object 79 = .ok (.ifCond .ne 7, 3) := by decide +kernel
theorem d_Md_object_82 : decode b_Md_object 82 = .ok (.iconst 1, 1) := by decide +kernel
theorem d_Md_object_83 : decode b_Md_object 83 = .ok (.goto 4, 3) := by decide +kernel
theorem d_Md_object_86 : decode b_Md_object 86 = .ok (.iconst 0, 1) := by decide +kernel
theorem d_Md_object_87 : decode b_Md_object 87 = .ok (.bipush 9, 2) := by decide +kernel
theorem d_Md_object_89 : decode b_Md_object 89 = .ok (.invokestatic 105, 3) := by decide +kernel
theorem d_Md_object_92 : decode b_Md_object 92 = .ok (.invokevirtual 109, 3) := by decide +kernel
theorem d_Md_object_95 : decode b_Md_object 95 = .ok (.ifCond .ne 5, 3) := by decide +kernel
theorem d_Md_object_98 : decode b_Md_object 98 = .ok (.iconst 0, 1) := by decide +kernel
theorem d_Md_object_99 : decode b_Md_object 99 = .ok (.ireturn, 1) := by decide +kernel
theorem d_Md_object_100 : decode b_Md_object 100 = .ok (.aload_n 0, 1) := by decide +kernel
theorem d_Md_object_101 : decode b_Md_object 101 = .ok (.getfield 38, 3) := by decide +kernel
theorem d_Md_object_104 : decode b_Md_object 104 = .ok (.aload_n 0, 1) := by decide +kernel
theorem d_Md_object_105 : decode b_Md_object 105 = .ok (.getfield 7, 3) := by decide +kernel
theorem d_Md_object_108 : decode b_Md_object 108 = .ok (.iconst 5, 1) := by decide +kernel
theorem d_Md_object_109 : decode b_Md_object 109 = .ok (.iaload, 1) := by decide +kernel
theorem d_Md_object_110 : decode b_Md_object 110 = .ok (.iload_n 2, 1) := by decide +kernel
theorem d_Md_object_111 : decode b_Md_object 111 = .ok (.iastore, 1) := by decide +kernel
theorem d_Md_object_112 : decode b_Md_object 112 = .ok (.aload_n 0, 1) := by decide +kernel
theorem d_Md_object_113 : decode b_Md_object 113 = .ok (.iconst 5, 1) := by decide +kernel
theorem d_Md_object_114 : decode b_Md_object 114 = .ok (.invokevirtual 113, 3) := by decide +kernel
theorem d_Md_object_117 : decode b_Md_object 117 = .ok (.ireturn, 1) := by decide +kernel
theorem d_Md_dayOf_0 : decode b_Md_dayOf 0 = .ok (.aload_n 0, 1) := by decide +kernel
theorem d_Md_dayOf_1 : decode b_Md_dayOf 1 = .ok (.getfield 35, 3) := by decide +kernel
theorem d_Md_dayOf_4 : decode b_Md_dayOf 4 = .ok (.aload_n 0, 1) := by decide +kernel
theorem d_Md_dayOf_5 : decode b_Md_dayOf 5 = .ok (.getfield 38, 3) := by decide +kernel
theorem d_Md_dayOf_8 : decode b_Md_dayOf 8 = .ok (.iload_n 1, 1) := by decide +kernel
theorem d_Md_dayOf_9 : decode b_Md_dayOf 9 = .ok (.sipush 500, 3) := by decide +kernel
theorem d_Md_dayOf_12 : decode b_Md_dayOf 12 = .ok (.isub, 1) := by decide +kernel
theorem d_Md_dayOf_13 : decode b_Md_dayOf 13 = .ok (.iaload, 1) := by decide +kernel
theorem d_Md_dayOf_14 : decode b_Md_dayOf 14 = .ok (.sipush 400, 3) := by decide +kernel
theorem d_Md_dayOf_17 : decode b_Md_dayOf 17 = .ok (.isub, 1) := by decide +kernel
theorem d_Md_dayOf_18 : decode b_Md_dayOf 18 = .ok (.iaload, 1) := by decide +kernel
theorem d_Md_dayOf_19 : decode b_Md_dayOf 19 = .ok (.ireturn, 1) := by decide +kernel
theorem d_Md_store_0 : decode b_Md_store 0 = .ok (.aload_n 0, 1) := by decide +kernel
theorem d_Md_store_1 : decode b_Md_store 1 = .ok (.aload_n 0, 1) := by decide +kernel
theorem d_Md_store_2 : decode b_Md_store 2 = .ok (.iload_n 2, 1) := by decide +kernel
theorem d_Md_store_3 : decode b_Md_store 3 = .ok (.ifCond .eq 13, 3) := by decide +kernel
theorem d_Md_store_6 : decode b_Md_store 6 = .ok (.aload_n 0, 1) := by decide +kernel
theorem d_Md_store_7 : decode b_Md_store 7 = .ok (.iload_n 2, 1) := by decide +kernel
theorem d_Md_store_8 : decode b_Md_store 8 = .ok (.bipush 6, 2) := by decide +kernel
theorem d_Md_store_10 : decode b_Md_store 10 = .ok (.invokevirtual 90, 3) := by decide +kernel
theorem d_Md_store_13 : decode b_Md_store 13 = .ok (.ifCond .eq 7, 3) := by decide +kernel
theorem d_Md_store_16 : decode b_Md_store 16 = .ok (.iconst 1, 1) := by decide +kernel
theorem d_Md_store_17 : decode b_Md_store 17 = .ok (.goto 4, 3) := by decide +kernel
theorem d_Md_store_20 : decode b_Md_store 20 = .ok (.iconst 0, 1) := by decide +kernel
theorem d_Md_store_21 : decode b_Md_store 21 = .ok (.iload_n 1, 1) := by decide +kernel
theorem d_Md_store_22 : decode b_Md_store 22 = .ok (.iconst 4, 1) := by decide +kernel
theorem d_Md_store_23 : decode b_Md_store 23 = .ok (.aload_n 0, 1) := by decide +kernel
theorem d_Md_store_24 : decode b_Md_store 24 = .ok (.getfield 7, 3) := by decide +kernel
theorem d_Md_store_27 : decode b_Md_store 27 = .ok (.bipush 6, 2) := by decide +kernel
theorem d_Md_store_29 : decode b_Md_store 29 = .ok (.iaload, 1) := by decide +kernel
theorem d_Md_store_30 : decode b_Md_store 30 = .ok (.bipush 16, 2) := by decide +kernel
theorem d_Md_store_32 : decode b_Md_store 32 = .ok (.if_icmp .ge 7, 3) := by decide +kernel
theorem d_Md_store_35 : decode b_Md_store 35 = .ok (.iconst 1, 1) := by decide +kernel
theorem d_Md_store_36 : decode b_Md_store 36 = .ok (.goto 4, 3) := by decide +kernel
theorem d_Md_store_39 : decode b_Md_store 39 = .ok (.iconst 0, 1) := by decide +kernel
theorem d_Md_store_40 : decode b_Md_store 40 = .ok (.invokevirtual 97, 3) := by decide +kernel
theorem d_Md_store_43 : decode b_Md_store 43 = .ok (.invokevirtual 109, 3) := by decide +kernel
theorem d_Md_store_46 : decode b_Md_store 46 = .ok (.ifCond .ne 5, 3) := by decide +kernel
theorem d_Md_store_49 : decode b_Md_store 49 = .ok (.iconst 0, 1) := by decide +kernel
theorem d_Md_store_50 : decode b_Md_store 50 = .ok (.ireturn, 1) := by decide +kernel
theorem d_Md_store_51 : decode b_Md_store 51 = .ok (.aload_n 0, 1) := by decide +kernel
theorem d_Md_store_52 : decode b_Md_store 52 = .ok (.getfield 41, 3) := by decide +kernel
theorem d_Md_store_55 : decode b_Md_store 55 = .ok (.aload_n 0, 1) := by decide +kernel
theorem d_Md_store_56 : decode b_Md_store 56 = .ok (.getfield 7, 3) := by decide +kernel
theorem d_Md_store_59 : decode b_Md_store 59 = .ok (.bipush 6, 2) := by decide +kernel
theorem d_Md_store_61 : decode b_Md_store 61 = .ok (.iaload, 1) := by decide +kernel
theorem d_Md_store_62 : decode b_Md_store 62 = .ok (.iload_n 2, 1) := by decide +kernel
theorem d_Md_store_63 : decode b_Md_store 63 = .ok (.ifCond .ne 7, 3) := by decide +kernel
theorem d_Md_store_66 : decode b_Md_store 66 = .ok (.iconst (-1), 1) := by decide +kernel
theorem d_Md_store_67 : decode b_Md_store 67 = .ok (.goto 8, 3) := by decide +kernel
theorem d_Md_store_70 : decode b_Md_store 70 = .ok (.iload_n 2, 1) := by decide +kernel
theorem d_Md_store_71 : decode b_Md_store 71 = .ok (.sipush 600, 3) := by decide +kernel
theorem d_Md_store_74 : decode b_Md_store 74 = .ok (.isub, 1) := by decide +kernel
theorem d_Md_store_75 : decode b_Md_store 75 = .ok (.iastore, 1) := by decide +kernel
theorem d_Md_store_76 : decode b_Md_store 76 = .ok (.aload_n 0, 1) := by decide +kernel
theorem d_Md_store_77 : decode b_Md_store 77 = .ok (.bipush 6, 2) := by decide +kernel
theorem d_Md_store_79 : decode b_Md_store 79 = .ok (.invokevirtual 113, 3) := by decide +kernel
theorem d_Md_store_82 : decode b_Md_store 82 = .ok (.ireturn, 1) := by decide +kernel
theorem d_Md_isIn_0 : decode b_Md_isIn 0 = .ok (.aload_n 0, 1) := by decide +kernel
theorem d_Md_isIn_1 : decode b_Md_isIn 1 = .ok (.getfield 41, 3) := by decide +kernel
theorem d_Md_isIn_4 : decode b_Md_isIn 4 = .ok (.iload_n 1, 1) := by decide +kernel
theorem d_Md_isIn_5 : decode b_Md_isIn 5 = .ok (.iaload, 1) := by decide +kernel
theorem d_Md_isIn_6 : decode b_Md_isIn 6 = .ok (.istore_n 3, 1) := by decide +kernel
theorem d_Md_isIn_7 : decode b_Md_isIn 7 = .ok (.iload_n 3, 1) := by decide +kernel
theorem d_Md_isIn_8 : decode b_Md_isIn 8 = .ok (.iconst (-1), 1) := by decide +kernel
theorem d_Md_isIn_9 : decode b_Md_isIn 9 = .ok (.if_icmp .eq 18, 3) := by decide +kernel
theorem d_Md_isIn_12 : decode b_Md_isIn 12 = .ok (.iload_n 3, 1) := by decide +kernel
theorem d_Md_isIn_13 : decode b_Md_isIn 13 = .ok (.iload_n 2, 1) := by decide +kernel
theorem d_Md_isIn_14 : decode b_Md_isIn 14 = .ok (.if_icmp .eq 13, 3) := by decide +kernel
theorem d_Md_isIn_17 : decode b_Md_isIn 17 = .ok (.aload_n 0, 1) := by decide +kernel
theorem d_Md_isIn_18 : decode b_Md_isIn 18 = .ok (.getfield 41, 3) := by decide +kernel
theorem d_Md_isIn_21 : decode b_Md_isIn 21 = .ok (.iload_n 3, 1) := by decide +kernel
theorem d_Md_isIn_22 : decode b_Md_isIn 22 = .ok (.iaload, 1) := by decide +kernel
theorem d_Md_isIn_23 : decode b_Md_isIn 23 = .ok (.istore_n 3, 1) := by decide +kernel
theorem d_Md_isIn_24 : decode b_Md_isIn 24 = .ok (.goto (-17), 3) := by decide +kernel
theorem d_Md_isIn_27 : decode b_Md_isIn 27 = .ok (.iload_n 3, 1) := by decide +kernel
theorem d_Md_isIn_28 : decode b_Md_isIn 28 = .ok (.iconst (-1), 1) := by decide +kernel
theorem d_Md_isIn_29 : decode b_Md_isIn 29 = .ok (.if_icmp .eq 7, 3) := by decide +kernel
theorem d_Md_isIn_32 : decode b_Md_isIn 32 = .ok (.iconst 1, 1) := by decide +kernel
theorem d_Md_isIn_33 : decode b_Md_isIn 33 = .ok (.goto 4, 3) := by decide +kernel
theorem d_Md_isIn_36 : decode b_Md_isIn 36 = .ok (.iconst 0, 1) := by decide +kernel
theorem d_Md_isIn_37 : decode b_Md_isIn 37 = .ok (.ireturn, 1) := by decide +kernel
theorem d_Md_carry_0 : decode b_Md_carry 0 = .ok (.aload_n 0, 1) := by decide +kernel
theorem d_Md_carry_1 : decode b_Md_carry 1 = .ok (.aload_n 0, 1) := by decide +kernel
theorem d_Md_carry_2 : decode b_Md_carry 2 = .ok (.iload_n 2, 1) := by decide +kernel
theorem d_Md_carry_3 : decode b_Md_carry 3 = .ok (.bipush 6, 2) := by decide +kernel
theorem d_Md_carry_5 : decode b_Md_carry 5 = .ok (.invokevirtual 90, 3) := by decide +kernel
theorem d_Md_carry_8 : decode b_Md_carry 8 = .ok (.ifCond .eq 21, 3) := by decide +kernel
theorem d_Md_carry_11 : decode b_Md_carry 11 = .ok (.iload_n 3, 1) := by decide +kernel
theorem d_Md_carry_12 : decode b_Md_carry 12 = .ok (.ifCond .eq 13, 3) := by decide +kernel
theorem d_Md_carry_15 : decode b_Md_carry 15 = .ok (.aload_n 0, 1) := by decide +kernel
theorem d_Md_carry_16 : decode b_Md_carry 16 = .ok (.iload_n 3, 1) := by decide +kernel
theorem d_Md_carry_17 : decode b_Md_carry 17 = .ok (.bipush 6, 2) := by decide +kernel
theorem d_Md_carry_19 : decode b_Md_carry 19 = .ok (.invokevirtual 90, 3) := by decide +kernel
theorem d_Md_carry_22 : decode b_Md_carry 22 = .ok (.ifCond .eq 7, 3) := by decide +kernel
theorem d_Md_carry_25 : decode b_Md_carry 25 = .ok (.iconst 1, 1) := by decide +kernel
theorem d_Md_carry_26 : decode b_Md_carry 26 = .ok (.goto 4, 3) := by decide +kernel
theorem d_Md_carry_29 : decode b_Md_carry 29 = .ok (.iconst 0, 1) := by decide +kernel
theorem d_Md_carry_30 : decode b_Md_carry 30 = .ok (.iload_n 1, 1) := by decide +kernel
theorem d_Md_carry_31 : decode b_Md_carry 31 = .ok (.iconst 4, 1) := by decide +kernel
theorem d_Md_carry_32 : decode b_Md_carry 32 = .ok (.iconst 1, 1) := by decide +kernel
theorem d_Md_carry_33 : decode b_Md_carry 33 = .ok (.invokevirtual 97, 3) := by decide +kernel
theorem d_Md_carry_36 : decode b_Md_carry 36 = .ok (.istore 4, 2) := by decide +kernel
theorem d_Md_carry_38 : decode b_Md_carry 38 = .ok (.iload 4, 2) := by decide +kernel
theorem d_Md_carry_40 : decode b_Md_carry 40 = .ok (.ifCond .le 12, 3) := by decide +kernel
theorem d_Md_carry_43 : decode b_Md_carry 43 = .ok (.aload_n 0, 1) := by decide +kernel
theorem d_Md_carry_44 : decode b_Md_carry 44 = .ok (.iload 4, 2) := by decide +kernel
theorem d_Md_carry_46 : decode b_Md_carry 46 = .ok (.invokevirtual 109, 3) := by decide +kernel
theorem d_Md_carry_49 : decode b_Md_carry 49 = .ok (.pop, 1) := by decide +kernel
theorem d_Md_carry_50 : decode b_Md_carry 50 = .ok (.iconst 0, 1) := by decide +kernel
theorem d_Md_carry_51 : decode b_Md_carry 51 = .ok (.ireturn, 1) := by decide +kernel
theorem d_Md_carry_52 : decode b_Md_carry 52 = .ok (.iload_n 2, 1) := by decide +kernel
theorem d_Md_carry_53 : decode b_Md_carry 53 = .ok (.sipush 600, 3) := by decide +kernel
theorem d_Md_carry_56 : decode b_Md_carry 56 = .ok (.isub, 1) := by decide +kernel
theorem d_Md_carry_57 : decode b_Md_carry 57 = .ok (.istore 5, 2) := by decide +kernel
theorem d_Md_carry_59 : decode b_Md_carry 59 = .ok (.iload_n 3, 1) := by decide +kernel
theorem d_Md_carry_60 : decode b_Md_carry 60 = .ok (.ifCond .ne 7, 3) := by decide +kernel
theorem d_Md_carry_63 : decode b_Md_carry 63 = .ok (.iconst (-1), 1) := by decide +kernel
theorem d_Md_carry_64 : decode b_Md_carry 64 = .ok (.goto 8, 3) := by decide +kernel
theorem d_Md_carry_67 : decode b_Md_carry 67 = .ok (.iload_n 3, 1) := by decide +kernel
theorem d_Md_carry_68 : decode b_Md_carry 68 = .ok (.sipush 600, 3) := by decide +kernel
theorem d_Md_carry_71 : decode b_Md_carry 71 = .ok (.isub, 1) := by decide +kernel
theorem d_Md_carry_72 : decode b_Md_carry 72 = .ok (.istore 6, 2) := by decide +kernel
theorem d_Md_carry_74 : decode b_Md_carry 74 = .ok (.aload_n 0, 1) := by decide +kernel
theorem d_Md_carry_75 : decode b_Md_carry 75 = .ok (.iload 6, 2) := by decide +kernel
theorem d_Md_carry_77 : decode b_Md_carry 77 = .ok (.iload 5, 2) := by decide +kernel
theorem d_Md_carry_79 : decode b_Md_carry 79 = .ok (.if_icmp .eq 20, 3) := by decide +kernel
theorem d_Md_carry_82 : decode b_Md_carry 82 = .ok (.iload 6, 2) := by decide +kernel
theorem d_Md_carry_84 : decode b_Md_carry 84 = .ok (.iconst (-1), 1) := by decide +kernel
theorem d_Md_carry_85 : decode b_Md_carry 85 = .ok (.if_icmp .eq 19, 3) := by decide +kernel
theorem d_Md_carry_88 : decode b_Md_carry 88 = .ok (.aload_n 0, 1) := by decide +kernel
theorem d_Md_carry_89 : decode b_Md_carry 89 = .ok (.iload 6, 2) := by decide +kernel
theorem d_Md_carry_91 : decode b_Md_carry 91 = .ok (.iload 5, 2) := by decide +kernel
theorem d_Md_carry_93 : decode b_Md_carry 93 = .ok (.invokevirtual 136, 3) := by decide +kernel
theorem d_Md_carry_96 : decode b_Md_carry 96 = .ok (.ifCond .eq 8, 3) := by decide +kernel
theorem d_Md_carry_99 : decode b_Md_carry 99 = .ok (.bipush 10, 2) := by decide +kernel
theorem d_Md_carry_101 : decode b_Md_carry 101 = .ok (.goto 4, 3) := by decide +kernel
theorem d_Md_carry_104 : decode b_Md_carry 104 = .ok (.iconst 0, 1) := by decide +kernel
theorem d_Md_carry_105 : decode b_Md_carry 105 = .ok (.invokevirtual 109, 3) := by decide +kernel

theorem d_Md_carry_108 : decode b_Md_carry 108 = .ok (.ifCond .ne 5, 3) := by decide +kernel
theorem d_Md_carry_111 : decode b_Md_carry 111 = .ok (.iconst 0, 1) := by decide +kernel
theorem d_Md_carry_112 : decode b_Md_carry 112 = .ok (.ireturn, 1) := by decide +kernel
theorem d_Md_carry_113 : decode b_Md_carry 113 = .ok (.aload_n 0, 1) := by decide +kernel
theorem d_Md_carry_114 : decode b_Md_carry 114 = .ok (.getfield 41, 3) := by decide +kernel
theorem d_Md_carry_117 : decode b_Md_carry 117 = .ok (.iload 5, 2) := by decide +kernel
theorem d_Md_carry_119 : decode b_Md_carry 119 = .ok (.iaload, 1) := by decide +kernel
theorem d_Md_carry_120 : decode b_Md_carry 120 = .ok (.istore 7, 2) := by decide +kernel
theorem d_Md_carry_122 : decode b_Md_carry 122 = .ok (.aload_n 0, 1) := by decide +kernel
theorem d_Md_carry_123 : decode b_Md_carry 123 = .ok (.getfield 41, 3) := by decide +kernel
theorem d_Md_carry_126 : decode b_Md_carry 126 = .ok (.iload 5, 2) := by decide +kernel
theorem d_Md_carry_128 : decode b_Md_carry 128 = .ok (.iload 6, 2) := by decide +kernel
theorem d_Md_carry_130 : decode b_Md_carry 130 = .ok (.iastore, 1) := by decide +kernel
theorem d_Md_carry_131 : decode b_Md_carry 131 = .ok (.iload 7, 2) := by decide +kernel
theorem d_Md_carry_133 : decode b_Md_carry 133 = .ok (.iload 6, 2) := by decide +kernel
theorem d_Md_carry_135 : decode b_Md_carry 135 = .ok (.if_icmp .eq 7, 3) := by decide +kernel
theorem d_Md_carry_138 : decode b_Md_carry 138 = .ok (.iconst 1, 1) := by decide +kernel
theorem d_Md_carry_139 : decode b_Md_carry 139 = .ok (.goto 4, 3) := by decide +kernel
theorem d_Md_carry_142 : decode b_Md_carry 142 = .ok (.iconst 0, 1) := by decide +kernel
theorem d_Md_carry_143 : decode b_Md_carry 143 = .ok (.ireturn, 1) := by decide +kernel
theorem d_Md_within_0 : decode b_Md_within 0 = .ok (.aload_n 0, 1) := by decide +kernel
theorem d_Md_within_1 : decode b_Md_within 1 = .ok (.aload_n 0, 1) := by decide +kernel
theorem d_Md_within_2 : decode b_Md_within 2 = .ok (.iload_n 1, 1) := by decide +kernel
theorem d_Md_within_3 : decode b_Md_within 3 = .ok (.bipush 6, 2) := by decide +kernel
theorem d_Md_within_5 : decode b_Md_within 5 = .ok (.invokevirtual 90, 3) := by decide +kernel
theorem d_Md_within_8 : decode b_Md_within 8 = .ok (.ifCond .eq 17, 3) := by decide +kernel
theorem d_Md_within_11 : decode b_Md_within 11 = .ok (.aload_n 0, 1) := by decide +kernel
theorem d_Md_within_12 : decode b_Md_within 12 = .ok (.iload_n 2, 1) := by decide +kernel
theorem d_Md_within_13 : decode b_Md_within 13 = .ok (.bipush 6, 2) := by decide +kernel
theorem d_Md_within_15 : decode b_Md_within 15 = .ok (.invokevirtual 90, 3) := by decide +kernel
theorem d_Md_within_18 : decode b_Md_within 18 = .ok (.ifCond .eq 7, 3) := by decide +kernel
theorem d_Md_within_21 : decode b_Md_within 21 = .ok (.iconst 0, 1) := by decide +kernel
theorem d_Md_within_22 : decode b_Md_within 22 = .ok (.goto 4, 3) := by decide +kernel
theorem d_Md_within_25 : decode b_Md_within 25 = .ok (.iconst 1, 1) := by decide +kernel
theorem d_Md_within_26 : decode b_Md_within 26 = .ok (.invokevirtual 109, 3) := by decide +kernel
theorem d_Md_within_29 : decode b_Md_within 29 = .ok (.ifCond .eq 24, 3) := by decide +kernel
theorem d_Md_within_32 : decode b_Md_within 32 = .ok (.aload_n 0, 1) := by decide +kernel
theorem d_Md_within_33 : decode b_Md_within 33 = .ok (.iload_n 1, 1) := by decide +kernel
theorem d_Md_within_34 : decode b_Md_within 34 = .ok (.sipush 600, 3) := by decide +kernel
theorem d_Md_within_37 : decode b_Md_within 37 = .ok (.isub, 1) := by decide +kernel
theorem d_Md_within_38 : decode b_Md_within 38 = .ok (.iload_n 2, 1) := by decide +kernel
theorem d_Md_within_39 : decode b_Md_within 39 = .ok (.sipush 600, 3) := by decide +kernel
theorem d_Md_within_42 : decode b_Md_within 42 = .ok (.isub, 1) := by decide +kernel
theorem d_Md_within_43 : decode b_Md_within 43 = .ok (.invokevirtual 136, 3) := by decide +kernel
theorem d_Md_within_46 : decode b_Md_within 46 = .ok (.ifCond .eq 7, 3) := by decide +kernel
theorem d_Md_within_49 : decode b_Md_within 49 = .ok (.iconst 1, 1) := by decide +kernel
theorem d_Md_within_50 : decode b_Md_within 50 = .ok (.goto 4, 3) := by decide +kernel
theorem d_Md_within_53 : decode b_Md_within 53 = .ok (.iconst 0, 1) := by decide +kernel
theorem d_Md_within_54 : decode b_Md_within 54 = .ok (.ireturn, 1) := by decide +kernel
theorem d_Md_moveAt_0 : decode b_Md_moveAt 0 = .ok (.iconst (-1), 1) := by decide +kernel
theorem d_Md_moveAt_1 : decode b_Md_moveAt 1 = .ok (.istore_n 3, 1) := by decide +kernel
theorem d_Md_moveAt_2 : decode b_Md_moveAt 2 = .ok (.bipush 12, 2) := by decide +kernel
theorem d_Md_moveAt_4 : decode b_Md_moveAt 4 = .ok (.iload_n 1, 1) := by decide +kernel
theorem d_Md_moveAt_5 : decode b_Md_moveAt 5 = .ok (.imul, 1) := by decide +kernel
theorem d_Md_moveAt_6 : decode b_Md_moveAt 6 = .ok (.istore 4, 2) := by decide +kernel
theorem d_Md_moveAt_8 : decode b_Md_moveAt 8 = .ok (.iload 4, 2) := by decide +kernel
theorem d_Md_moveAt_10 : decode b_Md_moveAt 10 = .ok (.bipush 12, 2) := by decide +kernel
theorem d_Md_moveAt_12 : decode b_Md_moveAt 12 = .ok (.iload_n 1, 1) := by decide +kernel
theorem d_Md_moveAt_13 : decode b_Md_moveAt 13 = .ok (.imul, 1) := by decide +kernel
theorem d_Md_moveAt_14 : decode b_Md_moveAt 14 = .ok (.aload_n 0, 1) := by decide +kernel
theorem d_Md_moveAt_15 : decode b_Md_moveAt 15 = .ok (.getfield 44, 3) := by decide +kernel
theorem d_Md_moveAt_18 : decode b_Md_moveAt 18 = .ok (.iload_n 1, 1) := by decide +kernel
theorem d_Md_moveAt_19 : decode b_Md_moveAt 19 = .ok (.iaload, 1) := by decide +kernel
theorem d_Md_moveAt_20 : decode b_Md_moveAt 20 = .ok (.iadd, 1) := by decide +kernel
theorem d_Md_moveAt_21 : decode b_Md_moveAt 21 = .ok (.if_icmp .ge 27, 3) := by decide +kernel
theorem d_Md_moveAt_24 : decode b_Md_moveAt 24 = .ok (.aload_n 0, 1) := by decide +kernel
theorem d_Md_moveAt_25 : decode b_Md_moveAt 25 = .ok (.getfield 47, 3) := by decide +kernel
theorem d_Md_moveAt_28 : decode b_Md_moveAt 28 = .ok (.iload 4, 2) := by decide +kernel
theorem d_Md_moveAt_30 : decode b_Md_moveAt 30 = .ok (.iaload, 1) := by decide +kernel
theorem d_Md_moveAt_31 : decode b_Md_moveAt 31 = .ok (.iload_n 2, 1) := by decide +kernel
theorem d_Md_moveAt_32 : decode b_Md_moveAt 32 = .ok (.if_icmp .ne 8, 3) := by decide +kernel
theorem d_Md_moveAt_35 : decode b_Md_moveAt 35 = .ok (.iload 4, 2) := by decide +kernel
theorem d_Md_moveAt_37 : decode b_Md_moveAt 37 = .ok (.goto 4, 3) := by decide +kernel
theorem d_Md_moveAt_40 : decode b_Md_moveAt 40 = .ok (.iload_n 3, 1) := by decide +kernel
theorem d_Md_moveAt_41 : decode b_Md_moveAt 41 = .ok (.istore_n 3, 1) := by decide +kernel
theorem d_Md_moveAt_42 : decode b_Md_moveAt 42 = .ok (.iinc 4 1, 3) := by decide +kernel
theorem d_Md_moveAt_45 : decode b_Md_moveAt 45 = .ok (.goto (-37), 3) := by decide +kernel
theorem d_Md_moveAt_48 : decode b_Md_moveAt 48 = .ok (.iload_n 3, 1) := by decide +kernel
theorem d_Md_moveAt_49 : decode b_Md_moveAt 49 = .ok (.ireturn, 1) := by decide +kernel
theorem d_Md_loanAt_0 : decode b_Md_loanAt 0 = .ok (.iconst 0, 1) := by decide +kernel
theorem d_Md_loanAt_1 : decode b_Md_loanAt 1 = .ok (.istore 4, 2) := by decide +kernel
theorem d_Md_loanAt_3 : decode b_Md_loanAt 3 = .ok (.iconst 0, 1) := by decide +kernel
theorem d_Md_loanAt_4 : decode b_Md_loanAt 4 = .ok (.istore 5, 2) := by decide +kernel
theorem d_Md_loanAt_6 : decode b_Md_loanAt 6 = .ok (.iload 5, 2) := by decide +kernel
theorem d_Md_loanAt_8 : decode b_Md_loanAt 8 = .ok (.aload_n 0, 1) := by decide +kernel
theorem d_Md_loanAt_9 : decode b_Md_loanAt 9 = .ok (.getfield 7, 3) := by decide +kernel
theorem d_Md_loanAt_12 : decode b_Md_loanAt 12 = .ok (.bipush 7, 2) := by decide +kernel
theorem d_Md_loanAt_14 : decode b_Md_loanAt 14 = .ok (.iaload, 1) := by decide +kernel
theorem d_Md_loanAt_15 : decode b_Md_loanAt 15 = .ok (.if_icmp .ge 55, 3) := by decide +kernel
theorem d_Md_loanAt_18 : decode b_Md_loanAt 18 = .ok (.aload_n 0, 1) := by decide +kernel
theorem d_Md_loanAt_19 : decode b_Md_loanAt 19 = .ok (.getfield 53, 3) := by decide +kernel
theorem d_Md_loanAt_22 : decode b_Md_loanAt 22 = .ok (.iload 5, 2) := by decide +kernel
theorem d_Md_loanAt_24 : decode b_Md_loanAt 24 = .ok (.iaload, 1) := by decide +kernel
theorem d_Md_loanAt_25 : decode b_Md_loanAt 25 = .ok (.iload_n 1, 1) := by decide +kernel
theorem d_Md_loanAt_26 : decode b_Md_loanAt 26 = .ok (.if_icmp .ne 34, 3) := by decide +kernel
theorem d_Md_loanAt_29 : decode b_Md_loanAt 29 = .ok (.aload_n 0, 1) := by decide +kernel
theorem d_Md_loanAt_30 : decode b_Md_loanAt 30 = .ok (.getfield 56, 3) := by decide +kernel
theorem d_Md_loanAt_33 : decode b_Md_loanAt 33 = .ok (.iload 5, 2) := by decide +kernel
theorem d_Md_loanAt_35 : decode b_Md_loanAt 35 = .ok (.iaload, 1) := by decide +kernel
theorem d_Md_loanAt_36 : decode b_Md_loanAt 36 = .ok (.iload_n 3, 1) := by decide +kernel
theorem d_Md_loanAt_37 : decode b_Md_loanAt 37 = .ok (.if_icmp .gt 23, 3) := by decide +kernel
theorem d_Md_loanAt_40 : decode b_Md_loanAt 40 = .ok (.aload_n 0, 1) := by decide +kernel
theorem d_Md_loanAt_41 : decode b_Md_loanAt 41 = .ok (.getfield 59, 3) := by decide +kernel
theorem d_Md_loanAt_44 : decode b_Md_loanAt 44 = .ok (.iload 5, 2) := by decide +kernel
theorem d_Md_loanAt_46 : decode b_Md_loanAt 46 = .ok (.iaload, 1) := by decide +kernel
theorem d_Md_loanAt_47 : decode b_Md_loanAt 47 = .ok (.iload_n 2, 1) := by decide +kernel
theorem d_Md_loanAt_48 : decode b_Md_loanAt 48 = .ok (.if_icmp .lt 12, 3) := by decide +kernel
theorem d_Md_loanAt_51 : decode b_Md_loanAt 51 = .ok (.sipush 700, 3) := by decide +kernel
theorem d_Md_loanAt_54 : decode b_Md_loanAt 54 = .ok (.iload 5, 2) := by decide +kernel
theorem d_Md_loanAt_56 : decode b_Md_loanAt 56 = .ok (.iadd, 1) := by decide +kernel
theorem d_Md_loanAt_57 : decode b_Md_loanAt 57 = .ok (.goto 5, 3) := by decide +kernel
theorem d_Md_loanAt_60 : decode b_Md_loanAt 60 = .ok (.iload 4, 2) := by decide +kernel
theorem d_Md_loanAt_62 : decode b_Md_loanAt 62 = .ok (.istore 4, 2) := by decide +kernel
theorem d_Md_loanAt_64 : decode b_Md_loanAt 64 = .ok (.iinc 5 1, 3) := by decide +kernel
theorem d_Md_loanAt_67 : decode b_Md_loanAt 67 = .ok (.goto (-61), 3) := by decide +kernel
theorem d_Md_loanAt_70 : decode b_Md_loanAt 70 = .ok (.iload 4, 2) := by decide +kernel
theorem d_Md_loanAt_72 : decode b_Md_loanAt 72 = .ok (.ireturn, 1) := by decide +kernel
theorem d_Md_showAt_0 : decode b_Md_showAt 0 = .ok (.iconst 0, 1) := by decide +kernel
theorem d_Md_showAt_1 : decode b_Md_showAt 1 = .ok (.istore 5, 2) := by decide +kernel
theorem d_Md_showAt_3 : decode b_Md_showAt 3 = .ok (.iconst 0, 1) := by decide +kernel
theorem d_Md_showAt_4 : decode b_Md_showAt 4 = .ok (.istore 6, 2) := by decide +kernel
theorem d_Md_showAt_6 : decode b_Md_showAt 6 = .ok (.iload 6, 2) := by decide +kernel
theorem d_Md_showAt_8 : decode b_Md_showAt 8 = .ok (.aload_n 0, 1) := by decide +kernel
theorem d_Md_showAt_9 : decode b_Md_showAt 9 = .ok (.getfield 7, 3) := by decide +kernel
theorem d_Md_showAt_12 : decode b_Md_showAt 12 = .ok (.bipush 8, 2) := by decide +kernel
theorem d_Md_showAt_14 : decode b_Md_showAt 14 = .ok (.iaload, 1) := by decide +kernel
theorem d_Md_showAt_15 : decode b_Md_showAt 15 = .ok (.if_icmp .ge 70, 3) := by decide +kernel
theorem d_Md_showAt_18 : decode b_Md_showAt 18 = .ok (.iload 6, 2) := by decide +kernel
theorem d_Md_showAt_20 : decode b_Md_showAt 20 = .ok (.iload 4, 2) := by decide +kernel
theorem d_Md_showAt_22 : decode b_Md_showAt 22 = .ok (.if_icmp .eq 53, 3) := by decide +kernel
theorem d_Md_showAt_25 : decode b_Md_showAt 25 = .ok (.aload_n 0, 1) := by decide +kernel
theorem d_Md_showAt_26 : decode b_Md_showAt 26 = .ok (.getfield 71, 3) := by decide +kernel
theorem d_Md_showAt_29 : decode b_Md_showAt 29 = .ok (.bipush 30, 2) := by decide +kernel
theorem d_Md_showAt_31 : decode b_Md_showAt 31 = .ok (.iload 6, 2) := by decide +kernel
theorem d_Md_showAt_33 : decode b_Md_showAt 33 = .ok (.imul, 1) := by decide +kernel
theorem d_Md_showAt_34 : decode b_Md_showAt 34 = .ok (.iload_n 1, 1) := by decide +kernel
theorem d_Md_showAt_35 : decode b_Md_showAt 35 = .ok (.iadd, 1) := by decide +kernel
theorem d_Md_showAt_36 : decode b_Md_showAt 36 = .ok (.sipush 500, 3) := by decide +kernel
theorem d_Md_showAt_39 : decode b_Md_showAt 39 = .ok (.isub, 1) := by decide +kernel
theorem d_Md_showAt_40 : decode b_Md_showAt 40 = .ok (.baload, 1) := by decide +kernel
theorem d_Md_showAt_41 : decode b_Md_showAt 41 = .ok (.ifCond .eq 34, 3) := by decide +kernel
theorem d_Md_showAt_44 : decode b_Md_showAt 44 = .ok (.aload_n 0, 1) := by decide +kernel
theorem d_Md_showAt_45 : decode b_Md_showAt 45 = .ok (.getfield 65, 3) := by decide +kernel
theorem d_Md_showAt_48 : decode b_Md_showAt 48 = .ok (.iload 6, 2) := by decide +kernel
theorem d_Md_showAt_50 : decode b_Md_showAt 50 = .ok (.iaload, 1) := by decide +kernel
theorem d_Md_showAt_51 : decode b_Md_showAt 51 = .ok (.iload_n 3, 1) := by decide +kernel
theorem d_Md_showAt_52 : decode b_Md_showAt 52 = .ok (.if_icmp .gt 23, 3) := by decide +kernel
theorem d_Md_showAt_55 : decode b_Md_showAt 55 = .ok (.aload_n 0, 1) := by decide +kernel
theorem d_Md_showAt_56 : decode b_Md_showAt 56 = .ok (.getfield 68, 3) := by decide +kernel
theorem d_Md_showAt_59 : decode b_Md_showAt 59 = .ok (.iload 6, 2) := by decide +kernel
theorem d_Md_showAt_61 : decode b_Md_showAt 61 = .ok (.iaload, 1) := by decide +kernel
theorem d_Md_showAt_62 : decode b_Md_showAt 62 = .ok (.iload_n 2, 1) := by decide +kernel
theorem d_Md_showAt_63 : decode b_Md_showAt 63 = .ok (.if_icmp .lt 12, 3) := by decide +kernel
theorem d_Md_showAt_66 : decode b_Md_showAt 66 = .ok (.sipush 800, 3) := by decide +kernel
theorem d_Md_showAt_69 : decode b_Md_showAt 69 = .ok (.iload 6, 2) := by decide +kernel
theorem d_Md_showAt_71 : decode b_Md_showAt 71 = .ok (.iadd, 1) := by decide +kernel
theorem d_Md_showAt_72 : decode b_Md_showAt 72 = .ok (.goto 5, 3) := by decide +kernel
theorem d_Md_showAt_75 : decode b_Md_showAt 75 = .ok (.iload 5, 2) := by decide +kernel
theorem d_Md_showAt_77 : decode b_Md_showAt 77 = .ok (.istore 5, 2) := by decide +kernel
theorem d_Md_showAt_79 : decode b_Md_showAt 79 = .ok (.iinc 6 1, 3) := by decide +kernel
theorem d_Md_showAt_82 : decode b_Md_showAt 82 = .ok (.goto (-76), 3) := by decide +kernel
theorem d_Md_showAt_85 : decode b_Md_showAt 85 = .ok (.iload 5, 2) := by decide +kernel
theorem d_Md_showAt_87 : decode b_Md_showAt 87 = .ok (.ireturn, 1) := by decide +kernel
theorem d_Md_isClaimed_0 : decode b_Md_isClaimed 0 = .ok (.iconst 0, 1) := by decide +kernel
theorem d_Md_isClaimed_1 : decode b_Md_isClaimed 1 = .ok (.istore_n 2, 1) := by decide +kernel
theorem d_Md_isClaimed_2 : decode b_Md_isClaimed 2 = .ok (.iconst 0, 1) := by decide +kernel
theorem d_Md_isClaimed_3 : decode b_Md_isClaimed 3 = .ok (.istore_n 3, 1) := by decide +kernel
theorem d_Md_isClaimed_4 : decode b_Md_isClaimed 4 = .ok (.iload_n 3, 1) := by decide +kernel
theorem d_Md_isClaimed_5 : decode b_Md_isClaimed 5 = .ok (.aload_n 0, 1) := by decide +kernel
theorem d_Md_isClaimed_6 : decode b_Md_isClaimed 6 = .ok (.getfield 7, 3) := by decide +kernel
theorem d_Md_isClaimed_9 : decode b_Md_isClaimed 9 = .ok (.bipush 9, 2) := by decide +kernel
theorem d_Md_isClaimed_11 : decode b_Md_isClaimed 11 = .ok (.iaload, 1) := by decide +kernel
theorem d_Md_isClaimed_12 : decode b_Md_isClaimed 12 = .ok (.if_icmp .ge 38, 3) := by decide +kernel
theorem d_Md_isClaimed_15 : decode b_Md_isClaimed 15 = .ok (.iload_n 2, 1) := by decide +kernel
theorem d_Md_isClaimed_16 : decode b_Md_isClaimed 16 = .ok (.ifCond .ne 22, 3) := by decide +kernel
theorem d_Md_isClaimed_19 : decode b_Md_isClaimed 19 = .ok (.aload_n 0, 1) := by decide +kernel
theorem d_Md_isClaimed_20 : decode b_Md_isClaimed 20 = .ok (.getfield 80, 3) := by decide +kernel
theorem d_Md_isClaimed_23 : decode b_Md_isClaimed 23 = .ok (.iload_n 3, 1) := by decide +kernel
theorem d_Md_isClaimed_24 : decode b_Md_isClaimed 24 = .ok (.baload, 1) := by decide +kernel
theorem d_Md_isClaimed_25 : decode b_Md_isClaimed 25 = .ok (.ifCond .eq 17, 3) := by decide +kernel
theorem d_Md_isClaimed_28 : decode b_Md_isClaimed 28 = .ok (.aload_n 0, 1) := by decide +kernel
theorem d_Md_isClaimed_29 : decode b_Md_isClaimed 29 = .ok (.getfield 74, 3) := by decide +kernel
theorem d_Md_isClaimed_32 : decode b_Md_isClaimed 32 = .ok (.iload_n 3, 1) := by decide +kernel
theorem d_Md_isClaimed_33 : decode b_Md_isClaimed 33 = .ok (.iaload, 1) := by decide +kernel
theorem d_Md_isClaimed_34 : decode b_Md_isClaimed 34 = .ok (.iload_n 1, 1) := by decide +kernel
theorem d_Md_isClaimed_35 : decode b_Md_isClaimed 35 = .ok (.if_icmp .ne 7, 3) := by decide +kernel
theorem d_Md_isClaimed_38 : decode b_Md_isClaimed 38 = .ok (.iconst 1, 1) := by decide +kernel
theorem d_Md_isClaimed_39 : decode b_Md_isClaimed 39 = .ok (.goto 4, 3) := by decide +kernel
theorem d_Md_isClaimed_42 : decode b_Md_isClaimed 42 = .ok (.iconst 0, 1) := by decide +kernel
theorem d_Md_isClaimed_43 : decode b_Md_isClaimed 43 = .ok (.istore_n 2, 1) := by decide +kernel
theorem d_Md_isClaimed_44 : decode b_Md_isClaimed 44 = .ok (.iinc 3 1, 3) := by decide +kernel
theorem d_Md_isClaimed_47 : decode b_Md_isClaimed 47 = .ok (.goto (-43), 3) := by decide +kernel
theorem d_Md_isClaimed_50 : decode b_Md_isClaimed 50 = .ok (.iload_n 2, 1) := by decide +kernel
theorem d_Md_isClaimed_51 : decode b_Md_isClaimed 51 = .ok (.ireturn, 1) := by decide +kernel
theorem d_Md_move_0 : decode b_Md_move 0 = .ok (.aload_n 0, 1) := by decide +kernel
theorem d_Md_move_1 : decode b_Md_move 1 = .ok (.iload_n 2, 1) := by decide +kernel
theorem d_Md_move_2 : decode b_Md_move 2 = .ok (.iconst 5, 1) := by decide +kernel
theorem d_Md_move_3 : decode b_Md_move 3 = .ok (.invokevirtual 90, 3) := by decide +kernel
theorem d_Md_move_6 : decode b_Md_move 6 = .ok (.ifCond .eq 17, 3) := by decide +kernel
theorem d_Md_move_9 : decode b_Md_move 9 = .ok (.aload_n 0, 1) := by decide +kernel
theorem d_Md_move_10 : decode b_Md_move 10 = .ok (.iload_n 3, 1) := by decide +kernel
theorem d_Md_move_11 : decode b_Md_move 11 = .ok (.bipush 6, 2) := by decide +kernel
theorem d_Md_move_13 : decode b_Md_move 13 = .ok (.invokevirtual 90, 3) := by decide +kernel
theorem d_Md_move_16 : decode b_Md_move 16 = .ok (.ifCond .eq 7, 3) := by decide +kernel
theorem d_Md_move_19 : decode b_Md_move 19 = .ok (.iconst 1, 1) := by decide +kernel
theorem d_Md_move_20 : decode b_Md_move 20 = .ok (.goto 4, 3) := by decide +kernel
theorem d_Md_move_23 : decode b_Md_move 23 = .ok (.iconst 0, 1) := by decide +kernel
theorem d_Md_move_24 : decode b_Md_move 24 = .ok (.istore 5, 2) := by decide +kernel
theorem d_Md_move_26 : decode b_Md_move 26 = .ok (.iload 5, 2) := by decide +kernel
theorem d_Md_move_28 : decode b_Md_move 28 = .ok (.ifCond .eq 11, 3) := by decide +kernel
theorem d_Md_move_31 : decode b_Md_move 31 = .ok (.iload_n 2, 1) := by decide +kernel
theorem d_Md_move_32 : decode b_Md_move 32 = .ok (.sipush 500, 3) := by decide +kernel
theorem d_Md_move_35 : decode b_Md_move 35 = .ok (.isub, 1) := by decide +kernel
theorem d_Md_move_36 : decode b_Md_move 36 = .ok (.goto 4, 3) := by decide +kernel
theorem d_Md_move_39 : decode b_Md_move 39 = .ok (.iconst 0, 1) := by decide +kernel
theorem d_Md_move_40 : decode b_Md_move 40 = .ok (.istore 6, 2) := by decide +kernel
theorem d_Md_move_42 : decode b_Md_move 42 = .ok (.iload 5, 2) := by decide +kernel
theorem d_Md_move_44 : decode b_Md_move 44 = .ok (.ifCond .eq 14, 3) := by decide +kernel
theorem d_Md_move_47 : decode b_Md_move 47 = .ok (.aload_n 0, 1) := by decide +kernel
theorem d_Md_move_48 : decode b_Md_move 48 = .ok (.iload 6, 2) := by decide +kernel
theorem d_Md_move_50 : decode b_Md_move 50 = .ok (.iload 4, 2) := by decide +kernel
theorem d_Md_move_52 : decode b_Md_move 52 = .ok (.invokevirtual 139, 3) := by decide +kernel
theorem d_Md_move_55 : decode b_Md_move 55 = .ok (.goto 4, 3) := by decide +kernel
theorem d_Md_move_58 : decode b_Md_move 58 = .ok (.iconst (-1), 1) := by decide +kernel
theorem d_Md_move_59 : decode b_Md_move 59 = .ok (.istore 7, 2) := by decide +kernel
theorem d_Md_move_61 : decode b_Md_move 61 = .ok (.aload_n 0, 1) := by decide +kernel
theorem d_Md_move_62 : decode b_Md_move 62 = .ok (.iload 5, 2) := by decide +kernel
theorem d_Md_move_64 : decode b_Md_move 64 = .ok (.iload_n 1, 1) := by decide +kernel
theorem d_Md_move_65 : decode b_Md_move 65 = .ok (.iconst 4, 1) := by decide +kernel
theorem d_Md_move_66 : decode b_Md_move 66 = .ok (.iload 7, 2) := by decide +kernel
theorem d_Md_move_68 : decode b_Md_move 68 = .ok (.iconst (-1), 1) := by decide +kernel
theorem d_Md_move_69 : decode b_Md_move 69 = .ok (.if_icmp .ne 15, 3) := by decide +kernel
theorem d_Md_move_72 : decode b_Md_move 72 = .ok (.aload_n 0, 1) := by decide +kernel
theorem d_Md_move_73 : decode b_Md_move 73 = .ok (.getfield 44, 3) := by decide +kernel
theorem d_Md_move_76 : decode b_Md_move 76 = .ok (.iload 6, 2) := by decide +kernel
theorem d_Md_move_78 : decode b_Md_move 78 = .ok (.iaload, 1) := by decide +kernel
theorem d_Md_move_79 : decode b_Md_move 79 = .ok (.bipush 12, 2) := by decide +kernel
theorem d_Md_move_81 : decode b_Md_move 81 = .ok (.if_icmp .ge 7, 3) := by decide +kernel
theorem d_Md_move_84 : decode b_Md_move 84 = .ok (.iconst 1, 1) := by decide +kernel
theorem d_Md_move_85 : decode b_Md_move 85 = .ok (.goto 4, 3) := by decide +kernel
theorem d_Md_move_88 : decode b_Md_move 88 = .ok (.iconst 0, 1) := by decide +kernel
theorem d_Md_move_89 : decode b_Md_move 89 = .ok (.invokevirtual 97, 3) := by decide +kernel
theorem d_Md_move_92 : decode b_Md_move 92 = .ok (.istore 8, 2) := by decide +kernel
theorem d_Md_move_94 : decode b_Md_move 94 = .ok (.iload 8, 2) := by decide +kernel
theorem d_Md_move_96 : decode b_Md_move 96 = .ok (.iload 4, 2) := by decide +kernel
theorem d_Md_move_98 : decode b_Md_move 98 = .ok (.iconst 0, 1) := by decide +kernel
theorem d_Md_move_99 : decode b_Md_move 99 = .ok (.aload_n 0, 1) := by decide +kernel
theorem d_Md_move_100 : decode b_Md_move 100 = .ok (.getfield 117, 3) := by decide +kernel
theorem d_Md_move_103 : decode b_Md_move 103 = .ok (.invokestatic 101, 3) := by decide +kernel
theorem d_Md_move_106 : decode b_Md_move 106 = .ok (.iconst 4, 1) := by decide +kernel
theorem d_Md_move_107 : decode b_Md_move 107 = .ok (.invokestatic 105, 3) := by decide +kernel
theorem d_Md_move_110 : decode b_Md_move 110 = .ok (.istore 8, 2) := by decide +kernel
theorem d_Md_move_112 : decode b_Md_move 112 = .ok (.iload 8, 2) := by decide +kernel
theorem d_Md_move_114 : decode b_Md_move 114 = .ok (.iload 8, 2) := by decide +kernel
theorem d_Md_move_116 : decode b_Md_move 116 = .ok (.ifCond .gt 13, 3) := by decide +kernel
theorem d_Md_move_119 : decode b_Md_move 119 = .ok (.iload 4, 2) := by decide +kernel
theorem d_Md_move_121 : decode b_Md_move 121 = .ok (.aload_n 0, 1) := by decide +kernel
theorem d_Md_move_122 : decode b_Md_move 122 = .ok (.iload_n 2, 1) := by decide +kernel
theorem d_Md_move_123 : decode b_Md_move 123 = .ok (.invokevirtual 143, 3) := by decide +kernel
theorem d_Md_move_126 : decode b_Md_move 126 = .ok (.if_icmp .lt 7, 3) := by decide +kernel
theorem d_Md_move_129 : decode b_Md_move 129 = .ok (.iconst 1, 1) := by decide +kernel
theorem d_Md_move_130 : decode b_Md_move 130 = .ok (.goto 4, 3) := by decide +kernel
theorem d_Md_move_133 : decode b_Md_move 133 = .ok (.iconst 0, 1) := by decide +kernel
theorem d_Md_move_134 : decode b_Md_move 134 = .ok (.bipush 11, 2) := by decide +kernel
theorem d_Md_move_136 : decode b_Md_move 136 = .ok (.invokestatic 105, 3) := by decide +kernel
theorem d_Md_move_139 : decode b_Md_move 139 = .ok (.istore 8, 2) := by decide +kernel
theorem d_Md_move_141 : decode b_Md_move 141 = .ok (.iload 8, 2) := by decide +kernel
theorem d_Md_move_143 : decode b_Md_move 143 = .ok (.iload 8, 2) := by decide +kernel
theorem d_Md_move_145 : decode b_Md_move 145 = .ok (.ifCond .gt 15, 3) := by decide +kernel
theorem d_Md_move_148 : decode b_Md_move 148 = .ok (.aload_n 0, 1) := by decide +kernel
theorem d_Md_move_149 : decode b_Md_move 149 = .ok (.iload_n 2, 1) := by decide +kernel
theorem d_Md_move_150 : decode b_Md_move 150 = .ok (.iload 4, 2) := by decide +kernel
theorem d_Md_move_152 : decode b_Md_move 152 = .ok (.iload 4, 2) := by decide +kernel
theorem d_Md_move_154 : decode b_Md_move 154 = .ok (.invokevirtual 146, 3) := by decide +kernel
theorem d_Md_move_157 : decode b_Md_move 157 = .ok (.ifCond .ne 7, 3) := by decide +kernel
theorem d_Md_move_160 : decode b_Md_move 160 = .ok (.iconst 1, 1) := by decide +kernel
theorem d_Md_move_161 : decode b_Md_move 161 = .ok (.goto 4, 3) := by decide +kernel
theorem d_Md_move_164 : decode b_Md_move 164 = .ok (.iconst 0, 1) := by decide +kernel
theorem d_Md_move_165 : decode b_Md_move 165 = .ok (.bipush 12, 2) := by decide +kernel
theorem d_Md_move_167 : decode b_Md_move 167 = .ok (.invokestatic 105, 3) := by decide +kernel
theorem d_Md_move_170 : decode b_Md_move 170 = .ok (.istore 8, 2) := by decide +kernel
theorem d_Md_move_172 : decode b_Md_move 172 = .ok (.aload_n 0, 1) := by decide +kernel
theorem d_Md_move_173 : decode b_Md_move 173 = .ok (.iload 8, 2) := by decide +kernel
theorem d_Md_move_175 : decode b_Md_move 175 = .ok (.invokevirtual 109, 3) := by decide +kernel
theorem d_Md_move_178 : decode b_Md_move 178 = .ok (.ifCond .ne 5, 3) := by decide +kernel
theorem d_Md_move_181 : decode b_Md_move 181 = .ok (.iconst 0, 1) := by decide +kernel
theorem d_Md_move_182 : decode b_Md_move 182 = .ok (.ireturn, 1) := by decide +kernel
theorem d_Md_move_183 : decode b_Md_move 183 = .ok (.iload 7, 2) := by decide +kernel
theorem d_Md_move_185 : decode b_Md_move 185 = .ok (.iconst (-1), 1) := by decide +kernel
theorem d_Md_move_186 : decode b_Md_move 186 = .ok (.if_icmp .ne 19, 3) := by decide +kernel
theorem d_Md_move_189 : decode b_Md_move 189 = .ok (.bipush 12, 2) := by decide +kernel
theorem d_Md_move_191 : decode b_Md_move 191 = .ok (.iload 6, 2) := by decide +kernel
theorem d_Md_move_193 : decode b_Md_move 193 = .ok (.imul, 1) := by decide +kernel
theorem d_Md_move_194 : decode b_Md_move 194 = .ok (.aload_n 0, 1) := by decide +kernel
theorem d_Md_move_195 : decode b_Md_move 195 = .ok (.getfield 44, 3) := by decide +kernel
theorem d_Md_move_198 : decode b_Md_move 198 = .ok (.iload 6, 2) := by decide +kernel
theorem d_Md_move_200 : decode b_Md_move 200 = .ok (.iaload, 1) := by decide +kernel
theorem d_Md_move_201 : decode b_Md_move 201 = .ok (.iadd, 1) := by decide +kernel
theorem d_Md_move_202 : decode b_Md_move 202 = .ok (.goto 5, 3) := by decide +kernel
theorem d_Md_move_205 : decode b_Md_move 205 = .ok (.iload 7, 2) := by decide +kernel
theorem d_Md_move_207 : decode b_Md_move 207 = .ok (.istore 9, 2) := by decide +kernel
theorem d_Md_move_209 : decode b_Md_move 209 = .ok (.aload_n 0, 1) := by decide +kernel
theorem d_Md_move_210 : decode b_Md_move 210 = .ok (.getfield 44, 3) := by decide +kernel
theorem d_Md_move_213 : decode b_Md_move 213 = .ok (.iload 6, 2) := by decide +kernel
theorem d_Md_move_215 : decode b_Md_move 215 = .ok (.iload 7, 2) := by decide +kernel
theorem d_Md_move_217 : decode b_Md_move 217 = .ok (.iconst (-1), 1) := by decide +kernel
theorem d_Md_move_218 : decode b_Md_move 218 = .ok (.if_icmp .ne 15, 3) := by decide +kernel
theorem d_Md_move_221 : decode b_Md_move 221 = .ok (.aload_n 0, 1) := by decide +kernel
theorem d_Md_move_222 : decode b_Md_move 222 = .ok (.getfield 44, 3) := by decide +kernel
theorem d_Md_move_225 : decode b_Md_move 225 = .ok (.iload 6, 2) := by decide +kernel
theorem d_Md_move_227 : decode b_Md_move 227 = .ok (.iaload, 1) := by decide +kernel
theorem d_Md_move_228 : decode b_Md_move 228 = .ok (.iconst 1, 1) := by decide +kernel
theorem d_Md_move_229 : decode b_Md_move 229 = .ok (.iadd, 1) := by decide +kernel
theorem d_Md_move_230 : decode b_Md_move 230 = .ok (.goto 10, 3) := by decide +kernel
theorem d_Md_move_233 : decode b_Md_move 233 = .ok (.aload_n 0, 1) := by decide +kernel
theorem d_Md_move_234 : decode b_Md_move 234 = .ok (.getfield 44, 3) := by decide +kernel
theorem d_Md_move_237 : decode b_Md_move 237 = .ok (.iload 6, 2) := by decide +kernel
theorem d_Md_move_239 : decode b_Md_move 239 = .ok (.iaload, 1) := by decide +kernel
theorem d_Md_move_240 : decode b_Md_move 240 = .ok (.iastore, 1) := by decide +kernel
theorem d_Md_move_241 : decode b_Md_move 241 = .ok (.aload_n 0, 1) := by decide +kernel
theorem d_Md_move_242 : decode b_Md_move 242 = .ok (.getfield 47, 3) := by decide +kernel
theorem d_Md_move_245 : decode b_Md_move 245 = .ok (.iload 9, 2) := by decide +kernel
theorem d_Md_move_247 : decode b_Md_move 247 = .ok (.iload 4, 2) := by decide +kernel
theorem d_Md_move_249 : decode b_Md_move 249 = .ok (.iastore, 1) := by decide +kernel
theorem d_Md_move_250 : decode b_Md_move 250 = .ok (.aload_n 0, 1) := by decide +kernel
theorem d_Md_move_251 : decode b_Md_move 251 = .ok (.getfield 50, 3) := by decide +kernel
theorem d_Md_move_254 : decode b_Md_move 254 = .ok (.iload 9, 2) := by decide +kernel
theorem d_Md_move_256 : decode b_Md_move 256 = .ok (.iload_n 3, 1) := by decide +kernel
theorem d_Md_move_257 : decode b_Md_move 257 = .ok (.iastore, 1) := by decide +kernel
theorem d_Md_move_258 : decode b_Md_move 258 = .ok (.iload 7, 2) := by decide +kernel
theorem d_Md_move_260 : decode b_Md_move 260 = .ok (.iconst (-1), 1) := by decide +kernel
theorem d_Md_move_261 : decode b_Md_move 261 = .ok (.if_icmp .ne 7, 3) := by decide +kernel
theorem d_Md_move_264 : decode b_Md_move 264 = .ok (.iconst 1, 1) := by decide +kernel
theorem d_Md_move_265 : decode b_Md_move 265 = .ok (.goto 4, 3) := by decide +kernel
theorem d_Md_move_268 : decode b_Md_move 268 = .ok (.iconst 0, 1) := by decide +kernel
theorem d_Md_move_269 : decode b_Md_move 269 = .ok (.ireturn, 1) := by decide +kernel
theorem d_Md_placeOf_0 : decode b_Md_placeOf 0 = .ok (.iconst (-1), 1) := by decide +kernel
theorem d_Md_placeOf_1 : decode b_Md_placeOf 1 = .ok (.istore_n 3, 1) := by decide +kernel
theorem d_Md_placeOf_2 : decode b_Md_placeOf 2 = .ok (.bipush 12, 2) := by decide +kernel
theorem d_Md_placeOf_4 : decode b_Md_placeOf 4 = .ok (.iload_n 1, 1) := by decide +kernel
theorem d_Md_placeOf_5 : decode b_Md_placeOf 5 = .ok (.imul, 1) := by decide +kernel
theorem d_Md_placeOf_6 : decode b_Md_placeOf 6 = .ok (.istore 4, 2) := by decide +kernel
theorem d_Md_placeOf_8 : decode b_Md_placeOf 8 = .ok (.iload 4, 2) := by decide +kernel
theorem d_Md_placeOf_10 : decode b_Md_placeOf 10 = .ok (.bipush 12, 2) := by decide +kernel
theorem d_Md_placeOf_12 : decode b_Md_placeOf 12 = .ok (.iload_n 1, 1) := by decide +kernel
theorem d_Md_placeOf_13 : decode b_Md_placeOf 13 = .ok (.imul, 1) := by decide +kernel
theorem d_Md_placeOf_14 : decode b_Md_placeOf 14 = .ok (.aload_n 0, 1) := by decide +kernel
theorem d_Md_placeOf_15 : decode b_Md_placeOf 15 = .ok (.getfield 44, 3) := by decide +kernel
theorem d_Md_placeOf_18 : decode b_Md_placeOf 18 = .ok (.iload_n 1, 1) := by decide +kernel
theorem d_Md_placeOf_19 : decode b_Md_placeOf 19 = .ok (.iaload, 1) := by decide +kernel
theorem d_Md_placeOf_20 : decode b_Md_placeOf 20 = .ok (.iadd, 1) := by decide +kernel
theorem d_Md_placeOf_21 : decode b_Md_placeOf 21 = .ok (.if_icmp .ge 48, 3) := by decide +kernel
theorem d_Md_placeOf_24 : decode b_Md_placeOf 24 = .ok (.aload_n 0, 1) := by decide +kernel
theorem d_Md_placeOf_25 : decode b_Md_placeOf 25 = .ok (.getfield 47, 3) := by decide +kernel
theorem d_Md_placeOf_28 : decode b_Md_placeOf 28 = .ok (.iload 4, 2) := by decide +kernel
theorem d_Md_placeOf_30 : decode b_Md_placeOf 30 = .ok (.iaload, 1) := by decide +kernel
theorem d_Md_placeOf_31 : decode b_Md_placeOf 31 = .ok (.iload_n 2, 1) := by decide +kernel
theorem d_Md_placeOf_32 : decode b_Md_placeOf 32 = .ok (.if_icmp .gt 29, 3) := by decide +kernel
theorem d_Md_placeOf_35 : decode b_Md_placeOf 35 = .ok (.iload_n 3, 1) := by decide +kernel
theorem d_Md_placeOf_36 : decode b_Md_placeOf 36 = .ok (.iconst (-1), 1) := by decide +kernel
theorem d_Md_placeOf_37 : decode b_Md_placeOf 37 = .ok (.if_icmp .eq 19, 3) := by decide +kernel
theorem d_Md_placeOf_40 : decode b_Md_placeOf 40 = .ok (.aload_n 0, 1) := by decide +kernel
theorem d_Md_placeOf_41 : decode b_Md_placeOf 41 = .ok (.getfield 47, 3) := by decide +kernel
theorem d_Md_placeOf_44 : decode b_Md_placeOf 44 = .ok (.iload 4, 2) := by decide +kernel
theorem d_Md_placeOf_46 : decode b_Md_placeOf 46 = .ok (.iaload, 1) := by decide +kernel
theorem d_Md_placeOf_47 : decode b_Md_placeOf 47 = .ok (.aload_n 0, 1) := by decide +kernel
theorem d_Md_placeOf_48 : decode b_Md_placeOf 48 = .ok (.getfield 47, 3) := by decide +kernel
theorem d_Md_placeOf_51 : decode b_Md_placeOf 51 = .ok (.iload_n 3, 1) := by decide +kernel
theorem d_Md_placeOf_52 : decode b_Md_placeOf 52 = .ok (.iaload, 1) := by decide +kernel
theorem d_Md_placeOf_53 : decode b_Md_placeOf 53 = .ok (.if_icmp .le 8, 3) := by decide +kernel
theorem d_Md_placeOf_56 : decode b_Md_placeOf 56 = .ok (.iload 4, 2) := by decide +kernel
theorem d_Md_placeOf_58 : decode b_Md_placeOf 58 = .ok (.goto 4, 3) := by decide +kernel
theorem d_Md_placeOf_61 : decode b_Md_placeOf 61 = .ok (.iload_n 3, 1) := by decide +kernel
theorem d_Md_placeOf_62 : decode b_Md_placeOf 62 = .ok (.istore_n 3, 1) := by decide +kernel
theorem d_Md_placeOf_63 : decode b_Md_placeOf 63 = .ok (.iinc 4 1, 3) := by decide +kernel
theorem d_Md_placeOf_66 : decode b_Md_placeOf 66 = .ok (.goto (-58), 3) := by decide +kernel
theorem d_Md_placeOf_69 : decode b_Md_placeOf 69 = .ok (.iload_n 3, 1) := by decide +kernel
theorem d_Md_placeOf_70 : decode b_Md_placeOf 70 = .ok (.iconst (-1), 1) := by decide +kernel
theorem d_Md_placeOf_71 : decode b_Md_placeOf 71 = .ok (.if_icmp .ne 7, 3) := by decide +kernel
theorem d_Md_placeOf_74 : decode b_Md_placeOf 74 = .ok (.iconst 0, 1) := by decide +kernel
theorem d_Md_placeOf_75 : decode b_Md_placeOf 75 = .ok (.goto 9, 3) := by decide +kernel
theorem d_Md_placeOf_78 : decode b_Md_placeOf 78 = .ok (.aload_n 0, 1) := by decide +kernel
theorem d_Md_placeOf_79 : decode b_Md_placeOf 79 = .ok (.getfield 50, 3) := by decide +kernel
theorem d_Md_placeOf_82 : decode b_Md_placeOf 82 = .ok (.iload_n 3, 1) := by decide +kernel
theorem d_Md_placeOf_83 : decode b_Md_placeOf 83 = .ok (.iaload, 1) := by decide +kernel
theorem d_Md_placeOf_84 : decode b_Md_placeOf 84 = .ok (.ireturn, 1) := by decide +kernel
theorem d_Md_isDay_0 : decode b_Md_isDay 0 = .ok (.iload_n 0, 1) := by decide +kernel
theorem d_Md_isDay_1 : decode b_Md_isDay 1 = .ok (.iconst 0, 1) := by decide +kernel
theorem d_Md_isDay_2 : decode b_Md_isDay 2 = .ok (.sipush 9999, 3) := by decide +kernel
theorem d_Md_isDay_5 : decode b_Md_isDay 5 = .ok (.invokestatic 101, 3) := by decide +kernel
theorem d_Md_isDay_8 : decode b_Md_isDay 8 = .ok (.ireturn, 1) := by decide +kernel
theorem d_Md_place_0 : decode b_Md_place 0 = .ok (.aload_n 0, 1) := by decide +kernel
theorem d_Md_place_1 : decode b_Md_place 1 = .ok (.aload_n 0, 1) := by decide +kernel
theorem d_Md_place_2 : decode b_Md_place 2 = .ok (.iload_n 1, 1) := by decide +kernel
theorem d_Md_place_3 : decode b_Md_place 3 = .ok (.iconst 5, 1) := by decide +kernel
theorem d_Md_place_4 : decode b_Md_place 4 = .ok (.invokevirtual 90, 3) := by decide +kernel
theorem d_Md_place_7 : decode b_Md_place 7 = .ok (.ifCond .eq 7, 3) := by decide +kernel
theorem d_Md_place_10 : decode b_Md_place 10 = .ok (.iconst 0, 1) := by decide +kernel
theorem d_Md_place_11 : decode b_Md_place 11 = .ok (.goto 4, 3) := by decide +kernel
theorem d_Md_place_14 : decode b_Md_place 14 = .ok (.iconst 1, 1) := by decide +kernel
theorem d_Md_place_15 : decode b_Md_place 15 = .ok (.iload_n 2, 1) := by decide +kernel
theorem d_Md_place_16 : decode b_Md_place 16 = .ok (.invokestatic 150, 3) := by decide +kernel
theorem d_Md_place_19 : decode b_Md_place 19 = .ok (.iconst 4, 1) := by decide +kernel
theorem d_Md_place_20 : decode b_Md_place 20 = .ok (.invokestatic 105, 3) := by decide +kernel
theorem d_Md_place_23 : decode b_Md_place 23 = .ok (.invokevirtual 133, 3) := by decide +kernel
theorem d_Md_place_26 : decode b_Md_place 26 = .ok (.ifCond .eq 16, 3) := by decide +kernel
theorem d_Md_place_29 : decode b_Md_place 29 = .ok (.aload_n 0, 1) := by decide +kernel
theorem d_Md_place_30 : decode b_Md_place 30 = .ok (.iload_n 1, 1) := by decide +kernel
theorem d_Md_place_31 : decode b_Md_place 31 = .ok (.sipush 500, 3) := by decide +kernel
theorem d_Md_place_34 : decode b_Md_place 34 = .ok (.isub, 1) := by decide +kernel
theorem d_Md_place_35 : decode b_Md_place 35 = .ok (.iload_n 2, 1) := by decide +kernel
theorem d_Md_place_36 : decode b_Md_place 36 = .ok (.invokevirtual 153, 3) := by decide +kernel
theorem d_Md_place_39 : decode b_Md_place 39 = .ok (.goto 4, 3) := by decide +kernel
theorem d_Md_place_42 : decode b_Md_place 42 = .ok (.iconst 0, 1) := by decide +kernel
theorem d_Md_place_43 : decode b_Md_place 43 = .ok (.ireturn, 1) := by decide +kernel
theorem d_Md_stored_0 : decode b_Md_stored 0 = .ok (.aload_n 0, 1) := by decide +kernel
theorem d_Md_stored_1 : decode b_Md_stored 1 = .ok (.aload_n 0, 1) := by decide +kernel
theorem d_Md_stored_2 : decode b_Md_stored 2 = .ok (.iload_n 1, 1) := by decide +kernel
theorem d_Md_stored_3 : decode b_Md_stored 3 = .ok (.bipush 6, 2) := by decide +kernel
theorem d_Md_stored_5 : decode b_Md_stored 5 = .ok (.invokevirtual 90, 3) := by decide +kernel
theorem d_Md_stored_8 : decode b_Md_stored 8 = .ok (.ifCond .eq 7, 3) := by decide +kernel
theorem d_Md_stored_11 : decode b_Md_stored 11 = .ok (.iconst 0, 1) := by decide +kernel
theorem d_Md_stored_12 : decode b_Md_stored 12 = .ok (.goto 4, 3) := by decide +kernel
theorem d_Md_stored_15 : decode b_Md_stored 15 = .ok (.iconst 1, 1) := by decide +kernel
theorem d_Md_stored_16 : decode b_Md_stored 16 = .ok (.iload_n 2, 1) := by decide +kernel
theorem d_Md_stored_17 : decode b_Md_stored 17 = .ok (.invokestatic 150, 3) := by decide +kernel
theorem d_Md_stored_20 : decode b_Md_stored 20 = .ok (.iconst 4, 1) := by decide +kernel
theorem d_Md_stored_21 : decode b_Md_stored 21 = .ok (.invokestatic 105, 3) := by decide +kernel
theorem d_Md_stored_24 : decode b_Md_stored 24 = .ok (.invokevirtual 133, 3) := by decide +kernel
theorem d_Md_stored_27 : decode b_Md_stored 27 = .ok (.ifCond .ne 5, 3) := by decide +kernel
theorem d_Md_stored_30 : decode b_Md_stored 30 = .ok (.iconst 0, 1) := by decide +kernel
theorem d_Md_stored_31 : decode b_Md_stored 31 = .ok (.ireturn, 1) := by decide +kernel
theorem d_Md_stored_32 : decode b_Md_stored 32 = .ok (.iconst 0, 1) := by decide +kernel
theorem d_Md_stored_33 : decode b_Md_stored 33 = .ok (.istore_n 3, 1) := by decide +kernel
theorem d_Md_stored_34 : decode b_Md_stored 34 = .ok (.iconst 0, 1) := by decide +kernel
theorem d_Md_stored_35 : decode b_Md_stored 35 = .ok (.istore 4, 2) := by decide +kernel
theorem d_Md_stored_37 : decode b_Md_stored 37 = .ok (.iload 4, 2) := by decide +kernel
theorem d_Md_stored_39 : decode b_Md_stored 39 = .ok (.aload_n 0, 1) := by decide +kernel
theorem d_Md_stored_40 : decode b_Md_stored 40 = .ok (.getfield 7, 3) := by decide +kernel
theorem d_Md_stored_43 : decode b_Md_stored 43 = .ok (.iconst 5, 1) := by decide +kernel
theorem d_Md_stored_44 : decode b_Md_stored 44 = .ok (.iaload, 1) := by decide +kernel
theorem d_Md_stored_45 : decode b_Md_stored 45 = .ok (.if_icmp .ge 55, 3) := by decide +kernel
theorem d_Md_stored_48 : decode b_Md_stored 48 = .ok (.aload_n 0, 1) := by decide +kernel
theorem d_Md_stored_49 : decode b_Md_stored 49 = .ok (.iload 4, 2) := by decide +kernel
theorem d_Md_stored_51 : decode b_Md_stored 51 = .ok (.iload_n 2, 1) := by decide +kernel
theorem d_Md_stored_52 : decode b_Md_stored 52 = .ok (.invokevirtual 153, 3) := by decide +kernel
theorem d_Md_stored_55 : decode b_Md_stored 55 = .ok (.istore 5, 2) := by decide +kernel
theorem d_Md_stored_57 : decode b_Md_stored 57 = .ok (.iload 5, 2) := by decide +kernel
theorem d_Md_stored_59 : decode b_Md_stored 59 = .ok (.iload_n 1, 1) := by decide +kernel
theorem d_Md_stored_60 : decode b_Md_stored 60 = .ok (.if_icmp .eq 26, 3) := by decide +kernel
theorem d_Md_stored_63 : decode b_Md_stored 63 = .ok (.iload 5, 2) := by decide +kernel
theorem d_Md_stored_65 : decode b_Md_stored 65 = .ok (.ifCond .le 27, 3) := by decide +kernel
theorem d_Md_stored_68 : decode b_Md_stored 68 = .ok (.aload_n 0, 1) := by decide +kernel
theorem d_Md_stored_69 : decode b_Md_stored 69 = .ok (.iload 5, 2) := by decide +kernel
theorem d_Md_stored_71 : decode b_Md_stored 71 = .ok (.sipush 600, 3) := by decide +kernel
theorem d_Md_stored_74 : decode b_Md_stored 74 = .ok (.isub, 1) := by decide +kernel
theorem d_Md_stored_75 : decode b_Md_stored 75 = .ok (.iload_n 1, 1) := by decide +kernel
theorem d_Md_stored_76 : decode b_Md_stored 76 = .ok (.sipush 600, 3) := by decide +kernel
theorem d_Md_stored_79 : decode b_Md_stored 79 = .ok (.isub, 1) := by decide +kernel
theorem d_Md_stored_80 : decode b_Md_stored 80 = .ok (.invokevirtual 136, 3) := by decide +kernel
theorem d_Md_stored_83 : decode b_Md_stored 83 = .ok (.ifCond .eq 9, 3) := by decide +kernel
theorem d_Md_stored_86 : decode b_Md_stored 86 = .ok (.iload_n 3, 1) := by decide +kernel
theorem d_Md_stored_87 : decode b_Md_stored 87 = .ok (.iconst 1, 1) := by decide +kernel
theorem d_Md_stored_88 : decode b_Md_stored 88 = .ok (.iadd, 1) := by decide +kernel
theorem d_Md_stored_89 : decode b_Md_stored 89 = .ok (.goto 4, 3) := by decide +kernel
theorem d_Md_stored_92 : decode b_Md_stored 92 = .ok (.iload_n 3, 1) := by decide +kernel
theorem d_Md_stored_93 : decode b_Md_stored 93 = .ok (.istore_n 3, 1) := by decide +kernel
theorem d_Md_stored_94 : decode b_Md_stored 94 = .ok (.iinc 4 1, 3) := by decide +kernel
theorem d_Md_stored_97 : decode b_Md_stored 97 = .ok (.goto (-60), 3) := by decide +kernel
theorem d_Md_stored_100 : decode b_Md_stored 100 = .ok (.iload_n 3, 1) := by decide +kernel
theorem d_Md_stored_101 : decode b_Md_stored 101 = .ok (.ireturn, 1) := by decide +kernel
theorem d_Md_loan_0 : decode b_Md_loan 0 = .ok (.aload_n 0, 1) := by decide +kernel
theorem d_Md_loan_1 : decode b_Md_loan 1 = .ok (.aload_n 0, 1) := by decide +kernel
theorem d_Md_loan_2 : decode b_Md_loan 2 = .ok (.iload_n 2, 1) := by decide +kernel
theorem d_Md_loan_3 : decode b_Md_loan 3 = .ok (.iconst 5, 1) := by decide +kernel
theorem d_Md_loan_4 : decode b_Md_loan 4 = .ok (.invokevirtual 90, 3) := by decide +kernel
theorem d_Md_loan_7 : decode b_Md_loan 7 = .ok (.iload_n 1, 1) := by decide +kernel
theorem d_Md_loan_8 : decode b_Md_loan 8 = .ok (.bipush 8, 2) := by decide +kernel
theorem d_Md_loan_10 : decode b_Md_loan 10 = .ok (.aload_n 0, 1) := by decide +kernel
theorem d_Md_loan_11 : decode b_Md_loan 11 = .ok (.getfield 7, 3) := by decide +kernel
theorem d_Md_loan_14 : decode b_Md_loan 14 = .ok (.bipush 7, 2) := by decide +kernel
theorem d_Md_loan_16 : decode b_Md_loan 16 = .ok (.iaload, 1) := by decide +kernel
theorem d_Md_loan_17 : decode b_Md_loan 17 = .ok (.bipush 40, 2) := by decide +kernel
theorem d_Md_loan_19 : decode b_Md_loan 19 = .ok (.if_icmp .ge 7, 3) := by decide +kernel
theorem d_Md_loan_22 : decode b_Md_loan 22 = .ok (.iconst 1, 1) := by decide +kernel
theorem d_Md_loan_23 : decode b_Md_loan 23 = .ok (.goto 4, 3) := by decide +kernel
theorem d_Md_loan_26 : decode b_Md_loan 26 = .ok (.iconst 0, 1) := by decide +kernel
theorem d_Md_loan_27 : decode b_Md_loan 27 = .ok (.invokevirtual 97, 3) := by decide +kernel
theorem d_Md_loan_30 : decode b_Md_loan 30 = .ok (.istore 5, 2) := by decide +kernel
theorem d_Md_loan_32 : decode b_Md_loan 32 = .ok (.iload 5, 2) := by decide +kernel
theorem d_Md_loan_34 : decode b_Md_loan 34 = .ok (.iload_n 3, 1) := by decide +kernel
theorem d_Md_loan_35 : decode b_Md_loan 35 = .ok (.iload 4, 2) := by decide +kernel
theorem d_Md_loan_37 : decode b_Md_loan 37 = .ok (.invokestatic 156, 3) := by decide +kernel
theorem d_Md_loan_40 : decode b_Md_loan 40 = .ok (.iconst 4, 1) := by decide +kernel
theorem d_Md_loan_41 : decode b_Md_loan 41 = .ok (.invokestatic 105, 3) := by decide +kernel
theorem d_Md_loan_44 : decode b_Md_loan 44 = .ok (.istore 5, 2) := by decide +kernel
theorem d_Md_loan_46 : decode b_Md_loan 46 = .ok (.iload 5, 2) := by decide +kernel
theorem d_Md_loan_48 : decode b_Md_loan 48 = .ok (.iload 5, 2) := by decide +kernel
theorem d_Md_loan_50 : decode b_Md_loan 50 = .ok (.ifCond .gt 12, 3) := by decide +kernel
theorem d_Md_loan_53 : decode b_Md_loan 53 = .ok (.iload_n 3, 1) := by decide +kernel
theorem d_Md_loan_54 : decode b_Md_loan 54 = .ok (.aload_n 0, 1) := by decide +kernel
theorem d_Md_loan_55 : decode b_Md_loan 55 = .ok (.iload_n 2, 1) := by decide +kernel
theorem d_Md_loan_56 : decode b_Md_loan 56 = .ok (.invokevirtual 143, 3) := by decide +kernel
theorem d_Md_loan_59 : decode b_Md_loan 59 = .ok (.if_icmp .lt 7, 3) := by decide +kernel
theorem d_Md_loan_62 : decode b_Md_loan 62 = .ok (.iconst 1, 1) := by decide +kernel
theorem d_Md_loan_63 : decode b_Md_loan 63 = .ok (.goto 4, 3) := by decide +kernel
theorem d_Md_loan_66 : decode b_Md_loan 66 = .ok (.iconst 0, 1) := by decide +kernel
theorem d_Md_loan_67 : decode b_Md_loan 67 = .ok (.bipush 11, 2) := by decide +kernel
theorem d_Md_loan_69 : decode b_Md_loan 69 = .ok (.invokestatic 105, 3) := by decide +kernel
theorem d_Md_loan_72 : decode b_Md_loan 72 = .ok (.istore 5, 2) := by decide +kernel
theorem d_Md_loan_74 : decode b_Md_loan 74 = .ok (.iload 5, 2) := by decide +kernel
theorem d_Md_loan_76 : decode b_Md_loan 76 = .ok (.iload 5, 2) := by decide +kernel
theorem d_Md_loan_78 : decode b_Md_loan 78 = .ok (.ifCond .gt 11, 3) := by decide +kernel
theorem d_Md_loan_81 : decode b_Md_loan 81 = .ok (.aload_n 0, 1) := by decide +kernel
theorem d_Md_loan_82 : decode b_Md_loan 82 = .ok (.iload_n 2, 1) := by decide +kernel
theorem d_Md_loan_83 : decode b_Md_loan 83 = .ok (.invokevirtual 159, 3) := by decide +kernel
theorem d_Md_loan_86 : decode b_Md_loan 86 = .ok (.ifCond .ne 7, 3) := by decide +kernel
theorem d_Md_loan_89 : decode b_Md_loan 89 = .ok (.iconst 1, 1) := by decide +kernel
theorem d_Md_loan_90 : decode b_Md_loan 90 = .ok (.goto 4, 3) := by decide +kernel
theorem d_Md_loan_93 : decode b_Md_loan 93 = .ok (.iconst 0, 1) := by decide +kernel
theorem d_Md_loan_94 : decode b_Md_loan 94 = .ok (.bipush 13, 2) := by decide +kernel
theorem d_Md_loan_96 : decode b_Md_loan 96 = .ok (.invokestatic 105, 3) := by decide +kernel
theorem d_Md_loan_99 : decode b_Md_loan 99 = .ok (.istore 5, 2) := by decide +kernel
theorem d_Md_loan_101 : decode b_Md_loan 101 = .ok (.iload 5, 2) := by decide +kernel
theorem d_Md_loan_103 : decode b_Md_loan 103 = .ok (.iload 5, 2) := by decide +kernel
theorem d_Md_loan_105 : decode b_Md_loan 105 = .ok (.ifCond .gt 26, 3) := by decide +kernel
theorem d_Md_loan_108 : decode b_Md_loan 108 = .ok (.aload_n 0, 1) := by decide +kernel
theorem d_Md_loan_109 : decode b_Md_loan 109 = .ok (.iload_n 2, 1) := by decide +kernel
theorem d_Md_loan_110 : decode b_Md_loan 110 = .ok (.iload_n 3, 1) := by decide +kernel
theorem d_Md_loan_111 : decode b_Md_loan 111 = .ok (.iload 4, 2) := by decide +kernel
theorem d_Md_loan_113 : decode b_Md_loan 113 = .ok (.invokevirtual 146, 3) := by decide +kernel
theorem d_Md_loan_116 : decode b_Md_loan 116 = .ok (.ifCond .ne 19, 3) := by decide +kernel
theorem d_Md_loan_119 : decode b_Md_loan 119 = .ok (.aload_n 0, 1) := by decide +kernel
theorem d_Md_loan_120 : decode b_Md_loan 120 = .ok (.iload_n 2, 1) := by decide +kernel
theorem d_Md_loan_121 : decode b_Md_loan 121 = .ok (.iload_n 3, 1) := by decide +kernel
theorem d_Md_loan_122 : decode b_Md_loan 122 = .ok (.iload 4, 2) := by decide +kernel
theorem d_Md_loan_124 : decode b_Md_loan 124 = .ok (.iconst (-1), 1) := by decide +kernel
theorem d_Md_loan_125 : decode b_Md_loan 125 = .ok (.invokevirtual 162, 3) := by decide +kernel
theorem d_Md_loan_128 : decode b_Md_loan 128 = .ok (.ifCond .ne 7, 3) := by decide +kernel
theorem d_Md_loan_131 : decode b_Md_loan 131 = .ok (.iconst 1, 1) := by decide +kernel
theorem d_Md_loan_132 : decode b_Md_loan 132 = .ok (.goto 4, 3) := by decide +kernel
theorem d_Md_loan_135 : decode b_Md_loan 135 = .ok (.iconst 0, 1) := by decide +kernel
theorem d_Md_loan_136 : decode b_Md_loan 136 = .ok (.bipush 14, 2) := by decide +kernel
theorem d_Md_loan_138 : decode b_Md_loan 138 = .ok (.invokestatic 105, 3) := by decide +kernel
theorem d_Md_loan_141 : decode b_Md_loan 141 = .ok (.istore 5, 2) := by decide +kernel
theorem d_Md_loan_143 : decode b_Md_loan 143 = .ok (.aload_n 0, 1) := by decide +kernel
theorem d_Md_loan_144 : decode b_Md_loan 144 = .ok (.iload 5, 2) := by decide +kernel
theorem d_Md_loan_146 : decode b_Md_loan 146 = .ok (.invokevirtual 109, 3) := by decide +kernel
theorem d_Md_loan_149 : decode b_Md_loan 149 = .ok (.ifCond .ne 5, 3) := by decide +kernel
theorem d_Md_loan_152 : decode b_Md_loan 152 = .ok (.iconst 0, 1) := by decide +kernel
theorem d_Md_loan_153 : decode b_Md_loan 153 = .ok (.ireturn, 1) := by decide +kernel
theorem d_Md_loan_154 : decode b_Md_loan 154 = .ok (.aload_n 0, 1) := by decide +kernel
theorem d_Md_loan_155 : decode b_Md_loan 155 = .ok (.getfield 53, 3) := by decide +kernel
theorem d_Md_loan_158 : decode b_Md_loan 158 = .ok (.aload_n 0, 1) := by decide +kernel
theorem d_Md_loan_159 : decode b_Md_loan 159 = .ok (.getfield 7, 3) := by decide +kernel
theorem d_Md_loan_162 : decode b_Md_loan 162 = .ok (.bipush 7, 2) := by decide +kernel
theorem d_Md_loan_164 : decode b_Md_loan 164 = .ok (.iaload, 1) := by decide +kernel
theorem d_Md_loan_165 : decode b_Md_loan 165 = .ok (.iload_n 2, 1) := by decide +kernel
theorem d_Md_loan_166 : decode b_Md_loan 166 = .ok (.iastore, 1) := by decide +kernel
theorem d_Md_loan_167 : decode b_Md_loan 167 = .ok (.aload_n 0, 1) := by decide +kernel
theorem d_Md_loan_168 : decode b_Md_loan 168 = .ok (.getfield 56, 3) := by decide +kernel
theorem d_Md_loan_171 : decode b_Md_loan 171 = .ok (.aload_n 0, 1) := by decide +kernel
theorem d_Md_loan_172 : decode b_Md_loan 172 = .ok (.getfield 7, 3) := by decide +kernel
theorem d_Md_loan_175 : decode b_Md_loan 175 = .ok (.bipush 7, 2) := by decide +kernel
theorem d_Md_loan_177 : decode b_Md_loan 177 = .ok (.iaload, 1) := by decide +kernel
theorem d_Md_loan_178 : decode b_Md_loan 178 = .ok (.iload_n 3, 1) := by decide +kernel
theorem d_Md_loan_179 : decode b_Md_loan 179 = .ok (.iastore, 1) := by decide +kernel
theorem d_Md_loan_180 : decode b_Md_loan 180 = .ok (.aload_n 0, 1) := by decide +kernel
theorem d_Md_loan_181 : decode b_Md_loan 181 = .ok (.getfield 59, 3) := by decide +kernel
theorem d_Md_loan_184 : decode b_Md_loan 184 = .ok (.aload_n 0, 1) := by decide +kernel
theorem d_Md_loan_185 : decode b_Md_loan 185 = .ok (.getfield 7, 3) := by decide +kernel
theorem d_Md_loan_188 : decode b_Md_loan 188 = .ok (.bipush 7, 2) := by decide +kernel
theorem d_Md_loan_190 : decode b_Md_loan 190 = .ok (.iaload, 1) := by decide +kernel
theorem d_Md_loan_191 : decode b_Md_loan 191 = .ok (.iload 4, 2) := by decide +kernel
theorem d_Md_loan_193 : decode b_Md_loan 193 = .ok (.iastore, 1) := by decide +kernel
theorem d_Md_loan_194 : decode b_Md_loan 194 = .ok (.aload_n 0, 1) := by decide +kernel
theorem d_Md_loan_195 : decode b_Md_loan 195 = .ok (.bipush 7, 2) := by decide +kernel
theorem d_Md_loan_197 : decode b_Md_loan 197 = .ok (.invokevirtual 113, 3) := by decide +kernel
theorem d_Md_loan_200 : decode b_Md_loan 200 = .ok (.ireturn, 1) := by decide +kernel
theorem d_Md_back_0 : decode b_Md_back 0 = .ok (.aload_n 0, 1) := by decide +kernel
theorem d_Md_back_1 : decode b_Md_back 1 = .ok (.iload_n 2, 1) := by decide +kernel
theorem d_Md_back_2 : decode b_Md_back 2 = .ok (.bipush 7, 2) := by decide +kernel
theorem d_Md_back_4 : decode b_Md_back 4 = .ok (.invokevirtual 90, 3) := by decide +kernel
theorem d_Md_back_7 : decode b_Md_back 7 = .ok (.istore 4, 2) := by decide +kernel
theorem d_Md_back_9 : decode b_Md_back 9 = .ok (.iload 4, 2) := by decide +kernel
theorem d_Md_back_11 : decode b_Md_back 11 = .ok (.ifCond .eq 11, 3) := by decide +kernel
theorem d_Md_back_14 : decode b_Md_back 14 = .ok (.iload_n 2, 1) := by decide +kernel
theorem d_Md_back_15 : decode b_Md_back 15 = .ok (.sipush 700, 3) := by decide +kernel
theorem d_Md_back_18 : decode b_Md_back 18 = .ok (.isub, 1) := by decide +kernel
theorem d_Md_back_19 : decode b_Md_back 19 = .ok (.goto 4, 3) := by decide +kernel
theorem d_Md_back_22 : decode b_Md_back 22 = .ok (.iconst 0, 1) := by decide +kernel
theorem d_Md_back_23 : decode b_Md_back 23 = .ok (.istore 5, 2) := by decide +kernel
theorem d_Md_back_25 : decode b_Md_back 25 = .ok (.aload_n 0, 1) := by decide +kernel
theorem d_Md_back_26 : decode b_Md_back 26 = .ok (.iload 4, 2) := by decide +kernel
theorem d_Md_back_28 : decode b_Md_back 28 = .ok (.iload_n 1, 1) := by decide +kernel
theorem d_Md_back_29 : decode b_Md_back 29 = .ok (.bipush 8, 2) := by decide +kernel
theorem d_Md_back_31 : decode b_Md_back 31 = .ok (.iconst 1, 1) := by decide +kernel
theorem d_Md_back_32 : decode b_Md_back 32 = .ok (.invokevirtual 97, 3) := by decide +kernel
theorem d_Md_back_35 : decode b_Md_back 35 = .ok (.istore 6, 2) := by decide +kernel
theorem d_Md_back_37 : decode b_Md_back 37 = .ok (.iload 6, 2) := by decide +kernel
theorem d_Md_back_39 : decode b_Md_back 39 = .ok (.iload_n 3, 1) := by decide +kernel
theorem d_Md_back_40 : decode b_Md_back 40 = .ok (.invokestatic 150, 3) := by decide +kernel
theorem d_Md_back_43 : decode b_Md_back 43 = .ok (.iconst 4, 1) := by decide +kernel
theorem d_Md_back_44 : decode b_Md_back 44 = .ok (.invokestatic 105, 3) := by decide +kernel
theorem d_Md_back_47 : decode b_Md_back 47 = .ok (.istore 6, 2) := by decide +kernel
theorem d_Md_back_49 : decode b_Md_back 49 = .ok (.aload_n 0, 1) := by decide +kernel
theorem d_Md_back_50 : decode b_Md_back 50 = .ok (.iload 6, 2) := by decide +kernel
theorem d_Md_back_52 : decode b_Md_back 52 = .ok (.iload_n 3, 1) := by decide +kernel
theorem d_Md_back_53 : decode b_Md_back 53 = .ok (.aload_n 0, 1) := by decide +kernel
theorem d_Md_back_54 : decode b_Md_back 54 = .ok (.getfield 56, 3) := by decide +kernel
theorem d_Md_back_57 : decode b_Md_back 57 = .ok (.iload 5, 2) := by decide +kernel
theorem d_Md_back_59 : decode b_Md_back 59 = .ok (.iaload, 1) := by decide +kernel
theorem d_Md_back_60 : decode b_Md_back 60 = .ok (.aload_n 0, 1) := by decide +kernel
theorem d_Md_back_61 : decode b_Md_back 61 = .ok (.getfield 59, 3) := by decide +kernel
theorem d_Md_back_64 : decode b_Md_back 64 = .ok (.iload 5, 2) := by decide +kernel
theorem d_Md_back_66 : decode b_Md_back 66 = .ok (.iaload, 1) := by decide +kernel
theorem d_Md_back_67 : decode b_Md_back 67 = .ok (.invokestatic 101, 3) := by decide +kernel
theorem d_Md_back_70 : decode b_Md_back 70 = .ok (.bipush 15, 2) := by decide +kernel
theorem d_Md_back_72 : decode b_Md_back 72 = .ok (.invokestatic 105, 3) := by decide +kernel
theorem d_Md_back_75 : decode b_Md_back 75 = .ok (.invokevirtual 109, 3) := by decide +kernel
theorem d_Md_back_78 : decode b_Md_back 78 = .ok (.ifCond .ne 5, 3) := by decide +kernel
theorem d_Md_back_81 : decode b_Md_back 81 = .ok (.iconst 0, 1) := by decide +kernel
theorem d_Md_back_82 : decode b_Md_back 82 = .ok (.ireturn, 1) := by decide +kernel
theorem d_Md_back_83 : decode b_Md_back 83 = .ok (.aload_n 0, 1) := by decide +kernel
theorem d_Md_back_84 : decode b_Md_back 84 = .ok (.getfield 59, 3) := by decide +kernel
theorem d_Md_back_87 : decode b_Md_back 87 = .ok (.iload 5, 2) := by decide +kernel
theorem d_Md_back_89 : decode b_Md_back 89 = .ok (.iaload, 1) := by decide +kernel
theorem d_Md_back_90 : decode b_Md_back 90 = .ok (.istore 7, 2) := by decide +kernel
theorem d_Md_back_92 : decode b_Md_back 92 = .ok (.aload_n 0, 1) := by decide +kernel
theorem d_Md_back_93 : decode b_Md_back 93 = .ok (.getfield 59, 3) := by decide +kernel
theorem d_Md_back_96 : decode b_Md_back 96 = .ok (.iload 5, 2) := by decide +kernel
theorem d_Md_back_98 : decode b_Md_back 98 = .ok (.iload_n 3, 1) := by decide +kernel
theorem d_Md_back_99 : decode b_Md_back 99 = .ok (.iastore, 1) := by decide +kernel
theorem d_Md_back_100 : decode b_Md_back 100 = .ok (.iload 7, 2) := by decide +kernel
theorem d_Md_back_102 : decode b_Md_back 102 = .ok (.ireturn, 1) := by decide +kernel
theorem d_Md_show_0 : decode b_Md_show 0 = .ok (.aload_n 0, 1) := by decide +kernel
theorem d_Md_show_1 : decode b_Md_show 1 = .ok (.aload_n 0, 1) := by decide +kernel
theorem d_Md_show_2 : decode b_Md_show 2 = .ok (.iload_n 2, 1) := by decide +kernel
theorem d_Md_show_3 : decode b_Md_show 3 = .ok (.bipush 6, 2) := by decide +kernel
theorem d_Md_show_5 : decode b_Md_show 5 = .ok (.invokevirtual 90, 3) := by decide +kernel
theorem d_Md_show_8 : decode b_Md_show 8 = .ok (.iload_n 1, 1) := by decide +kernel
theorem d_Md_show_9 : decode b_Md_show 9 = .ok (.bipush 16, 2) := by decide +kernel
theorem d_Md_show_11 : decode b_Md_show 11 = .ok (.aload_n 0, 1) := by decide +kernel
theorem d_Md_show_12 : decode b_Md_show 12 = .ok (.getfield 7, 3) := by decide +kernel
theorem d_Md_show_15 : decode b_Md_show 15 = .ok (.bipush 8, 2) := by decide +kernel
theorem d_Md_show_17 : decode b_Md_show 17 = .ok (.iaload, 1) := by decide +kernel
theorem d_Md_show_18 : decode b_Md_show 18 = .ok (.bipush 10, 2) := by decide +kernel
theorem d_Md_show_20 : decode b_Md_show 20 = .ok (.if_icmp .ge 7, 3) := by decide +kernel
theorem d_Md_show_23 : decode b_Md_show 23 = .ok (.iconst 1, 1) := by decide +kernel
theorem d_Md_show_24 : decode b_Md_show 24 = .ok (.goto 4, 3) := by decide +kernel
theorem d_Md_show_27 : decode b_Md_show 27 = .ok (.iconst 0, 1) := by decide +kernel
theorem d_Md_show_28 : decode b_Md_show 28 = .ok (.invokevirtual 97, 3) := by decide +kernel
theorem d_Md_show_31 : decode b_Md_show 31 = .ok (.istore 5, 2) := by decide +kernel
theorem d_Md_show_33 : decode b_Md_show 33 = .ok (.aload_n 0, 1) := by decide +kernel
theorem d_Md_show_34 : decode b_Md_show 34 = .ok (.iload 5, 2) := by decide +kernel
theorem d_Md_show_36 : decode b_Md_show 36 = .ok (.iload_n 3, 1) := by decide +kernel
theorem d_Md_show_37 : decode b_Md_show 37 = .ok (.iload 4, 2) := by decide +kernel
theorem d_Md_show_39 : decode b_Md_show 39 = .ok (.invokestatic 156, 3) := by decide +kernel
theorem d_Md_show_42 : decode b_Md_show 42 = .ok (.iconst 4, 1) := by decide +kernel
theorem d_Md_show_43 : decode b_Md_show 43 = .ok (.invokestatic 105, 3) := by decide +kernel
theorem d_Md_show_46 : decode b_Md_show 46 = .ok (.invokevirtual 109, 3) := by decide +kernel
theorem d_Md_show_49 : decode b_Md_show 49 = .ok (.ifCond .ne 5, 3) := by decide +kernel
theorem d_Md_show_52 : decode b_Md_show 52 = .ok (.iconst 0, 1) := by decide +kernel
theorem d_Md_show_53 : decode b_Md_show 53 = .ok (.ireturn, 1) := by decide +kernel
theorem d_Md_show_54 : decode b_Md_show 54 = .ok (.aload_n 0, 1) := by decide +kernel
theorem d_Md_show_55 : decode b_Md_show 55 = .ok (.getfield 62, 3) := by decide +kernel
theorem d_Md_show_58 : decode b_Md_show 58 = .ok (.aload_n 0, 1) := by decide +kernel
theorem d_Md_show_59 : decode b_Md_show 59 = .ok (.getfield 7, 3) := by decide +kernel
theorem d_Md_show_62 : decode b_Md_show 62 = .ok (.bipush 8, 2) := by decide +kernel
theorem d_Md_show_64 : decode b_Md_show 64 = .ok (.iaload, 1) := by decide +kernel
theorem d_Md_show_65 : decode b_Md_show 65 = .ok (.iload_n 2, 1) := by decide +kernel
theorem d_Md_show_66 : decode b_Md_show 66 = .ok (.iastore, 1) := by decide +kernel
theorem d_Md_show_67 : decode b_Md_show 67 = .ok (.aload_n 0, 1) := by decide +kernel
theorem d_Md_show_68 : decode b_Md_show 68 = .ok (.getfield 65, 3) := by decide +kernel
theorem d_Md_show_71 : decode b_Md_show 71 = .ok (.aload_n 0, 1) := by decide +kernel
theorem d_Md_show_72 : decode b_Md_show 72 = .ok (.getfield 7, 3) := by decide +kernel
theorem d_Md_show_75 : decode b_Md_show 75 = .ok (.bipush 8, 2) := by decide +kernel
theorem d_Md_show_77 : decode b_Md_show 77 = .ok (.iaload, 1) := by decide +kernel
theorem d_Md_show_78 : decode b_Md_show 78 = .ok (.iload_n 3, 1) := by decide +kernel
theorem d_Md_show_79 : decode b_Md_show 79 = .ok (.iastore, 1) := by decide +kernel
theorem d_Md_show_80 : decode b_Md_show 80 = .ok (.aload_n 0, 1) := by decide +kernel
theorem d_Md_show_81 : decode b_Md_show 81 = .ok (.getfield 68, 3) := by decide +kernel
theorem d_Md_show_84 : decode b_Md_show 84 = .ok (.aload_n 0, 1) := by decide +kernel
theorem d_Md_show_85 : decode b_Md_show 85 = .ok (.getfield 7, 3) := by decide +kernel
theorem d_Md_show_88 : decode b_Md_show 88 = .ok (.bipush 8, 2) := by decide +kernel
theorem d_Md_show_90 : decode b_Md_show 90 = .ok (.iaload, 1) := by decide +kernel
theorem d_Md_show_91 : decode b_Md_show 91 = .ok (.iload 4, 2) := by decide +kernel
theorem d_Md_show_93 : decode b_Md_show 93 = .ok (.iastore, 1) := by decide +kernel
theorem d_Md_show_94 : decode b_Md_show 94 = .ok (.aload_n 0, 1) := by decide +kernel
theorem d_Md_show_95 : decode b_Md_show 95 = .ok (.bipush 8, 2) := by decide +kernel
theorem d_Md_show_97 : decode b_Md_show 97 = .ok (.invokevirtual 113, 3) := by decide +kernel
theorem d_Md_show_100 : decode b_Md_show 100 = .ok (.ireturn, 1) := by decide +kernel
theorem d_Md_hang_0 : decode b_Md_hang 0 = .ok (.aload_n 0, 1) := by decide +kernel
theorem d_Md_hang_1 : decode b_Md_hang 1 = .ok (.iload_n 2, 1) := by decide +kernel
theorem d_Md_hang_2 : decode b_Md_hang 2 = .ok (.bipush 8, 2) := by decide +kernel
theorem d_Md_hang_4 : decode b_Md_hang 4 = .ok (.invokevirtual 90, 3) := by decide +kernel
theorem d_Md_hang_7 : decode b_Md_hang 7 = .ok (.ifCond .eq 16, 3) := by decide +kernel
theorem d_Md_hang_10 : decode b_Md_hang 10 = .ok (.aload_n 0, 1) := by decide +kernel
theorem d_Md_hang_11 : decode b_Md_hang 11 = .ok (.iload_n 3, 1) := by decide +kernel
theorem d_Md_hang_12 : decode b_Md_hang 12 = .ok (.iconst 5, 1) := by decide +kernel
theorem d_Md_hang_13 : decode b_Md_hang 13 = .ok (.invokevirtual 90, 3) := by decide +kernel
theorem d_Md_hang_16 : decode b_Md_hang 16 = .ok (.ifCond .eq 7, 3) := by decide +kernel
theorem d_Md_hang_19 : decode b_Md_hang 19 = .ok (.iconst 1, 1) := by decide +kernel
theorem d_Md_hang_20 : decode b_Md_hang 20 = .ok (.goto 4, 3) := by decide +kernel
theorem d_Md_hang_23 : decode b_Md_hang 23 = .ok (.iconst 0, 1) := by decide +kernel
theorem d_Md_hang_24 : decode b_Md_hang 24 = .ok (.istore 4, 2) := by decide +kernel
theorem d_Md_hang_26 : decode b_Md_hang 26 = .ok (.aload_n 0, 1) := by decide +kernel
theorem d_Md_hang_27 : decode b_Md_hang 27 = .ok (.iload 4, 2) := by decide +kernel
theorem d_Md_hang_29 : decode b_Md_hang 29 = .ok (.iload_n 1, 1) := by decide +kernel
theorem d_Md_hang_30 : decode b_Md_hang 30 = .ok (.bipush 16, 2) := by decide +kernel
theorem d_Md_hang_32 : decode b_Md_hang 32 = .ok (.iconst 1, 1) := by decide +kernel
theorem d_Md_hang_33 : decode b_Md_hang 33 = .ok (.invokevirtual 97, 3) := by decide +kernel
theorem d_Md_hang_36 : decode b_Md_hang 36 = .ok (.istore 5, 2) := by decide +kernel
theorem d_Md_hang_38 : decode b_Md_hang 38 = .ok (.iload 4, 2) := by decide +kernel
theorem d_Md_hang_40 : decode b_Md_hang 40 = .ok (.ifCond .eq 11, 3) := by decide +kernel
theorem d_Md_hang_43 : decode b_Md_hang 43 = .ok (.iload_n 2, 1) := by decide +kernel
theorem d_Md_hang_44 : decode b_Md_hang 44 = .ok (.sipush 800, 3) := by decide +kernel
theorem d_Md_hang_47 : decode b_Md_hang 47 = .ok (.isub, 1) := by decide +kernel
theorem d_Md_hang_48 : decode b_Md_hang 48 = .ok (.goto 4, 3) := by decide +kernel
theorem d_Md_hang_51 : decode b_Md_hang 51 = .ok (.iconst 0, 1) := by decide +kernel
theorem d_Md_hang_52 : decode b_Md_hang 52 = .ok (.istore 6, 2) := by decide +kernel
theorem d_Md_hang_54 : decode b_Md_hang 54 = .ok (.iload 5, 2) := by decide +kernel
theorem d_Md_hang_56 : decode b_Md_hang 56 = .ok (.ifCond .ne 30, 3) := by decide +kernel
theorem d_Md_hang_59 : decode b_Md_hang 59 = .ok (.aload_n 0, 1) := by decide +kernel
theorem d_Md_hang_60 : decode b_Md_hang 60 = .ok (.getfield 71, 3) := by decide +kernel
theorem d_Md_hang_63 : decode b_Md_hang 63 = .ok (.bipush 30, 2) := by decide +kernel
theorem d_Md_hang_65 : decode b_Md_hang 65 = .ok (.iload 6, 2) := by decide +kernel
theorem d_Md_hang_67 : decode b_Md_hang 67 = .ok (.imul, 1) := by decide +kernel
theorem d_Md_hang_68 : decode b_Md_hang 68 = .ok (.iload_n 3, 1) := by decide +kernel
theorem d_Md_hang_69 : decode b_Md_hang 69 = .ok (.iadd, 1) := by decide +kernel
theorem d_Md_hang_70 : decode b_Md_hang 70 = .ok (.sipush 500, 3) := by decide +kernel
theorem d_Md_hang_73 : decode b_Md_hang 73 = .ok (.isub, 1) := by decide +kernel
theorem d_Md_hang_74 : decode b_Md_hang 74 = .ok (.baload, 1) := by decide +kernel
theorem d_Md_hang_75 : decode b_Md_hang 75 = .ok (.ifCond .eq 11, 3) := by decide +kernel
theorem d_Md_hang_78 : decode b_Md_hang 78 = .ok (.aload_n 0, 1) := by decide +kernel
theorem d_Md_hang_79 : decode b_Md_hang 79 = .ok (.iconst 0, 1) := by decide +kernel
theorem d_Md_hang_80 : decode b_Md_hang 80 = .ok (.invokevirtual 109, 3) := by decide +kernel
theorem d_Md_hang_83 : decode b_Md_hang 83 = .ok (.pop, 1) := by decide +kernel
theorem d_Md_hang_84 : decode b_Md_hang 84 = .ok (.iconst 0, 1) := by decide +kernel
theorem d_Md_hang_85 : decode b_Md_hang 85 = .ok (.ireturn, 1) := by decide +kernel
theorem d_Md_hang_86 : decode b_Md_hang 86 = .ok (.iload 5, 2) := by decide +kernel
theorem d_Md_hang_88 : decode b_Md_hang 88 = .ok (.iload 5, 2) := by decide +kernel
theorem d_Md_hang_90 : decode b_Md_hang 90 = .ok (.ifCond .gt 18, 3) := by decide +kernel
theorem d_Md_hang_93 : decode b_Md_hang 93 = .ok (.aload_n 0, 1) := by decide +kernel
theorem d_Md_hang_94 : decode b_Md_hang 94 = .ok (.getfield 65, 3) := by decide +kernel
theorem d_Md_hang_97 : decode b_Md_hang 97 = .ok (.iload 6, 2) := by decide +kernel
theorem d_Md_hang_99 : decode b_Md_hang 99 = .ok (.iaload, 1) := by decide +kernel
theorem d_Md_hang_100 : decode b_Md_hang 100 = .ok (.aload_n 0, 1) := by decide +kernel
theorem d_Md_hang_101 : decode b_Md_hang 101 = .ok (.iload_n 3, 1) := by decide +kernel
theorem d_Md_hang_102 : decode b_Md_hang 102 = .ok (.invokevirtual 143, 3) := by decide +kernel
theorem d_Md_hang_105 : decode b_Md_hang 105 = .ok (.if_icmp .lt 7, 3) := by decide +kernel
theorem d_Md_hang_108 : decode b_Md_hang 108 = .ok (.iconst 1, 1) := by decide +kernel
theorem d_Md_hang_109 : decode b_Md_hang 109 = .ok (.goto 4, 3) := by decide +kernel
theorem d_Md_hang_112 : decode b_Md_hang 112 = .ok (.iconst 0, 1) := by decide +kernel
theorem d_Md_hang_113 : decode b_Md_hang 113 = .ok (.bipush 11, 2) := by decide +kernel
theorem d_Md_hang_115 : decode b_Md_hang 115 = .ok (.invokestatic 105, 3) := by decide +kernel
theorem d_Md_hang_118 : decode b_Md_hang 118 = .ok (.istore 5, 2) := by decide +kernel
theorem d_Md_hang_120 : decode b_Md_hang 120 = .ok (.iload 5, 2) := by decide +kernel
theorem d_Md_hang_122 : decode b_Md_hang 122 = .ok (.iload 5, 2) := by decide +kernel
theorem d_Md_hang_124 : decode b_Md_hang 124 = .ok (.ifCond .gt 11, 3) := by decide +kernel
theorem d_Md_hang_127 : decode b_Md_hang 127 = .ok (.aload_n 0, 1) := by decide +kernel
theorem d_Md_hang_128 : decode b_Md_hang 128 = .ok (.iload_n 3, 1) := by decide +kernel
theorem d_Md_hang_129 : decode b_Md_hang 129 = .ok (.invokevirtual 159, 3) := by decide +kernel
theorem d_Md_hang_132 : decode b_Md_hang 132 = .ok (.ifCond .ne 7, 3) := by decide +kernel
theorem d_Md_hang_135 : decode b_Md_hang 135 = .ok (.iconst 1, 1) := by decide +kernel
theorem d_Md_hang_136 : decode b_Md_hang 136 = .ok (.goto 4, 3) := by decide +kernel
theorem d_Md_hang_139 : decode b_Md_hang 139 = .ok (.iconst 0, 1) := by decide +kernel
theorem d_Md_hang_140 : decode b_Md_hang 140 = .ok (.bipush 13, 2) := by decide +kernel
theorem d_Md_hang_142 : decode b_Md_hang 142 = .ok (.invokestatic 105, 3) := by decide +kernel
theorem d_Md_hang_145 : decode b_Md_hang 145 = .ok (.istore 5, 2) := by decide +kernel
theorem d_Md_hang_147 : decode b_Md_hang 147 = .ok (.iload 5, 2) := by decide +kernel
theorem d_Md_hang_149 : decode b_Md_hang 149 = .ok (.iload 5, 2) := by decide +kernel
theorem d_Md_hang_151 : decode b_Md_hang 151 = .ok (.ifCond .gt 49, 3) := by decide +kernel
theorem d_Md_hang_154 : decode b_Md_hang 154 = .ok (.aload_n 0, 1) := by decide +kernel
theorem d_Md_hang_155 : decode b_Md_hang 155 = .ok (.iload_n 3, 1) := by decide +kernel
theorem d_Md_hang_156 : decode b_Md_hang 156 = .ok (.aload_n 0, 1) := by decide +kernel
theorem d_Md_hang_157 : decode b_Md_hang 157 = .ok (.getfield 65, 3) := by decide +kernel
theorem d_Md_hang_160 : decode b_Md_hang 160 = .ok (.iload 6, 2) := by decide +kernel
theorem d_Md_hang_162 : decode b_Md_hang 162 = .ok (.iaload, 1) := by decide +kernel
theorem d_Md_hang_163 : decode b_Md_hang 163 = .ok (.aload_n 0, 1) := by decide +kernel
theorem d_Md_hang_164 : decode b_Md_hang 164 = .ok (.getfield 68, 3) := by decide +kernel
theorem d_Md_hang_167 : decode b_Md_hang 167 = .ok (.iload 6, 2) := by decide +kernel
theorem d_Md_hang_169 : decode b_Md_hang 169 = .ok (.iaload, 1) := by decide +kernel
theorem d_Md_hang_170 : decode b_Md_hang 170 = .ok (.invokevirtual 146, 3) := by decide +kernel
theorem d_Md_hang_173 : decode b_Md_hang 173 = .ok (.ifCond .ne 31, 3) := by decide +kernel
theorem d_Md_hang_176 : decode b_Md_hang 176 = .ok (.aload_n 0, 1) := by decide +kernel
theorem d_Md_hang_177 : decode b_Md_hang 177 = .ok (.iload_n 3, 1) := by decide +kernel
theorem d_Md_hang_178 : decode b_Md_hang 178 = .ok (.aload_n 0, 1) := by decide +kernel
theorem d_Md_hang_179 : decode b_Md_hang 179 = .ok (.getfield 65, 3) := by decide +kernel
theorem d_Md_hang_182 : decode b_Md_hang 182 = .ok (.iload 6, 2) := by decide +kernel
theorem d_Md_hang_184 : decode b_Md_hang 184 = .ok (.iaload, 1) := by decide +kernel
theorem d_Md_hang_185 : decode b_Md_hang 185 = .ok (.aload_n 0, 1) := by decide +kernel
theorem d_Md_hang_186 : decode b_Md_hang 186 = .ok (.getfield 68, 3) := by decide +kernel
theorem d_Md_hang_189 : decode b_Md_hang 189 = .ok (.iload 6, 2) := by decide +kernel
theorem d_Md_hang_191 : decode b_Md_hang 191 = .ok (.iaload, 1) := by decide +kernel
theorem d_Md_hang_192 : decode b_Md_hang 192 = .ok (.iload 6, 2) := by decide +kernel
theorem d_Md_hang_194 : decode b_Md_hang 194 = .ok (.invokevirtual 162, 3) := by decide +kernel
theorem d_Md_hang_197 : decode b_Md_hang 197 = .ok (.ifCond .ne 7, 3) := by decide +kernel
theorem d_Md_hang_200 : decode b_Md_hang 200 = .ok (.iconst 1, 1) := by decide +kernel
theorem d_Md_hang_201 : decode b_Md_hang 201 = .ok (.goto 4, 3) := by decide +kernel
theorem d_Md_hang_204 : decode b_Md_hang 204 = .ok (.iconst 0, 1) := by decide +kernel
theorem d_Md_hang_205 : decode b_Md_hang 205 = .ok (.bipush 14, 2) := by decide +kernel
theorem d_Md_hang_207 : decode b_Md_hang 207 = .ok (.invokestatic 105, 3) := by decide +kernel
theorem d_Md_hang_210 : decode b_Md_hang 210 = .ok (.istore 5, 2) := by decide +kernel
theorem d_Md_hang_212 : decode b_Md_hang 212 = .ok (.aload_n 0, 1) := by decide +kernel
theorem d_Md_hang_213 : decode b_Md_hang 213 = .ok (.iload 5, 2) := by decide +kernel
theorem d_Md_hang_215 : decode b_Md_hang 215 = .ok (.invokevirtual 109, 3) := by decide +kernel
theorem d_Md_hang_218 : decode b_Md_hang 218 = .ok (.ifCond .ne 5, 3) := by decide +kernel
theorem d_Md_hang_221 : decode b_Md_hang 221 = .ok (.iconst 0, 1) := by decide +kernel
theorem d_Md_hang_222 : decode b_Md_hang 222 = .ok (.ireturn, 1) := by decide +kernel
theorem d_Md_hang_223 : decode b_Md_hang 223 = .ok (.aload_n 0, 1) := by decide +kernel
theorem d_Md_hang_224 : decode b_Md_hang 224 = .ok (.getfield 71, 3) := by decide +kernel
theorem d_Md_hang_227 : decode b_Md_hang 227 = .ok (.bipush 30, 2) := by decide +kernel
theorem d_Md_hang_229 : decode b_Md_hang 229 = .ok (.iload 6, 2) := by decide +kernel
theorem d_Md_hang_231 : decode b_Md_hang 231 = .ok (.imul, 1) := by decide +kernel
theorem d_Md_hang_232 : decode b_Md_hang 232 = .ok (.iload_n 3, 1) := by decide +kernel
theorem d_Md_hang_233 : decode b_Md_hang 233 = .ok (.iadd, 1) := by decide +kernel
theorem d_Md_hang_234 : decode b_Md_hang 234 = .ok (.sipush 500, 3) := by decide +kernel
theorem d_Md_hang_237 : decode b_Md_hang 237 = .ok (.isub, 1) := by decide +kernel
theorem d_Md_hang_238 : decode b_Md_hang 238 = .ok (.iconst 1, 1) := by decide +kernel
theorem d_Md_hang_239 : decode b_Md_hang 239 = .ok (.bastore, 1) := by decide +kernel
theorem d_Md_hang_240 : decode b_Md_hang 240 = .ok (.iconst 1, 1) := by decide +kernel
theorem d_Md_hang_241 : decode b_Md_hang 241 = .ok (.ireturn, 1) := by decide +kernel
theorem d_Md_take_0 : decode b_Md_take 0 = .ok (.aload_n 0, 1) := by decide +kernel
theorem d_Md_take_1 : decode b_Md_take 1 = .ok (.aload_n 0, 1) := by decide +kernel
theorem d_Md_take_2 : decode b_Md_take 2 = .ok (.aload_n 0, 1) := by decide +kernel
theorem d_Md_take_3 : decode b_Md_take 3 = .ok (.iload_n 2, 1) := by decide +kernel
theorem d_Md_take_4 : decode b_Md_take 4 = .ok (.bipush 8, 2) := by decide +kernel
theorem d_Md_take_6 : decode b_Md_take 6 = .ok (.invokevirtual 90, 3) := by decide +kernel
theorem d_Md_take_9 : decode b_Md_take 9 = .ok (.ifCond .eq 16, 3) := by decide +kernel
theorem d_Md_take_12 : decode b_Md_take 12 = .ok (.aload_n 0, 1) := by decide +kernel
theorem d_Md_take_13 : decode b_Md_take 13 = .ok (.iload_n 3, 1) := by decide +kernel
theorem d_Md_take_14 : decode b_Md_take 14 = .ok (.iconst 5, 1) := by decide +kernel
theorem d_Md_take_15 : decode b_Md_take 15 = .ok (.invokevirtual 90, 3) := by decide +kernel
theorem d_Md_take_18 : decode b_Md_take 18 = .ok (.ifCond .eq 7, 3) := by decide +kernel
theorem d_Md_take_21 : decode b_Md_take 21 = .ok (.iconst 1, 1) := by decide +kernel
theorem d_Md_take_22 : decode b_Md_take 22 = .ok (.goto 4, 3) := by decide +kernel
theorem d_Md_take_25 : decode b_Md_take 25 = .ok (.iconst 0, 1) := by decide +kernel
theorem d_Md_take_26 : decode b_Md_take 26 = .ok (.iload_n 1, 1) := by decide +kernel
theorem d_Md_take_27 : decode b_Md_take 27 = .ok (.bipush 16, 2) := by decide +kernel
theorem d_Md_take_29 : decode b_Md_take 29 = .ok (.iconst 1, 1) := by decide +kernel
theorem d_Md_take_30 : decode b_Md_take 30 = .ok (.invokevirtual 97, 3) := by decide +kernel
theorem d_Md_take_33 : decode b_Md_take 33 = .ok (.invokevirtual 109, 3) := by decide +kernel
theorem d_Md_take_36 : decode b_Md_take 36 = .ok (.ifCond .ne 5, 3) := by decide +kernel
theorem d_Md_take_39 : decode b_Md_take 39 = .ok (.iconst 0, 1) := by decide +kernel
theorem d_Md_take_40 : decode b_Md_take 40 = .ok (.ireturn, 1) := by decide +kernel
theorem d_Md_take_41 : decode b_Md_take 41 = .ok (.bipush 30, 2) := by decide +kernel
theorem d_Md_take_43 : decode b_Md_take 43 = .ok (.iload_n 2, 1) := by decide +kernel
theorem d_Md_take_44 : decode b_Md_take 44 = .ok (.sipush 800, 3) := by decide +kernel
theorem d_Md_take_47 : decode b_Md_take 47 = .ok (.isub, 1) := by decide +kernel
theorem d_Md_take_48 : decode b_Md_take 48 = .ok (.imul, 1) := by decide +kernel
theorem d_Md_take_49 : decode b_Md_take 49 = .ok (.iload_n 3, 1) := by decide +kernel
theorem d_Md_take_50 : decode b_Md_take 50 = .ok (.iadd, 1) := by decide +kernel
theorem d_Md_take_51 : decode b_Md_take 51 = .ok (.sipush 500, 3) := by decide +kernel
theorem d_Md_take_54 : decode b_Md_take 54 = .ok (.isub, 1) := by decide +kernel
theorem d_Md_take_55 : decode b_Md_take 55 = .ok (.istore 4, 2) := by decide +kernel
theorem d_Md_take_57 : decode b_Md_take 57 = .ok (.aload_n 0, 1) := by decide +kernel
theorem d_Md_take_58 : decode b_Md_take 58 = .ok (.getfield 71, 3) := by decide +kernel
theorem d_Md_take_61 : decode b_Md_take 61 = .ok (.iload 4, 2) := by decide +kernel
theorem d_Md_take_63 : decode b_Md_take 63 = .ok (.baload, 1) := by decide +kernel
theorem d_Md_take_64 : decode b_Md_take 64 = .ok (.istore 5, 2) := by decide +kernel
theorem d_Md_take_66 : decode b_Md_take 66 = .ok (.aload_n 0, 1) := by decide +kernel
theorem d_Md_take_67 : decode b_Md_take 67 = .ok (.getfield 71, 3) := by decide +kernel
theorem d_Md_take_70 : decode b_Md_take 70 = .ok (.iload 4, 2) := by decide +kernel
theorem d_Md_take_72 : decode b_Md_take 72 = .ok (.iconst 0, 1) := by decide +kernel
theorem d_Md_take_73 : decode b_Md_take 73 = .ok (.bastore, 1) := by decide +kernel
theorem d_Md_take_74 : decode b_Md_take 74 = .ok (.iload 5, 2) := by decide +kernel
theorem d_Md_take_76 : decode b_Md_take 76 = .ok (.ireturn, 1) := by decide +kernel
theorem d_Md_claim_0 : decode b_Md_claim 0 = .ok (.aload_n 0, 1) := by decide +kernel
theorem d_Md_claim_1 : decode b_Md_claim 1 = .ok (.aload_n 0, 1) := by decide +kernel
theorem d_Md_claim_2 : decode b_Md_claim 2 = .ok (.iload_n 2, 1) := by decide +kernel
theorem d_Md_claim_3 : decode b_Md_claim 3 = .ok (.iconst 5, 1) := by decide +kernel
theorem d_Md_claim_4 : decode b_Md_claim 4 = .ok (.invokevirtual 90, 3) := by decide +kernel
theorem d_Md_claim_7 : decode b_Md_claim 7 = .ok (.iload_n 1, 1) := by decide +kernel
theorem d_Md_claim_8 : decode b_Md_claim 8 = .ok (.bipush 32, 2) := by decide +kernel
theorem d_Md_claim_10 : decode b_Md_claim 10 = .ok (.aload_n 0, 1) := by decide +kernel
theorem d_Md_claim_11 : decode b_Md_claim 11 = .ok (.getfield 7, 3) := by decide +kernel
theorem d_Md_claim_14 : decode b_Md_claim 14 = .ok (.bipush 9, 2) := by decide +kernel
theorem d_Md_claim_16 : decode b_Md_claim 16 = .ok (.iaload, 1) := by decide +kernel
theorem d_Md_claim_17 : decode b_Md_claim 17 = .ok (.bipush 20, 2) := by decide +kernel
theorem d_Md_claim_19 : decode b_Md_claim 19 = .ok (.if_icmp .ge 7, 3) := by decide +kernel
theorem d_Md_claim_22 : decode b_Md_claim 22 = .ok (.iconst 1, 1) := by decide +kernel
theorem d_Md_claim_23 : decode b_Md_claim 23 = .ok (.goto 4, 3) := by decide +kernel
theorem d_Md_claim_26 : decode b_Md_claim 26 = .ok (.iconst 0, 1) := by decide +kernel
theorem d_Md_claim_27 : decode b_Md_claim 27 = .ok (.invokevirtual 97, 3) := by decide +kernel
theorem d_Md_claim_30 : decode b_Md_claim 30 = .ok (.istore 4, 2) := by decide +kernel
theorem d_Md_claim_32 : decode b_Md_claim 32 = .ok (.iconst 0, 1) := by decide +kernel
theorem d_Md_claim_33 : decode b_Md_claim 33 = .ok (.istore 5, 2) := by decide +kernel
theorem d_Md_claim_35 : decode b_Md_claim 35 = .ok (.iconst 0, 1) := by decide +kernel
theorem d_Md_claim_36 : decode b_Md_claim 36 = .ok (.istore 6, 2) := by decide +kernel
theorem d_Md_claim_38 : decode b_Md_claim 38 = .ok (.iload 6, 2) := by decide +kernel
theorem d_Md_claim_40 : decode b_Md_claim 40 = .ok (.aload_n 0, 1) := by decide +kernel
theorem d_Md_claim_41 : decode b_Md_claim 41 = .ok (.getfield 7, 3) := by decide +kernel
theorem d_Md_claim_44 : decode b_Md_claim 44 = .ok (.bipush 9, 2) := by decide +kernel
theorem d_Md_claim_46 : decode b_Md_claim 46 = .ok (.iaload, 1) := by decide +kernel
theorem d_Md_claim_47 : decode b_Md_claim 47 = .ok (.if_icmp .ge 53, 3) := by decide +kernel
theorem d_Md_claim_50 : decode b_Md_claim 50 = .ok (.iload 5, 2) := by decide +kernel
theorem d_Md_claim_52 : decode b_Md_claim 52 = .ok (.ifCond .ne 35, 3) := by decide +kernel
theorem d_Md_claim_55 : decode b_Md_claim 55 = .ok (.aload_n 0, 1) := by decide +kernel
theorem d_Md_claim_56 : decode b_Md_claim 56 = .ok (.getfield 80, 3) := by decide +kernel
theorem d_Md_claim_59 : decode b_Md_claim 59 = .ok (.iload 6, 2) := by decide +kernel
theorem d_Md_claim_61 : decode b_Md_claim 61 = .ok (.baload, 1) := by decide +kernel
theorem d_Md_claim_62 : decode b_Md_claim 62 = .ok (.ifCond .eq 29, 3) := by decide +kernel
theorem d_Md_claim_65 : decode b_Md_claim 65 = .ok (.aload_n 0, 1) := by decide +kernel
theorem d_Md_claim_66 : decode b_Md_claim 66 = .ok (.getfield 74, 3) := by decide +kernel
theorem d_Md_claim_69 : decode b_Md_claim 69 = .ok (.iload 6, 2) := by decide +kernel
theorem d_Md_claim_71 : decode b_Md_claim 71 = .ok (.iaload, 1) := by decide +kernel
theorem d_Md_claim_72 : decode b_Md_claim 72 = .ok (.iload_n 2, 1) := by decide +kernel
theorem d_Md_claim_73 : decode b_Md_claim 73 = .ok (.if_icmp .ne 18, 3) := by decide +kernel
theorem d_Md_claim_76 : decode b_Md_claim 76 = .ok (.aload_n 0, 1) := by decide +kernel
theorem d_Md_claim_77 : decode b_Md_claim 77 = .ok (.getfield 77, 3) := by decide +kernel
theorem d_Md_claim_80 : decode b_Md_claim 80 = .ok (.iload 6, 2) := by decide +kernel
theorem d_Md_claim_82 : decode b_Md_claim 82 = .ok (.iaload, 1) := by decide +kernel
theorem d_Md_claim_83 : decode b_Md_claim 83 = .ok (.iload_n 3, 1) := by decide +kernel
theorem d_Md_claim_84 : decode b_Md_claim 84 = .ok (.if_icmp .ne 7, 3) := by decide +kernel
theorem d_Md_claim_87 : decode b_Md_claim 87 = .ok (.iconst 1, 1) := by decide +kernel
theorem d_Md_claim_88 : decode b_Md_claim 88 = .ok (.goto 4, 3) := by decide +kernel
theorem d_Md_claim_91 : decode b_Md_claim 91 = .ok (.iconst 0, 1) := by decide +kernel
theorem d_Md_claim_92 : decode b_Md_claim 92 = .ok (.istore 5, 2) := by decide +kernel
theorem d_Md_claim_94 : decode b_Md_claim 94 = .ok (.iinc 6 1, 3) := by decide +kernel
theorem d_Md_claim_97 : decode b_Md_claim 97 = .ok (.goto (-59), 3) := by decide +kernel
theorem d_Md_claim_100 : decode b_Md_claim 100 = .ok (.iload 4, 2) := by decide +kernel
theorem d_Md_claim_102 : decode b_Md_claim 102 = .ok (.iload_n 3, 1) := by decide +kernel
theorem d_Md_claim_103 : decode b_Md_claim 103 = .ok (.iconst 0, 1) := by decide +kernel
theorem d_Md_claim_104 : decode b_Md_claim 104 = .ok (.bipush 9, 2) := by decide +kernel
theorem d_Md_claim_106 : decode b_Md_claim 106 = .ok (.invokestatic 101, 3) := by decide +kernel
theorem d_Md_claim_109 : decode b_Md_claim 109 = .ok (.iconst 4, 1) := by decide +kernel
theorem d_Md_claim_110 : decode b_Md_claim 110 = .ok (.invokestatic 105, 3) := by decide +kernel
theorem d_Md_claim_113 : decode b_Md_claim 113 = .ok (.istore 4, 2) := by decide +kernel
theorem d_Md_claim_115 : decode b_Md_claim 115 = .ok (.aload_n 0, 1) := by decide +kernel
theorem d_Md_claim_116 : decode b_Md_claim 116 = .ok (.iload 4, 2) := by decide +kernel
theorem d_Md_claim_118 : decode b_Md_claim 118 = .ok (.iload 5, 2) := by decide +kernel
theorem d_Md_claim_120 : decode b_Md_claim 120 = .ok (.ifCond .ne 7, 3) := by decide +kernel
theorem d_Md_claim_123 : decode b_Md_claim 123 = .ok (.iconst 1, 1) := by decide +kernel
theorem d_Md_claim_124 : decode b_Md_claim 124 = .ok (.goto 4, 3) := by decide +kernel
theorem d_Md_claim_127 : decode b_Md_claim 127 = .ok (.iconst 0, 1) := by decide +kernel
theorem d_Md_claim_128 : decode b_Md_claim 128 = .ok (.bipush 16, 2) := by decide +kernel
theorem d_Md_claim_130 : decode b_Md_claim 130 = .ok (.invokestatic 105, 3) := by decide +kernel
theorem d_Md_claim_133 : decode b_Md_claim 133 = .ok (.invokevirtual 109, 3) := by decide +kernel
theorem d_Md_claim_136 : decode b_Md_claim 136 = .ok (.ifCond .ne 5, 3) := by decide +kernel
theorem d_Md_claim_139 : decode b_Md_claim 139 = .ok (.iconst 0, 1) := by decide +kernel
theorem d_Md_claim_140 : decode b_Md_claim 140 = .ok (.ireturn, 1) := by decide +kernel
theorem d_Md_claim_141 : decode b_Md_claim 141 = .ok (.aload_n 0, 1) := by decide +kernel
theorem d_Md_claim_142 : decode b_Md_claim 142 = .ok (.getfield 74, 3) := by decide +kernel
theorem d_Md_claim_145 : decode b_Md_claim 145 = .ok (.aload_n 0, 1) := by decide +kernel
theorem d_Md_claim_146 : decode b_Md_claim 146 = .ok (.getfield 7, 3) := by decide +kernel
theorem d_Md_claim_149 : decode b_Md_claim 149 = .ok (.bipush 9, 2) := by decide +kernel
theorem d_Md_claim_151 : decode b_Md_claim 151 = .ok (.iaload, 1) := by decide +kernel
theorem d_Md_claim_152 : decode b_Md_claim 152 = .ok (.iload_n 2, 1) := by decide +kernel
theorem d_Md_claim_153 : decode b_Md_claim 153 = .ok (.iastore, 1) := by decide +kernel
theorem d_Md_claim_154 : decode b_Md_claim 154 = .ok (.aload_n 0, 1) := by decide +kernel
theorem d_Md_claim_155 : decode b_Md_claim 155 = .ok (.getfield 77, 3) := by decide +kernel
theorem d_Md_claim_158 : decode b_Md_claim 158 = .ok (.aload_n 0, 1) := by decide +kernel
theorem d_Md_claim_159 : decode b_Md_claim 159 = .ok (.getfield 7, 3) := by decide +kernel
theorem d_Md_claim_162 : decode b_Md_claim 162 = .ok (.bipush 9, 2) := by decide +kernel
theorem d_Md_claim_164 : decode b_Md_claim 164 = .ok (.iaload, 1) := by decide +kernel
theorem d_Md_claim_165 : decode b_Md_claim 165 = .ok (.iload_n 3, 1) := by decide +kernel
theorem d_Md_claim_166 : decode b_Md_claim 166 = .ok (.iastore, 1) := by decide +kernel
theorem d_Md_claim_167 : decode b_Md_claim 167 = .ok (.aload_n 0, 1) := by decide +kernel
theorem d_Md_claim_168 : decode b_Md_claim 168 = .ok (.getfield 80, 3) := by decide +kernel
theorem d_Md_claim_171 : decode b_Md_claim 171 = .ok (.aload_n 0, 1) := by decide +kernel
theorem d_Md_claim_172 : decode b_Md_claim 172 = .ok (.getfield 7, 3) := by decide +kernel
theorem d_Md_claim_175 : decode b_Md_claim 175 = .ok (.bipush 9, 2) := by decide +kernel
theorem d_Md_claim_177 : decode b_Md_claim 177 = .ok (.iaload, 1) := by decide +kernel
theorem d_Md_claim_178 : decode b_Md_claim 178 = .ok (.iconst 1, 1) := by decide +kernel
theorem d_Md_claim_179 : decode b_Md_claim 179 = .ok (.bastore, 1) := by decide +kernel
theorem d_Md_claim_180 : decode b_Md_claim 180 = .ok (.aload_n 0, 1) := by decide +kernel
theorem d_Md_claim_181 : decode b_Md_claim 181 = .ok (.bipush 9, 2) := by decide +kernel
theorem d_Md_claim_183 : decode b_Md_claim 183 = .ok (.invokevirtual 113, 3) := by decide +kernel
theorem d_Md_claim_186 : decode b_Md_claim 186 = .ok (.ireturn, 1) := by decide +kernel
theorem d_Md_close_0 : decode b_Md_close 0 = .ok (.aload_n 0, 1) := by decide +kernel
theorem d_Md_close_1 : decode b_Md_close 1 = .ok (.iload_n 2, 1) := by decide +kernel
theorem d_Md_close_2 : decode b_Md_close 2 = .ok (.bipush 9, 2) := by decide +kernel
theorem d_Md_close_4 : decode b_Md_close 4 = .ok (.invokevirtual 90, 3) := by decide +kernel
theorem d_Md_close_7 : decode b_Md_close 7 = .ok (.istore_n 3, 1) := by decide +kernel
theorem d_Md_close_8 : decode b_Md_close 8 = .ok (.aload_n 0, 1) := by decide +kernel
theorem d_Md_close_9 : decode b_Md_close 9 = .ok (.iload_n 3, 1) := by decide +kernel
theorem d_Md_close_10 : decode b_Md_close 10 = .ok (.iload_n 1, 1) := by decide +kernel
theorem d_Md_close_11 : decode b_Md_close 11 = .ok (.bipush 32, 2) := by decide +kernel
theorem d_Md_close_13 : decode b_Md_close 13 = .ok (.iconst 1, 1) := by decide +kernel
theorem d_Md_close_14 : decode b_Md_close 14 = .ok (.invokevirtual 97, 3) := by decide +kernel
theorem d_Md_close_17 : decode b_Md_close 17 = .ok (.istore 4, 2) := by decide +kernel
theorem d_Md_close_19 : decode b_Md_close 19 = .ok (.aload_n 0, 1) := by decide +kernel
theorem d_Md_close_20 : decode b_Md_close 20 = .ok (.iload 4, 2) := by decide +kernel
theorem d_Md_close_22 : decode b_Md_close 22 = .ok (.aload_n 0, 1) := by decide +kernel
theorem d_Md_close_23 : decode b_Md_close 23 = .ok (.getfield 80, 3) := by decide +kernel
theorem d_Md_close_26 : decode b_Md_close 26 = .ok (.iload_n 3, 1) := by decide +kernel
theorem d_Md_close_27 : decode b_Md_close 27 = .ok (.ifCond .eq 11, 3) := by decide +kernel
theorem d_Md_close_30 : decode b_Md_close 30 = .ok (.iload_n 2, 1) := by decide +kernel
theorem d_Md_close_31 : decode b_Md_close 31 = .ok (.sipush 900, 3) := by decide +kernel
theorem d_Md_close_34 : decode b_Md_close 34 = .ok (.isub, 1) := by decide +kernel
theorem d_Md_close_35 : decode b_Md_close 35 = .ok (.goto 4, 3) := by decide +kernel
theorem d_Md_close_38 : decode b_Md_close 38 = .ok (.iconst 0, 1) := by decide +kernel
theorem d_Md_close_39 : decode b_Md_close 39 = .ok (.baload, 1) := by decide +kernel
theorem d_Md_close_40 : decode b_Md_close 40 = .ok (.bipush 17, 2) := by decide +kernel
theorem d_Md_close_42 : decode b_Md_close 42 = .ok (.invokestatic 105, 3) := by decide +kernel
theorem d_Md_close_45 : decode b_Md_close 45 = .ok (.invokevirtual 109, 3) := by decide +kernel
theorem d_Md_close_48 : decode b_Md_close 48 = .ok (.ifCond .ne 5, 3) := by decide +kernel
theorem d_Md_close_51 : decode b_Md_close 51 = .ok (.iconst 0, 1) := by decide +kernel
theorem d_Md_close_52 : decode b_Md_close 52 = .ok (.ireturn, 1) := by decide +kernel
theorem d_Md_close_53 : decode b_Md_close 53 = .ok (.aload_n 0, 1) := by decide +kernel
theorem d_Md_close_54 : decode b_Md_close 54 = .ok (.getfield 80, 3) := by decide +kernel
theorem d_Md_close_57 : decode b_Md_close 57 = .ok (.iload_n 2, 1) := by decide +kernel
theorem d_Md_close_58 : decode b_Md_close 58 = .ok (.sipush 900, 3) := by decide +kernel
theorem d_Md_close_61 : decode b_Md_close 61 = .ok (.isub, 1) := by decide +kernel
theorem d_Md_close_62 : decode b_Md_close 62 = .ok (.iconst 0, 1) := by decide +kernel
theorem d_Md_close_63 : decode b_Md_close 63 = .ok (.bastore, 1) := by decide +kernel
theorem d_Md_close_64 : decode b_Md_close 64 = .ok (.iconst 0, 1) := by decide +kernel
theorem d_Md_close_65 : decode b_Md_close 65 = .ok (.istore 5, 2) := by decide +kernel
theorem d_Md_close_67 : decode b_Md_close 67 = .ok (.iconst 0, 1) := by decide +kernel
theorem d_Md_close_68 : decode b_Md_close 68 = .ok (.istore 6, 2) := by decide +kernel
theorem d_Md_close_70 : decode b_Md_close 70 = .ok (.iload 6, 2) := by decide +kernel
theorem d_Md_close_72 : decode b_Md_close 72 = .ok (.aload_n 0, 1) := by decide +kernel
theorem d_Md_close_73 : decode b_Md_close 73 = .ok (.getfield 7, 3) := by decide +kernel
theorem d_Md_close_76 : decode b_Md_close 76 = .ok (.bipush 9, 2) := by decide +kernel
theorem d_Md_close_78 : decode b_Md_close 78 = .ok (.iaload, 1) := by decide +kernel
theorem d_Md_close_79 : decode b_Md_close 79 = .ok (.if_icmp .ge 50, 3) := by decide +kernel
theorem d_Md_close_82 : decode b_Md_close 82 = .ok (.aload_n 0, 1) := by decide +kernel
theorem d_Md_close_83 : decode b_Md_close 83 = .ok (.getfield 80, 3) := by decide +kernel
theorem d_Md_close_86 : decode b_Md_close 86 = .ok (.iload 6, 2) := by decide +kernel
theorem d_Md_close_88 : decode b_Md_close 88 = .ok (.baload, 1) := by decide +kernel
theorem d_Md_close_89 : decode b_Md_close 89 = .ok (.ifCond .eq 30, 3) := by decide +kernel
theorem d_Md_close_92 : decode b_Md_close 92 = .ok (.aload_n 0, 1) := by decide +kernel
theorem d_Md_close_93 : decode b_Md_close 93 = .ok (.getfield 74, 3) := by decide +kernel
theorem d_Md_close_96 : decode b_Md_close 96 = .ok (.iload 6, 2) := by decide +kernel
theorem d_Md_close_98 : decode b_Md_close 98 = .ok (.iaload, 1) := by decide +kernel
theorem d_Md_close_99 : decode b_Md_close 99 = .ok (.aload_n 0, 1) := by decide +kernel
theorem d_Md_close_100 : decode b_Md_close 100 = .ok (.getfield 74, 3) := by decide +kernel
theorem d_Md_close_103 : decode b_Md_close 103 = .ok (.iload_n 2, 1) := by decide +kernel
theorem d_Md_close_104 : decode b_Md_close 104 = .ok (.sipush 900, 3) := by decide +kernel
theorem d_Md_close_107 : decode b_Md_close 107 = .ok (.isub, 1) := by decide +kernel
theorem d_Md_close_108 : decode b_Md_close 108 = .ok (.iaload, 1) := by decide +kernel
theorem d_Md_close_109 : decode b_Md_close 109 = .ok (.if_icmp .ne 10, 3) := by decide +kernel
theorem d_Md_close_112 : decode b_Md_close 112 = .ok (.iload 5, 2) := by decide +kernel
theorem d_Md_close_114 : decode b_Md_close 114 = .ok (.iconst 1, 1) := by decide +kernel
theorem d_Md_close_115 : decode b_Md_close 115 = .ok (.iadd, 1) := by decide +kernel
theorem d_Md_close_116 : decode b_Md_close 116 = .ok (.goto 5, 3) := by decide +kernel
theorem d_Md_close_119 : decode b_Md_close 119 = .ok (.iload 5, 2) := by decide +kernel
theorem d_Md_close_121 : decode b_Md_close 121 = .ok (.istore 5, 2) := by decide +kernel
theorem d_Md_close_123 : decode b_Md_close 123 = .ok (.iinc 6 1, 3) := by decide +kernel
theorem d_Md_close_126 : decode b_Md_close 126 = .ok (.goto (-56), 3) := by decide +kernel
theorem d_Md_close_129 : decode b_Md_close 129 = .ok (.iload 5, 2) := by decide +kernel
theorem d_Md_close_131 : decode b_Md_close 131 = .ok (.ireturn, 1) := by decide +kernel
theorem d_Md_where_0 : decode b_Md_where 0 = .ok (.aload_n 0, 1) := by decide +kernel
theorem d_Md_where_1 : decode b_Md_where 1 = .ok (.aload_n 0, 1) := by decide +kernel
theorem d_Md_where_2 : decode b_Md_where 2 = .ok (.iload_n 1, 1) := by decide +kernel
theorem d_Md_where_3 : decode b_Md_where 3 = .ok (.iconst 5, 1) := by decide +kernel
theorem d_Md_where_4 : decode b_Md_where 4 = .ok (.invokevirtual 90, 3) := by decide +kernel
theorem d_Md_where_7 : decode b_Md_where 7 = .ok (.ifCond .eq 7, 3) := by decide +kernel
theorem d_Md_where_10 : decode b_Md_where 10 = .ok (.iconst 0, 1) := by decide +kernel
theorem d_Md_where_11 : decode b_Md_where 11 = .ok (.goto 4, 3) := by decide +kernel
theorem d_Md_where_14 : decode b_Md_where 14 = .ok (.iconst 1, 1) := by decide +kernel
theorem d_Md_where_15 : decode b_Md_where 15 = .ok (.iload_n 2, 1) := by decide +kernel
theorem d_Md_where_16 : decode b_Md_where 16 = .ok (.invokestatic 150, 3) := by decide +kernel
theorem d_Md_where_19 : decode b_Md_where 19 = .ok (.iconst 4, 1) := by decide +kernel
theorem d_Md_where_20 : decode b_Md_where 20 = .ok (.invokestatic 105, 3) := by decide +kernel
theorem d_Md_where_23 : decode b_Md_where 23 = .ok (.invokevirtual 133, 3) := by decide +kernel
theorem d_Md_where_26 : decode b_Md_where 26 = .ok (.ifCond .ne 5, 3) := by decide +kernel
theorem d_Md_where_29 : decode b_Md_where 29 = .ok (.iconst 0, 1) := by decide +kernel
theorem d_Md_where_30 : decode b_Md_where 30 = .ok (.ireturn, 1) := by decide +kernel
theorem d_Md_where_31 : decode b_Md_where 31 = .ok (.iload_n 2, 1) := by decide +kernel
theorem d_Md_where_32 : decode b_Md_where 32 = .ok (.aload_n 0, 1) := by decide +kernel
theorem d_Md_where_33 : decode b_Md_where 33 = .ok (.iload_n 1, 1) := by decide +kernel
theorem d_Md_where_34 : decode b_Md_where 34 = .ok (.invokevirtual 143, 3) := by decide +kernel
theorem d_Md_where_37 : decode b_Md_where 37 = .ok (.if_icmp .ge 5, 3) := by decide +kernel
theorem d_Md_where_40 : decode b_Md_where 40 = .ok (.iconst 0, 1) := by decide +kernel
theorem d_Md_where_41 : decode b_Md_where 41 = .ok (.ireturn, 1) := by decide +kernel
theorem d_Md_where_42 : decode b_Md_where 42 = .ok (.aload_n 0, 1) := by decide +kernel
theorem d_Md_where_43 : decode b_Md_where 43 = .ok (.iload_n 1, 1) := by decide +kernel
theorem d_Md_where_44 : decode b_Md_where 44 = .ok (.iload_n 2, 1) := by decide +kernel
theorem d_Md_where_45 : decode b_Md_where 45 = .ok (.iload_n 2, 1) := by decide +kernel
theorem d_Md_where_46 : decode b_Md_where 46 = .ok (.invokevirtual 146, 3) := by decide +kernel
theorem d_Md_where_49 : decode b_Md_where 49 = .ok (.istore_n 3, 1) := by decide +kernel
theorem d_Md_where_50 : decode b_Md_where 50 = .ok (.aload_n 0, 1) := by decide +kernel
theorem d_Md_where_51 : decode b_Md_where 51 = .ok (.iload_n 1, 1) := by decide +kernel
theorem d_Md_where_52 : decode b_Md_where 52 = .ok (.iload_n 2, 1) := by decide +kernel
theorem d_Md_where_53 : decode b_Md_where 53 = .ok (.iload_n 2, 1) := by decide +kernel
theorem d_Md_where_54 : decode b_Md_where 54 = .ok (.iconst (-1), 1) := by decide +kernel
theorem d_Md_where_55 : decode b_Md_where 55 = .ok (.invokevirtual 162, 3) := by decide +kernel
theorem d_Md_where_58 : decode b_Md_where 58 = .ok (.istore 4, 2) := by decide +kernel
theorem d_Md_where_60 : decode b_Md_where 60 = .ok (.aload_n 0, 1) := by decide +kernel
theorem d_Md_where_61 : decode b_Md_where 61 = .ok (.iload_n 1, 1) := by decide +kernel
theorem d_Md_where_62 : decode b_Md_where 62 = .ok (.sipush 500, 3) := by decide +kernel
theorem d_Md_where_65 : decode b_Md_where 65 = .ok (.isub, 1) := by decide +kernel
theorem d_Md_where_66 : decode b_Md_where 66 = .ok (.iload_n 2, 1) := by decide +kernel
theorem d_Md_where_67 : decode b_Md_where 67 = .ok (.invokevirtual 153, 3) := by decide +kernel
theorem d_Md_where_70 : decode b_Md_where 70 = .ok (.istore 5, 2) := by decide +kernel
theorem d_Md_where_72 : decode b_Md_where 72 = .ok (.iload_n 3, 1) := by decide +kernel
theorem d_Md_where_73 : decode b_Md_where 73 = .ok (.ifCond .le 7, 3) := by decide +kernel
theorem d_Md_where_76 : decode b_Md_where 76 = .ok (.iload_n 3, 1) := by decide +kernel
theorem d_Md_where_77 : decode b_Md_where 77 = .ok (.goto 24, 3) := by decide +kernel
theorem d_Md_where_80 : decode b_Md_where 80 = .ok (.iload 4, 2) := by decide +kernel
theorem d_Md_where_82 : decode b_Md_where 82 = .ok (.ifCond .le 8, 3) := by decide +kernel
theorem d_Md_where_85 : decode b_Md_where 85 = .ok (.iload 4, 2) := by decide +kernel
theorem d_Md_where_87 : decode b_Md_where 87 = .ok (.goto 14, 3) := by decide +kernel
theorem d_Md_where_90 : decode b_Md_where 90 = .ok (.iload 5, 2) := by decide +kernel
theorem d_Md_where_92 : decode b_Md_where 92 = .ok (.ifCond .le 8, 3) := by decide +kernel
theorem d_Md_where_95 : decode b_Md_where 95 = .ok (.iload 5, 2) := by decide +kernel
theorem d_Md_where_97 : decode b_Md_where 97 = .ok (.goto 4, 3) := by decide +kernel
theorem d_Md_where_100 : decode b_Md_where 100 = .ok (.iconst 1, 1) := by decide +kernel
theorem d_Md_where_101 : decode b_Md_where 101 = .ok (.ireturn, 1) := by decide +kernel
theorem d_Md_origin_0 : decode b_Md_origin 0 = .ok (.aload_n 0, 1) := by decide +kernel
theorem d_Md_origin_1 : decode b_Md_origin 1 = .ok (.aload_n 0, 1) := by decide +kernel
theorem d_Md_origin_2 : decode b_Md_origin 2 = .ok (.iload_n 1, 1) := by decide +kernel
theorem d_Md_origin_3 : decode b_Md_origin 3 = .ok (.iconst 3, 1) := by decide +kernel
theorem d_Md_origin_4 : decode b_Md_origin 4 = .ok (.invokevirtual 90, 3) := by decide +kernel
theorem d_Md_origin_7 : decode b_Md_origin 7 = .ok (.ifCond .ne 21, 3) := by decide +kernel
theorem d_Md_origin_10 : decode b_Md_origin 10 = .ok (.aload_n 0, 1) := by decide +kernel
theorem d_Md_origin_11 : decode b_Md_origin 11 = .ok (.iload_n 1, 1) := by decide +kernel
theorem d_Md_origin_12 : decode b_Md_origin 12 = .ok (.iconst 4, 1) := by decide +kernel
theorem d_Md_origin_13 : decode b_Md_origin 13 = .ok (.invokevirtual 90, 3) := by decide +kernel
theorem d_Md_origin_16 : decode b_Md_origin 16 = .ok (.ifCond .ne 12, 3) := by decide +kernel
theorem d_Md_origin_19 : decode b_Md_origin 19 = .ok (.aload_n 0, 1) := by decide +kernel
theorem d_Md_origin_20 : decode b_Md_origin 20 = .ok (.iload_n 1, 1) := by decide +kernel
theorem d_Md_origin_21 : decode b_Md_origin 21 = .ok (.iconst 5, 1) := by decide +kernel
theorem d_Md_origin_22 : decode b_Md_origin 22 = .ok (.invokevirtual 90, 3) := by decide +kernel
theorem d_Md_origin_25 : decode b_Md_origin 25 = .ok (.ifCond .eq 7, 3) := by decide +kernel
theorem d_Md_origin_28 : decode b_Md_origin 28 = .ok (.iconst 0, 1) := by decide +kernel
theorem d_Md_origin_29 : decode b_Md_origin 29 = .ok (.goto 4, 3) := by decide +kernel
theorem d_Md_origin_32 : decode b_Md_origin 32 = .ok (.iconst 1, 1) := by decide +kernel
theorem d_Md_origin_33 : decode b_Md_origin 33 = .ok (.invokevirtual 109, 3) := by decide +kernel
theorem d_Md_origin_36 : decode b_Md_origin 36 = .ok (.ifCond .ne 5, 3) := by decide +kernel
theorem d_Md_origin_39 : decode b_Md_origin 39 = .ok (.iconst 0, 1) := by decide +kernel
theorem d_Md_origin_40 : decode b_Md_origin 40 = .ok (.ireturn, 1) := by decide +kernel
theorem d_Md_origin_41 : decode b_Md_origin 41 = .ok (.iload_n 1, 1) := by decide +kernel
theorem d_Md_origin_42 : decode b_Md_origin 42 = .ok (.sipush 400, 3) := by decide +kernel
theorem d_Md_origin_45 : decode b_Md_origin 45 = .ok (.if_icmp .ge 16, 3) := by decide +kernel
theorem d_Md_origin_48 : decode b_Md_origin 48 = .ok (.aload_n 0, 1) := by decide +kernel
theorem d_Md_origin_49 : decode b_Md_origin 49 = .ok (.getfield 16, 3) := by decide +kernel
theorem d_Md_origin_52 : decode b_Md_origin 52 = .ok (.iload_n 1, 1) := by decide +kernel
theorem d_Md_origin_53 : decode b_Md_origin 53 = .ok (.sipush 300, 3) := by decide +kernel
theorem d_Md_origin_56 : decode b_Md_origin 56 = .ok (.isub, 1) := by decide +kernel
theorem d_Md_origin_57 : decode b_Md_origin 57 = .ok (.iaload, 1) := by decide +kernel
theorem d_Md_origin_58 : decode b_Md_origin 58 = .ok (.goto 33, 3) := by decide +kernel
theorem d_Md_origin_61 : decode b_Md_origin 61 = .ok (.iload_n 1, 1) := by decide +kernel
theorem d_Md_origin_62 : decode b_Md_origin 62 = .ok (.sipush 500, 3) := by decide +kernel
theorem d_Md_origin_65 : decode b_Md_origin 65 = .ok (.if_icmp .ge 16, 3) := by decide +kernel
theorem d_Md_origin_68 : decode b_Md_origin 68 = .ok (.aload_n 0, 1) := by decide +kernel
theorem d_Md_origin_69 : decode b_Md_origin 69 = .ok (.getfield 32, 3) := by decide +kernel
theorem d_Md_origin_72 : decode b_Md_origin 72 = .ok (.iload_n 1, 1) := by decide +kernel
theorem d_Md_origin_73 : decode b_Md_origin 73 = .ok (.sipush 400, 3) := by decide +kernel
theorem d_Md_origin_76 : decode b_Md_origin 76 = .ok (.isub, 1) := by decide +kernel
theorem d_Md_origin_77 : decode b_Md_origin 77 = .ok (.iaload, 1) := by decide +kernel
theorem d_Md_origin_78 : decode b_Md_origin 78 = .ok (.goto 13, 3) := by decide +kernel
theorem d_Md_origin_81 : decode b_Md_origin 81 = .ok (.aload_n 0, 1) := by decide +kernel
theorem d_Md_origin_82 : decode b_Md_origin 82 = .ok (.getfield 38, 3) := by decide +kernel
theorem d_Md_origin_85 : decode b_Md_origin 85 = .ok (.iload_n 1, 1) := by decide +kernel
theorem d_Md_origin_86 : decode b_Md_origin 86 = .ok (.sipush 500, 3) := by decide +kernel
theorem d_Md_origin_89 : decode b_Md_origin 89 = .ok (.isub, 1) := by decide +kernel
theorem d_Md_origin_90 : decode b_Md_origin 90 = .ok (.iaload, 1) := by decide +kernel
theorem d_Md_origin_91 : decode b_Md_origin 91 = .ok (.ireturn, 1) := by decide +kernel
theorem d_Md_hall_0 : decode b_Md_hall 0 = .ok (.aload_n 0, 1) := by decide +kernel
theorem d_Md_hall_1 : decode b_Md_hall 1 = .ok (.aload_n 0, 1) := by decide +kernel
theorem d_Md_hall_2 : decode b_Md_hall 2 = .ok (.iload_n 1, 1) := by decide +kernel
theorem d_Md_hall_3 : decode b_Md_hall 3 = .ok (.bipush 8, 2) := by decide +kernel
theorem d_Md_hall_5 : decode b_Md_hall 5 = .ok (.invokevirtual 90, 3) := by decide +kernel
theorem d_Md_hall_8 : decode b_Md_hall 8 = .ok (.ifCond .eq 7, 3) := by decide +kernel
theorem d_Md_hall_11 : decode b_Md_hall 11 = .ok (.iconst 0, 1) := by decide +kernel
theorem d_Md_hall_12 : decode b_Md_hall 12 = .ok (.goto 4, 3) := by decide +kernel
theorem d_Md_hall_15 : decode b_Md_hall 15 = .ok (.iconst 1, 1) := by decide +kernel
theorem d_Md_hall_16 : decode b_Md_hall 16 = .ok (.invokevirtual 109, 3) := by decide +kernel
theorem d_Md_hall_19 : decode b_Md_hall 19 = .ok (.ifCond .eq 16, 3) := by decide +kernel
theorem d_Md_hall_22 : decode b_Md_hall 22 = .ok (.aload_n 0, 1) := by decide +kernel
theorem d_Md_hall_23 : decode b_Md_hall 23 = .ok (.getfield 62, 3) := by decide +kernel
theorem d_Md_hall_26 : decode b_Md_hall 26 = .ok (.iload_n 1, 1) := by decide +kernel
theorem d_Md_hall_27 : decode b_Md_hall 27 = .ok (.sipush 800, 3) := by decide +kernel
theorem d_Md_hall_30 : decode b_Md_hall 30 = .ok (.isub, 1) := by decide +kernel
theorem d_Md_hall_31 : decode b_Md_hall 31 = .ok (.iaload, 1) := by decide +kernel
theorem d_Md_hall_32 : decode b_Md_hall 32 = .ok (.goto 4, 3) := by decide +kernel
theorem d_Md_hall_35 : decode b_Md_hall 35 = .ok (.iconst 0, 1) := by decide +kernel
theorem d_Md_hall_36 : decode b_Md_hall 36 = .ok (.ireturn, 1) := by decide +kernel
theorem d_Md_rule_0 : decode b_Md_rule 0 = .ok (.aload_n 0, 1) := by decide +kernel
theorem d_Md_rule_1 : decode b_Md_rule 1 = .ok (.iconst 0, 1) := by decide +kernel
theorem d_Md_rule_2 : decode b_Md_rule 2 = .ok (.putfield 83, 3) := by decide +kernel
theorem d_Md_rule_5 : decode b_Md_rule 5 = .ok (.aload_n 0, 1) := by decide +kernel
theorem d_Md_rule_6 : decode b_Md_rule 6 = .ok (.getfield 87, 3) := by decide +kernel
theorem d_Md_rule_9 : decode b_Md_rule 9 = .ok (.ireturn, 1) := by decide +kernel
theorem d_Md_count_0 : decode b_Md_count 0 = .ok (.aload_n 0, 1) := by decide +kernel
theorem d_Md_count_1 : decode b_Md_count 1 = .ok (.iload_n 1, 1) := by decide +kernel
theorem d_Md_count_2 : decode b_Md_count 2 = .ok (.iconst 1, 1) := by decide +kernel
theorem d_Md_count_3 : decode b_Md_count 3 = .ok (.bipush 9, 2) := by decide +kernel
theorem d_Md_count_5 : decode b_Md_count 5 = .ok (.invokestatic 101, 3) := by decide +kernel
theorem d_Md_count_8 : decode b_Md_count 8 = .ok (.ifCond .eq 7, 3) := by decide +kernel
theorem d_Md_count_11 : decode b_Md_count 11 = .ok (.iconst 0, 1) := by decide +kernel
theorem d_Md_count_12 : decode b_Md_count 12 = .ok (.goto 4, 3) := by decide +kernel
theorem d_Md_count_15 : decode b_Md_count 15 = .ok (.iconst 1, 1) := by decide +kernel
theorem d_Md_count_16 : decode b_Md_count 16 = .ok (.putfield 83, 3) := by decide +kernel
theorem d_Md_count_19 : decode b_Md_count 19 = .ok (.aload_n 0, 1) := by decide +kernel
theorem d_Md_count_20 : decode b_Md_count 20 = .ok (.getfield 83, 3) := by decide +kernel
theorem d_Md_count_23 : decode b_Md_count 23 = .ok (.ifCond .ne 12, 3) := by decide +kernel
theorem d_Md_count_26 : decode b_Md_count 26 = .ok (.aload_n 0, 1) := by decide +kernel
theorem d_Md_count_27 : decode b_Md_count 27 = .ok (.getfield 7, 3) := by decide +kernel
theorem d_Md_count_30 : decode b_Md_count 30 = .ok (.iload_n 1, 1) := by decide +kernel
theorem d_Md_count_31 : decode b_Md_count 31 = .ok (.iaload, 1) := by decide +kernel
theorem d_Md_count_32 : decode b_Md_count 32 = .ok (.goto 4, 3) := by decide +kernel
theorem d_Md_count_35 : decode b_Md_count 35 = .ok (.iconst 0, 1) := by decide +kernel
theorem d_Md_count_36 : decode b_Md_count 36 = .ok (.ireturn, 1) := by decide +kernel

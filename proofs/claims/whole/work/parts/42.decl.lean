theorem d_Lw_desk_0 : decode b_Lw_desk 0 = .ok (.aload_n 3, 1) := by decide +kernel
theorem d_Lw_desk_1 : decode b_Lw_desk 1 = .ok (.iconst 0, 1) := by decide +kernel
theorem d_Lw_desk_2 : decode b_Lw_desk 2 = .ok (.aload_n 0, 1) := by decide +kernel
theorem d_Lw_desk_3 : decode b_Lw_desk 3 = .ok (.iload_n 1, 1) := by decide +kernel
theorem d_Lw_desk_4 : decode b_Lw_desk 4 = .ok (.iload_n 2, 1) := by decide +kernel
theorem d_Lw_desk_5 : decode b_Lw_desk 5 = .ok (.invokevirtual 7, 3) := by decide +kernel
theorem d_Lw_desk_8 : decode b_Lw_desk 8 = .ok (.i2l, 1) := by decide +kernel
theorem d_Lw_desk_9 : decode b_Lw_desk 9 = .ok (.lastore, 1) := by decide +kernel
theorem d_Lw_desk_10 : decode b_Lw_desk 10 = .ok (.goto 15, 3) := by decide +kernel
theorem d_Lw_desk_13 : decode b_Lw_desk 13 = .ok (.astore 4, 2) := by decide +kernel
theorem d_Lw_desk_15 : decode b_Lw_desk 15 = .ok (.iconst 1, 1) := by decide +kernel
theorem d_Lw_desk_16 : decode b_Lw_desk 16 = .ok (.ireturn, 1) := by decide +kernel
theorem d_Lw_desk_17 : decode b_Lw_desk 17 = .ok (.astore 4, 2) := by decide +kernel
theorem d_Lw_desk_19 : decode b_Lw_desk 19 = .ok (.iconst 2, 1) := by decide +kernel
theorem d_Lw_desk_20 : decode b_Lw_desk 20 = .ok (.ireturn, 1) := by decide +kernel
theorem d_Lw_desk_21 : decode b_Lw_desk 21 = .ok (.astore 4, 2) := by decide +kernel
theorem d_Lw_desk_23 : decode b_Lw_desk 23 = .ok (.iconst 3, 1) := by decide +kernel
theorem d_Lw_desk_24 : decode b_Lw_desk 24 = .ok (.ireturn, 1) := by decide +kernel
theorem d_Lw_desk_25 : decode b_Lw_desk 25 = .ok (.iconst 0, 1) := by decide +kernel
theorem d_Lw_desk_26 : decode b_Lw_desk 26 = .ok (.ireturn, 1) := by decide +kernel
theorem d_Lw_day_0 : decode b_Lw_day 0 = .ok (.aload_n 2, 1) := by decide +kernel
theorem d_Lw_day_1 : decode b_Lw_day 1 = .ok (.iconst 0, 1) := by decide +kernel
theorem d_Lw_day_2 : decode b_Lw_day 2 = .ok (.aload_n 0, 1) := by decide +kernel
theorem d_Lw_day_3 : decode b_Lw_day 3 = .ok (.iload_n 1, 1) := by decide +kernel
theorem d_Lw_day_4 : decode b_Lw_day 4 = .ok (.invokevirtual 19, 3) := by decide +kernel
theorem d_Lw_day_7 : decode b_Lw_day 7 = .ok (.i2l, 1) := by decide +kernel
theorem d_Lw_day_8 : decode b_Lw_day 8 = .ok (.lastore, 1) := by decide +kernel
theorem d_Lw_day_9 : decode b_Lw_day 9 = .ok (.goto 6, 3) := by decide +kernel
theorem d_Lw_day_12 : decode b_Lw_day 12 = .ok (.astore_n 3, 1) := by decide +kernel
theorem d_Lw_day_13 : decode b_Lw_day 13 = .ok (.iconst 1, 1) := by decide +kernel
theorem d_Lw_day_14 : decode b_Lw_day 14 = .ok (.ireturn, 1) := by decide +kernel
theorem d_Lw_day_15 : decode b_Lw_day 15 = .ok (.iconst 0, 1) := by decide +kernel
theorem d_Lw_day_16 : decode b_Lw_day 16 = .ok (.ireturn, 1) := by decide +kernel
theorem d_Lw_site_0 : decode b_Lw_site 0 = .ok (.aload_n 2, 1) := by decide +kernel
theorem d_Lw_site_1 : decode b_Lw_site 1 = .ok (.iconst 0, 1) := by decide +kernel
theorem d_Lw_site_2 : decode b_Lw_site 2 = .ok (.aload_n 0, 1) := by decide +kernel
theorem d_Lw_site_3 : decode b_Lw_site 3 = .ok (.iload_n 1, 1) := by decide +kernel
theorem d_Lw_site_4 : decode b_Lw_site 4 = .ok (.invokevirtual 23, 3) := by decide +kernel
theorem d_Lw_site_7 : decode b_Lw_site 7 = .ok (.i2l, 1) := by decide +kernel
theorem d_Lw_site_8 : decode b_Lw_site 8 = .ok (.lastore, 1) := by decide +kernel
theorem d_Lw_site_9 : decode b_Lw_site 9 = .ok (.goto 9, 3) := by decide +kernel
theorem d_Lw_site_12 : decode b_Lw_site 12 = .ok (.astore_n 3, 1) := by decide +kernel
theorem d_Lw_site_13 : decode b_Lw_site 13 = .ok (.iconst 1, 1) := by decide +kernel
theorem d_Lw_site_14 : decode b_Lw_site 14 = .ok (.ireturn, 1) := by decide +kernel
theorem d_Lw_site_15 : decode b_Lw_site 15 = .ok (.astore_n 3, 1) := by decide +kernel
theorem d_Lw_site_16 : decode b_Lw_site 16 = .ok (.iconst 2, 1) := by decide +kernel
theorem d_Lw_site_17 : decode b_Lw_site 17 = .ok (.ireturn, 1) := by decide +kernel
theorem d_Lw_site_18 : decode b_Lw_site 18 = .ok (.iconst 0, 1) := by decide +kernel
theorem d_Lw_site_19 : decode b_Lw_site 19 = .ok (.ireturn, 1) := by decide +kernel
theorem d_Lw_context_0 : decode b_Lw_context 0 = .ok (.aload_n 3, 1) := by decide +kernel
theorem d_Lw_context_1 : decode b_Lw_context 1 = .ok (.iconst 0, 1) := by decide +kernel
theorem d_Lw_context_2 : decode b_Lw_context 2 = .ok (.aload_n 0, 1) := by decide +kernel
theorem d_Lw_context_3 : decode b_Lw_context 3 = .ok (.iload_n 1, 1) := by decide +kernel
theorem d_Lw_context_4 : decode b_Lw_context 4 = .ok (.iload_n 2, 1) := by decide +kernel
theorem d_Lw_context_5 : decode b_Lw_context 5 = .ok (.invokevirtual 26, 3) := by decide +kernel
theorem d_Lw_context_8 : decode b_Lw_context 8 = .ok (.i2l, 1) := by decide +kernel
theorem d_Lw_context_9 : decode b_Lw_context 9 = .ok (.lastore, 1) := by decide +kernel
theorem d_Lw_context_10 : decode b_Lw_context 10 = .ok (.goto 11, 3) := by decide +kernel
theorem d_Lw_context_13 : decode b_Lw_context 13 = .ok (.astore 4, 2) := by decide +kernel
theorem d_Lw_context_15 : decode b_Lw_context 15 = .ok (.iconst 1, 1) := by decide +kernel
theorem d_Lw_context_16 : decode b_Lw_context 16 = .ok (.ireturn, 1) := by decide +kernel
theorem d_Lw_context_17 : decode b_Lw_context 17 = .ok (.astore 4, 2) := by decide +kernel
theorem d_Lw_context_19 : decode b_Lw_context 19 = .ok (.iconst 2, 1) := by decide +kernel
theorem d_Lw_context_20 : decode b_Lw_context 20 = .ok (.ireturn, 1) := by decide +kernel
theorem d_Lw_context_21 : decode b_Lw_context 21 = .ok (.iconst 0, 1) := by decide +kernel
theorem d_Lw_context_22 : decode b_Lw_context 22 = .ok (.ireturn, 1) := by decide +kernel
theorem d_Lw_above_0 : decode b_Lw_above 0 = .ok (.aload 4, 2) := by decide +kernel
theorem d_Lw_above_2 : decode b_Lw_above 2 = .ok (.iconst 0, 1) := by decide +kernel
theorem d_Lw_above_3 : decode b_Lw_above 3 = .ok (.aload_n 0, 1) := by decide +kernel
theorem d_Lw_above_4 : decode b_Lw_above 4 = .ok (.iload_n 1, 1) := by decide +kernel
theorem d_Lw_above_5 : decode b_Lw_above 5 = .ok (.iload_n 2, 1) := by decide +kernel
theorem d_Lw_above_6 : decode b_Lw_above 6 = .ok (.iload_n 3, 1) := by decide +kernel
theorem d_Lw_above_7 : decode b_Lw_above 7 = .ok (.invokevirtual 29, 3) := by decide +kernel
theorem d_Lw_above_10 : decode b_Lw_above 10 = .ok (.ifCond .eq 7, 3) := by decide +kernel
theorem d_Lw_above_13 : decode b_Lw_above 13 = .ok (.lconst 1, 1) := by decide +kernel
theorem d_Lw_above_14 : decode b_Lw_above 14 = .ok (.goto 4, 3) := by decide +kernel
theorem d_Lw_above_17 : decode b_Lw_above 17 = .ok (.lconst 0, 1) := by decide +kernel
theorem d_Lw_above_18 : decode b_Lw_above 18 = .ok (.lastore, 1) := by decide +kernel
theorem d_Lw_above_19 : decode b_Lw_above 19 = .ok (.goto 15, 3) := by decide +kernel
theorem d_Lw_above_22 : decode b_Lw_above 22 = .ok (.astore 5, 2) := by decide +kernel
theorem d_Lw_above_24 : decode b_Lw_above 24 = .ok (.iconst 1, 1) := by decide +kernel
theorem d_Lw_above_25 : decode b_Lw_above 25 = .ok (.ireturn, 1) := by decide +kernel
theorem d_Lw_above_26 : decode b_Lw_above 26 = .ok (.astore 5, 2) := by decide +kernel
theorem d_Lw_above_28 : decode b_Lw_above 28 = .ok (.iconst 2, 1) := by decide +kernel
theorem d_Lw_above_29 : decode b_Lw_above 29 = .ok (.ireturn, 1) := by decide +kernel
theorem d_Lw_above_30 : decode b_Lw_above 30 = .ok (.astore 5, 2) := by decide +kernel
theorem d_Lw_above_32 : decode b_Lw_above 32 = .ok (.iconst 3, 1) := by decide +kernel
theorem d_Lw_above_33 : decode b_Lw_above 33 = .ok (.ireturn, 1) := by decide +kernel
theorem d_Lw_above_34 : decode b_Lw_above 34 = .ok (.iconst 0, 1) := by decide +kernel
theorem d_Lw_above_35 : decode b_Lw_above 35 = .ok (.ireturn, 1) := by decide +kernel
theorem d_Lw_span_0 : decode b_Lw_span 0 = .ok (.aload 5, 2) := by decide +kernel
theorem d_Lw_span_2 : decode b_Lw_span 2 = .ok (.iconst 0, 1) := by decide +kernel
theorem d_Lw_span_3 : decode b_Lw_span 3 = .ok (.aload_n 0, 1) := by decide +kernel
theorem d_Lw_span_4 : decode b_Lw_span 4 = .ok (.iload_n 1, 1) := by decide +kernel
theorem d_Lw_span_5 : decode b_Lw_span 5 = .ok (.iload_n 2, 1) := by decide +kernel
theorem d_Lw_span_6 : decode b_Lw_span 6 = .ok (.iload_n 3, 1) := by decide +kernel
theorem d_Lw_span_7 : decode b_Lw_span 7 = .ok (.iload 4, 2) := by decide +kernel
theorem d_Lw_span_9 : decode b_Lw_span 9 = .ok (.invokevirtual 33, 3) := by decide +kernel
theorem d_Lw_span_12 : decode b_Lw_span 12 = .ok (.i2l, 1) := by decide +kernel
theorem d_Lw_span_13 : decode b_Lw_span 13 = .ok (.lastore, 1) := by decide +kernel
theorem d_Lw_span_14 : decode b_Lw_span 14 = .ok (.goto 15, 3) := by decide +kernel
theorem d_Lw_span_17 : decode b_Lw_span 17 = .ok (.astore 6, 2) := by decide +kernel
theorem d_Lw_span_19 : decode b_Lw_span 19 = .ok (.iconst 1, 1) := by decide +kernel
theorem d_Lw_span_20 : decode b_Lw_span 20 = .ok (.ireturn, 1) := by decide +kernel
theorem d_Lw_span_21 : decode b_Lw_span 21 = .ok (.astore 6, 2) := by decide +kernel
theorem d_Lw_span_23 : decode b_Lw_span 23 = .ok (.iconst 2, 1) := by decide +kernel
theorem d_Lw_span_24 : decode b_Lw_span 24 = .ok (.ireturn, 1) := by decide +kernel
theorem d_Lw_span_25 : decode b_Lw_span 25 = .ok (.astore 6, 2) := by decide +kernel
theorem d_Lw_span_27 : decode b_Lw_span 27 = .ok (.iconst 3, 1) := by decide +kernel
theorem d_Lw_span_28 : decode b_Lw_span 28 = .ok (.ireturn, 1) := by decide +kernel
theorem d_Lw_span_29 : decode b_Lw_span 29 = .ok (.iconst 0, 1) := by decide +kernel
theorem d_Lw_span_30 : decode b_Lw_span 30 = .ok (.ireturn, 1) := by decide +kernel
theorem d_Lw_isAbove_0 : decode b_Lw_isAbove 0 = .ok (.aload_n 3, 1) := by decide +kernel
theorem d_Lw_isAbove_1 : decode b_Lw_isAbove 1 = .ok (.iconst 0, 1) := by decide +kernel
theorem d_Lw_isAbove_2 : decode b_Lw_isAbove 2 = .ok (.aload_n 0, 1) := by decide +kernel
theorem d_Lw_isAbove_3 : decode b_Lw_isAbove 3 = .ok (.iload_n 1, 1) := by decide +kernel
theorem d_Lw_isAbove_4 : decode b_Lw_isAbove 4 = .ok (.iload_n 2, 1) := by decide +kernel
theorem d_Lw_isAbove_5 : decode b_Lw_isAbove 5 = .ok (.invokevirtual 37, 3) := by decide +kernel
theorem d_Lw_isAbove_8 : decode b_Lw_isAbove 8 = .ok (.ifCond .eq 7, 3) := by decide +kernel
theorem d_Lw_isAbove_11 : decode b_Lw_isAbove 11 = .ok (.lconst 1, 1) := by decide +kernel
theorem d_Lw_isAbove_12 : decode b_Lw_isAbove 12 = .ok (.goto 4, 3) := by decide +kernel
theorem d_Lw_isAbove_15 : decode b_Lw_isAbove 15 = .ok (.lconst 0, 1) := by decide +kernel
theorem d_Lw_isAbove_16 : decode b_Lw_isAbove 16 = .ok (.lastore, 1) := by decide +kernel
theorem d_Lw_isAbove_17 : decode b_Lw_isAbove 17 = .ok (.goto 7, 3) := by decide +kernel
theorem d_Lw_isAbove_20 : decode b_Lw_isAbove 20 = .ok (.astore 4, 2) := by decide +kernel
theorem d_Lw_isAbove_22 : decode b_Lw_isAbove 22 = .ok (.iconst 1, 1) := by decide +kernel
theorem d_Lw_isAbove_23 : decode b_Lw_isAbove 23 = .ok (.ireturn, 1) := by decide +kernel
theorem d_Lw_isAbove_24 : decode b_Lw_isAbove 24 = .ok (.iconst 0, 1) := by decide +kernel
theorem d_Lw_isAbove_25 : decode b_Lw_isAbove 25 = .ok (.ireturn, 1) := by decide +kernel
theorem d_Lw_year_0 : decode b_Lw_year 0 = .ok (.aload_n 3, 1) := by decide +kernel
theorem d_Lw_year_1 : decode b_Lw_year 1 = .ok (.iconst 0, 1) := by decide +kernel
theorem d_Lw_year_2 : decode b_Lw_year 2 = .ok (.aload_n 0, 1) := by decide +kernel
theorem d_Lw_year_3 : decode b_Lw_year 3 = .ok (.iload_n 1, 1) := by decide +kernel
theorem d_Lw_year_4 : decode b_Lw_year 4 = .ok (.iload_n 2, 1) := by decide +kernel
theorem d_Lw_year_5 : decode b_Lw_year 5 = .ok (.invokevirtual 41, 3) := by decide +kernel
theorem d_Lw_year_8 : decode b_Lw_year 8 = .ok (.i2l, 1) := by decide +kernel
theorem d_Lw_year_9 : decode b_Lw_year 9 = .ok (.lastore, 1) := by decide +kernel
theorem d_Lw_year_10 : decode b_Lw_year 10 = .ok (.goto 11, 3) := by decide +kernel
theorem d_Lw_year_13 : decode b_Lw_year 13 = .ok (.astore 4, 2) := by decide +kernel
theorem d_Lw_year_15 : decode b_Lw_year 15 = .ok (.iconst 1, 1) := by decide +kernel
theorem d_Lw_year_16 : decode b_Lw_year 16 = .ok (.ireturn, 1) := by decide +kernel
theorem d_Lw_year_17 : decode b_Lw_year 17 = .ok (.astore 4, 2) := by decide +kernel
theorem d_Lw_year_19 : decode b_Lw_year 19 = .ok (.iconst 2, 1) := by decide +kernel
theorem d_Lw_year_20 : decode b_Lw_year 20 = .ok (.ireturn, 1) := by decide +kernel
theorem d_Lw_year_21 : decode b_Lw_year 21 = .ok (.iconst 0, 1) := by decide +kernel
theorem d_Lw_year_22 : decode b_Lw_year 22 = .ok (.ireturn, 1) := by decide +kernel
theorem d_Lw_find_0 : decode b_Lw_find 0 = .ok (.aload 4, 2) := by decide +kernel
theorem d_Lw_find_2 : decode b_Lw_find 2 = .ok (.iconst 0, 1) := by decide +kernel
theorem d_Lw_find_3 : decode b_Lw_find 3 = .ok (.aload_n 0, 1) := by decide +kernel
theorem d_Lw_find_4 : decode b_Lw_find 4 = .ok (.iload_n 1, 1) := by decide +kernel
theorem d_Lw_find_5 : decode b_Lw_find 5 = .ok (.iload_n 2, 1) := by decide +kernel
theorem d_Lw_find_6 : decode b_Lw_find 6 = .ok (.iload_n 3, 1) := by decide +kernel
theorem d_Lw_find_7 : decode b_Lw_find 7 = .ok (.invokevirtual 44, 3) := by decide +kernel
theorem d_Lw_find_10 : decode b_Lw_find 10 = .ok (.i2l, 1) := by decide +kernel
theorem d_Lw_find_11 : decode b_Lw_find 11 = .ok (.lastore, 1) := by decide +kernel
theorem d_Lw_find_12 : decode b_Lw_find 12 = .ok (.goto 15, 3) := by decide +kernel
theorem d_Lw_find_15 : decode b_Lw_find 15 = .ok (.astore 5, 2) := by decide +kernel
theorem d_Lw_find_17 : decode b_Lw_find 17 = .ok (.iconst 1, 1) := by decide +kernel
theorem d_Lw_find_18 : decode b_Lw_find 18 = .ok (.ireturn, 1) := by decide +kernel
theorem d_Lw_find_19 : decode b_Lw_find 19 = .ok (.astore 5, 2) := by decide +kernel
theorem d_Lw_find_21 : decode b_Lw_find 21 = .ok (.iconst 2, 1) := by decide +kernel
theorem d_Lw_find_22 : decode b_Lw_find 22 = .ok (.ireturn, 1) := by decide +kernel
theorem d_Lw_find_23 : decode b_Lw_find 23 = .ok (.astore 5, 2) := by decide +kernel
theorem d_Lw_find_25 : decode b_Lw_find 25 = .ok (.iconst 3, 1) := by decide +kernel
theorem d_Lw_find_26 : decode b_Lw_find 26 = .ok (.ireturn, 1) := by decide +kernel
theorem d_Lw_find_27 : decode b_Lw_find 27 = .ok (.iconst 0, 1) := by decide +kernel
theorem d_Lw_find_28 : decode b_Lw_find 28 = .ok (.ireturn, 1) := by decide +kernel
theorem d_Lw_object_0 : decode b_Lw_object 0 = .ok (.aload_n 3, 1) := by decide +kernel
theorem d_Lw_object_1 : decode b_Lw_object 1 = .ok (.iconst 0, 1) := by decide +kernel
theorem d_Lw_object_2 : decode b_Lw_object 2 = .ok (.aload_n 0, 1) := by decide +kernel
theorem d_Lw_object_3 : decode b_Lw_object 3 = .ok (.iload_n 1, 1) := by decide +kernel
theorem d_Lw_object_4 : decode b_Lw_object 4 = .ok (.iload_n 2, 1) := by decide +kernel
theorem d_Lw_object_5 : decode b_Lw_object 5 = .ok (.invokevirtual 48, 3) := by decide +kernel
theorem d_Lw_object_8 : decode b_Lw_object 8 = .ok (.i2l, 1) := by decide +kernel
theorem d_Lw_object_9 : decode b_Lw_object 9 = .ok (.lastore, 1) := by decide +kernel
theorem d_Lw_object_10 : decode b_Lw_object 10 = .ok (.goto 15, 3) := by decide +kernel
theorem d_Lw_object_13 : decode b_Lw_object 13 = .ok (.astore 4, 2) := by decide +kernel
theorem d_Lw_object_15 : decode b_Lw_object 15 = .ok (.iconst 1, 1) := by decide +kernel
theorem d_Lw_object_16 : decode b_Lw_object 16 = .ok (.ireturn, 1) := by decide +kernel
theorem d_Lw_object_17 : decode b_Lw_object 17 = .ok (.astore 4, 2) := by decide +kernel
theorem d_Lw_object_19 : decode b_Lw_object 19 = .ok (.iconst 2, 1) := by decide +kernel
theorem d_Lw_object_20 : decode b_Lw_object 20 = .ok (.ireturn, 1) := by decide +kernel
theorem d_Lw_object_21 : decode b_Lw_object 21 = .ok (.astore 4, 2) := by decide +kernel
theorem d_Lw_object_23 : decode b_Lw_object 23 = .ok (.iconst 3, 1) := by decide +kernel
theorem d_Lw_object_24 : decode b_Lw_object 24 = .ok (.ireturn, 1) := by decide +kernel
theorem d_Lw_object_25 : decode b_Lw_object 25 = .ok (.iconst 0, 1) := by decide +kernel
theorem d_Lw_object_26 : decode b_Lw_object 26 = .ok (.ireturn, 1) := by decide +kernel
theorem d_Lw_store_0 : decode b_Lw_store 0 = .ok (.aload_n 3, 1) := by decide +kernel
theorem d_Lw_store_1 : decode b_Lw_store 1 = .ok (.iconst 0, 1) := by decide +kernel
theorem d_Lw_store_2 : decode b_Lw_store 2 = .ok (.aload_n 0, 1) := by decide +kernel
theorem d_Lw_store_3 : decode b_Lw_store 3 = .ok (.iload_n 1, 1) := by decide +kernel
theorem d_Lw_store_4 : decode b_Lw_store 4 = .ok (.iload_n 2, 1) := by decide +kernel
theorem d_Lw_store_5 : decode b_Lw_store 5 = .ok (.invokevirtual 51, 3) := by decide +kernel
theorem d_Lw_store_8 : decode b_Lw_store 8 = .ok (.i2l, 1) := by decide +kernel
theorem d_Lw_store_9 : decode b_Lw_store 9 = .ok (.lastore, 1) := by decide +kernel
theorem d_Lw_store_10 : decode b_Lw_store 10 = .ok (.goto 11, 3) := by decide +kernel
theorem d_Lw_store_13 : decode b_Lw_store 13 = .ok (.astore 4, 2) := by decide +kernel
theorem d_Lw_store_15 : decode b_Lw_store 15 = .ok (.iconst 1, 1) := by decide +kernel
theorem d_Lw_store_16 : decode b_Lw_store 16 = .ok (.ireturn, 1) := by decide +kernel
theorem d_Lw_store_17 : decode b_Lw_store 17 = .ok (.astore 4, 2) := by decide +kernel
theorem d_Lw_store_19 : decode b_Lw_store 19 = .ok (.iconst 2, 1) := by decide +kernel
theorem d_Lw_store_20 : decode b_Lw_store 20 = .ok (.ireturn, 1) := by decide +kernel
theorem d_Lw_store_21 : decode b_Lw_store 21 = .ok (.iconst 0, 1) := by decide +kernel
theorem d_Lw_store_22 : decode b_Lw_store 22 = .ok (.ireturn, 1) := by decide +kernel
theorem d_Lw_carry_0 : decode b_Lw_carry 0 = .ok (.aload 4, 2) := by decide +kernel
theorem d_Lw_carry_2 : decode b_Lw_carry 2 = .ok (.iconst 0, 1) := by decide +kernel
theorem d_Lw_carry_3 : decode b_Lw_carry 3 = .ok (.aload_n 0, 1) := by decide +kernel
theorem d_Lw_carry_4 : decode b_Lw_carry 4 = .ok (.iload_n 1, 1) := by decide +kernel
theorem d_Lw_carry_5 : decode b_Lw_carry 5 = .ok (.iload_n 2, 1) := by decide +kernel
theorem d_Lw_carry_6 : decode b_Lw_carry 6 = .ok (.iload_n 3, 1) := by decide +kernel
theorem d_Lw_carry_7 : decode b_Lw_carry 7 = .ok (.invokevirtual 54, 3) := by decide +kernel
theorem d_Lw_carry_10 : decode b_Lw_carry 10 = .ok (.ifCond .eq 7, 3) := by decide +kernel
theorem d_Lw_carry_13 : decode b_Lw_carry 13 = .ok (.lconst 1, 1) := by decide +kernel
theorem d_Lw_carry_14 : decode b_Lw_carry 14 = .ok (.goto 4, 3) := by decide +kernel
theorem d_Lw_carry_17 : decode b_Lw_carry 17 = .ok (.lconst 0, 1) := by decide +kernel
theorem d_Lw_carry_18 : decode b_Lw_carry 18 = .ok (.lastore, 1) := by decide +kernel
theorem d_Lw_carry_19 : decode b_Lw_carry 19 = .ok (.goto 15, 3) := by decide +kernel
theorem d_Lw_carry_22 : decode b_Lw_carry 22 = .ok (.astore 5, 2) := by decide +kernel
theorem d_Lw_carry_24 : decode b_Lw_carry 24 = .ok (.iconst 1, 1) := by decide +kernel
theorem d_Lw_carry_25 : decode b_Lw_carry 25 = .ok (.ireturn, 1) := by decide +kernel
theorem d_Lw_carry_26 : decode b_Lw_carry 26 = .ok (.astore 5, 2) := by decide +kernel
theorem d_Lw_carry_28 : decode b_Lw_carry 28 = .ok (.iconst 2, 1) := by decide +kernel
theorem d_Lw_carry_29 : decode b_Lw_carry 29 = .ok (.ireturn, 1) := by decide +kernel
theorem d_Lw_carry_30 : decode b_Lw_carry 30 = .ok (.astore 5, 2) := by decide +kernel
theorem d_Lw_carry_32 : decode b_Lw_carry 32 = .ok (.iconst 3, 1) := by decide +kernel
theorem d_Lw_carry_33 : decode b_Lw_carry 33 = .ok (.ireturn, 1) := by decide +kernel
theorem d_Lw_carry_34 : decode b_Lw_carry 34 = .ok (.iconst 0, 1) := by decide +kernel
theorem d_Lw_carry_35 : decode b_Lw_carry 35 = .ok (.ireturn, 1) := by decide +kernel
theorem d_Lw_within_0 : decode b_Lw_within 0 = .ok (.aload_n 3, 1) := by decide +kernel
theorem d_Lw_within_1 : decode b_Lw_within 1 = .ok (.iconst 0, 1) := by decide +kernel
theorem d_Lw_within_2 : decode b_Lw_within 2 = .ok (.aload_n 0, 1) := by decide +kernel
theorem d_Lw_within_3 : decode b_Lw_within 3 = .ok (.iload_n 1, 1) := by decide +kernel
theorem d_Lw_within_4 : decode b_Lw_within 4 = .ok (.iload_n 2, 1) := by decide +kernel
theorem d_Lw_within_5 : decode b_Lw_within 5 = .ok (.invokevirtual 57, 3) := by decide +kernel
theorem d_Lw_within_8 : decode b_Lw_within 8 = .ok (.ifCond .eq 7, 3) := by decide +kernel
theorem d_Lw_within_11 : decode b_Lw_within 11 = .ok (.lconst 1, 1) := by decide +kernel
theorem d_Lw_within_12 : decode b_Lw_within 12 = .ok (.goto 4, 3) := by decide +kernel
theorem d_Lw_within_15 : decode b_Lw_within 15 = .ok (.lconst 0, 1) := by decide +kernel
theorem d_Lw_within_16 : decode b_Lw_within 16 = .ok (.lastore, 1) := by decide +kernel
theorem d_Lw_within_17 : decode b_Lw_within 17 = .ok (.goto 7, 3) := by decide +kernel
theorem d_Lw_within_20 : decode b_Lw_within 20 = .ok (.astore 4, 2) := by decide +kernel
theorem d_Lw_within_22 : decode b_Lw_within 22 = .ok (.iconst 1, 1) := by decide +kernel
theorem d_Lw_within_23 : decode b_Lw_within 23 = .ok (.ireturn, 1) := by decide +kernel
theorem d_Lw_within_24 : decode b_Lw_within 24 = .ok (.iconst 0, 1) := by decide +kernel
theorem d_Lw_within_25 : decode b_Lw_within 25 = .ok (.ireturn, 1) := by decide +kernel
theorem d_Lw_move_0 : decode b_Lw_move 0 = .ok (.aload 5, 2) := by decide +kernel
theorem d_Lw_move_2 : decode b_Lw_move 2 = .ok (.iconst 0, 1) := by decide +kernel
theorem d_Lw_move_3 : decode b_Lw_move 3 = .ok (.aload_n 0, 1) := by decide +kernel
theorem d_Lw_move_4 : decode b_Lw_move 4 = .ok (.iload_n 1, 1) := by decide +kernel
theorem d_Lw_move_5 : decode b_Lw_move 5 = .ok (.iload_n 2, 1) := by decide +kernel
theorem d_Lw_move_6 : decode b_Lw_move 6 = .ok (.iload_n 3, 1) := by decide +kernel
theorem d_Lw_move_7 : decode b_Lw_move 7 = .ok (.iload 4, 2) := by decide +kernel
theorem d_Lw_move_9 : decode b_Lw_move 9 = .ok (.invokevirtual 60, 3) := by decide +kernel
theorem d_Lw_move_12 : decode b_Lw_move 12 = .ok (.ifCond .eq 7, 3) := by decide +kernel
theorem d_Lw_move_15 : decode b_Lw_move 15 = .ok (.lconst 1, 1) := by decide +kernel
theorem d_Lw_move_16 : decode b_Lw_move 16 = .ok (.goto 4, 3) := by decide +kernel
theorem d_Lw_move_19 : decode b_Lw_move 19 = .ok (.lconst 0, 1) := by decide +kernel
theorem d_Lw_move_20 : decode b_Lw_move 20 = .ok (.lastore, 1) := by decide +kernel
theorem d_Lw_move_21 : decode b_Lw_move 21 = .ok (.goto 15, 3) := by decide +kernel
theorem d_Lw_move_24 : decode b_Lw_move 24 = .ok (.astore 6, 2) := by decide +kernel
theorem d_Lw_move_26 : decode b_Lw_move 26 = .ok (.iconst 1, 1) := by decide +kernel
theorem d_Lw_move_27 : decode b_Lw_move 27 = .ok (.ireturn, 1) := by decide +kernel
theorem d_Lw_move_28 : decode b_Lw_move 28 = .ok (.astore 6, 2) := by decide +kernel
theorem d_Lw_move_30 : decode b_Lw_move 30 = .ok (.iconst 2, 1) := by decide +kernel
theorem d_Lw_move_31 : decode b_Lw_move 31 = .ok (.ireturn, 1) := by decide +kernel
theorem d_Lw_move_32 : decode b_Lw_move 32 = .ok (.astore 6, 2) := by decide +kernel
theorem d_Lw_move_34 : decode b_Lw_move 34 = .ok (.iconst 3, 1) := by decide +kernel
theorem d_Lw_move_35 : decode b_Lw_move 35 = .ok (.ireturn, 1) := by decide +kernel
theorem d_Lw_move_36 : decode b_Lw_move 36 = .ok (.iconst 0, 1) := by decide +kernel
theorem d_Lw_move_37 : decode b_Lw_move 37 = .ok (.ireturn, 1) := by decide +kernel
theorem d_Lw_place_0 : decode b_Lw_place 0 = .ok (.aload_n 3, 1) := by decide +kernel
theorem d_Lw_place_1 : decode b_Lw_place 1 = .ok (.iconst 0, 1) := by decide +kernel
theorem d_Lw_place_2 : decode b_Lw_place 2 = .ok (.aload_n 0, 1) := by decide +kernel
theorem d_Lw_place_3 : decode b_Lw_place 3 = .ok (.iload_n 1, 1) := by decide +kernel
theorem d_Lw_place_4 : decode b_Lw_place 4 = .ok (.iload_n 2, 1) := by decide +kernel
theorem d_Lw_place_5 : decode b_Lw_place 5 = .ok (.invokevirtual 64, 3) := by decide +kernel
theorem d_Lw_place_8 : decode b_Lw_place 8 = .ok (.i2l, 1) := by decide +kernel
theorem d_Lw_place_9 : decode b_Lw_place 9 = .ok (.lastore, 1) := by decide +kernel
theorem d_Lw_place_10 : decode b_Lw_place 10 = .ok (.goto 11, 3) := by decide +kernel
theorem d_Lw_place_13 : decode b_Lw_place 13 = .ok (.astore 4, 2) := by decide +kernel
theorem d_Lw_place_15 : decode b_Lw_place 15 = .ok (.iconst 1, 1) := by decide +kernel
theorem d_Lw_place_16 : decode b_Lw_place 16 = .ok (.ireturn, 1) := by decide +kernel
theorem d_Lw_place_17 : decode b_Lw_place 17 = .ok (.astore 4, 2) := by decide +kernel
theorem d_Lw_place_19 : decode b_Lw_place 19 = .ok (.iconst 2, 1) := by decide +kernel
theorem d_Lw_place_20 : decode b_Lw_place 20 = .ok (.ireturn, 1) := by decide +kernel
theorem d_Lw_place_21 : decode b_Lw_place 21 = .ok (.iconst 0, 1) := by decide +kernel
theorem d_Lw_place_22 : decode b_Lw_place 22 = .ok (.ireturn, 1) := by decide +kernel
theorem d_Lw_stored_0 : decode b_Lw_stored 0 = .ok (.aload_n 3, 1) := by decide +kernel
theorem d_Lw_stored_1 : decode b_Lw_stored 1 = .ok (.iconst 0, 1) := by decide +kernel
theorem d_Lw_stored_2 : decode b_Lw_stored 2 = .ok (.aload_n 0, 1) := by decide +kernel
theorem d_Lw_stored_3 : decode b_Lw_stored 3 = .ok (.iload_n 1, 1) := by decide +kernel
theorem d_Lw_stored_4 : decode b_Lw_stored 4 = .ok (.iload_n 2, 1) := by decide +kernel
theorem d_Lw_stored_5 : decode b_Lw_stored 5 = .ok (.invokevirtual 67, 3) := by decide +kernel
theorem d_Lw_stored_8 : decode b_Lw_stored 8 = .ok (.i2l, 1) := by decide +kernel
theorem d_Lw_stored_9 : decode b_Lw_stored 9 = .ok (.lastore, 1) := by decide +kernel
theorem d_Lw_stored_10 : decode b_Lw_stored 10 = .ok (.goto 11, 3) := by decide +kernel
theorem d_Lw_stored_13 : decode b_Lw_stored 13 = .ok (.astore 4, 2) := by decide +kernel
theorem d_Lw_stored_15 : decode b_Lw_stored 15 = .ok (.iconst 1, 1) := by decide +kernel
theorem d_Lw_stored_16 : decode b_Lw_stored 16 = .ok (.ireturn, 1) := by decide +kernel
theorem d_Lw_stored_17 : decode b_Lw_stored 17 = .ok (.astore 4, 2) := by decide +kernel
theorem d_Lw_stored_19 : decode b_Lw_stored 19 = .ok (.iconst 2, 1) := by decide +kernel
theorem d_Lw_stored_20 : decode b_Lw_stored 20 = .ok (.ireturn, 1) := by decide +kernel
theorem d_Lw_stored_21 : decode b_Lw_stored 21 = .ok (.iconst 0, 1) := by decide +kernel
theorem d_Lw_stored_22 : decode b_Lw_stored 22 = .ok (.ireturn, 1) := by decide +kernel
theorem d_Lw_loan_0 : decode b_Lw_loan 0 = .ok (.aload 5, 2) := by decide +kernel
theorem d_Lw_loan_2 : decode b_Lw_loan 2 = .ok (.iconst 0, 1) := by decide +kernel
theorem d_Lw_loan_3 : decode b_Lw_loan 3 = .ok (.aload_n 0, 1) := by decide +kernel
theorem d_Lw_loan_4 : decode b_Lw_loan 4 = .ok (.iload_n 1, 1) := by decide +kernel
theorem d_Lw_loan_5 : decode b_Lw_loan 5 = .ok (.iload_n 2, 1) := by decide +kernel
theorem d_Lw_loan_6 : decode b_Lw_loan 6 = .ok (.iload_n 3, 1) := by decide +kernel
theorem d_Lw_loan_7 : decode b_Lw_loan 7 = .ok (.iload 4, 2) := by decide +kernel
theorem d_Lw_loan_9 : decode b_Lw_loan 9 = .ok (.invokevirtual 70, 3) := by decide +kernel
theorem d_Lw_loan_12 : decode b_Lw_loan 12 = .ok (.i2l, 1) := by decide +kernel
theorem d_Lw_loan_13 : decode b_Lw_loan 13 = .ok (.lastore, 1) := by decide +kernel
theorem d_Lw_loan_14 : decode b_Lw_loan 14 = .ok (.goto 15, 3) := by decide +kernel
theorem d_Lw_loan_17 : decode b_Lw_loan 17 = .ok (.astore 6, 2) := by decide +kernel
theorem d_Lw_loan_19 : decode b_Lw_loan 19 = .ok (.iconst 1, 1) := by decide +kernel
theorem d_Lw_loan_20 : decode b_Lw_loan 20 = .ok (.ireturn, 1) := by decide +kernel
theorem d_Lw_loan_21 : decode b_Lw_loan 21 = .ok (.astore 6, 2) := by decide +kernel
theorem d_Lw_loan_23 : decode b_Lw_loan 23 = .ok (.iconst 2, 1) := by decide +kernel
theorem d_Lw_loan_24 : decode b_Lw_loan 24 = .ok (.ireturn, 1) := by decide +kernel
theorem d_Lw_loan_25 : decode b_Lw_loan 25 = .ok (.astore 6, 2) := by decide +kernel
theorem d_Lw_loan_27 : decode b_Lw_loan 27 = .ok (.iconst 3, 1) := by decide +kernel
theorem d_Lw_loan_28 : decode b_Lw_loan 28 = .ok (.ireturn, 1) := by decide +kernel
theorem d_Lw_loan_29 : decode b_Lw_loan 29 = .ok (.iconst 0, 1) := by decide +kernel
theorem d_Lw_loan_30 : decode b_Lw_loan 30 = .ok (.ireturn, 1) := by decide +kernel
theorem d_Lw_back_0 : decode b_Lw_back 0 = .ok (.aload 4, 2) := by decide +kernel
theorem d_Lw_back_2 : decode b_Lw_back 2 = .ok (.iconst 0, 1) := by decide +kernel
theorem d_Lw_back_3 : decode b_Lw_back 3 = .ok (.aload_n 0, 1) := by decide +kernel
theorem d_Lw_back_4 : decode b_Lw_back 4 = .ok (.iload_n 1, 1) := by decide +kernel
theorem d_Lw_back_5 : decode b_Lw_back 5 = .ok (.iload_n 2, 1) := by decide +kernel
theorem d_Lw_back_6 : decode b_Lw_back 6 = .ok (.iload_n 3, 1) := by decide +kernel
theorem d_Lw_back_7 : decode b_Lw_back 7 = .ok (.invokevirtual 73, 3) := by decide +kernel
theorem d_Lw_back_10 : decode b_Lw_back 10 = .ok (.i2l, 1) := by decide +kernel
theorem d_Lw_back_11 : decode b_Lw_back 11 = .ok (.lastore, 1) := by decide +kernel
theorem d_Lw_back_12 : decode b_Lw_back 12 = .ok (.goto 15, 3) := by decide +kernel
theorem d_Lw_back_15 : decode b_Lw_back 15 = .ok (.astore 5, 2) := by decide +kernel
theorem d_Lw_back_17 : decode b_Lw_back 17 = .ok (.iconst 1, 1) := by decide +kernel
theorem d_Lw_back_18 : decode b_Lw_back 18 = .ok (.ireturn, 1) := by decide +kernel
theorem d_Lw_back_19 : decode b_Lw_back 19 = .ok (.astore 5, 2) := by decide +kernel
theorem d_Lw_back_21 : decode b_Lw_back 21 = .ok (.iconst 2, 1) := by decide +kernel
theorem d_Lw_back_22 : decode b_Lw_back 22 = .ok (.ireturn, 1) := by decide +kernel
theorem d_Lw_back_23 : decode b_Lw_back 23 = .ok (.astore 5, 2) := by decide +kernel
theorem d_Lw_back_25 : decode b_Lw_back 25 = .ok (.iconst 3, 1) := by decide +kernel
theorem d_Lw_back_26 : decode b_Lw_back 26 = .ok (.ireturn, 1) := by decide +kernel
theorem d_Lw_back_27 : decode b_Lw_back 27 = .ok (.iconst 0, 1) := by decide +kernel
theorem d_Lw_back_28 : decode b_Lw_back 28 = .ok (.ireturn, 1) := by decide +kernel
theorem d_Lw_show_0 : decode b_Lw_show 0 = .ok (.aload 5, 2) := by decide +kernel
theorem d_Lw_show_2 : decode b_Lw_show 2 = .ok (.iconst 0, 1) := by decide +kernel
theorem d_Lw_show_3 : decode b_Lw_show 3 = .ok (.aload_n 0, 1) := by decide +kernel
theorem d_Lw_show_4 : decode b_Lw_show 4 = .ok (.iload_n 1, 1) := by decide +kernel
theorem d_Lw_show_5 : decode b_Lw_show 5 = .ok (.iload_n 2, 1) := by decide +kernel
theorem d_Lw_show_6 : decode b_Lw_show 6 = .ok (.iload_n 3, 1) := by decide +kernel
theorem d_Lw_show_7 : decode b_Lw_show 7 = .ok (.iload 4, 2) := by decide +kernel
theorem d_Lw_show_9 : decode b_Lw_show 9 = .ok (.invokevirtual 76, 3) := by decide +kernel
theorem d_Lw_show_12 : decode b_Lw_show 12 = .ok (.i2l, 1) := by decide +kernel
theorem d_Lw_show_13 : decode b_Lw_show 13 = .ok (.lastore, 1) := by decide +kernel
theorem d_Lw_show_14 : decode b_Lw_show 14 = .ok (.goto 15, 3) := by decide +kernel
theorem d_Lw_show_17 : decode b_Lw_show 17 = .ok (.astore 6, 2) := by decide +kernel
theorem d_Lw_show_19 : decode b_Lw_show 19 = .ok (.iconst 1, 1) := by decide +kernel
theorem d_Lw_show_20 : decode b_Lw_show 20 = .ok (.ireturn, 1) := by decide +kernel
theorem d_Lw_show_21 : decode b_Lw_show 21 = .ok (.astore 6, 2) := by decide +kernel
theorem d_Lw_show_23 : decode b_Lw_show 23 = .ok (.iconst 2, 1) := by decide +kernel
theorem d_Lw_show_24 : decode b_Lw_show 24 = .ok (.ireturn, 1) := by decide +kernel
theorem d_Lw_show_25 : decode b_Lw_show 25 = .ok (.astore 6, 2) := by decide +kernel
theorem d_Lw_show_27 : decode b_Lw_show 27 = .ok (.iconst 3, 1) := by decide +kernel
theorem d_Lw_show_28 : decode b_Lw_show 28 = .ok (.ireturn, 1) := by decide +kernel
theorem d_Lw_show_29 : decode b_Lw_show 29 = .ok (.iconst 0, 1) := by decide +kernel
theorem d_Lw_show_30 : decode b_Lw_show 30 = .ok (.ireturn, 1) := by decide +kernel
theorem d_Lw_hang_0 : decode b_Lw_hang 0 = .ok (.aload 4, 2) := by decide +kernel
theorem d_Lw_hang_2 : decode b_Lw_hang 2 = .ok (.iconst 0, 1) := by decide +kernel
theorem d_Lw_hang_3 : decode b_Lw_hang 3 = .ok (.aload_n 0, 1) := by decide +kernel
theorem d_Lw_hang_4 : decode b_Lw_hang 4 = .ok (.iload_n 1, 1) := by decide +kernel
theorem d_Lw_hang_5 : decode b_Lw_hang 5 = .ok (.iload_n 2, 1) := by decide +kernel
theorem d_Lw_hang_6 : decode b_Lw_hang 6 = .ok (.iload_n 3, 1) := by decide +kernel
theorem d_Lw_hang_7 : decode b_Lw_hang 7 = .ok (.invokevirtual 79, 3) := by decide +kernel
theorem d_Lw_hang_10 : decode b_Lw_hang 10 = .ok (.ifCond .eq 7, 3) := by decide +kernel
theorem d_Lw_hang_13 : decode b_Lw_hang 13 = .ok (.lconst 1, 1) := by decide +kernel
theorem d_Lw_hang_14 : decode b_Lw_hang 14 = .ok (.goto 4, 3) := by decide +kernel
theorem d_Lw_hang_17 : decode b_Lw_hang 17 = .ok (.lconst 0, 1) := by decide +kernel
theorem d_Lw_hang_18 : decode b_Lw_hang 18 = .ok (.lastore, 1) := by decide +kernel
theorem d_Lw_hang_19 : decode b_Lw_hang 19 = .ok (.goto 15, 3) := by decide +kernel
theorem d_Lw_hang_22 : decode b_Lw_hang 22 = .ok (.astore 5, 2) := by decide +kernel
theorem d_Lw_hang_24 : decode b_Lw_hang 24 = .ok (.iconst 1, 1) := by decide +kernel
theorem d_Lw_hang_25 : decode b_Lw_hang 25 = .ok (.ireturn, 1) := by decide +kernel
theorem d_Lw_hang_26 : decode b_Lw_hang 26 = .ok (.astore 5, 2) := by decide +kernel
theorem d_Lw_hang_28 : decode b_Lw_hang 28 = .ok (.iconst 2, 1) := by decide +kernel
theorem d_Lw_hang_29 : decode b_Lw_hang 29 = .ok (.ireturn, 1) := by decide +kernel
theorem d_Lw_hang_30 : decode b_Lw_hang 30 = .ok (.astore 5, 2) := by decide +kernel
theorem d_Lw_hang_32 : decode b_Lw_hang 32 = .ok (.iconst 3, 1) := by decide +kernel
theorem d_Lw_hang_33 : decode b_Lw_hang 33 = .ok (.ireturn, 1) := by decide +kernel
theorem d_Lw_hang_34 : decode b_Lw_hang 34 = .ok (.iconst 0, 1) := by decide +kernel
theorem d_Lw_hang_35 : decode b_Lw_hang 35 = .ok (.ireturn, 1) := by decide +kernel
theorem d_Lw_take_0 : decode b_Lw_take 0 = .ok (.aload 4, 2) := by decide +kernel
theorem d_Lw_take_2 : decode b_Lw_take 2 = .ok (.iconst 0, 1) := by decide +kernel
theorem d_Lw_take_3 : decode b_Lw_take 3 = .ok (.aload_n 0, 1) := by decide +kernel
theorem d_Lw_take_4 : decode b_Lw_take 4 = .ok (.iload_n 1, 1) := by decide +kernel
theorem d_Lw_take_5 : decode b_Lw_take 5 = .ok (.iload_n 2, 1) := by decide +kernel
theorem d_Lw_take_6 : decode b_Lw_take 6 = .ok (.iload_n 3, 1) := by decide +kernel
theorem d_Lw_take_7 : decode b_Lw_take 7 = .ok (.invokevirtual 82, 3) := by decide +kernel
theorem d_Lw_take_10 : decode b_Lw_take 10 = .ok (.ifCond .eq 7, 3) := by decide +kernel
theorem d_Lw_take_13 : decode b_Lw_take 13 = .ok (.lconst 1, 1) := by decide +kernel
theorem d_Lw_take_14 : decode b_Lw_take 14 = .ok (.goto 4, 3) := by decide +kernel
theorem d_Lw_take_17 : decode b_Lw_take 17 = .ok (.lconst 0, 1) := by decide +kernel
theorem d_Lw_take_18 : decode b_Lw_take 18 = .ok (.lastore, 1) := by decide +kernel
theorem d_Lw_take_19 : decode b_Lw_take 19 = .ok (.goto 11, 3) := by decide +kernel
theorem d_Lw_take_22 : decode b_Lw_take 22 = .ok (.astore 5, 2) := by decide +kernel
theorem d_Lw_take_24 : decode b_Lw_take 24 = .ok (.iconst 1, 1) := by decide +kernel
theorem d_Lw_take_25 : decode b_Lw_take 25 = .ok (.ireturn, 1) := by decide +kernel
theorem d_Lw_take_26 : decode b_Lw_take 26 = .ok (.astore 5, 2) := by decide +kernel
theorem d_Lw_take_28 : decode b_Lw_take 28 = .ok (.iconst 2, 1) := by decide +kernel
theorem d_Lw_take_29 : decode b_Lw_take 29 = .ok (.ireturn, 1) := by decide +kernel
theorem d_Lw_take_30 : decode b_Lw_take 30 = .ok (.iconst 0, 1) := by decide +kernel
theorem d_Lw_take_31 : decode b_Lw_take 31 = .ok (.ireturn, 1) := by decide +kernel
theorem d_Lw_claim_0 : decode b_Lw_claim 0 = .ok (.aload 4, 2) := by decide +kernel
theorem d_Lw_claim_2 : decode b_Lw_claim 2 = .ok (.iconst 0, 1) := by decide +kernel
theorem d_Lw_claim_3 : decode b_Lw_claim 3 = .ok (.aload_n 0, 1) := by decide +kernel
theorem d_Lw_claim_4 : decode b_Lw_claim 4 = .ok (.iload_n 1, 1) := by decide +kernel
theorem d_Lw_claim_5 : decode b_Lw_claim 5 = .ok (.iload_n 2, 1) := by decide +kernel
theorem d_Lw_claim_6 : decode b_Lw_claim 6 = .ok (.iload_n 3, 1) := by decide +kernel
theorem d_Lw_claim_7 : decode b_Lw_claim 7 = .ok (.invokevirtual 85, 3) := by decide +kernel
theorem d_Lw_claim_10 : decode b_Lw_claim 10 = .ok (.i2l, 1) := by decide +kernel
theorem d_Lw_claim_11 : decode b_Lw_claim 11 = .ok (.lastore, 1) := by decide +kernel
theorem d_Lw_claim_12 : decode b_Lw_claim 12 = .ok (.goto 15, 3) := by decide +kernel
theorem d_Lw_claim_15 : decode b_Lw_claim 15 = .ok (.astore 5, 2) := by decide +kernel
theorem d_Lw_claim_17 : decode b_Lw_claim 17 = .ok (.iconst 1, 1) := by decide +kernel
theorem d_Lw_claim_18 : decode b_Lw_claim 18 = .ok (.ireturn, 1) := by decide +kernel
theorem d_Lw_claim_19 : decode b_Lw_claim 19 = .ok (.astore 5, 2) := by decide +kernel
theorem d_Lw_claim_21 : decode b_Lw_claim 21 = .ok (.iconst 2, 1) := by decide +kernel
theorem d_Lw_claim_22 : decode b_Lw_claim 22 = .ok (.ireturn, 1) := by decide +kernel
theorem d_Lw_claim_23 : decode b_Lw_claim 23 = .ok (.astore 5, 2) := by decide +kernel
theorem d_Lw_claim_25 : decode b_Lw_claim 25 = .ok (.iconst 3, 1) := by decide +kernel
theorem d_Lw_claim_26 : decode b_Lw_claim 26 = .ok (.ireturn, 1) := by decide +kernel
theorem d_Lw_claim_27 : decode b_Lw_claim 27 = .ok (.iconst 0, 1) := by decide +kernel
theorem d_Lw_claim_28 : decode b_Lw_claim 28 = .ok (.ireturn, 1) := by decide +kernel
theorem d_Lw_close_0 : decode b_Lw_close 0 = .ok (.aload_n 3, 1) := by decide +kernel
theorem d_Lw_close_1 : decode b_Lw_close 1 = .ok (.iconst 0, 1) := by decide +kernel
theorem d_Lw_close_2 : decode b_Lw_close 2 = .ok (.aload_n 0, 1) := by decide +kernel
theorem d_Lw_close_3 : decode b_Lw_close 3 = .ok (.iload_n 1, 1) := by decide +kernel
theorem d_Lw_close_4 : decode b_Lw_close 4 = .ok (.iload_n 2, 1) := by decide +kernel
theorem d_Lw_close_5 : decode b_Lw_close 5 = .ok (.invokevirtual 88, 3) := by decide +kernel
theorem d_Lw_close_8 : decode b_Lw_close 8 = .ok (.i2l, 1) := by decide +kernel
theorem d_Lw_close_9 : decode b_Lw_close 9 = .ok (.lastore, 1) := by decide +kernel
theorem d_Lw_close_10 : decode b_Lw_close 10 = .ok (.goto 15, 3) := by decide +kernel
theorem d_Lw_close_13 : decode b_Lw_close 13 = .ok (.astore 4, 2) := by decide +kernel
theorem d_Lw_close_15 : decode b_Lw_close 15 = .ok (.iconst 1, 1) := by decide +kernel
theorem d_Lw_close_16 : decode b_Lw_close 16 = .ok (.ireturn, 1) := by decide +kernel
theorem d_Lw_close_17 : decode b_Lw_close 17 = .ok (.astore 4, 2) := by decide +kernel
theorem d_Lw_close_19 : decode b_Lw_close 19 = .ok (.iconst 2, 1) := by decide +kernel
theorem d_Lw_close_20 : decode b_Lw_close 20 = .ok (.ireturn, 1) := by decide +kernel
theorem d_Lw_close_21 : decode b_Lw_close 21 = .ok (.astore 4, 2) := by decide +kernel
theorem d_Lw_close_23 : decode b_Lw_close 23 = .ok (.iconst 3, 1) := by decide +kernel
theorem d_Lw_close_24 : decode b_Lw_close 24 = .ok (.ireturn, 1) := by decide +kernel
theorem d_Lw_close_25 : decode b_Lw_close 25 = .ok (.iconst 0, 1) := by decide +kernel
theorem d_Lw_close_26 : decode b_Lw_close 26 = .ok (.ireturn, 1) := by decide +kernel
theorem d_Lw_where_0 : decode b_Lw_where 0 = .ok (.aload_n 3, 1) := by decide +kernel
theorem d_Lw_where_1 : decode b_Lw_where 1 = .ok (.iconst 0, 1) := by decide +kernel
theorem d_Lw_where_2 : decode b_Lw_where 2 = .ok (.aload_n 0, 1) := by decide +kernel
theorem d_Lw_where_3 : decode b_Lw_where 3 = .ok (.iload_n 1, 1) := by decide +kernel
theorem d_Lw_where_4 : decode b_Lw_where 4 = .ok (.iload_n 2, 1) := by decide +kernel
theorem d_Lw_where_5 : decode b_Lw_where 5 = .ok (.invokevirtual 91, 3) := by decide +kernel
theorem d_Lw_where_8 : decode b_Lw_where 8 = .ok (.i2l, 1) := by decide +kernel
theorem d_Lw_where_9 : decode b_Lw_where 9 = .ok (.lastore, 1) := by decide +kernel
theorem d_Lw_where_10 : decode b_Lw_where 10 = .ok (.goto 11, 3) := by decide +kernel
theorem d_Lw_where_13 : decode b_Lw_where 13 = .ok (.astore 4, 2) := by decide +kernel
theorem d_Lw_where_15 : decode b_Lw_where 15 = .ok (.iconst 1, 1) := by decide +kernel
theorem d_Lw_where_16 : decode b_Lw_where 16 = .ok (.ireturn, 1) := by decide +kernel
theorem d_Lw_where_17 : decode b_Lw_where 17 = .ok (.astore 4, 2) := by decide +kernel
theorem d_Lw_where_19 : decode b_Lw_where 19 = .ok (.iconst 2, 1) := by decide +kernel
theorem d_Lw_where_20 : decode b_Lw_where 20 = .ok (.ireturn, 1) := by decide +kernel
theorem d_Lw_where_21 : decode b_Lw_where 21 = .ok (.iconst 0, 1) := by decide +kernel
theorem d_Lw_where_22 : decode b_Lw_where 22 = .ok (.ireturn, 1) := by decide +kernel
theorem d_Lw_origin_0 : decode b_Lw_origin 0 = .ok (.aload_n 2, 1) := by decide +kernel
theorem d_Lw_origin_1 : decode b_Lw_origin 1 = .ok (.iconst 0, 1) := by decide +kernel
theorem d_Lw_origin_2 : decode b_Lw_origin 2 = .ok (.aload_n 0, 1) := by decide +kernel
theorem d_Lw_origin_3 : decode b_Lw_origin 3 = .ok (.iload_n 1, 1) := by decide +kernel
theorem d_Lw_origin_4 : decode b_Lw_origin 4 = .ok (.invokevirtual 94, 3) := by decide +kernel
theorem d_Lw_origin_7 : decode b_Lw_origin 7 = .ok (.i2l, 1) := by decide +kernel
theorem d_Lw_origin_8 : decode b_Lw_origin 8 = .ok (.lastore, 1) := by decide +kernel
theorem d_Lw_origin_9 : decode b_Lw_origin 9 = .ok (.goto 6, 3) := by decide +kernel
theorem d_Lw_origin_12 : decode b_Lw_origin 12 = .ok (.astore_n 3, 1) := by decide +kernel
theorem d_Lw_origin_13 : decode b_Lw_origin 13 = .ok (.iconst 1, 1) := by decide +kernel
theorem d_Lw_origin_14 : decode b_Lw_origin 14 = .ok (.ireturn, 1) := by decide +kernel
theorem d_Lw_origin_15 : decode b_Lw_origin 15 = .ok (.iconst 0, 1) := by decide +kernel
theorem d_Lw_origin_16 : decode b_Lw_origin 16 = .ok (.ireturn, 1) := by decide +kernel
theorem d_Lw_hall_0 : decode b_Lw_hall 0 = .ok (.aload_n 2, 1) := by decide +kernel
theorem d_Lw_hall_1 : decode b_Lw_hall 1 = .ok (.iconst 0, 1) := by decide +kernel
theorem d_Lw_hall_2 : decode b_Lw_hall 2 = .ok (.aload_n 0, 1) := by decide +kernel
theorem d_Lw_hall_3 : decode b_Lw_hall 3 = .ok (.iload_n 1, 1) := by decide +kernel
theorem d_Lw_hall_4 : decode b_Lw_hall 4 = .ok (.invokevirtual 97, 3) := by decide +kernel
theorem d_Lw_hall_7 : decode b_Lw_hall 7 = .ok (.i2l, 1) := by decide +kernel
theorem d_Lw_hall_8 : decode b_Lw_hall 8 = .ok (.lastore, 1) := by decide +kernel
theorem d_Lw_hall_9 : decode b_Lw_hall 9 = .ok (.goto 6, 3) := by decide +kernel
theorem d_Lw_hall_12 : decode b_Lw_hall 12 = .ok (.astore_n 3, 1) := by decide +kernel
theorem d_Lw_hall_13 : decode b_Lw_hall 13 = .ok (.iconst 1, 1) := by decide +kernel
theorem d_Lw_hall_14 : decode b_Lw_hall 14 = .ok (.ireturn, 1) := by decide +kernel
theorem d_Lw_hall_15 : decode b_Lw_hall 15 = .ok (.iconst 0, 1) := by decide +kernel
theorem d_Lw_hall_16 : decode b_Lw_hall 16 = .ok (.ireturn, 1) := by decide +kernel
theorem d_Lw_count_0 : decode b_Lw_count 0 = .ok (.aload_n 2, 1) := by decide +kernel
theorem d_Lw_count_1 : decode b_Lw_count 1 = .ok (.iconst 0, 1) := by decide +kernel
theorem d_Lw_count_2 : decode b_Lw_count 2 = .ok (.aload_n 0, 1) := by decide +kernel
theorem d_Lw_count_3 : decode b_Lw_count 3 = .ok (.iload_n 1, 1) := by decide +kernel
theorem d_Lw_count_4 : decode b_Lw_count 4 = .ok (.invokevirtual 100, 3) := by decide +kernel
theorem d_Lw_count_7 : decode b_Lw_count 7 = .ok (.i2l, 1) := by decide +kernel
theorem d_Lw_count_8 : decode b_Lw_count 8 = .ok (.lastore, 1) := by decide +kernel
theorem d_Lw_count_9 : decode b_Lw_count 9 = .ok (.goto 6, 3) := by decide +kernel
theorem d_Lw_count_12 : decode b_Lw_count 12 = .ok (.astore_n 3, 1) := by decide +kernel
theorem d_Lw_count_13 : decode b_Lw_count 13 = .ok (.iconst 1, 1) := by decide +kernel
theorem d_Lw_count_14 : decode b_Lw_count 14 = .ok (.ireturn, 1) := by decide +kernel
theorem d_Lw_count_15 : decode b_Lw_count 15 = .ok (.iconst 0, 1) := by decide +kernel
theorem d_Lw_count_16 : decode b_Lw_count 16 = .ok (.ireturn, 1) := by decide +kernel

theorem dX0_init_0 : decode cX0_init 0 = .ok (.aload_n 0, 1) := by decide +kernel
theorem dX0_init_1 : decode cX0_init 1 = .ok (.invokespecial 3, 3) := by decide +kernel
theorem dX0_init_4 : decode cX0_init 4 = .ok (.aload_n 0, 1) := by decide +kernel
theorem dX0_init_5 : decode cX0_init 5 = .ok (.bipush 20, 2) := by decide +kernel
theorem dX0_init_7 : decode cX0_init 7 = .ok (.newarray .int, 2) := by decide +kernel
theorem dX0_init_9 : decode cX0_init 9 = .ok (.putfield 9, 3) := by decide +kernel
theorem dX0_init_12 : decode cX0_init 12 = .ok (.aload_n 0, 1) := by decide +kernel
theorem dX0_init_13 : decode cX0_init 13 = .ok (.bipush 20, 2) := by decide +kernel
theorem dX0_init_15 : decode cX0_init 15 = .ok (.newarray .int, 2) := by decide +kernel
theorem dX0_init_17 : decode cX0_init 17 = .ok (.putfield 15, 3) := by decide +kernel
theorem dX0_init_20 : decode cX0_init 20 = .ok (.aload_n 0, 1) := by decide +kernel
theorem dX0_init_21 : decode cX0_init 21 = .ok (.bipush 20, 2) := by decide +kernel
theorem dX0_init_23 : decode cX0_init 23 = .ok (.newarray .int, 2) := by decide +kernel
theorem dX0_init_25 : decode cX0_init 25 = .ok (.putfield 18, 3) := by decide +kernel
theorem dX0_init_28 : decode cX0_init 28 = .ok (.return_, 1) := by decide +kernel
theorem dX0_addEntry_0 : decode cX0_addEntry 0 = .ok (.aload_n 0, 1) := by decide +kernel
theorem dX0_addEntry_1 : decode cX0_addEntry 1 = .ok (.getfield 21, 3) := by decide +kernel
theorem dX0_addEntry_4 : decode cX0_addEntry 4 = .ok (.bipush 20, 2) := by decide +kernel
theorem dX0_addEntry_6 : decode cX0_addEntry 6 = .ok (.if_icmp .lt 5, 3) := by decide +kernel
theorem dX0_addEntry_9 : decode cX0_addEntry 9 = .ok (.iconst 0, 1) := by decide +kernel
theorem dX0_addEntry_10 : decode cX0_addEntry 10 = .ok (.ireturn, 1) := by decide +kernel
theorem dX0_addEntry_11 : decode cX0_addEntry 11 = .ok (.aload_n 0, 1) := by decide +kernel
theorem dX0_addEntry_12 : decode cX0_addEntry 12 = .ok (.getfield 9, 3) := by decide +kernel
theorem dX0_addEntry_15 : decode cX0_addEntry 15 = .ok (.aload_n 0, 1) := by decide +kernel
theorem dX0_addEntry_16 : decode cX0_addEntry 16 = .ok (.getfield 21, 3) := by decide +kernel
theorem dX0_addEntry_19 : decode cX0_addEntry 19 = .ok (.iload_n 1, 1) := by decide +kernel
theorem dX0_addEntry_20 : decode cX0_addEntry 20 = .ok (.iastore, 1) := by decide +kernel
theorem dX0_addEntry_21 : decode cX0_addEntry 21 = .ok (.aload_n 0, 1) := by decide +kernel
theorem dX0_addEntry_22 : decode cX0_addEntry 22 = .ok (.getfield 15, 3) := by decide +kernel
theorem dX0_addEntry_25 : decode cX0_addEntry 25 = .ok (.aload_n 0, 1) := by decide +kernel
theorem dX0_addEntry_26 : decode cX0_addEntry 26 = .ok (.getfield 21, 3) := by decide +kernel
theorem dX0_addEntry_29 : decode cX0_addEntry 29 = .ok (.iload_n 2, 1) := by decide +kernel
theorem dX0_addEntry_30 : decode cX0_addEntry 30 = .ok (.iastore, 1) := by decide +kernel
theorem dX0_addEntry_31 : decode cX0_addEntry 31 = .ok (.aload_n 0, 1) := by decide +kernel
theorem dX0_addEntry_32 : decode cX0_addEntry 32 = .ok (.getfield 18, 3) := by decide +kernel
theorem dX0_addEntry_35 : decode cX0_addEntry 35 = .ok (.aload_n 0, 1) := by decide +kernel
theorem dX0_addEntry_36 : decode cX0_addEntry 36 = .ok (.getfield 21, 3) := by decide +kernel
theorem dX0_addEntry_39 : decode cX0_addEntry 39 = .ok (.iload_n 3, 1) := by decide +kernel
theorem dX0_addEntry_40 : decode cX0_addEntry 40 = .ok (.iastore, 1) := by decide +kernel
theorem dX0_addEntry_41 : decode cX0_addEntry 41 = .ok (.aload_n 0, 1) := by decide +kernel
theorem dX0_addEntry_42 : decode cX0_addEntry 42 = .ok (.dup, 1) := by decide +kernel
theorem dX0_addEntry_43 : decode cX0_addEntry 43 = .ok (.getfield 21, 3) := by decide +kernel
theorem dX0_addEntry_46 : decode cX0_addEntry 46 = .ok (.iconst 1, 1) := by decide +kernel
theorem dX0_addEntry_47 : decode cX0_addEntry 47 = .ok (.iadd, 1) := by decide +kernel
theorem dX0_addEntry_48 : decode cX0_addEntry 48 = .ok (.putfield 21, 3) := by decide +kernel
theorem dX0_addEntry_51 : decode cX0_addEntry 51 = .ok (.iconst 1, 1) := by decide +kernel
theorem dX0_addEntry_52 : decode cX0_addEntry 52 = .ok (.ireturn, 1) := by decide +kernel
theorem dX0_has_0 : decode cX0_has 0 = .ok (.iload_n 1, 1) := by decide +kernel
theorem dX0_has_1 : decode cX0_has 1 = .ok (.ifCond .lt 15, 3) := by decide +kernel
theorem dX0_has_4 : decode cX0_has 4 = .ok (.iload_n 1, 1) := by decide +kernel
theorem dX0_has_5 : decode cX0_has 5 = .ok (.aload_n 0, 1) := by decide +kernel
theorem dX0_has_6 : decode cX0_has 6 = .ok (.getfield 21, 3) := by decide +kernel
theorem dX0_has_9 : decode cX0_has 9 = .ok (.if_icmp .ge 7, 3) := by decide +kernel
theorem dX0_has_12 : decode cX0_has 12 = .ok (.iconst 1, 1) := by decide +kernel
theorem dX0_has_13 : decode cX0_has 13 = .ok (.goto 4, 3) := by decide +kernel
theorem dX0_has_16 : decode cX0_has 16 = .ok (.iconst 0, 1) := by decide +kernel
theorem dX0_has_17 : decode cX0_has 17 = .ok (.ireturn, 1) := by decide +kernel
theorem dX0_functionAt_0 : decode cX0_functionAt 0 = .ok (.aload_n 0, 1) := by decide +kernel
theorem dX0_functionAt_1 : decode cX0_functionAt 1 = .ok (.iload_n 1, 1) := by decide +kernel
theorem dX0_functionAt_2 : decode cX0_functionAt 2 = .ok (.invokevirtual 25, 3) := by decide +kernel
theorem dX0_functionAt_5 : decode cX0_functionAt 5 = .ok (.ifCond .eq 12, 3) := by decide +kernel
theorem dX0_functionAt_8 : decode cX0_functionAt 8 = .ok (.aload_n 0, 1) := by decide +kernel
theorem dX0_functionAt_9 : decode cX0_functionAt 9 = .ok (.getfield 9, 3) := by decide +kernel
theorem dX0_functionAt_12 : decode cX0_functionAt 12 = .ok (.iload_n 1, 1) := by decide +kernel
theorem dX0_functionAt_13 : decode cX0_functionAt 13 = .ok (.iaload, 1) := by decide +kernel
theorem dX0_functionAt_14 : decode cX0_functionAt 14 = .ok (.goto 4, 3) := by decide +kernel
theorem dX0_functionAt_17 : decode cX0_functionAt 17 = .ok (.iconst (-1), 1) := by decide +kernel
theorem dX0_functionAt_18 : decode cX0_functionAt 18 = .ok (.ireturn, 1) := by decide +kernel
theorem dX0_argumentAt_0 : decode cX0_argumentAt 0 = .ok (.aload_n 0, 1) := by decide +kernel
theorem dX0_argumentAt_1 : decode cX0_argumentAt 1 = .ok (.iload_n 1, 1) := by decide +kernel
theorem dX0_argumentAt_2 : decode cX0_argumentAt 2 = .ok (.invokevirtual 25, 3) := by decide +kernel
theorem dX0_argumentAt_5 : decode cX0_argumentAt 5 = .ok (.ifCond .eq 12, 3) := by decide +kernel
theorem dX0_argumentAt_8 : decode cX0_argumentAt 8 = .ok (.aload_n 0, 1) := by decide +kernel
theorem dX0_argumentAt_9 : decode cX0_argumentAt 9 = .ok (.getfield 15, 3) := by decide +kernel
theorem dX0_argumentAt_12 : decode cX0_argumentAt 12 = .ok (.iload_n 1, 1) := by decide +kernel
theorem dX0_argumentAt_13 : decode cX0_argumentAt 13 = .ok (.iaload, 1) := by decide +kernel
theorem dX0_argumentAt_14 : decode cX0_argumentAt 14 = .ok (.goto 4, 3) := by decide +kernel
theorem dX0_argumentAt_17 : decode cX0_argumentAt 17 = .ok (.iconst 0, 1) := by decide +kernel
theorem dX0_argumentAt_18 : decode cX0_argumentAt 18 = .ok (.ireturn, 1) := by decide +kernel
theorem dX0_tellingAt_0 : decode cX0_tellingAt 0 = .ok (.aload_n 0, 1) := by decide +kernel
theorem dX0_tellingAt_1 : decode cX0_tellingAt 1 = .ok (.iload_n 1, 1) := by decide +kernel
theorem dX0_tellingAt_2 : decode cX0_tellingAt 2 = .ok (.invokevirtual 25, 3) := by decide +kernel
theorem dX0_tellingAt_5 : decode cX0_tellingAt 5 = .ok (.ifCond .eq 12, 3) := by decide +kernel
theorem dX0_tellingAt_8 : decode cX0_tellingAt 8 = .ok (.aload_n 0, 1) := by decide +kernel
theorem dX0_tellingAt_9 : decode cX0_tellingAt 9 = .ok (.getfield 18, 3) := by decide +kernel
theorem dX0_tellingAt_12 : decode cX0_tellingAt 12 = .ok (.iload_n 1, 1) := by decide +kernel
theorem dX0_tellingAt_13 : decode cX0_tellingAt 13 = .ok (.iaload, 1) := by decide +kernel
theorem dX0_tellingAt_14 : decode cX0_tellingAt 14 = .ok (.goto 4, 3) := by decide +kernel
theorem dX0_tellingAt_17 : decode cX0_tellingAt 17 = .ok (.iconst 0, 1) := by decide +kernel
theorem dX0_tellingAt_18 : decode cX0_tellingAt 18 = .ok (.ireturn, 1) := by decide +kernel
theorem dX1_init_0 : decode cX1_init 0 = .ok (.aload_n 0, 1) := by decide +kernel
theorem dX1_init_1 : decode cX1_init 1 = .ok (.invokespecial 3, 3) := by decide +kernel
theorem dX1_init_4 : decode cX1_init 4 = .ok (.aload_n 0, 1) := by decide +kernel
theorem dX1_init_5 : decode cX1_init 5 = .ok (.bipush 8, 2) := by decide +kernel
theorem dX1_init_7 : decode cX1_init 7 = .ok (.newarray .int, 2) := by decide +kernel
theorem dX1_init_9 : decode cX1_init 9 = .ok (.putfield 9, 3) := by decide +kernel
theorem dX1_init_12 : decode cX1_init 12 = .ok (.return_, 1) := by decide +kernel
theorem dX1_begin_0 : decode cX1_begin 0 = .ok (.aload_n 0, 1) := by decide +kernel
theorem dX1_begin_1 : decode cX1_begin 1 = .ok (.iload_n 1, 1) := by decide +kernel
theorem dX1_begin_2 : decode cX1_begin 2 = .ok (.putfield 15, 3) := by decide +kernel
theorem dX1_begin_5 : decode cX1_begin 5 = .ok (.aload_n 0, 1) := by decide +kernel
theorem dX1_begin_6 : decode cX1_begin 6 = .ok (.iload_n 2, 1) := by decide +kernel
theorem dX1_begin_7 : decode cX1_begin 7 = .ok (.putfield 19, 3) := by decide +kernel
theorem dX1_begin_10 : decode cX1_begin 10 = .ok (.aload_n 0, 1) := by decide +kernel
theorem dX1_begin_11 : decode cX1_begin 11 = .ok (.iload_n 3, 1) := by decide +kernel
theorem dX1_begin_12 : decode cX1_begin 12 = .ok (.putfield 22, 3) := by decide +kernel
theorem dX1_begin_15 : decode cX1_begin 15 = .ok (.aload_n 0, 1) := by decide +kernel
theorem dX1_begin_16 : decode cX1_begin 16 = .ok (.iload 4, 2) := by decide +kernel
theorem dX1_begin_18 : decode cX1_begin 18 = .ok (.putfield 25, 3) := by decide +kernel
theorem dX1_begin_21 : decode cX1_begin 21 = .ok (.aload_n 0, 1) := by decide +kernel
theorem dX1_begin_22 : decode cX1_begin 22 = .ok (.iconst 0, 1) := by decide +kernel
theorem dX1_begin_23 : decode cX1_begin 23 = .ok (.putfield 28, 3) := by decide +kernel
theorem dX1_begin_26 : decode cX1_begin 26 = .ok (.aload_n 0, 1) := by decide +kernel
theorem dX1_begin_27 : decode cX1_begin 27 = .ok (.iconst 0, 1) := by decide +kernel
theorem dX1_begin_28 : decode cX1_begin 28 = .ok (.putfield 31, 3) := by decide +kernel
theorem dX1_begin_31 : decode cX1_begin 31 = .ok (.aload_n 0, 1) := by decide +kernel
theorem dX1_begin_32 : decode cX1_begin 32 = .ok (.aconst_null, 1) := by decide +kernel
theorem dX1_begin_33 : decode cX1_begin 33 = .ok (.putfield 34, 3) := by decide +kernel
theorem dX1_begin_36 : decode cX1_begin 36 = .ok (.aload_n 0, 1) := by decide +kernel
theorem dX1_begin_37 : decode cX1_begin 37 = .ok (.iconst 0, 1) := by decide +kernel
theorem dX1_begin_38 : decode cX1_begin 38 = .ok (.putfield 38, 3) := by decide +kernel
theorem dX1_begin_41 : decode cX1_begin 41 = .ok (.return_, 1) := by decide +kernel
theorem dX1_beginDoing_0 : decode cX1_beginDoing 0 = .ok (.aload_n 0, 1) := by decide +kernel
theorem dX1_beginDoing_1 : decode cX1_beginDoing 1 = .ok (.dup, 1) := by decide +kernel
theorem dX1_beginDoing_2 : decode cX1_beginDoing 2 = .ok (.getfield 31, 3) := by decide +kernel
theorem dX1_beginDoing_5 : decode cX1_beginDoing 5 = .ok (.iconst 1, 1) := by decide +kernel
theorem dX1_beginDoing_6 : decode cX1_beginDoing 6 = .ok (.iadd, 1) := by decide +kernel
theorem dX1_beginDoing_7 : decode cX1_beginDoing 7 = .ok (.putfield 31, 3) := by decide +kernel
theorem dX1_beginDoing_10 : decode cX1_beginDoing 10 = .ok (.aload_n 0, 1) := by decide +kernel
theorem dX1_beginDoing_11 : decode cX1_beginDoing 11 = .ok (.iconst 0, 1) := by decide +kernel
theorem dX1_beginDoing_12 : decode cX1_beginDoing 12 = .ok (.putfield 41, 3) := by decide +kernel
theorem dX1_beginDoing_15 : decode cX1_beginDoing 15 = .ok (.aload_n 0, 1) := by decide +kernel
theorem dX1_beginDoing_16 : decode cX1_beginDoing 16 = .ok (.aload_n 0, 1) := by decide +kernel
theorem dX1_beginDoing_17 : decode cX1_beginDoing 17 = .ok (.getfield 34, 3) := by decide +kernel
theorem dX1_beginDoing_20 : decode cX1_beginDoing 20 = .ok (.putfield 44, 3) := by decide +kernel
theorem dX1_beginDoing_23 : decode cX1_beginDoing 23 = .ok (.aload_n 0, 1) := by decide +kernel
theorem dX1_beginDoing_24 : decode cX1_beginDoing 24 = .ok (.aconst_null, 1) := by decide +kernel
theorem dX1_beginDoing_25 : decode cX1_beginDoing 25 = .ok (.putfield 34, 3) := by decide +kernel
theorem dX1_beginDoing_28 : decode cX1_beginDoing 28 = .ok (.aload_n 0, 1) := by decide +kernel
theorem dX1_beginDoing_29 : decode cX1_beginDoing 29 = .ok (.aconst_null, 1) := by decide +kernel
theorem dX1_beginDoing_30 : decode cX1_beginDoing 30 = .ok (.putfield 47, 3) := by decide +kernel
theorem dX1_beginDoing_33 : decode cX1_beginDoing 33 = .ok (.return_, 1) := by decide +kernel
theorem dX1_addPart_0 : decode cX1_addPart 0 = .ok (.aload_n 1, 1) := by decide +kernel
theorem dX1_addPart_1 : decode cX1_addPart 1 = .ok (.aconst_null, 1) := by decide +kernel
theorem dX1_addPart_2 : decode cX1_addPart 2 = .ok (.putfield 50, 3) := by decide +kernel
theorem dX1_addPart_5 : decode cX1_addPart 5 = .ok (.aload_n 0, 1) := by decide +kernel
theorem dX1_addPart_6 : decode cX1_addPart 6 = .ok (.getfield 47, 3) := by decide +kernel
theorem dX1_addPart_9 : decode cX1_addPart 9 = .ok (.ifnonnull 11, 3) := by decide +kernel
theorem dX1_addPart_12 : decode cX1_addPart 12 = .ok (.aload_n 0, 1) := by decide +kernel
theorem dX1_addPart_13 : decode cX1_addPart 13 = .ok (.aload_n 1, 1) := by decide +kernel
theorem dX1_addPart_14 : decode cX1_addPart 14 = .ok (.putfield 34, 3) := by decide +kernel
theorem dX1_addPart_17 : decode cX1_addPart 17 = .ok (.goto 11, 3) := by decide +kernel
theorem dX1_addPart_20 : decode cX1_addPart 20 = .ok (.aload_n 0, 1) := by decide +kernel
theorem dX1_addPart_21 : decode cX1_addPart 21 = .ok (.getfield 47, 3) := by decide +kernel
theorem dX1_addPart_24 : decode cX1_addPart 24 = .ok (.aload_n 1, 1) := by decide +kernel
theorem dX1_addPart_25 : decode cX1_addPart 25 = .ok (.putfield 50, 3) := by decide +kernel
theorem dX1_addPart_28 : decode cX1_addPart 28 = .ok (.aload_n 0, 1) := by decide +kernel
theorem dX1_addPart_29 : decode cX1_addPart 29 = .ok (.aload_n 1, 1) := by decide +kernel
theorem dX1_addPart_30 : decode cX1_addPart 30 = .ok (.putfield 47, 3) := by decide +kernel
theorem dX1_addPart_33 : decode cX1_addPart 33 = .ok (.return_, 1) := by decide +kernel
theorem dX1_firstSoFar_0 : decode cX1_firstSoFar 0 = .ok (.aload_n 0, 1) := by decide +kernel
theorem dX1_firstSoFar_1 : decode cX1_firstSoFar 1 = .ok (.getfield 44, 3) := by decide +kernel
theorem dX1_firstSoFar_4 : decode cX1_firstSoFar 4 = .ok (.astore_n 3, 1) := by decide +kernel
theorem dX1_firstSoFar_5 : decode cX1_firstSoFar 5 = .ok (.aload_n 3, 1) := by decide +kernel
theorem dX1_firstSoFar_6 : decode cX1_firstSoFar 6 = .ok (.ifnull 22, 3) := by decide +kernel
theorem dX1_firstSoFar_9 : decode cX1_firstSoFar 9 = .ok (.aload_n 3, 1) := by decide +kernel
theorem dX1_firstSoFar_10 : decode cX1_firstSoFar 10 = .ok (.iload_n 1, 1) := by decide +kernel
theorem dX1_firstSoFar_11 : decode cX1_firstSoFar 11 = .ok (.iload_n 2, 1) := by decide +kernel
theorem dX1_firstSoFar_12 : decode cX1_firstSoFar 12 = .ok (.invokevirtual 53, 3) := by decide +kernel
theorem dX1_firstSoFar_15 : decode cX1_firstSoFar 15 = .ok (.ifCond .eq 5, 3) := by decide +kernel
theorem dX1_firstSoFar_18 : decode cX1_firstSoFar 18 = .ok (.aload_n 3, 1) := by decide +kernel
theorem dX1_firstSoFar_19 : decode cX1_firstSoFar 19 = .ok (.areturn, 1) := by decide +kernel
theorem dX1_firstSoFar_20 : decode cX1_firstSoFar 20 = .ok (.aload_n 3, 1) := by decide +kernel
theorem dX1_firstSoFar_21 : decode cX1_firstSoFar 21 = .ok (.getfield 50, 3) := by decide +kernel
theorem dX1_firstSoFar_24 : decode cX1_firstSoFar 24 = .ok (.astore_n 3, 1) := by decide +kernel
theorem dX1_firstSoFar_25 : decode cX1_firstSoFar 25 = .ok (.goto (-20), 3) := by decide +kernel
theorem dX1_firstSoFar_28 : decode cX1_firstSoFar 28 = .ok (.aconst_null, 1) := by decide +kernel
theorem dX1_firstSoFar_29 : decode cX1_firstSoFar 29 = .ok (.areturn, 1) := by decide +kernel
theorem dX1_noteRead_0 : decode cX1_noteRead 0 = .ok (.iload_n 1, 1) := by decide +kernel
theorem dX1_noteRead_1 : decode cX1_noteRead 1 = .ok (.ifCond .lt 28, 3) := by decide +kernel
theorem dX1_noteRead_4 : decode cX1_noteRead 4 = .ok (.iload_n 1, 1) := by decide +kernel
theorem dX1_noteRead_5 : decode cX1_noteRead 5 = .ok (.bipush 8, 2) := by decide +kernel
theorem dX1_noteRead_7 : decode cX1_noteRead 7 = .ok (.if_icmp .ge 22, 3) := by decide +kernel
theorem dX1_noteRead_10 : decode cX1_noteRead 10 = .ok (.aload_n 0, 1) := by decide +kernel
theorem dX1_noteRead_11 : decode cX1_noteRead 11 = .ok (.dup, 1) := by decide +kernel
theorem dX1_noteRead_12 : decode cX1_noteRead 12 = .ok (.getfield 41, 3) := by decide +kernel
theorem dX1_noteRead_15 : decode cX1_noteRead 15 = .ok (.iconst 1, 1) := by decide +kernel
theorem dX1_noteRead_16 : decode cX1_noteRead 16 = .ok (.iload_n 1, 1) := by decide +kernel
theorem dX1_noteRead_17 : decode cX1_noteRead 17 = .ok (.ishl, 1) := by decide +kernel
theorem dX1_noteRead_18 : decode cX1_noteRead 18 = .ok (.ior, 1) := by decide +kernel
theorem dX1_noteRead_19 : decode cX1_noteRead 19 = .ok (.putfield 41, 3) := by decide +kernel
theorem dX1_noteRead_22 : decode cX1_noteRead 22 = .ok (.aload_n 0, 1) := by decide +kernel
theorem dX1_noteRead_23 : decode cX1_noteRead 23 = .ok (.getfield 9, 3) := by decide +kernel
theorem dX1_noteRead_26 : decode cX1_noteRead 26 = .ok (.iload_n 1, 1) := by decide +kernel
theorem dX1_noteRead_27 : decode cX1_noteRead 27 = .ok (.iload_n 2, 1) := by decide +kernel
theorem dX1_noteRead_28 : decode cX1_noteRead 28 = .ok (.iastore, 1) := by decide +kernel
theorem dX1_noteRead_29 : decode cX1_noteRead 29 = .ok (.return_, 1) := by decide +kernel
theorem dX1_isOf_0 : decode cX1_isOf 0 = .ok (.aload_n 0, 1) := by decide +kernel
theorem dX1_isOf_1 : decode cX1_isOf 1 = .ok (.getfield 15, 3) := by decide +kernel
theorem dX1_isOf_4 : decode cX1_isOf 4 = .ok (.iload_n 1, 1) := by decide +kernel
theorem dX1_isOf_5 : decode cX1_isOf 5 = .ok (.if_icmp .ne 15, 3) := by decide +kernel
theorem dX1_isOf_8 : decode cX1_isOf 8 = .ok (.aload_n 0, 1) := by decide +kernel
theorem dX1_isOf_9 : decode cX1_isOf 9 = .ok (.getfield 19, 3) := by decide +kernel
theorem dX1_isOf_12 : decode cX1_isOf 12 = .ok (.iload_n 2, 1) := by decide +kernel
theorem dX1_isOf_13 : decode cX1_isOf 13 = .ok (.if_icmp .ne 7, 3) := by decide +kernel
theorem dX1_isOf_16 : decode cX1_isOf 16 = .ok (.iconst 1, 1) := by decide +kernel
theorem dX1_isOf_17 : decode cX1_isOf 17 = .ok (.goto 4, 3) := by decide +kernel
theorem dX1_isOf_20 : decode cX1_isOf 20 = .ok (.iconst 0, 1) := by decide +kernel
theorem dX1_isOf_21 : decode cX1_isOf 21 = .ok (.ireturn, 1) := by decide +kernel
theorem dX1_isOld_0 : decode cX1_isOld 0 = .ok (.aload_n 1, 1) := by decide +kernel
theorem dX1_isOld_1 : decode cX1_isOld 1 = .ok (.arraylength, 1) := by decide +kernel
theorem dX1_isOld_2 : decode cX1_isOld 2 = .ok (.bipush 8, 2) := by decide +kernel
theorem dX1_isOld_4 : decode cX1_isOld 4 = .ok (.invokestatic 57, 3) := by decide +kernel
theorem dX1_isOld_7 : decode cX1_isOld 7 = .ok (.istore_n 2, 1) := by decide +kernel
theorem dX1_isOld_8 : decode cX1_isOld 8 = .ok (.iconst 0, 1) := by decide +kernel
theorem dX1_isOld_9 : decode cX1_isOld 9 = .ok (.istore_n 3, 1) := by decide +kernel
theorem dX1_isOld_10 : decode cX1_isOld 10 = .ok (.iload_n 3, 1) := by decide +kernel
theorem dX1_isOld_11 : decode cX1_isOld 11 = .ok (.iload_n 2, 1) := by decide +kernel
theorem dX1_isOld_12 : decode cX1_isOld 12 = .ok (.if_icmp .ge 34, 3) := by decide +kernel
theorem dX1_isOld_15 : decode cX1_isOld 15 = .ok (.aload_n 0, 1) := by decide +kernel
theorem dX1_isOld_16 : decode cX1_isOld 16 = .ok (.getfield 41, 3) := by decide +kernel
theorem dX1_isOld_19 : decode cX1_isOld 19 = .ok (.iload_n 3, 1) := by decide +kernel
theorem dX1_isOld_20 : decode cX1_isOld 20 = .ok (.ishr, 1) := by decide +kernel
theorem dX1_isOld_21 : decode cX1_isOld 21 = .ok (.iconst 1, 1) := by decide +kernel
theorem dX1_isOld_22 : decode cX1_isOld 22 = .ok (.iand, 1) := by decide +kernel
theorem dX1_isOld_23 : decode cX1_isOld 23 = .ok (.ifCond .eq 17, 3) := by decide +kernel
theorem dX1_isOld_26 : decode cX1_isOld 26 = .ok (.aload_n 0, 1) := by decide +kernel
theorem dX1_isOld_27 : decode cX1_isOld 27 = .ok (.getfield 9, 3) := by decide +kernel
theorem dX1_isOld_30 : decode cX1_isOld 30 = .ok (.iload_n 3, 1) := by decide +kernel
theorem dX1_isOld_31 : decode cX1_isOld 31 = .ok (.iaload, 1) := by decide +kernel
theorem dX1_isOld_32 : decode cX1_isOld 32 = .ok (.aload_n 1, 1) := by decide +kernel
theorem dX1_isOld_33 : decode cX1_isOld 33 = .ok (.iload_n 3, 1) := by decide +kernel
theorem dX1_isOld_34 : decode cX1_isOld 34 = .ok (.iaload, 1) := by decide +kernel
theorem dX1_isOld_35 : decode cX1_isOld 35 = .ok (.if_icmp .eq 5, 3) := by decide +kernel
theorem dX1_isOld_38 : decode cX1_isOld 38 = .ok (.iconst 1, 1) := by decide +kernel
theorem dX1_isOld_39 : decode cX1_isOld 39 = .ok (.ireturn, 1) := by decide +kernel
theorem dX1_isOld_40 : decode cX1_isOld 40 = .ok (.iinc 3 1, 3) := by decide +kernel
theorem dX1_isOld_43 : decode cX1_isOld 43 = .ok (.goto (-33), 3) := by decide +kernel
theorem dX1_isOld_46 : decode cX1_isOld 46 = .ok (.iconst 0, 1) := by decide +kernel
theorem dX1_isOld_47 : decode cX1_isOld 47 = .ok (.ireturn, 1) := by decide +kernel
theorem dX1_howManyParts_0 : decode cX1_howManyParts 0 = .ok (.iconst 0, 1) := by decide +kernel
theorem dX1_howManyParts_1 : decode cX1_howManyParts 1 = .ok (.istore_n 1, 1) := by decide +kernel
theorem dX1_howManyParts_2 : decode cX1_howManyParts 2 = .ok (.aload_n 0, 1) := by decide +kernel
theorem dX1_howManyParts_3 : decode cX1_howManyParts 3 = .ok (.getfield 34, 3) := by decide +kernel
theorem dX1_howManyParts_6 : decode cX1_howManyParts 6 = .ok (.astore_n 2, 1) := by decide +kernel
theorem dX1_howManyParts_7 : decode cX1_howManyParts 7 = .ok (.aload_n 2, 1) := by decide +kernel
theorem dX1_howManyParts_8 : decode cX1_howManyParts 8 = .ok (.ifnull 14, 3) := by decide +kernel
theorem dX1_howManyParts_11 : decode cX1_howManyParts 11 = .ok (.iinc 1 1, 3) := by decide +kernel
theorem dX1_howManyParts_14 : decode cX1_howManyParts 14 = .ok (.aload_n 2, 1) := by decide +kernel
theorem dX1_howManyParts_15 : decode cX1_howManyParts 15 = .ok (.getfield 50, 3) := by decide +kernel
theorem dX1_howManyParts_18 : decode cX1_howManyParts 18 = .ok (.astore_n 2, 1) := by decide +kernel
theorem dX1_howManyParts_19 : decode cX1_howManyParts 19 = .ok (.goto (-12), 3) := by decide +kernel
theorem dX1_howManyParts_22 : decode cX1_howManyParts 22 = .ok (.iload_n 1, 1) := by decide +kernel
theorem dX1_howManyParts_23 : decode cX1_howManyParts 23 = .ok (.ireturn, 1) := by decide +kernel
theorem dX1_isAlike_0 : decode cX1_isAlike 0 = .ok (.aload_n 0, 1) := by decide +kernel
theorem dX1_isAlike_1 : decode cX1_isAlike 1 = .ok (.aload_n 1, 1) := by decide +kernel
theorem dX1_isAlike_2 : decode cX1_isAlike 2 = .ok (.invokestatic 63, 3) := by decide +kernel
theorem dX1_isAlike_5 : decode cX1_isAlike 5 = .ok (.ireturn, 1) := by decide +kernel
theorem dX1_areAlike_0 : decode cX1_areAlike 0 = .ok (.aload_n 0, 1) := by decide +kernel
theorem dX1_areAlike_1 : decode cX1_areAlike 1 = .ok (.getfield 22, 3) := by decide +kernel
theorem dX1_areAlike_4 : decode cX1_areAlike 4 = .ok (.bipush 6, 2) := by decide +kernel
theorem dX1_areAlike_6 : decode cX1_areAlike 6 = .ok (.if_icmp .gt 29, 3) := by decide +kernel
theorem dX1_areAlike_9 : decode cX1_areAlike 9 = .ok (.aload_n 0, 1) := by decide +kernel
theorem dX1_areAlike_10 : decode cX1_areAlike 10 = .ok (.aload_n 1, 1) := by decide +kernel
theorem dX1_areAlike_11 : decode cX1_areAlike 11 = .ok (.getfield 15, 3) := by decide +kernel
theorem dX1_areAlike_14 : decode cX1_areAlike 14 = .ok (.aload_n 1, 1) := by decide +kernel
theorem dX1_areAlike_15 : decode cX1_areAlike 15 = .ok (.getfield 19, 3) := by decide +kernel
theorem dX1_areAlike_18 : decode cX1_areAlike 18 = .ok (.invokevirtual 53, 3) := by decide +kernel
theorem dX1_areAlike_21 : decode cX1_areAlike 21 = .ok (.ifCond .eq 14, 3) := by decide +kernel
theorem dX1_areAlike_24 : decode cX1_areAlike 24 = .ok (.aload_n 0, 1) := by decide +kernel
theorem dX1_areAlike_25 : decode cX1_areAlike 25 = .ok (.getfield 28, 3) := by decide +kernel
theorem dX1_areAlike_28 : decode cX1_areAlike 28 = .ok (.aload_n 1, 1) := by decide +kernel
theorem dX1_areAlike_29 : decode cX1_areAlike 29 = .ok (.getfield 28, 3) := by decide +kernel
theorem dX1_areAlike_32 : decode cX1_areAlike 32 = .ok (.if_icmp .eq 5, 3) := by decide +kernel
theorem dX1_areAlike_35 : decode cX1_areAlike 35 = .ok (.iconst 0, 1) := by decide +kernel
theorem dX1_areAlike_36 : decode cX1_areAlike 36 = .ok (.ireturn, 1) := by decide +kernel
theorem dX1_areAlike_37 : decode cX1_areAlike 37 = .ok (.aload_n 1, 1) := by decide +kernel
theorem dX1_areAlike_38 : decode cX1_areAlike 38 = .ok (.getfield 34, 3) := by decide +kernel
theorem dX1_areAlike_41 : decode cX1_areAlike 41 = .ok (.astore_n 2, 1) := by decide +kernel
theorem dX1_areAlike_42 : decode cX1_areAlike 42 = .ok (.aload_n 0, 1) := by decide +kernel
theorem dX1_areAlike_43 : decode cX1_areAlike 43 = .ok (.getfield 34, 3) := by decide +kernel
theorem dX1_areAlike_46 : decode cX1_areAlike 46 = .ok (.astore_n 3, 1) := by decide +kernel
theorem dX1_areAlike_47 : decode cX1_areAlike 47 = .ok (.aload_n 3, 1) := by decide +kernel
theorem dX1_areAlike_48 : decode cX1_areAlike 48 = .ok (.ifnull 30, 3) := by decide +kernel
theorem dX1_areAlike_51 : decode cX1_areAlike 51 = .ok (.aload_n 2, 1) := by decide +kernel
theorem dX1_areAlike_52 : decode cX1_areAlike 52 = .ok (.ifnull 11, 3) := by decide +kernel
theorem dX1_areAlike_55 : decode cX1_areAlike 55 = .ok (.aload_n 3, 1) := by decide +kernel
theorem dX1_areAlike_56 : decode cX1_areAlike 56 = .ok (.aload_n 2, 1) := by decide +kernel
theorem dX1_areAlike_57 : decode cX1_areAlike 57 = .ok (.invokestatic 63, 3) := by decide +kernel
theorem dX1_areAlike_60 : decode cX1_areAlike 60 = .ok (.ifCond .ne 5, 3) := by decide +kernel
theorem dX1_areAlike_63 : decode cX1_areAlike 63 = .ok (.iconst 0, 1) := by decide +kernel
theorem dX1_areAlike_64 : decode cX1_areAlike 64 = .ok (.ireturn, 1) := by decide +kernel
theorem dX1_areAlike_65 : decode cX1_areAlike 65 = .ok (.aload_n 2, 1) := by decide +kernel
theorem dX1_areAlike_66 : decode cX1_areAlike 66 = .ok (.getfield 50, 3) := by decide +kernel
theorem dX1_areAlike_69 : decode cX1_areAlike 69 = .ok (.astore_n 2, 1) := by decide +kernel
theorem dX1_areAlike_70 : decode cX1_areAlike 70 = .ok (.aload_n 3, 1) := by decide +kernel
theorem dX1_areAlike_71 : decode cX1_areAlike 71 = .ok (.getfield 50, 3) := by decide +kernel
theorem dX1_areAlike_74 : decode cX1_areAlike 74 = .ok (.astore_n 3, 1) := by decide +kernel
theorem dX1_areAlike_75 : decode cX1_areAlike 75 = .ok (.goto (-28), 3) := by decide +kernel
theorem dX1_areAlike_78 : decode cX1_areAlike 78 = .ok (.aload_n 2, 1) := by decide +kernel
theorem dX1_areAlike_79 : decode cX1_areAlike 79 = .ok (.ifnonnull 7, 3) := by decide +kernel
theorem dX1_areAlike_82 : decode cX1_areAlike 82 = .ok (.iconst 1, 1) := by decide +kernel
theorem dX1_areAlike_83 : decode cX1_areAlike 83 = .ok (.goto 4, 3) := by decide +kernel
theorem dX1_areAlike_86 : decode cX1_areAlike 86 = .ok (.iconst 0, 1) := by decide +kernel
theorem dX1_areAlike_87 : decode cX1_areAlike 87 = .ok (.ireturn, 1) := by decide +kernel
theorem dX2_init_0 : decode cX2_init 0 = .ok (.aload_n 0, 1) := by decide +kernel
theorem dX2_init_1 : decode cX2_init 1 = .ok (.invokespecial 3, 3) := by decide +kernel
theorem dX2_init_4 : decode cX2_init 4 = .ok (.aload_n 0, 1) := by decide +kernel
theorem dX2_init_5 : decode cX2_init 5 = .ok (.bipush 16, 2) := by decide +kernel
theorem dX2_init_7 : decode cX2_init 7 = .ok (.newarray .int, 2) := by decide +kernel
theorem dX2_init_9 : decode cX2_init 9 = .ok (.putfield 9, 3) := by decide +kernel
theorem dX2_init_12 : decode cX2_init 12 = .ok (.aload_n 0, 1) := by decide +kernel
theorem dX2_init_13 : decode cX2_init 13 = .ok (.bipush 16, 2) := by decide +kernel
theorem dX2_init_15 : decode cX2_init 15 = .ok (.newarray .int, 2) := by decide +kernel
theorem dX2_init_17 : decode cX2_init 17 = .ok (.putfield 15, 3) := by decide +kernel
theorem dX2_init_20 : decode cX2_init 20 = .ok (.aload_n 0, 1) := by decide +kernel
theorem dX2_init_21 : decode cX2_init 21 = .ok (.bipush 16, 2) := by decide +kernel
theorem dX2_init_23 : decode cX2_init 23 = .ok (.newarray .int, 2) := by decide +kernel
theorem dX2_init_25 : decode cX2_init 25 = .ok (.putfield 18, 3) := by decide +kernel
theorem dX2_init_28 : decode cX2_init 28 = .ok (.return_, 1) := by decide +kernel
theorem dX2_noteCell_0 : decode cX2_noteCell 0 = .ok (.aload_n 0, 1) := by decide +kernel
theorem dX2_noteCell_1 : decode cX2_noteCell 1 = .ok (.iload_n 1, 1) := by decide +kernel
theorem dX2_noteCell_2 : decode cX2_noteCell 2 = .ok (.iload_n 2, 1) := by decide +kernel
theorem dX2_noteCell_3 : decode cX2_noteCell 3 = .ok (.iconst 0, 1) := by decide +kernel
theorem dX2_noteCell_4 : decode cX2_noteCell 4 = .ok (.invokevirtual 21, 3) := by decide +kernel
theorem dX2_noteCell_7 : decode cX2_noteCell 7 = .ok (.return_, 1) := by decide +kernel
theorem dX2_noteAim_0 : decode cX2_noteAim 0 = .ok (.aload_n 0, 1) := by decide +kernel
theorem dX2_noteAim_1 : decode cX2_noteAim 1 = .ok (.iconst (-1), 1) := by decide +kernel
theorem dX2_noteAim_2 : decode cX2_noteAim 2 = .ok (.iload_n 1, 1) := by decide +kernel
theorem dX2_noteAim_3 : decode cX2_noteAim 3 = .ok (.iload_n 2, 1) := by decide +kernel
theorem dX2_noteAim_4 : decode cX2_noteAim 4 = .ok (.invokevirtual 21, 3) := by decide +kernel
theorem dX2_noteAim_7 : decode cX2_noteAim 7 = .ok (.return_, 1) := by decide +kernel
theorem dX2_note_0 : decode cX2_note 0 = .ok (.aload_n 0, 1) := by decide +kernel
theorem dX2_note_1 : decode cX2_note 1 = .ok (.aload_n 0, 1) := by decide +kernel
theorem dX2_note_2 : decode cX2_note 2 = .ok (.getfield 25, 3) := by decide +kernel
theorem dX2_note_5 : decode cX2_note 5 = .ok (.iconst 1, 1) := by decide +kernel
theorem dX2_note_6 : decode cX2_note 6 = .ok (.iadd, 1) := by decide +kernel
theorem dX2_note_7 : decode cX2_note 7 = .ok (.bipush 16, 2) := by decide +kernel
theorem dX2_note_9 : decode cX2_note 9 = .ok (.irem, 1) := by decide +kernel
theorem dX2_note_10 : decode cX2_note 10 = .ok (.putfield 25, 3) := by decide +kernel
theorem dX2_note_13 : decode cX2_note 13 = .ok (.aload_n 0, 1) := by decide +kernel
theorem dX2_note_14 : decode cX2_note 14 = .ok (.getfield 9, 3) := by decide +kernel
theorem dX2_note_17 : decode cX2_note 17 = .ok (.aload_n 0, 1) := by decide +kernel
theorem dX2_note_18 : decode cX2_note 18 = .ok (.getfield 25, 3) := by decide +kernel
theorem dX2_note_21 : decode cX2_note 21 = .ok (.iload_n 1, 1) := by decide +kernel
theorem dX2_note_22 : decode cX2_note 22 = .ok (.iastore, 1) := by decide +kernel
theorem dX2_note_23 : decode cX2_note 23 = .ok (.aload_n 0, 1) := by decide +kernel
theorem dX2_note_24 : decode cX2_note 24 = .ok (.getfield 15, 3) := by decide +kernel
theorem dX2_note_27 : decode cX2_note 27 = .ok (.aload_n 0, 1) := by decide +kernel
theorem dX2_note_28 : decode cX2_note 28 = .ok (.getfield 25, 3) := by decide +kernel
theorem dX2_note_31 : decode cX2_note 31 = .ok (.iload_n 2, 1) := by decide +kernel
theorem dX2_note_32 : decode cX2_note 32 = .ok (.iastore, 1) := by decide +kernel
theorem dX2_note_33 : decode cX2_note 33 = .ok (.aload_n 0, 1) := by decide +kernel
theorem dX2_note_34 : decode cX2_note 34 = .ok (.getfield 18, 3) := by decide +kernel
theorem dX2_note_37 : decode cX2_note 37 = .ok (.aload_n 0, 1) := by decide +kernel
theorem dX2_note_38 : decode cX2_note 38 = .ok (.getfield 25, 3) := by decide +kernel
theorem dX2_note_41 : decode cX2_note 41 = .ok (.iload_n 3, 1) := by decide +kernel
theorem dX2_note_42 : decode cX2_note 42 = .ok (.iastore, 1) := by decide +kernel
theorem dX2_note_43 : decode cX2_note 43 = .ok (.aload_n 0, 1) := by decide +kernel
theorem dX2_note_44 : decode cX2_note 44 = .ok (.aload_n 0, 1) := by decide +kernel
theorem dX2_note_45 : decode cX2_note 45 = .ok (.getfield 29, 3) := by decide +kernel
theorem dX2_note_48 : decode cX2_note 48 = .ok (.iconst 1, 1) := by decide +kernel
theorem dX2_note_49 : decode cX2_note 49 = .ok (.iadd, 1) := by decide +kernel
theorem dX2_note_50 : decode cX2_note 50 = .ok (.bipush 16, 2) := by decide +kernel
theorem dX2_note_52 : decode cX2_note 52 = .ok (.invokestatic 32, 3) := by decide +kernel
theorem dX2_note_55 : decode cX2_note 55 = .ok (.putfield 29, 3) := by decide +kernel
theorem dX2_note_58 : decode cX2_note 58 = .ok (.return_, 1) := by decide +kernel
theorem dX2_forget_0 : decode cX2_forget 0 = .ok (.aload_n 0, 1) := by decide +kernel
theorem dX2_forget_1 : decode cX2_forget 1 = .ok (.iconst 0, 1) := by decide +kernel
theorem dX2_forget_2 : decode cX2_forget 2 = .ok (.putfield 29, 3) := by decide +kernel
theorem dX2_forget_5 : decode cX2_forget 5 = .ok (.return_, 1) := by decide +kernel
theorem dX2_takeBackLatest_0 : decode cX2_takeBackLatest 0 = .ok (.aload_n 0, 1) := by decide +kernel
theorem dX2_takeBackLatest_1 : decode cX2_takeBackLatest 1 = .ok (.getfield 29, 3) := by decide +kernel
theorem dX2_takeBackLatest_4 : decode cX2_takeBackLatest 4 = .ok (.ifCond .ne 4, 3) := by decide +kernel
theorem dX2_takeBackLatest_7 : decode cX2_takeBackLatest 7 = .ok (.return_, 1) := by decide +kernel
theorem dX2_takeBackLatest_8 : decode cX2_takeBackLatest 8 = .ok (.aload_n 0, 1) := by decide +kernel
theorem dX2_takeBackLatest_9 : decode cX2_takeBackLatest 9 = .ok (.getfield 9, 3) := by decide +kernel
theorem dX2_takeBackLatest_12 : decode cX2_takeBackLatest 12 = .ok (.aload_n 0, 1) := by decide +kernel
theorem dX2_takeBackLatest_13 : decode cX2_takeBackLatest 13 = .ok (.getfield 25, 3) := by decide +kernel
theorem dX2_takeBackLatest_16 : decode cX2_takeBackLatest 16 = .ok (.iaload, 1) := by decide +kernel
theorem dX2_takeBackLatest_17 : decode cX2_takeBackLatest 17 = .ok (.istore_n 2, 1) := by decide +kernel
theorem dX2_takeBackLatest_18 : decode cX2_takeBackLatest 18 = .ok (.iload_n 2, 1) := by decide +kernel
theorem dX2_takeBackLatest_19 : decode cX2_takeBackLatest 19 = .ok (.iconst (-1), 1) := by decide +kernel
theorem dX2_takeBackLatest_20 : decode cX2_takeBackLatest 20 = .ok (.if_icmp .ne 32, 3) := by decide +kernel
theorem dX2_takeBackLatest_23 : decode cX2_takeBackLatest 23 = .ok (.aload_n 1, 1) := by decide +kernel
theorem dX2_takeBackLatest_24 : decode cX2_takeBackLatest 24 = .ok (.aload_n 0, 1) := by decide +kernel
theorem dX2_takeBackLatest_25 : decode cX2_takeBackLatest 25 = .ok (.getfield 15, 3) := by decide +kernel
theorem dX2_takeBackLatest_28 : decode cX2_takeBackLatest 28 = .ok (.aload_n 0, 1) := by decide +kernel
theorem dX2_takeBackLatest_29 : decode cX2_takeBackLatest 29 = .ok (.getfield 25, 3) := by decide +kernel
theorem dX2_takeBackLatest_32 : decode cX2_takeBackLatest 32 = .ok (.iaload, 1) := by decide +kernel
theorem dX2_takeBackLatest_33 : decode cX2_takeBackLatest 33 = .ok (.putfield 38, 3) := by decide +kernel
theorem dX2_takeBackLatest_36 : decode cX2_takeBackLatest 36 = .ok (.aload_n 1, 1) := by decide +kernel
theorem dX2_takeBackLatest_37 : decode cX2_takeBackLatest 37 = .ok (.aload_n 0, 1) := by decide +kernel
theorem dX2_takeBackLatest_38 : decode cX2_takeBackLatest 38 = .ok (.getfield 18, 3) := by decide +kernel
theorem dX2_takeBackLatest_41 : decode cX2_takeBackLatest 41 = .ok (.aload_n 0, 1) := by decide +kernel
theorem dX2_takeBackLatest_42 : decode cX2_takeBackLatest 42 = .ok (.getfield 25, 3) := by decide +kernel
theorem dX2_takeBackLatest_45 : decode cX2_takeBackLatest 45 = .ok (.iaload, 1) := by decide +kernel
theorem dX2_takeBackLatest_46 : decode cX2_takeBackLatest 46 = .ok (.putfield 43, 3) := by decide +kernel
theorem dX2_takeBackLatest_49 : decode cX2_takeBackLatest 49 = .ok (.goto 25, 3) := by decide +kernel
theorem dX2_takeBackLatest_52 : decode cX2_takeBackLatest 52 = .ok (.iload_n 2, 1) := by decide +kernel
theorem dX2_takeBackLatest_53 : decode cX2_takeBackLatest 53 = .ok (.invokestatic 46, 3) := by decide +kernel
theorem dX2_takeBackLatest_56 : decode cX2_takeBackLatest 56 = .ok (.ifCond .eq 18, 3) := by decide +kernel
theorem dX2_takeBackLatest_59 : decode cX2_takeBackLatest 59 = .ok (.aload_n 1, 1) := by decide +kernel
theorem dX2_takeBackLatest_60 : decode cX2_takeBackLatest 60 = .ok (.getfield 50, 3) := by decide +kernel
theorem dX2_takeBackLatest_63 : decode cX2_takeBackLatest 63 = .ok (.iload_n 2, 1) := by decide +kernel
theorem dX2_takeBackLatest_64 : decode cX2_takeBackLatest 64 = .ok (.aload_n 0, 1) := by decide +kernel
theorem dX2_takeBackLatest_65 : decode cX2_takeBackLatest 65 = .ok (.getfield 15, 3) := by decide +kernel
theorem dX2_takeBackLatest_68 : decode cX2_takeBackLatest 68 = .ok (.aload_n 0, 1) := by decide +kernel
theorem dX2_takeBackLatest_69 : decode cX2_takeBackLatest 69 = .ok (.getfield 25, 3) := by decide +kernel
theorem dX2_takeBackLatest_72 : decode cX2_takeBackLatest 72 = .ok (.iaload, 1) := by decide +kernel
theorem dX2_takeBackLatest_73 : decode cX2_takeBackLatest 73 = .ok (.iastore, 1) := by decide +kernel
theorem dX2_takeBackLatest_74 : decode cX2_takeBackLatest 74 = .ok (.aload_n 0, 1) := by decide +kernel
theorem dX2_takeBackLatest_75 : decode cX2_takeBackLatest 75 = .ok (.aload_n 0, 1) := by decide +kernel
theorem dX2_takeBackLatest_76 : decode cX2_takeBackLatest 76 = .ok (.getfield 25, 3) := by decide +kernel
theorem dX2_takeBackLatest_79 : decode cX2_takeBackLatest 79 = .ok (.bipush 16, 2) := by decide +kernel
theorem dX2_takeBackLatest_81 : decode cX2_takeBackLatest 81 = .ok (.iadd, 1) := by decide +kernel
theorem dX2_takeBackLatest_82 : decode cX2_takeBackLatest 82 = .ok (.iconst 1, 1) := by decide +kernel
theorem dX2_takeBackLatest_83 : decode cX2_takeBackLatest 83 = .ok (.isub, 1) := by decide +kernel
theorem dX2_takeBackLatest_84 : decode cX2_takeBackLatest 84 = .ok (.bipush 16, 2) := by decide +kernel
theorem dX2_takeBackLatest_86 : decode cX2_takeBackLatest 86 = .ok (.irem, 1) := by decide +kernel
theorem dX2_takeBackLatest_87 : decode cX2_takeBackLatest 87 = .ok (.putfield 25, 3) := by decide +kernel
theorem dX2_takeBackLatest_90 : decode cX2_takeBackLatest 90 = .ok (.aload_n 0, 1) := by decide +kernel
theorem dX2_takeBackLatest_91 : decode cX2_takeBackLatest 91 = .ok (.dup, 1) := by decide +kernel
theorem dX2_takeBackLatest_92 : decode cX2_takeBackLatest 92 = .ok (.getfield 29, 3) := by decide +kernel
theorem dX2_takeBackLatest_95 : decode cX2_takeBackLatest 95 = .ok (.iconst 1, 1) := by decide +kernel
theorem dX2_takeBackLatest_96 : decode cX2_takeBackLatest 96 = .ok (.isub, 1) := by decide +kernel
theorem dX2_takeBackLatest_97 : decode cX2_takeBackLatest 97 = .ok (.putfield 29, 3) := by decide +kernel
theorem dX2_takeBackLatest_100 : decode cX2_takeBackLatest 100 = .ok (.return_, 1) := by decide +kernel
theorem dX3_init_0 : decode cX3_init 0 = .ok (.aload_n 0, 1) := by decide +kernel
theorem dX3_init_1 : decode cX3_init 1 = .ok (.invokespecial 3, 3) := by decide +kernel
theorem dX3_init_4 : decode cX3_init 4 = .ok (.aload_n 0, 1) := by decide +kernel
theorem dX3_init_5 : decode cX3_init 5 = .ok (.sipush 960, 3) := by decide +kernel
theorem dX3_init_8 : decode cX3_init 8 = .ok (.newarray .int, 2) := by decide +kernel
theorem dX3_init_10 : decode cX3_init 10 = .ok (.putfield 9, 3) := by decide +kernel
theorem dX3_init_13 : decode cX3_init 13 = .ok (.aload_n 0, 1) := by decide +kernel
theorem dX3_init_14 : decode cX3_init 14 = .ok (.aload_n 1, 1) := by decide +kernel
theorem dX3_init_15 : decode cX3_init 15 = .ok (.putfield 15, 3) := by decide +kernel
theorem dX3_init_18 : decode cX3_init 18 = .ok (.aload_n 0, 1) := by decide +kernel
theorem dX3_init_19 : decode cX3_init 19 = .ok (.aload_n 2, 1) := by decide +kernel
theorem dX3_init_20 : decode cX3_init 20 = .ok (.putfield 19, 3) := by decide +kernel
theorem dX3_init_23 : decode cX3_init 23 = .ok (.aload_n 0, 1) := by decide +kernel
theorem dX3_init_24 : decode cX3_init 24 = .ok (.aload_n 3, 1) := by decide +kernel
theorem dX3_init_25 : decode cX3_init 25 = .ok (.putfield 23, 3) := by decide +kernel
theorem dX3_init_28 : decode cX3_init 28 = .ok (.return_, 1) := by decide +kernel
theorem dX3_takeProgram_0 : decode cX3_takeProgram 0 = .ok (.aload_n 0, 1) := by decide +kernel
theorem dX3_takeProgram_1 : decode cX3_takeProgram 1 = .ok (.aload_n 1, 1) := by decide +kernel
theorem dX3_takeProgram_2 : decode cX3_takeProgram 2 = .ok (.putfield 23, 3) := by decide +kernel
theorem dX3_takeProgram_5 : decode cX3_takeProgram 5 = .ok (.return_, 1) := by decide +kernel
theorem dX3_firstRoot_0 : decode cX3_firstRoot 0 = .ok (.aload_n 0, 1) := by decide +kernel
theorem dX3_firstRoot_1 : decode cX3_firstRoot 1 = .ok (.iconst 0, 1) := by decide +kernel
theorem dX3_firstRoot_2 : decode cX3_firstRoot 2 = .ok (.putfield 27, 3) := by decide +kernel
theorem dX3_firstRoot_5 : decode cX3_firstRoot 5 = .ok (.aload_n 0, 1) := by decide +kernel
theorem dX3_firstRoot_6 : decode cX3_firstRoot 6 = .ok (.iconst 0, 1) := by decide +kernel
theorem dX3_firstRoot_7 : decode cX3_firstRoot 7 = .ok (.iconst 0, 1) := by decide +kernel
theorem dX3_firstRoot_8 : decode cX3_firstRoot 8 = .ok (.iconst 1, 1) := by decide +kernel
theorem dX3_firstRoot_9 : decode cX3_firstRoot 9 = .ok (.invokevirtual 31, 3) := by decide +kernel
theorem dX3_firstRoot_12 : decode cX3_firstRoot 12 = .ok (.astore_n 1, 1) := by decide +kernel
theorem dX3_firstRoot_13 : decode cX3_firstRoot 13 = .ok (.aload_n 0, 1) := by decide +kernel
theorem dX3_firstRoot_14 : decode cX3_firstRoot 14 = .ok (.invokevirtual 35, 3) := by decide +kernel
theorem dX3_firstRoot_17 : decode cX3_firstRoot 17 = .ok (.aload_n 1, 1) := by decide +kernel
theorem dX3_firstRoot_18 : decode cX3_firstRoot 18 = .ok (.areturn, 1) := by decide +kernel
theorem dX3_madeByItself_0 : decode cX3_madeByItself 0 = .ok (.aload_n 0, 1) := by decide +kernel
theorem dX3_madeByItself_1 : decode cX3_madeByItself 1 = .ok (.iload_n 1, 1) := by decide +kernel
theorem dX3_madeByItself_2 : decode cX3_madeByItself 2 = .ok (.iload_n 2, 1) := by decide +kernel
theorem dX3_madeByItself_3 : decode cX3_madeByItself 3 = .ok (.iconst 1, 1) := by decide +kernel
theorem dX3_madeByItself_4 : decode cX3_madeByItself 4 = .ok (.invokevirtual 31, 3) := by decide +kernel
theorem dX3_madeByItself_7 : decode cX3_madeByItself 7 = .ok (.areturn, 1) := by decide +kernel
theorem dX3_broughtRoot_0 : decode cX3_broughtRoot 0 = .ok (.aload_n 0, 1) := by decide +kernel
theorem dX3_broughtRoot_1 : decode cX3_broughtRoot 1 = .ok (.invokevirtual 35, 3) := by decide +kernel
theorem dX3_broughtRoot_4 : decode cX3_broughtRoot 4 = .ok (.aload_n 0, 1) := by decide +kernel
theorem dX3_broughtRoot_5 : decode cX3_broughtRoot 5 = .ok (.dup, 1) := by decide +kernel
theorem dX3_broughtRoot_6 : decode cX3_broughtRoot 6 = .ok (.getfield 38, 3) := by decide +kernel
theorem dX3_broughtRoot_9 : decode cX3_broughtRoot 9 = .ok (.iconst 1, 1) := by decide +kernel
theorem dX3_broughtRoot_10 : decode cX3_broughtRoot 10 = .ok (.iadd, 1) := by decide +kernel
theorem dX3_broughtRoot_11 : decode cX3_broughtRoot 11 = .ok (.putfield 38, 3) := by decide +kernel
theorem dX3_broughtRoot_14 : decode cX3_broughtRoot 14 = .ok (.aload_n 1, 1) := by decide +kernel
theorem dX3_broughtRoot_15 : decode cX3_broughtRoot 15 = .ok (.ifnull 31, 3) := by decide +kernel
theorem dX3_broughtRoot_18 : decode cX3_broughtRoot 18 = .ok (.aload_n 1, 1) := by decide +kernel
theorem dX3_broughtRoot_19 : decode cX3_broughtRoot 19 = .ok (.aload_n 0, 1) := by decide +kernel
theorem dX3_broughtRoot_20 : decode cX3_broughtRoot 20 = .ok (.getfield 15, 3) := by decide +kernel
theorem dX3_broughtRoot_23 : decode cX3_broughtRoot 23 = .ok (.getfield 41, 3) := by decide +kernel
theorem dX3_broughtRoot_26 : decode cX3_broughtRoot 26 = .ok (.aload_n 0, 1) := by decide +kernel
theorem dX3_broughtRoot_27 : decode cX3_broughtRoot 27 = .ok (.getfield 15, 3) := by decide +kernel
theorem dX3_broughtRoot_30 : decode cX3_broughtRoot 30 = .ok (.getfield 46, 3) := by decide +kernel
theorem dX3_broughtRoot_33 : decode cX3_broughtRoot 33 = .ok (.invokevirtual 49, 3) := by decide +kernel
theorem dX3_broughtRoot_36 : decode cX3_broughtRoot 36 = .ok (.ifCond .eq 10, 3) := by decide +kernel
theorem dX3_broughtRoot_39 : decode cX3_broughtRoot 39 = .ok (.aload_n 0, 1) := by decide +kernel
theorem dX3_broughtRoot_40 : decode cX3_broughtRoot 40 = .ok (.aload_n 1, 1) := by decide +kernel
theorem dX3_broughtRoot_41 : decode cX3_broughtRoot 41 = .ok (.invokevirtual 55, 3) := by decide +kernel
theorem dX3_broughtRoot_44 : decode cX3_broughtRoot 44 = .ok (.aload_n 1, 1) := by decide +kernel
theorem dX3_broughtRoot_45 : decode cX3_broughtRoot 45 = .ok (.areturn, 1) := by decide +kernel
theorem dX3_broughtRoot_46 : decode cX3_broughtRoot 46 = .ok (.aload_n 0, 1) := by decide +kernel
theorem dX3_broughtRoot_47 : decode cX3_broughtRoot 47 = .ok (.aload_n 1, 1) := by decide +kernel
theorem dX3_broughtRoot_48 : decode cX3_broughtRoot 48 = .ok (.invokevirtual 59, 3) := by decide +kernel
theorem dX3_broughtRoot_51 : decode cX3_broughtRoot 51 = .ok (.aload_n 0, 1) := by decide +kernel
theorem dX3_broughtRoot_52 : decode cX3_broughtRoot 52 = .ok (.aload_n 0, 1) := by decide +kernel
theorem dX3_broughtRoot_53 : decode cX3_broughtRoot 53 = .ok (.getfield 15, 3) := by decide +kernel
theorem dX3_broughtRoot_56 : decode cX3_broughtRoot 56 = .ok (.getfield 41, 3) := by decide +kernel
theorem dX3_broughtRoot_59 : decode cX3_broughtRoot 59 = .ok (.aload_n 0, 1) := by decide +kernel
theorem dX3_broughtRoot_60 : decode cX3_broughtRoot 60 = .ok (.getfield 15, 3) := by decide +kernel
theorem dX3_broughtRoot_63 : decode cX3_broughtRoot 63 = .ok (.getfield 46, 3) := by decide +kernel
theorem dX3_broughtRoot_66 : decode cX3_broughtRoot 66 = .ok (.iconst 1, 1) := by decide +kernel
theorem dX3_broughtRoot_67 : decode cX3_broughtRoot 67 = .ok (.invokevirtual 31, 3) := by decide +kernel
theorem dX3_broughtRoot_70 : decode cX3_broughtRoot 70 = .ok (.areturn, 1) := by decide +kernel
theorem dX3_letGoWithAll_0 : decode cX3_letGoWithAll 0 = .ok (.aload_n 1, 1) := by decide +kernel
theorem dX3_letGoWithAll_1 : decode cX3_letGoWithAll 1 = .ok (.ifnull 8, 3) := by decide +kernel
theorem dX3_letGoWithAll_4 : decode cX3_letGoWithAll 4 = .ok (.aload_n 0, 1) := by decide +kernel
theorem dX3_letGoWithAll_5 : decode cX3_letGoWithAll 5 = .ok (.aload_n 1, 1) := by decide +kernel
theorem dX3_letGoWithAll_6 : decode cX3_letGoWithAll 6 = .ok (.invokevirtual 62, 3) := by decide +kernel
theorem dX3_letGoWithAll_9 : decode cX3_letGoWithAll 9 = .ok (.return_, 1) := by decide +kernel
theorem dX3_clearCounts_0 : decode cX3_clearCounts 0 = .ok (.aload_n 0, 1) := by decide +kernel
theorem dX3_clearCounts_1 : decode cX3_clearCounts 1 = .ok (.iconst 0, 1) := by decide +kernel
theorem dX3_clearCounts_2 : decode cX3_clearCounts 2 = .ok (.putfield 65, 3) := by decide +kernel
theorem dX3_clearCounts_5 : decode cX3_clearCounts 5 = .ok (.aload_n 0, 1) := by decide +kernel
theorem dX3_clearCounts_6 : decode cX3_clearCounts 6 = .ok (.iconst 0, 1) := by decide +kernel
theorem dX3_clearCounts_7 : decode cX3_clearCounts 7 = .ok (.putfield 68, 3) := by decide +kernel
theorem dX3_clearCounts_10 : decode cX3_clearCounts 10 = .ok (.aload_n 0, 1) := by decide +kernel
theorem dX3_clearCounts_11 : decode cX3_clearCounts 11 = .ok (.iconst 0, 1) := by decide +kernel
theorem dX3_clearCounts_12 : decode cX3_clearCounts 12 = .ok (.putfield 71, 3) := by decide +kernel
theorem dX3_clearCounts_15 : decode cX3_clearCounts 15 = .ok (.return_, 1) := by decide +kernel
theorem dX3_make_0 : decode cX3_make 0 = .ok (.aload_n 0, 1) := by decide +kernel
theorem dX3_make_1 : decode cX3_make 1 = .ok (.getfield 19, 3) := by decide +kernel
theorem dX3_make_4 : decode cX3_make 4 = .ok (.invokevirtual 74, 3) := by decide +kernel
theorem dX3_make_7 : decode cX3_make 7 = .ok (.astore 4, 2) := by decide +kernel
theorem dX3_make_9 : decode cX3_make 9 = .ok (.aload 4, 2) := by decide +kernel
theorem dX3_make_11 : decode cX3_make 11 = .ok (.iload_n 1, 1) := by decide +kernel
theorem dX3_make_12 : decode cX3_make 12 = .ok (.iload_n 2, 1) := by decide +kernel
theorem dX3_make_13 : decode cX3_make 13 = .ok (.iload_n 3, 1) := by decide +kernel
theorem dX3_make_14 : decode cX3_make 14 = .ok (.aload_n 0, 1) := by decide +kernel
theorem dX3_make_15 : decode cX3_make 15 = .ok (.getfield 27, 3) := by decide +kernel
theorem dX3_make_18 : decode cX3_make 18 = .ok (.invokevirtual 80, 3) := by decide +kernel
theorem dX3_make_21 : decode cX3_make 21 = .ok (.aload_n 0, 1) := by decide +kernel
theorem dX3_make_22 : decode cX3_make 22 = .ok (.dup, 1) := by decide +kernel
theorem dX3_make_23 : decode cX3_make 23 = .ok (.getfield 27, 3) := by decide +kernel
theorem dX3_make_26 : decode cX3_make 26 = .ok (.iconst 1, 1) := by decide +kernel
theorem dX3_make_27 : decode cX3_make 27 = .ok (.iadd, 1) := by decide +kernel
theorem dX3_make_28 : decode cX3_make 28 = .ok (.putfield 27, 3) := by decide +kernel
theorem dX3_make_31 : decode cX3_make 31 = .ok (.aload_n 0, 1) := by decide +kernel
theorem dX3_make_32 : decode cX3_make 32 = .ok (.dup, 1) := by decide +kernel
theorem dX3_make_33 : decode cX3_make 33 = .ok (.getfield 65, 3) := by decide +kernel
theorem dX3_make_36 : decode cX3_make 36 = .ok (.iconst 1, 1) := by decide +kernel
theorem dX3_make_37 : decode cX3_make 37 = .ok (.iadd, 1) := by decide +kernel
theorem dX3_make_38 : decode cX3_make 38 = .ok (.putfield 65, 3) := by decide +kernel
theorem dX3_make_41 : decode cX3_make 41 = .ok (.aload_n 0, 1) := by decide +kernel
theorem dX3_make_42 : decode cX3_make 42 = .ok (.aload 4, 2) := by decide +kernel
theorem dX3_make_44 : decode cX3_make 44 = .ok (.invokevirtual 84, 3) := by decide +kernel
theorem dX3_make_47 : decode cX3_make 47 = .ok (.aload 4, 2) := by decide +kernel
theorem dX3_make_49 : decode cX3_make 49 = .ok (.areturn, 1) := by decide +kernel
theorem dX3_bringUp_0 : decode cX3_bringUp 0 = .ok (.aload_n 1, 1) := by decide +kernel
theorem dX3_bringUp_1 : decode cX3_bringUp 1 = .ok (.aload_n 0, 1) := by decide +kernel
theorem dX3_bringUp_2 : decode cX3_bringUp 2 = .ok (.getfield 38, 3) := by decide +kernel
theorem dX3_bringUp_5 : decode cX3_bringUp 5 = .ok (.putfield 87, 3) := by decide +kernel
theorem dX3_bringUp_8 : decode cX3_bringUp 8 = .ok (.aload_n 1, 1) := by decide +kernel
theorem dX3_bringUp_9 : decode cX3_bringUp 9 = .ok (.aload_n 0, 1) := by decide +kernel
theorem dX3_bringUp_10 : decode cX3_bringUp 10 = .ok (.getfield 15, 3) := by decide +kernel
theorem dX3_bringUp_13 : decode cX3_bringUp 13 = .ok (.getfield 90, 3) := by decide +kernel
theorem dX3_bringUp_16 : decode cX3_bringUp 16 = .ok (.invokevirtual 93, 3) := by decide +kernel
theorem dX3_bringUp_19 : decode cX3_bringUp 19 = .ok (.ifCond .ne 11, 3) := by decide +kernel
theorem dX3_bringUp_22 : decode cX3_bringUp 22 = .ok (.aload_n 0, 1) := by decide +kernel
theorem dX3_bringUp_23 : decode cX3_bringUp 23 = .ok (.aload_n 1, 1) := by decide +kernel
theorem dX3_bringUp_24 : decode cX3_bringUp 24 = .ok (.invokevirtual 97, 3) := by decide +kernel
theorem dX3_bringUp_27 : decode cX3_bringUp 27 = .ok (.ifCond .eq 18, 3) := by decide +kernel
theorem dX3_bringUp_30 : decode cX3_bringUp 30 = .ok (.aload_n 0, 1) := by decide +kernel
theorem dX3_bringUp_31 : decode cX3_bringUp 31 = .ok (.dup, 1) := by decide +kernel
theorem dX3_bringUp_32 : decode cX3_bringUp 32 = .ok (.getfield 68, 3) := by decide +kernel
theorem dX3_bringUp_35 : decode cX3_bringUp 35 = .ok (.iconst 1, 1) := by decide +kernel
theorem dX3_bringUp_36 : decode cX3_bringUp 36 = .ok (.iadd, 1) := by decide +kernel
theorem dX3_bringUp_37 : decode cX3_bringUp 37 = .ok (.putfield 68, 3) := by decide +kernel
theorem dX3_bringUp_40 : decode cX3_bringUp 40 = .ok (.aload_n 0, 1) := by decide +kernel
theorem dX3_bringUp_41 : decode cX3_bringUp 41 = .ok (.aload_n 1, 1) := by decide +kernel
theorem dX3_bringUp_42 : decode cX3_bringUp 42 = .ok (.invokevirtual 84, 3) := by decide +kernel
theorem dX3_bringUp_45 : decode cX3_bringUp 45 = .ok (.return_, 1) := by decide +kernel
theorem dX3_isAnyPartOtherwise_0 : decode cX3_isAnyPartOtherwise 0 = .ok (.aload_n 1, 1) := by decide +kernel
theorem dX3_isAnyPartOtherwise_1 : decode cX3_isAnyPartOtherwise 1 = .ok (.getfield 101, 3) := by decide +kernel
theorem dX3_isAnyPartOtherwise_4 : decode cX3_isAnyPartOtherwise 4 = .ok (.bipush 6, 2) := by decide +kernel
theorem dX3_isAnyPartOtherwise_6 : decode cX3_isAnyPartOtherwise 6 = .ok (.if_icmp .lt 5, 3) := by decide +kernel
theorem dX3_isAnyPartOtherwise_9 : decode cX3_isAnyPartOtherwise 9 = .ok (.iconst 0, 1) := by decide +kernel
theorem dX3_isAnyPartOtherwise_10 : decode cX3_isAnyPartOtherwise 10 = .ok (.ireturn, 1) := by decide +kernel
theorem dX3_isAnyPartOtherwise_11 : decode cX3_isAnyPartOtherwise 11 = .ok (.aload_n 1, 1) := by decide +kernel
theorem dX3_isAnyPartOtherwise_12 : decode cX3_isAnyPartOtherwise 12 = .ok (.getfield 104, 3) := by decide +kernel
theorem dX3_isAnyPartOtherwise_15 : decode cX3_isAnyPartOtherwise 15 = .ok (.astore_n 2, 1) := by decide +kernel
theorem dX3_isAnyPartOtherwise_16 : decode cX3_isAnyPartOtherwise 16 = .ok (.aload_n 2, 1) := by decide +kernel
theorem dX3_isAnyPartOtherwise_17 : decode cX3_isAnyPartOtherwise 17 = .ok (.ifnull 31, 3) := by decide +kernel
theorem dX3_isAnyPartOtherwise_20 : decode cX3_isAnyPartOtherwise 20 = .ok (.aload_n 2, 1) := by decide +kernel
theorem dX3_isAnyPartOtherwise_21 : decode cX3_isAnyPartOtherwise 21 = .ok (.getfield 108, 3) := by decide +kernel
theorem dX3_isAnyPartOtherwise_24 : decode cX3_isAnyPartOtherwise 24 = .ok (.istore_n 3, 1) := by decide +kernel
theorem dX3_isAnyPartOtherwise_25 : decode cX3_isAnyPartOtherwise 25 = .ok (.aload_n 0, 1) := by decide +kernel
theorem dX3_isAnyPartOtherwise_26 : decode cX3_isAnyPartOtherwise 26 = .ok (.aload_n 2, 1) := by decide +kernel
theorem dX3_isAnyPartOtherwise_27 : decode cX3_isAnyPartOtherwise 27 = .ok (.invokevirtual 55, 3) := by decide +kernel
theorem dX3_isAnyPartOtherwise_30 : decode cX3_isAnyPartOtherwise 30 = .ok (.aload_n 2, 1) := by decide +kernel
theorem dX3_isAnyPartOtherwise_31 : decode cX3_isAnyPartOtherwise 31 = .ok (.getfield 108, 3) := by decide +kernel
theorem dX3_isAnyPartOtherwise_34 : decode cX3_isAnyPartOtherwise 34 = .ok (.iload_n 3, 1) := by decide +kernel
theorem dX3_isAnyPartOtherwise_35 : decode cX3_isAnyPartOtherwise 35 = .ok (.if_icmp .eq 5, 3) := by decide +kernel
theorem dX3_isAnyPartOtherwise_38 : decode cX3_isAnyPartOtherwise 38 = .ok (.iconst 1, 1) := by decide +kernel
theorem dX3_isAnyPartOtherwise_39 : decode cX3_isAnyPartOtherwise 39 = .ok (.ireturn, 1) := by decide +kernel
theorem dX3_isAnyPartOtherwise_40 : decode cX3_isAnyPartOtherwise 40 = .ok (.aload_n 2, 1) := by decide +kernel
theorem dX3_isAnyPartOtherwise_41 : decode cX3_isAnyPartOtherwise 41 = .ok (.getfield 111, 3) := by decide +kernel
theorem dX3_isAnyPartOtherwise_44 : decode cX3_isAnyPartOtherwise 44 = .ok (.astore_n 2, 1) := by decide +kernel
theorem dX3_isAnyPartOtherwise_45 : decode cX3_isAnyPartOtherwise 45 = .ok (.goto (-29), 3) := by decide +kernel
theorem dX3_isAnyPartOtherwise_48 : decode cX3_isAnyPartOtherwise 48 = .ok (.iconst 0, 1) := by decide +kernel
theorem dX3_isAnyPartOtherwise_49 : decode cX3_isAnyPartOtherwise 49 = .ok (.ireturn, 1) := by decide +kernel
theorem dX3_goThrough_0 : decode cX3_goThrough 0 = .ok (.aload_n 1, 1) := by decide +kernel
theorem dX3_goThrough_1 : decode cX3_goThrough 1 = .ok (.invokevirtual 114, 3) := by decide +kernel
theorem dX3_goThrough_4 : decode cX3_goThrough 4 = .ok (.aload_n 0, 1) := by decide +kernel
theorem dX3_goThrough_5 : decode cX3_goThrough 5 = .ok (.getfield 23, 3) := by decide +kernel
theorem dX3_goThrough_8 : decode cX3_goThrough 8 = .ok (.aload_n 1, 1) := by decide +kernel
theorem dX3_goThrough_9 : decode cX3_goThrough 9 = .ok (.getfield 117, 3) := by decide +kernel
theorem dX3_goThrough_12 : decode cX3_goThrough 12 = .ok (.invokevirtual 120, 3) := by decide +kernel
theorem dX3_goThrough_15 : decode cX3_goThrough 15 = .ok (.istore_n 2, 1) := by decide +kernel
theorem dX3_goThrough_16 : decode cX3_goThrough 16 = .ok (.iconst 0, 1) := by decide +kernel
theorem dX3_goThrough_17 : decode cX3_goThrough 17 = .ok (.istore_n 3, 1) := by decide +kernel
theorem dX3_goThrough_18 : decode cX3_goThrough 18 = .ok (.iload_n 3, 1) := by decide +kernel
theorem dX3_goThrough_19 : decode cX3_goThrough 19 = .ok (.sipush 320, 3) := by decide +kernel
theorem dX3_goThrough_22 : decode cX3_goThrough 22 = .ok (.if_icmp .ge 38, 3) := by decide +kernel
theorem dX3_goThrough_25 : decode cX3_goThrough 25 = .ok (.aload_n 0, 1) := by decide +kernel
theorem dX3_goThrough_26 : decode cX3_goThrough 26 = .ok (.getfield 23, 3) := by decide +kernel
theorem dX3_goThrough_29 : decode cX3_goThrough 29 = .ok (.iload_n 2, 1) := by decide +kernel
theorem dX3_goThrough_30 : decode cX3_goThrough 30 = .ok (.invokevirtual 126, 3) := by decide +kernel
theorem dX3_goThrough_33 : decode cX3_goThrough 33 = .ok (.istore 4, 2) := by decide +kernel
theorem dX3_goThrough_35 : decode cX3_goThrough 35 = .ok (.iload 4, 2) := by decide +kernel
theorem dX3_goThrough_37 : decode cX3_goThrough 37 = .ok (.bipush 11, 2) := by decide +kernel
theorem dX3_goThrough_39 : decode cX3_goThrough 39 = .ok (.if_icmp .ne 6, 3) := by decide +kernel
theorem dX3_goThrough_42 : decode cX3_goThrough 42 = .ok (.goto 18, 3) := by decide +kernel
theorem dX3_goThrough_45 : decode cX3_goThrough 45 = .ok (.aload_n 0, 1) := by decide +kernel
theorem dX3_goThrough_46 : decode cX3_goThrough 46 = .ok (.aload_n 1, 1) := by decide +kernel
theorem dX3_goThrough_47 : decode cX3_goThrough 47 = .ok (.iload 4, 2) := by decide +kernel
theorem dX3_goThrough_49 : decode cX3_goThrough 49 = .ok (.iload_n 2, 1) := by decide +kernel
theorem dX3_goThrough_50 : decode cX3_goThrough 50 = .ok (.invokevirtual 129, 3) := by decide +kernel
theorem dX3_goThrough_53 : decode cX3_goThrough 53 = .ok (.istore_n 2, 1) := by decide +kernel
theorem dX3_goThrough_54 : decode cX3_goThrough 54 = .ok (.iinc 3 1, 3) := by decide +kernel
theorem dX3_goThrough_57 : decode cX3_goThrough 57 = .ok (.goto (-39), 3) := by decide +kernel
theorem dX3_goThrough_60 : decode cX3_goThrough 60 = .ok (.aload_n 1, 1) := by decide +kernel
theorem dX3_goThrough_61 : decode cX3_goThrough 61 = .ok (.aload_n 0, 1) := by decide +kernel
theorem dX3_goThrough_62 : decode cX3_goThrough 62 = .ok (.invokevirtual 133, 3) := by decide +kernel
theorem dX3_goThrough_65 : decode cX3_goThrough 65 = .ok (.putfield 108, 3) := by decide +kernel
theorem dX3_goThrough_68 : decode cX3_goThrough 68 = .ok (.aload_n 0, 1) := by decide +kernel
theorem dX3_goThrough_69 : decode cX3_goThrough 69 = .ok (.aload_n 1, 1) := by decide +kernel
theorem dX3_goThrough_70 : decode cX3_goThrough 70 = .ok (.getfield 137, 3) := by decide +kernel
theorem dX3_goThrough_73 : decode cX3_goThrough 73 = .ok (.aconst_null, 1) := by decide +kernel
theorem dX3_goThrough_74 : decode cX3_goThrough 74 = .ok (.invokevirtual 140, 3) := by decide +kernel
theorem dX3_goThrough_77 : decode cX3_goThrough 77 = .ok (.aload_n 1, 1) := by decide +kernel
theorem dX3_goThrough_78 : decode cX3_goThrough 78 = .ok (.aconst_null, 1) := by decide +kernel
theorem dX3_goThrough_79 : decode cX3_goThrough 79 = .ok (.putfield 137, 3) := by decide +kernel
theorem dX3_goThrough_82 : decode cX3_goThrough 82 = .ok (.return_, 1) := by decide +kernel
theorem dX3_takeStep_0 : decode cX3_takeStep 0 = .ok (.aload_n 0, 1) := by decide +kernel
theorem dX3_takeStep_1 : decode cX3_takeStep 1 = .ok (.getfield 23, 3) := by decide +kernel
theorem dX3_takeStep_4 : decode cX3_takeStep 4 = .ok (.iload_n 3, 1) := by decide +kernel
theorem dX3_takeStep_5 : decode cX3_takeStep 5 = .ok (.invokevirtual 144, 3) := by decide +kernel
theorem dX3_takeStep_8 : decode cX3_takeStep 8 = .ok (.istore 4, 2) := by decide +kernel
theorem dX3_takeStep_10 : decode cX3_takeStep 10 = .ok (.iload_n 2, 1) := by decide +kernel
theorem dX3_takeStep_11 : decode cX3_takeStep 11 = .ok (.tableswitch 130 0 10 #[57, 66, 77, 93, 130, 130, 130, 130, 130, 114, 111], 57) := by decide +kernel
theorem dX3_takeStep_68 : decode cX3_takeStep 68 = .ok (.aload_n 0, 1) := by decide +kernel
theorem dX3_takeStep_69 : decode cX3_takeStep 69 = .ok (.iload 4, 2) := by decide +kernel
theorem dX3_takeStep_71 : decode cX3_takeStep 71 = .ok (.invokevirtual 147, 3) := by decide +kernel
theorem dX3_takeStep_74 : decode cX3_takeStep 74 = .ok (.goto 72, 3) := by decide +kernel
theorem dX3_takeStep_77 : decode cX3_takeStep 77 = .ok (.aload_n 0, 1) := by decide +kernel
theorem dX3_takeStep_78 : decode cX3_takeStep 78 = .ok (.aload_n 1, 1) := by decide +kernel
theorem dX3_takeStep_79 : decode cX3_takeStep 79 = .ok (.getfield 151, 3) := by decide +kernel
theorem dX3_takeStep_82 : decode cX3_takeStep 82 = .ok (.invokevirtual 147, 3) := by decide +kernel
theorem dX3_takeStep_85 : decode cX3_takeStep 85 = .ok (.goto 61, 3) := by decide +kernel
theorem dX3_takeStep_88 : decode cX3_takeStep 88 = .ok (.aload_n 0, 1) := by decide +kernel
theorem dX3_takeStep_89 : decode cX3_takeStep 89 = .ok (.aload_n 0, 1) := by decide +kernel
theorem dX3_takeStep_90 : decode cX3_takeStep 90 = .ok (.aload_n 1, 1) := by decide +kernel
theorem dX3_takeStep_91 : decode cX3_takeStep 91 = .ok (.aload_n 0, 1) := by decide +kernel
theorem dX3_takeStep_92 : decode cX3_takeStep 92 = .ok (.invokevirtual 133, 3) := by decide +kernel
theorem dX3_takeStep_95 : decode cX3_takeStep 95 = .ok (.invokevirtual 154, 3) := by decide +kernel
theorem dX3_takeStep_98 : decode cX3_takeStep 98 = .ok (.invokevirtual 147, 3) := by decide +kernel
theorem dX3_takeStep_101 : decode cX3_takeStep 101 = .ok (.goto 45, 3) := by decide +kernel
theorem dX3_takeStep_104 : decode cX3_takeStep 104 = .ok (.aload_n 0, 1) := by decide +kernel
theorem dX3_takeStep_105 : decode cX3_takeStep 105 = .ok (.aload_n 0, 1) := by decide +kernel
theorem dX3_takeStep_106 : decode cX3_takeStep 106 = .ok (.aload_n 1, 1) := by decide +kernel
theorem dX3_takeStep_107 : decode cX3_takeStep 107 = .ok (.iload 4, 2) := by decide +kernel
theorem dX3_takeStep_109 : decode cX3_takeStep 109 = .ok (.aload_n 0, 1) := by decide +kernel
theorem dX3_takeStep_110 : decode cX3_takeStep 110 = .ok (.invokevirtual 133, 3) := by decide +kernel
theorem dX3_takeStep_113 : decode cX3_takeStep 113 = .ok (.invokevirtual 158, 3) := by decide +kernel
theorem dX3_takeStep_116 : decode cX3_takeStep 116 = .ok (.invokevirtual 147, 3) := by decide +kernel
theorem dX3_takeStep_119 : decode cX3_takeStep 119 = .ok (.goto 27, 3) := by decide +kernel
theorem dX3_takeStep_122 : decode cX3_takeStep 122 = .ok (.iload 4, 2) := by decide +kernel
theorem dX3_takeStep_124 : decode cX3_takeStep 124 = .ok (.ireturn, 1) := by decide +kernel
theorem dX3_takeStep_125 : decode cX3_takeStep 125 = .ok (.aload_n 0, 1) := by decide +kernel
theorem dX3_takeStep_126 : decode cX3_takeStep 126 = .ok (.invokevirtual 133, 3) := by decide +kernel
theorem dX3_takeStep_129 : decode cX3_takeStep 129 = .ok (.ifCond .ne 8, 3) := by decide +kernel
theorem dX3_takeStep_132 : decode cX3_takeStep 132 = .ok (.iload 4, 2) := by decide +kernel
theorem dX3_takeStep_134 : decode cX3_takeStep 134 = .ok (.goto 6, 3) := by decide +kernel
theorem dX3_takeStep_137 : decode cX3_takeStep 137 = .ok (.iload_n 3, 1) := by decide +kernel
theorem dX3_takeStep_138 : decode cX3_takeStep 138 = .ok (.iconst 1, 1) := by decide +kernel
theorem dX3_takeStep_139 : decode cX3_takeStep 139 = .ok (.iadd, 1) := by decide +kernel
theorem dX3_takeStep_140 : decode cX3_takeStep 140 = .ok (.ireturn, 1) := by decide +kernel
theorem dX3_takeStep_141 : decode cX3_takeStep 141 = .ok (.aload_n 0, 1) := by decide +kernel
theorem dX3_takeStep_142 : decode cX3_takeStep 142 = .ok (.iload_n 2, 1) := by decide +kernel
theorem dX3_takeStep_143 : decode cX3_takeStep 143 = .ok (.invokevirtual 161, 3) := by decide +kernel
theorem dX3_takeStep_146 : decode cX3_takeStep 146 = .ok (.iload_n 3, 1) := by decide +kernel
theorem dX3_takeStep_147 : decode cX3_takeStep 147 = .ok (.iconst 1, 1) := by decide +kernel
theorem dX3_takeStep_148 : decode cX3_takeStep 148 = .ok (.iadd, 1) := by decide +kernel
theorem dX3_takeStep_149 : decode cX3_takeStep 149 = .ok (.ireturn, 1) := by decide +kernel
theorem dX3_joinTwo_0 : decode cX3_joinTwo 0 = .ok (.aload_n 0, 1) := by decide +kernel
theorem dX3_joinTwo_1 : decode cX3_joinTwo 1 = .ok (.invokevirtual 133, 3) := by decide +kernel
theorem dX3_joinTwo_4 : decode cX3_joinTwo 4 = .ok (.istore_n 2, 1) := by decide +kernel
theorem dX3_joinTwo_5 : decode cX3_joinTwo 5 = .ok (.aload_n 0, 1) := by decide +kernel
theorem dX3_joinTwo_6 : decode cX3_joinTwo 6 = .ok (.invokevirtual 133, 3) := by decide +kernel
theorem dX3_joinTwo_9 : decode cX3_joinTwo 9 = .ok (.istore_n 3, 1) := by decide +kernel
theorem dX3_joinTwo_10 : decode cX3_joinTwo 10 = .ok (.iload_n 1, 1) := by decide +kernel
theorem dX3_joinTwo_11 : decode cX3_joinTwo 11 = .ok (.tableswitch 71 4 6 #[25, 39, 57], 25) := by decide +kernel
theorem dX3_joinTwo_36 : decode cX3_joinTwo 36 = .ok (.aload_n 0, 1) := by decide +kernel
theorem dX3_joinTwo_37 : decode cX3_joinTwo 37 = .ok (.iload_n 3, 1) := by decide +kernel
theorem dX3_joinTwo_38 : decode cX3_joinTwo 38 = .ok (.iload_n 2, 1) := by decide +kernel
theorem dX3_joinTwo_39 : decode cX3_joinTwo 39 = .ok (.iadd, 1) := by decide +kernel
theorem dX3_joinTwo_40 : decode cX3_joinTwo 40 = .ok (.sipush 997, 3) := by decide +kernel
theorem dX3_joinTwo_43 : decode cX3_joinTwo 43 = .ok (.irem, 1) := by decide +kernel
theorem dX3_joinTwo_44 : decode cX3_joinTwo 44 = .ok (.invokevirtual 147, 3) := by decide +kernel
theorem dX3_joinTwo_47 : decode cX3_joinTwo 47 = .ok (.goto 49, 3) := by decide +kernel
theorem dX3_joinTwo_50 : decode cX3_joinTwo 50 = .ok (.aload_n 0, 1) := by decide +kernel
theorem dX3_joinTwo_51 : decode cX3_joinTwo 51 = .ok (.iload_n 3, 1) := by decide +kernel
theorem dX3_joinTwo_52 : decode cX3_joinTwo 52 = .ok (.iload_n 2, 1) := by decide +kernel
theorem dX3_joinTwo_53 : decode cX3_joinTwo 53 = .ok (.isub, 1) := by decide +kernel
theorem dX3_joinTwo_54 : decode cX3_joinTwo 54 = .ok (.sipush 997, 3) := by decide +kernel
theorem dX3_joinTwo_57 : decode cX3_joinTwo 57 = .ok (.iadd, 1) := by decide +kernel
theorem dX3_joinTwo_58 : decode cX3_joinTwo 58 = .ok (.sipush 997, 3) := by decide +kernel
theorem dX3_joinTwo_61 : decode cX3_joinTwo 61 = .ok (.irem, 1) := by decide +kernel
theorem dX3_joinTwo_62 : decode cX3_joinTwo 62 = .ok (.invokevirtual 147, 3) := by decide +kernel
theorem dX3_joinTwo_65 : decode cX3_joinTwo 65 = .ok (.goto 31, 3) := by decide +kernel
theorem dX3_joinTwo_68 : decode cX3_joinTwo 68 = .ok (.aload_n 0, 1) := by decide +kernel
theorem dX3_joinTwo_69 : decode cX3_joinTwo 69 = .ok (.iload_n 3, 1) := by decide +kernel
theorem dX3_joinTwo_70 : decode cX3_joinTwo 70 = .ok (.iload_n 2, 1) := by decide +kernel
theorem dX3_joinTwo_71 : decode cX3_joinTwo 71 = .ok (.imul, 1) := by decide +kernel
theorem dX3_joinTwo_72 : decode cX3_joinTwo 72 = .ok (.sipush 997, 3) := by decide +kernel
theorem dX3_joinTwo_75 : decode cX3_joinTwo 75 = .ok (.irem, 1) := by decide +kernel
theorem dX3_joinTwo_76 : decode cX3_joinTwo 76 = .ok (.invokevirtual 147, 3) := by decide +kernel
theorem dX3_joinTwo_79 : decode cX3_joinTwo 79 = .ok (.goto 17, 3) := by decide +kernel
theorem dX3_joinTwo_82 : decode cX3_joinTwo 82 = .ok (.aload_n 0, 1) := by decide +kernel
theorem dX3_joinTwo_83 : decode cX3_joinTwo 83 = .ok (.iload_n 3, 1) := by decide +kernel
theorem dX3_joinTwo_84 : decode cX3_joinTwo 84 = .ok (.iload_n 2, 1) := by decide +kernel
theorem dX3_joinTwo_85 : decode cX3_joinTwo 85 = .ok (.if_icmp .ge 7, 3) := by decide +kernel
theorem dX3_joinTwo_88 : decode cX3_joinTwo 88 = .ok (.iconst 1, 1) := by decide +kernel
theorem dX3_joinTwo_89 : decode cX3_joinTwo 89 = .ok (.goto 4, 3) := by decide +kernel
theorem dX3_joinTwo_92 : decode cX3_joinTwo 92 = .ok (.iconst 0, 1) := by decide +kernel
theorem dX3_joinTwo_93 : decode cX3_joinTwo 93 = .ok (.invokevirtual 147, 3) := by decide +kernel
theorem dX3_joinTwo_96 : decode cX3_joinTwo 96 = .ok (.return_, 1) := by decide +kernel
theorem dX3_readCell_0 : decode cX3_readCell 0 = .ok (.iload_n 2, 1) := by decide +kernel
theorem dX3_readCell_1 : decode cX3_readCell 1 = .ok (.bipush 8, 2) := by decide +kernel
theorem dX3_readCell_3 : decode cX3_readCell 3 = .ok (.invokestatic 164, 3) := by decide +kernel
theorem dX3_readCell_6 : decode cX3_readCell 6 = .ok (.istore_n 3, 1) := by decide +kernel
theorem dX3_readCell_7 : decode cX3_readCell 7 = .ok (.aload_n 1, 1) := by decide +kernel
theorem dX3_readCell_8 : decode cX3_readCell 8 = .ok (.iload_n 3, 1) := by decide +kernel
theorem dX3_readCell_9 : decode cX3_readCell 9 = .ok (.aload_n 0, 1) := by decide +kernel
theorem dX3_readCell_10 : decode cX3_readCell 10 = .ok (.getfield 15, 3) := by decide +kernel
theorem dX3_readCell_13 : decode cX3_readCell 13 = .ok (.getfield 90, 3) := by decide +kernel
theorem dX3_readCell_16 : decode cX3_readCell 16 = .ok (.iload_n 3, 1) := by decide +kernel
theorem dX3_readCell_17 : decode cX3_readCell 17 = .ok (.iaload, 1) := by decide +kernel
theorem dX3_readCell_18 : decode cX3_readCell 18 = .ok (.invokevirtual 170, 3) := by decide +kernel
theorem dX3_readCell_21 : decode cX3_readCell 21 = .ok (.aload_n 0, 1) := by decide +kernel
theorem dX3_readCell_22 : decode cX3_readCell 22 = .ok (.getfield 15, 3) := by decide +kernel
theorem dX3_readCell_25 : decode cX3_readCell 25 = .ok (.getfield 90, 3) := by decide +kernel
theorem dX3_readCell_28 : decode cX3_readCell 28 = .ok (.iload_n 3, 1) := by decide +kernel
theorem dX3_readCell_29 : decode cX3_readCell 29 = .ok (.iaload, 1) := by decide +kernel
theorem dX3_readCell_30 : decode cX3_readCell 30 = .ok (.ireturn, 1) := by decide +kernel
theorem dX3_whatPartTells_0 : decode cX3_whatPartTells 0 = .ok (.aload_n 0, 1) := by decide +kernel
theorem dX3_whatPartTells_1 : decode cX3_whatPartTells 1 = .ok (.getfield 23, 3) := by decide +kernel
theorem dX3_whatPartTells_4 : decode cX3_whatPartTells 4 = .ok (.iload_n 2, 1) := by decide +kernel
theorem dX3_whatPartTells_5 : decode cX3_whatPartTells 5 = .ok (.invokevirtual 174, 3) := by decide +kernel
theorem dX3_whatPartTells_8 : decode cX3_whatPartTells 8 = .ok (.ifCond .eq 12, 3) := by decide +kernel
theorem dX3_whatPartTells_11 : decode cX3_whatPartTells 11 = .ok (.aload_n 1, 1) := by decide +kernel
theorem dX3_whatPartTells_12 : decode cX3_whatPartTells 12 = .ok (.getfield 101, 3) := by decide +kernel
theorem dX3_whatPartTells_15 : decode cX3_whatPartTells 15 = .ok (.bipush 6, 2) := by decide +kernel
theorem dX3_whatPartTells_17 : decode cX3_whatPartTells 17 = .ok (.if_icmp .lt 5, 3) := by decide +kernel
theorem dX3_whatPartTells_20 : decode cX3_whatPartTells 20 = .ok (.iconst 0, 1) := by decide +kernel
theorem dX3_whatPartTells_21 : decode cX3_whatPartTells 21 = .ok (.ireturn, 1) := by decide +kernel
theorem dX3_whatPartTells_22 : decode cX3_whatPartTells 22 = .ok (.aload_n 1, 1) := by decide +kernel
theorem dX3_whatPartTells_23 : decode cX3_whatPartTells 23 = .ok (.iload_n 2, 1) := by decide +kernel
theorem dX3_whatPartTells_24 : decode cX3_whatPartTells 24 = .ok (.iload_n 3, 1) := by decide +kernel
theorem dX3_whatPartTells_25 : decode cX3_whatPartTells 25 = .ok (.invokevirtual 178, 3) := by decide +kernel
theorem dX3_whatPartTells_28 : decode cX3_whatPartTells 28 = .ok (.astore 4, 2) := by decide +kernel
theorem dX3_whatPartTells_30 : decode cX3_whatPartTells 30 = .ok (.aload 4, 2) := by decide +kernel
theorem dX3_whatPartTells_32 : decode cX3_whatPartTells 32 = .ok (.ifnonnull 20, 3) := by decide +kernel
theorem dX3_whatPartTells_35 : decode cX3_whatPartTells 35 = .ok (.aload_n 0, 1) := by decide +kernel
theorem dX3_whatPartTells_36 : decode cX3_whatPartTells 36 = .ok (.iload_n 2, 1) := by decide +kernel
theorem dX3_whatPartTells_37 : decode cX3_whatPartTells 37 = .ok (.iload_n 3, 1) := by decide +kernel
theorem dX3_whatPartTells_38 : decode cX3_whatPartTells 38 = .ok (.aload_n 1, 1) := by decide +kernel
theorem dX3_whatPartTells_39 : decode cX3_whatPartTells 39 = .ok (.getfield 101, 3) := by decide +kernel
theorem dX3_whatPartTells_42 : decode cX3_whatPartTells 42 = .ok (.iconst 1, 1) := by decide +kernel
theorem dX3_whatPartTells_43 : decode cX3_whatPartTells 43 = .ok (.iadd, 1) := by decide +kernel
theorem dX3_whatPartTells_44 : decode cX3_whatPartTells 44 = .ok (.invokevirtual 31, 3) := by decide +kernel
theorem dX3_whatPartTells_47 : decode cX3_whatPartTells 47 = .ok (.astore 4, 2) := by decide +kernel
theorem dX3_whatPartTells_49 : decode cX3_whatPartTells 49 = .ok (.goto 10, 3) := by decide +kernel
theorem dX3_whatPartTells_52 : decode cX3_whatPartTells 52 = .ok (.aload_n 0, 1) := by decide +kernel
theorem dX3_whatPartTells_53 : decode cX3_whatPartTells 53 = .ok (.aload_n 1, 1) := by decide +kernel
theorem dX3_whatPartTells_54 : decode cX3_whatPartTells 54 = .ok (.aload 4, 2) := by decide +kernel
theorem dX3_whatPartTells_56 : decode cX3_whatPartTells 56 = .ok (.invokevirtual 182, 3) := by decide +kernel
theorem dX3_whatPartTells_59 : decode cX3_whatPartTells 59 = .ok (.aload_n 1, 1) := by decide +kernel
theorem dX3_whatPartTells_60 : decode cX3_whatPartTells 60 = .ok (.aload 4, 2) := by decide +kernel
theorem dX3_whatPartTells_62 : decode cX3_whatPartTells 62 = .ok (.invokevirtual 185, 3) := by decide +kernel
theorem dX3_whatPartTells_65 : decode cX3_whatPartTells 65 = .ok (.aload 4, 2) := by decide +kernel
theorem dX3_whatPartTells_67 : decode cX3_whatPartTells 67 = .ok (.getfield 108, 3) := by decide +kernel
theorem dX3_whatPartTells_70 : decode cX3_whatPartTells 70 = .ok (.ireturn, 1) := by decide +kernel
theorem dX3_takeUp_0 : decode cX3_takeUp 0 = .ok (.aload_n 0, 1) := by decide +kernel
theorem dX3_takeUp_1 : decode cX3_takeUp 1 = .ok (.aload_n 1, 1) := by decide +kernel
theorem dX3_takeUp_2 : decode cX3_takeUp 2 = .ok (.getfield 137, 3) := by decide +kernel
theorem dX3_takeUp_5 : decode cX3_takeUp 5 = .ok (.aload_n 2, 1) := by decide +kernel
theorem dX3_takeUp_6 : decode cX3_takeUp 6 = .ok (.invokevirtual 140, 3) := by decide +kernel
theorem dX3_takeUp_9 : decode cX3_takeUp 9 = .ok (.aload_n 1, 1) := by decide +kernel
theorem dX3_takeUp_10 : decode cX3_takeUp 10 = .ok (.aload_n 2, 1) := by decide +kernel
theorem dX3_takeUp_11 : decode cX3_takeUp 11 = .ok (.getfield 111, 3) := by decide +kernel
theorem dX3_takeUp_14 : decode cX3_takeUp 14 = .ok (.putfield 137, 3) := by decide +kernel
theorem dX3_takeUp_17 : decode cX3_takeUp 17 = .ok (.aload_n 2, 1) := by decide +kernel
theorem dX3_takeUp_18 : decode cX3_takeUp 18 = .ok (.getfield 87, 3) := by decide +kernel
theorem dX3_takeUp_21 : decode cX3_takeUp 21 = .ok (.aload_n 0, 1) := by decide +kernel
theorem dX3_takeUp_22 : decode cX3_takeUp 22 = .ok (.getfield 38, 3) := by decide +kernel
theorem dX3_takeUp_25 : decode cX3_takeUp 25 = .ok (.if_icmp .eq 8, 3) := by decide +kernel
theorem dX3_takeUp_28 : decode cX3_takeUp 28 = .ok (.aload_n 0, 1) := by decide +kernel
theorem dX3_takeUp_29 : decode cX3_takeUp 29 = .ok (.aload_n 2, 1) := by decide +kernel
theorem dX3_takeUp_30 : decode cX3_takeUp 30 = .ok (.invokevirtual 55, 3) := by decide +kernel
theorem dX3_takeUp_33 : decode cX3_takeUp 33 = .ok (.return_, 1) := by decide +kernel
theorem dX3_letGoChain_0 : decode cX3_letGoChain 0 = .ok (.aload_n 1, 1) := by decide +kernel
theorem dX3_letGoChain_1 : decode cX3_letGoChain 1 = .ok (.astore_n 3, 1) := by decide +kernel
theorem dX3_letGoChain_2 : decode cX3_letGoChain 2 = .ok (.aload_n 3, 1) := by decide +kernel
theorem dX3_letGoChain_3 : decode cX3_letGoChain 3 = .ok (.ifnull 25, 3) := by decide +kernel
theorem dX3_letGoChain_6 : decode cX3_letGoChain 6 = .ok (.aload_n 3, 1) := by decide +kernel
theorem dX3_letGoChain_7 : decode cX3_letGoChain 7 = .ok (.aload_n 2, 1) := by decide +kernel
theorem dX3_letGoChain_8 : decode cX3_letGoChain 8 = .ok (.if_acmp .eq 20, 3) := by decide +kernel
theorem dX3_letGoChain_11 : decode cX3_letGoChain 11 = .ok (.aload_n 3, 1) := by decide +kernel
theorem dX3_letGoChain_12 : decode cX3_letGoChain 12 = .ok (.getfield 111, 3) := by decide +kernel
theorem dX3_letGoChain_15 : decode cX3_letGoChain 15 = .ok (.astore 4, 2) := by decide +kernel
theorem dX3_letGoChain_17 : decode cX3_letGoChain 17 = .ok (.aload_n 0, 1) := by decide +kernel
theorem dX3_letGoChain_18 : decode cX3_letGoChain 18 = .ok (.aload_n 3, 1) := by decide +kernel
theorem dX3_letGoChain_19 : decode cX3_letGoChain 19 = .ok (.invokevirtual 62, 3) := by decide +kernel
theorem dX3_letGoChain_22 : decode cX3_letGoChain 22 = .ok (.aload 4, 2) := by decide +kernel
theorem dX3_letGoChain_24 : decode cX3_letGoChain 24 = .ok (.astore_n 3, 1) := by decide +kernel
theorem dX3_letGoChain_25 : decode cX3_letGoChain 25 = .ok (.goto (-23), 3) := by decide +kernel
theorem dX3_letGoChain_28 : decode cX3_letGoChain 28 = .ok (.return_, 1) := by decide +kernel
theorem dX3_letGo_0 : decode cX3_letGo 0 = .ok (.aload_n 1, 1) := by decide +kernel
theorem dX3_letGo_1 : decode cX3_letGo 1 = .ok (.getfield 101, 3) := by decide +kernel
theorem dX3_letGo_4 : decode cX3_letGo 4 = .ok (.bipush 6, 2) := by decide +kernel
theorem dX3_letGo_6 : decode cX3_letGo 6 = .ok (.if_icmp .ge 12, 3) := by decide +kernel
theorem dX3_letGo_9 : decode cX3_letGo 9 = .ok (.aload_n 0, 1) := by decide +kernel
theorem dX3_letGo_10 : decode cX3_letGo 10 = .ok (.aload_n 1, 1) := by decide +kernel
theorem dX3_letGo_11 : decode cX3_letGo 11 = .ok (.getfield 104, 3) := by decide +kernel
theorem dX3_letGo_14 : decode cX3_letGo 14 = .ok (.aconst_null, 1) := by decide +kernel
theorem dX3_letGo_15 : decode cX3_letGo 15 = .ok (.invokevirtual 140, 3) := by decide +kernel
theorem dX3_letGo_18 : decode cX3_letGo 18 = .ok (.aload_n 0, 1) := by decide +kernel
theorem dX3_letGo_19 : decode cX3_letGo 19 = .ok (.dup, 1) := by decide +kernel
theorem dX3_letGo_20 : decode cX3_letGo 20 = .ok (.getfield 71, 3) := by decide +kernel
theorem dX3_letGo_23 : decode cX3_letGo 23 = .ok (.iconst 1, 1) := by decide +kernel
theorem dX3_letGo_24 : decode cX3_letGo 24 = .ok (.iadd, 1) := by decide +kernel
theorem dX3_letGo_25 : decode cX3_letGo 25 = .ok (.putfield 71, 3) := by decide +kernel
theorem dX3_letGo_28 : decode cX3_letGo 28 = .ok (.aload_n 0, 1) := by decide +kernel
theorem dX3_letGo_29 : decode cX3_letGo 29 = .ok (.getfield 19, 3) := by decide +kernel
theorem dX3_letGo_32 : decode cX3_letGo 32 = .ok (.aload_n 1, 1) := by decide +kernel
theorem dX3_letGo_33 : decode cX3_letGo 33 = .ok (.invokevirtual 188, 3) := by decide +kernel
theorem dX3_letGo_36 : decode cX3_letGo 36 = .ok (.return_, 1) := by decide +kernel
theorem dX3_push_0 : decode cX3_push 0 = .ok (.aload_n 0, 1) := by decide +kernel
theorem dX3_push_1 : decode cX3_push 1 = .ok (.getfield 191, 3) := by decide +kernel
theorem dX3_push_4 : decode cX3_push 4 = .ok (.aload_n 0, 1) := by decide +kernel
theorem dX3_push_5 : decode cX3_push 5 = .ok (.getfield 9, 3) := by decide +kernel
theorem dX3_push_8 : decode cX3_push 8 = .ok (.arraylength, 1) := by decide +kernel
theorem dX3_push_9 : decode cX3_push 9 = .ok (.if_icmp .ge 23, 3) := by decide +kernel
theorem dX3_push_12 : decode cX3_push 12 = .ok (.aload_n 0, 1) := by decide +kernel
theorem dX3_push_13 : decode cX3_push 13 = .ok (.getfield 9, 3) := by decide +kernel
theorem dX3_push_16 : decode cX3_push 16 = .ok (.aload_n 0, 1) := by decide +kernel
theorem dX3_push_17 : decode cX3_push 17 = .ok (.getfield 191, 3) := by decide +kernel
theorem dX3_push_20 : decode cX3_push 20 = .ok (.iload_n 1, 1) := by decide +kernel
theorem dX3_push_21 : decode cX3_push 21 = .ok (.iastore, 1) := by decide +kernel
theorem dX3_push_22 : decode cX3_push 22 = .ok (.aload_n 0, 1) := by decide +kernel
theorem dX3_push_23 : decode cX3_push 23 = .ok (.dup, 1) := by decide +kernel
theorem dX3_push_24 : decode cX3_push 24 = .ok (.getfield 191, 3) := by decide +kernel
theorem dX3_push_27 : decode cX3_push 27 = .ok (.iconst 1, 1) := by decide +kernel
theorem dX3_push_28 : decode cX3_push 28 = .ok (.iadd, 1) := by decide +kernel
theorem dX3_push_29 : decode cX3_push 29 = .ok (.putfield 191, 3) := by decide +kernel
theorem dX3_push_32 : decode cX3_push 32 = .ok (.return_, 1) := by decide +kernel
theorem dX3_pop_0 : decode cX3_pop 0 = .ok (.aload_n 0, 1) := by decide +kernel
theorem dX3_pop_1 : decode cX3_pop 1 = .ok (.getfield 191, 3) := by decide +kernel
theorem dX3_pop_4 : decode cX3_pop 4 = .ok (.ifCond .ne 5, 3) := by decide +kernel
theorem dX3_pop_7 : decode cX3_pop 7 = .ok (.iconst 0, 1) := by decide +kernel
theorem dX3_pop_8 : decode cX3_pop 8 = .ok (.ireturn, 1) := by decide +kernel
theorem dX3_pop_9 : decode cX3_pop 9 = .ok (.aload_n 0, 1) := by decide +kernel
theorem dX3_pop_10 : decode cX3_pop 10 = .ok (.dup, 1) := by decide +kernel
theorem dX3_pop_11 : decode cX3_pop 11 = .ok (.getfield 191, 3) := by decide +kernel
theorem dX3_pop_14 : decode cX3_pop 14 = .ok (.iconst 1, 1) := by decide +kernel
theorem dX3_pop_15 : decode cX3_pop 15 = .ok (.isub, 1) := by decide +kernel
theorem dX3_pop_16 : decode cX3_pop 16 = .ok (.putfield 191, 3) := by decide +kernel
theorem dX3_pop_19 : decode cX3_pop 19 = .ok (.aload_n 0, 1) := by decide +kernel
theorem dX3_pop_20 : decode cX3_pop 20 = .ok (.getfield 9, 3) := by decide +kernel
theorem dX3_pop_23 : decode cX3_pop 23 = .ok (.aload_n 0, 1) := by decide +kernel
theorem dX3_pop_24 : decode cX3_pop 24 = .ok (.getfield 191, 3) := by decide +kernel
theorem dX3_pop_27 : decode cX3_pop 27 = .ok (.iaload, 1) := by decide +kernel
theorem dX3_pop_28 : decode cX3_pop 28 = .ok (.ireturn, 1) := by decide +kernel
theorem dX4_init_0 : decode cX4_init 0 = .ok (.aload_n 0, 1) := by decide +kernel
theorem dX4_init_1 : decode cX4_init 1 = .ok (.invokespecial 1, 3) := by decide +kernel
theorem dX4_init_4 : decode cX4_init 4 = .ok (.return_, 1) := by decide +kernel
theorem dX4_take_0 : decode cX4_take 0 = .ok (.aload_n 0, 1) := by decide +kernel
theorem dX4_take_1 : decode cX4_take 1 = .ok (.getfield 7, 3) := by decide +kernel
theorem dX4_take_4 : decode cX4_take 4 = .ok (.astore_n 1, 1) := by decide +kernel
theorem dX4_take_5 : decode cX4_take 5 = .ok (.aload_n 1, 1) := by decide +kernel
theorem dX4_take_6 : decode cX4_take 6 = .ok (.ifnonnull 11, 3) := by decide +kernel
theorem dX4_take_9 : decode cX4_take 9 = .ok (.new 13, 3) := by decide +kernel
theorem dX4_take_12 : decode cX4_take 12 = .ok (.dup, 1) := by decide +kernel
theorem dX4_take_13 : decode cX4_take 13 = .ok (.invokespecial 15, 3) := by decide +kernel
theorem dX4_take_16 : decode cX4_take 16 = .ok (.areturn, 1) := by decide +kernel
theorem dX4_take_17 : decode cX4_take 17 = .ok (.aload_n 0, 1) := by decide +kernel
theorem dX4_take_18 : decode cX4_take 18 = .ok (.aload_n 1, 1) := by decide +kernel
theorem dX4_take_19 : decode cX4_take 19 = .ok (.getfield 16, 3) := by decide +kernel
theorem dX4_take_22 : decode cX4_take 22 = .ok (.putfield 7, 3) := by decide +kernel
theorem dX4_take_25 : decode cX4_take 25 = .ok (.aload_n 1, 1) := by decide +kernel
theorem dX4_take_26 : decode cX4_take 26 = .ok (.aconst_null, 1) := by decide +kernel
theorem dX4_take_27 : decode cX4_take 27 = .ok (.putfield 16, 3) := by decide +kernel
theorem dX4_take_30 : decode cX4_take 30 = .ok (.aload_n 1, 1) := by decide +kernel
theorem dX4_take_31 : decode cX4_take 31 = .ok (.areturn, 1) := by decide +kernel
theorem dX4_giveBack_0 : decode cX4_giveBack 0 = .ok (.aload_n 1, 1) := by decide +kernel
theorem dX4_giveBack_1 : decode cX4_giveBack 1 = .ok (.aconst_null, 1) := by decide +kernel
theorem dX4_giveBack_2 : decode cX4_giveBack 2 = .ok (.putfield 19, 3) := by decide +kernel
theorem dX4_giveBack_5 : decode cX4_giveBack 5 = .ok (.aload_n 1, 1) := by decide +kernel
theorem dX4_giveBack_6 : decode cX4_giveBack 6 = .ok (.aconst_null, 1) := by decide +kernel
theorem dX4_giveBack_7 : decode cX4_giveBack 7 = .ok (.putfield 22, 3) := by decide +kernel
theorem dX4_giveBack_10 : decode cX4_giveBack 10 = .ok (.aload_n 1, 1) := by decide +kernel
theorem dX4_giveBack_11 : decode cX4_giveBack 11 = .ok (.aload_n 0, 1) := by decide +kernel
theorem dX4_giveBack_12 : decode cX4_giveBack 12 = .ok (.getfield 7, 3) := by decide +kernel
theorem dX4_giveBack_15 : decode cX4_giveBack 15 = .ok (.putfield 16, 3) := by decide +kernel
theorem dX4_giveBack_18 : decode cX4_giveBack 18 = .ok (.aload_n 0, 1) := by decide +kernel
theorem dX4_giveBack_19 : decode cX4_giveBack 19 = .ok (.aload_n 1, 1) := by decide +kernel
theorem dX4_giveBack_20 : decode cX4_giveBack 20 = .ok (.putfield 7, 3) := by decide +kernel
theorem dX4_giveBack_23 : decode cX4_giveBack 23 = .ok (.return_, 1) := by decide +kernel
theorem dX5_init_0 : decode cX5_init 0 = .ok (.aload_n 0, 1) := by decide +kernel
theorem dX5_init_1 : decode cX5_init 1 = .ok (.invokespecial 3, 3) := by decide +kernel
theorem dX5_init_4 : decode cX5_init 4 = .ok (.aload_n 0, 1) := by decide +kernel
theorem dX5_init_5 : decode cX5_init 5 = .ok (.sipush 320, 3) := by decide +kernel
theorem dX5_init_8 : decode cX5_init 8 = .ok (.newarray .int, 2) := by decide +kernel
theorem dX5_init_10 : decode cX5_init 10 = .ok (.putfield 9, 3) := by decide +kernel
theorem dX5_init_13 : decode cX5_init 13 = .ok (.aload_n 0, 1) := by decide +kernel
theorem dX5_init_14 : decode cX5_init 14 = .ok (.sipush 320, 3) := by decide +kernel
theorem dX5_init_17 : decode cX5_init 17 = .ok (.newarray .int, 2) := by decide +kernel
theorem dX5_init_19 : decode cX5_init 19 = .ok (.putfield 15, 3) := by decide +kernel
theorem dX5_init_22 : decode cX5_init 22 = .ok (.aload_n 0, 1) := by decide +kernel
theorem dX5_init_23 : decode cX5_init 23 = .ok (.iconst 5, 1) := by decide +kernel
theorem dX5_init_24 : decode cX5_init 24 = .ok (.newarray .int, 2) := by decide +kernel
theorem dX5_init_26 : decode cX5_init 26 = .ok (.putfield 18, 3) := by decide +kernel
theorem dX5_init_29 : decode cX5_init 29 = .ok (.return_, 1) := by decide +kernel
theorem dX5_clear_0 : decode cX5_clear 0 = .ok (.aload_n 0, 1) := by decide +kernel
theorem dX5_clear_1 : decode cX5_clear 1 = .ok (.iconst 0, 1) := by decide +kernel
theorem dX5_clear_2 : decode cX5_clear 2 = .ok (.putfield 21, 3) := by decide +kernel
theorem dX5_clear_5 : decode cX5_clear 5 = .ok (.aload_n 0, 1) := by decide +kernel
theorem dX5_clear_6 : decode cX5_clear 6 = .ok (.iconst 0, 1) := by decide +kernel
theorem dX5_clear_7 : decode cX5_clear 7 = .ok (.putfield 25, 3) := by decide +kernel
theorem dX5_clear_10 : decode cX5_clear 10 = .ok (.return_, 1) := by decide +kernel
theorem dX5_beginFunction_0 : decode cX5_beginFunction 0 = .ok (.aload_n 0, 1) := by decide +kernel
theorem dX5_beginFunction_1 : decode cX5_beginFunction 1 = .ok (.getfield 25, 3) := by decide +kernel
theorem dX5_beginFunction_4 : decode cX5_beginFunction 4 = .ok (.iconst 5, 1) := by decide +kernel
theorem dX5_beginFunction_5 : decode cX5_beginFunction 5 = .ok (.if_icmp .ge 16, 3) := by decide +kernel
theorem dX5_beginFunction_8 : decode cX5_beginFunction 8 = .ok (.aload_n 0, 1) := by decide +kernel
theorem dX5_beginFunction_9 : decode cX5_beginFunction 9 = .ok (.getfield 18, 3) := by decide +kernel
theorem dX5_beginFunction_12 : decode cX5_beginFunction 12 = .ok (.aload_n 0, 1) := by decide +kernel
theorem dX5_beginFunction_13 : decode cX5_beginFunction 13 = .ok (.getfield 25, 3) := by decide +kernel
theorem dX5_beginFunction_16 : decode cX5_beginFunction 16 = .ok (.aload_n 0, 1) := by decide +kernel
theorem dX5_beginFunction_17 : decode cX5_beginFunction 17 = .ok (.getfield 21, 3) := by decide +kernel
theorem dX5_beginFunction_20 : decode cX5_beginFunction 20 = .ok (.iastore, 1) := by decide +kernel
theorem dX5_beginFunction_21 : decode cX5_beginFunction 21 = .ok (.return_, 1) := by decide +kernel
theorem dX5_endFunction_0 : decode cX5_endFunction 0 = .ok (.aload_n 0, 1) := by decide +kernel
theorem dX5_endFunction_1 : decode cX5_endFunction 1 = .ok (.bipush 11, 2) := by decide +kernel
theorem dX5_endFunction_3 : decode cX5_endFunction 3 = .ok (.iconst 0, 1) := by decide +kernel
theorem dX5_endFunction_4 : decode cX5_endFunction 4 = .ok (.invokevirtual 28, 3) := by decide +kernel
theorem dX5_endFunction_7 : decode cX5_endFunction 7 = .ok (.pop, 1) := by decide +kernel
theorem dX5_endFunction_8 : decode cX5_endFunction 8 = .ok (.aload_n 0, 1) := by decide +kernel
theorem dX5_endFunction_9 : decode cX5_endFunction 9 = .ok (.getfield 25, 3) := by decide +kernel
theorem dX5_endFunction_12 : decode cX5_endFunction 12 = .ok (.iconst 5, 1) := by decide +kernel
theorem dX5_endFunction_13 : decode cX5_endFunction 13 = .ok (.if_icmp .ge 13, 3) := by decide +kernel
theorem dX5_endFunction_16 : decode cX5_endFunction 16 = .ok (.aload_n 0, 1) := by decide +kernel
theorem dX5_endFunction_17 : decode cX5_endFunction 17 = .ok (.dup, 1) := by decide +kernel
theorem dX5_endFunction_18 : decode cX5_endFunction 18 = .ok (.getfield 25, 3) := by decide +kernel
theorem dX5_endFunction_21 : decode cX5_endFunction 21 = .ok (.iconst 1, 1) := by decide +kernel
theorem dX5_endFunction_22 : decode cX5_endFunction 22 = .ok (.iadd, 1) := by decide +kernel
theorem dX5_endFunction_23 : decode cX5_endFunction 23 = .ok (.putfield 25, 3) := by decide +kernel
theorem dX5_endFunction_26 : decode cX5_endFunction 26 = .ok (.return_, 1) := by decide +kernel
theorem dX5_addStep_0 : decode cX5_addStep 0 = .ok (.aload_n 0, 1) := by decide +kernel
theorem dX5_addStep_1 : decode cX5_addStep 1 = .ok (.getfield 21, 3) := by decide +kernel
theorem dX5_addStep_4 : decode cX5_addStep 4 = .ok (.sipush 320, 3) := by decide +kernel
theorem dX5_addStep_7 : decode cX5_addStep 7 = .ok (.if_icmp .lt 5, 3) := by decide +kernel
theorem dX5_addStep_10 : decode cX5_addStep 10 = .ok (.iconst (-1), 1) := by decide +kernel
theorem dX5_addStep_11 : decode cX5_addStep 11 = .ok (.ireturn, 1) := by decide +kernel
theorem dX5_addStep_12 : decode cX5_addStep 12 = .ok (.aload_n 0, 1) := by decide +kernel
theorem dX5_addStep_13 : decode cX5_addStep 13 = .ok (.getfield 9, 3) := by decide +kernel
theorem dX5_addStep_16 : decode cX5_addStep 16 = .ok (.aload_n 0, 1) := by decide +kernel
theorem dX5_addStep_17 : decode cX5_addStep 17 = .ok (.getfield 21, 3) := by decide +kernel
theorem dX5_addStep_20 : decode cX5_addStep 20 = .ok (.iload_n 1, 1) := by decide +kernel
theorem dX5_addStep_21 : decode cX5_addStep 21 = .ok (.iastore, 1) := by decide +kernel
theorem dX5_addStep_22 : decode cX5_addStep 22 = .ok (.aload_n 0, 1) := by decide +kernel
theorem dX5_addStep_23 : decode cX5_addStep 23 = .ok (.getfield 15, 3) := by decide +kernel
theorem dX5_addStep_26 : decode cX5_addStep 26 = .ok (.aload_n 0, 1) := by decide +kernel
theorem dX5_addStep_27 : decode cX5_addStep 27 = .ok (.getfield 21, 3) := by decide +kernel
theorem dX5_addStep_30 : decode cX5_addStep 30 = .ok (.iload_n 2, 1) := by decide +kernel
theorem dX5_addStep_31 : decode cX5_addStep 31 = .ok (.iastore, 1) := by decide +kernel
theorem dX5_addStep_32 : decode cX5_addStep 32 = .ok (.aload_n 0, 1) := by decide +kernel
theorem dX5_addStep_33 : decode cX5_addStep 33 = .ok (.dup, 1) := by decide +kernel
theorem dX5_addStep_34 : decode cX5_addStep 34 = .ok (.getfield 21, 3) := by decide +kernel
theorem dX5_addStep_37 : decode cX5_addStep 37 = .ok (.iconst 1, 1) := by decide +kernel
theorem dX5_addStep_38 : decode cX5_addStep 38 = .ok (.iadd, 1) := by decide +kernel
theorem dX5_addStep_39 : decode cX5_addStep 39 = .ok (.putfield 21, 3) := by decide +kernel
theorem dX5_addStep_42 : decode cX5_addStep 42 = .ok (.aload_n 0, 1) := by decide +kernel
theorem dX5_addStep_43 : decode cX5_addStep 43 = .ok (.getfield 21, 3) := by decide +kernel
theorem dX5_addStep_46 : decode cX5_addStep 46 = .ok (.iconst 1, 1) := by decide +kernel
theorem dX5_addStep_47 : decode cX5_addStep 47 = .ok (.isub, 1) := by decide +kernel
theorem dX5_addStep_48 : decode cX5_addStep 48 = .ok (.ireturn, 1) := by decide +kernel
theorem dX5_skipToHere_0 : decode cX5_skipToHere 0 = .ok (.iload_n 1, 1) := by decide +kernel
theorem dX5_skipToHere_1 : decode cX5_skipToHere 1 = .ok (.ifCond .lt 21, 3) := by decide +kernel
theorem dX5_skipToHere_4 : decode cX5_skipToHere 4 = .ok (.iload_n 1, 1) := by decide +kernel
theorem dX5_skipToHere_5 : decode cX5_skipToHere 5 = .ok (.aload_n 0, 1) := by decide +kernel
theorem dX5_skipToHere_6 : decode cX5_skipToHere 6 = .ok (.getfield 21, 3) := by decide +kernel
theorem dX5_skipToHere_9 : decode cX5_skipToHere 9 = .ok (.if_icmp .ge 13, 3) := by decide +kernel
theorem dX5_skipToHere_12 : decode cX5_skipToHere 12 = .ok (.aload_n 0, 1) := by decide +kernel
theorem dX5_skipToHere_13 : decode cX5_skipToHere 13 = .ok (.getfield 15, 3) := by decide +kernel
theorem dX5_skipToHere_16 : decode cX5_skipToHere 16 = .ok (.iload_n 1, 1) := by decide +kernel
theorem dX5_skipToHere_17 : decode cX5_skipToHere 17 = .ok (.aload_n 0, 1) := by decide +kernel
theorem dX5_skipToHere_18 : decode cX5_skipToHere 18 = .ok (.getfield 21, 3) := by decide +kernel
theorem dX5_skipToHere_21 : decode cX5_skipToHere 21 = .ok (.iastore, 1) := by decide +kernel
theorem dX5_skipToHere_22 : decode cX5_skipToHere 22 = .ok (.return_, 1) := by decide +kernel
theorem dX5_tellsOf_0 : decode cX5_tellsOf 0 = .ok (.iload_n 1, 1) := by decide +kernel
theorem dX5_tellsOf_1 : decode cX5_tellsOf 1 = .ok (.ifCond .lt 15, 3) := by decide +kernel
theorem dX5_tellsOf_4 : decode cX5_tellsOf 4 = .ok (.iload_n 1, 1) := by decide +kernel
theorem dX5_tellsOf_5 : decode cX5_tellsOf 5 = .ok (.aload_n 0, 1) := by decide +kernel
theorem dX5_tellsOf_6 : decode cX5_tellsOf 6 = .ok (.getfield 25, 3) := by decide +kernel
theorem dX5_tellsOf_9 : decode cX5_tellsOf 9 = .ok (.if_icmp .ge 7, 3) := by decide +kernel
theorem dX5_tellsOf_12 : decode cX5_tellsOf 12 = .ok (.iconst 1, 1) := by decide +kernel
theorem dX5_tellsOf_13 : decode cX5_tellsOf 13 = .ok (.goto 4, 3) := by decide +kernel
theorem dX5_tellsOf_16 : decode cX5_tellsOf 16 = .ok (.iconst 0, 1) := by decide +kernel
theorem dX5_tellsOf_17 : decode cX5_tellsOf 17 = .ok (.ireturn, 1) := by decide +kernel
theorem dX5_startOf_0 : decode cX5_startOf 0 = .ok (.aload_n 0, 1) := by decide +kernel
theorem dX5_startOf_1 : decode cX5_startOf 1 = .ok (.iload_n 1, 1) := by decide +kernel
theorem dX5_startOf_2 : decode cX5_startOf 2 = .ok (.invokevirtual 32, 3) := by decide +kernel
theorem dX5_startOf_5 : decode cX5_startOf 5 = .ok (.ifCond .eq 12, 3) := by decide +kernel
theorem dX5_startOf_8 : decode cX5_startOf 8 = .ok (.aload_n 0, 1) := by decide +kernel
theorem dX5_startOf_9 : decode cX5_startOf 9 = .ok (.getfield 18, 3) := by decide +kernel
theorem dX5_startOf_12 : decode cX5_startOf 12 = .ok (.iload_n 1, 1) := by decide +kernel
theorem dX5_startOf_13 : decode cX5_startOf 13 = .ok (.iaload, 1) := by decide +kernel
theorem dX5_startOf_14 : decode cX5_startOf 14 = .ok (.goto 4, 3) := by decide +kernel
theorem dX5_startOf_17 : decode cX5_startOf 17 = .ok (.iconst (-1), 1) := by decide +kernel
theorem dX5_startOf_18 : decode cX5_startOf 18 = .ok (.ireturn, 1) := by decide +kernel
theorem dX5_stepAt_0 : decode cX5_stepAt 0 = .ok (.iload_n 1, 1) := by decide +kernel
theorem dX5_stepAt_1 : decode cX5_stepAt 1 = .ok (.ifCond .lt 20, 3) := by decide +kernel
theorem dX5_stepAt_4 : decode cX5_stepAt 4 = .ok (.iload_n 1, 1) := by decide +kernel
theorem dX5_stepAt_5 : decode cX5_stepAt 5 = .ok (.aload_n 0, 1) := by decide +kernel
theorem dX5_stepAt_6 : decode cX5_stepAt 6 = .ok (.getfield 21, 3) := by decide +kernel
theorem dX5_stepAt_9 : decode cX5_stepAt 9 = .ok (.if_icmp .ge 12, 3) := by decide +kernel
theorem dX5_stepAt_12 : decode cX5_stepAt 12 = .ok (.aload_n 0, 1) := by decide +kernel
theorem dX5_stepAt_13 : decode cX5_stepAt 13 = .ok (.getfield 9, 3) := by decide +kernel
theorem dX5_stepAt_16 : decode cX5_stepAt 16 = .ok (.iload_n 1, 1) := by decide +kernel
theorem dX5_stepAt_17 : decode cX5_stepAt 17 = .ok (.iaload, 1) := by decide +kernel
theorem dX5_stepAt_18 : decode cX5_stepAt 18 = .ok (.goto 5, 3) := by decide +kernel
theorem dX5_stepAt_21 : decode cX5_stepAt 21 = .ok (.bipush 11, 2) := by decide +kernel
theorem dX5_stepAt_23 : decode cX5_stepAt 23 = .ok (.ireturn, 1) := by decide +kernel
theorem dX5_valueAt_0 : decode cX5_valueAt 0 = .ok (.iload_n 1, 1) := by decide +kernel
theorem dX5_valueAt_1 : decode cX5_valueAt 1 = .ok (.ifCond .lt 20, 3) := by decide +kernel
theorem dX5_valueAt_4 : decode cX5_valueAt 4 = .ok (.iload_n 1, 1) := by decide +kernel
theorem dX5_valueAt_5 : decode cX5_valueAt 5 = .ok (.aload_n 0, 1) := by decide +kernel
theorem dX5_valueAt_6 : decode cX5_valueAt 6 = .ok (.getfield 21, 3) := by decide +kernel
theorem dX5_valueAt_9 : decode cX5_valueAt 9 = .ok (.if_icmp .ge 12, 3) := by decide +kernel
theorem dX5_valueAt_12 : decode cX5_valueAt 12 = .ok (.aload_n 0, 1) := by decide +kernel
theorem dX5_valueAt_13 : decode cX5_valueAt 13 = .ok (.getfield 15, 3) := by decide +kernel
theorem dX5_valueAt_16 : decode cX5_valueAt 16 = .ok (.iload_n 1, 1) := by decide +kernel
theorem dX5_valueAt_17 : decode cX5_valueAt 17 = .ok (.iaload, 1) := by decide +kernel
theorem dX5_valueAt_18 : decode cX5_valueAt 18 = .ok (.goto 4, 3) := by decide +kernel
theorem dX5_valueAt_21 : decode cX5_valueAt 21 = .ok (.iconst 0, 1) := by decide +kernel
theorem dX5_valueAt_22 : decode cX5_valueAt 22 = .ok (.ireturn, 1) := by decide +kernel
theorem dX6_init_0 : decode cX6_init 0 = .ok (.aload_n 0, 1) := by decide +kernel
theorem dX6_init_1 : decode cX6_init 1 = .ok (.invokespecial 3, 3) := by decide +kernel
theorem dX6_init_4 : decode cX6_init 4 = .ok (.aload_n 0, 1) := by decide +kernel
theorem dX6_init_5 : decode cX6_init 5 = .ok (.sipush 160, 3) := by decide +kernel
theorem dX6_init_8 : decode cX6_init 8 = .ok (.newarray .int, 2) := by decide +kernel
theorem dX6_init_10 : decode cX6_init 10 = .ok (.putfield 9, 3) := by decide +kernel
theorem dX6_init_13 : decode cX6_init 13 = .ok (.aload_n 0, 1) := by decide +kernel
theorem dX6_init_14 : decode cX6_init 14 = .ok (.sipush 160, 3) := by decide +kernel
theorem dX6_init_17 : decode cX6_init 17 = .ok (.newarray .int, 2) := by decide +kernel
theorem dX6_init_19 : decode cX6_init 19 = .ok (.putfield 15, 3) := by decide +kernel
theorem dX6_init_22 : decode cX6_init 22 = .ok (.aload_n 0, 1) := by decide +kernel
theorem dX6_init_23 : decode cX6_init 23 = .ok (.sipush 160, 3) := by decide +kernel
theorem dX6_init_26 : decode cX6_init 26 = .ok (.newarray .int, 2) := by decide +kernel
theorem dX6_init_28 : decode cX6_init 28 = .ok (.putfield 18, 3) := by decide +kernel
theorem dX6_init_31 : decode cX6_init 31 = .ok (.return_, 1) := by decide +kernel
theorem dX6_readInto_0 : decode cX6_readInto 0 = .ok (.aload_n 0, 1) := by decide +kernel
theorem dX6_readInto_1 : decode cX6_readInto 1 = .ok (.aload_n 1, 1) := by decide +kernel
theorem dX6_readInto_2 : decode cX6_readInto 2 = .ok (.putfield 21, 3) := by decide +kernel
theorem dX6_readInto_5 : decode cX6_readInto 5 = .ok (.aload_n 0, 1) := by decide +kernel
theorem dX6_readInto_6 : decode cX6_readInto 6 = .ok (.getfield 21, 3) := by decide +kernel
theorem dX6_readInto_9 : decode cX6_readInto 9 = .ok (.invokevirtual 25, 3) := by decide +kernel
theorem dX6_readInto_12 : decode cX6_readInto 12 = .ok (.aload_n 0, 1) := by decide +kernel
theorem dX6_readInto_13 : decode cX6_readInto 13 = .ok (.iconst 0, 1) := by decide +kernel
theorem dX6_readInto_14 : decode cX6_readInto 14 = .ok (.putfield 30, 3) := by decide +kernel
theorem dX6_readInto_17 : decode cX6_readInto 17 = .ok (.iload_n 3, 1) := by decide +kernel
theorem dX6_readInto_18 : decode cX6_readInto 18 = .ok (.aload_n 2, 1) := by decide +kernel
theorem dX6_readInto_19 : decode cX6_readInto 19 = .ok (.arraylength, 1) := by decide +kernel
theorem dX6_readInto_20 : decode cX6_readInto 20 = .ok (.invokestatic 34, 3) := by decide +kernel
theorem dX6_readInto_23 : decode cX6_readInto 23 = .ok (.istore 4, 2) := by decide +kernel
theorem dX6_readInto_25 : decode cX6_readInto 25 = .ok (.aload_n 0, 1) := by decide +kernel
theorem dX6_readInto_26 : decode cX6_readInto 26 = .ok (.iconst 0, 1) := by decide +kernel
theorem dX6_readInto_27 : decode cX6_readInto 27 = .ok (.putfield 40, 3) := by decide +kernel
theorem dX6_readInto_30 : decode cX6_readInto 30 = .ok (.aload_n 0, 1) := by decide +kernel
theorem dX6_readInto_31 : decode cX6_readInto 31 = .ok (.getfield 40, 3) := by decide +kernel
theorem dX6_readInto_34 : decode cX6_readInto 34 = .ok (.iload 4, 2) := by decide +kernel
theorem dX6_readInto_36 : decode cX6_readInto 36 = .ok (.if_icmp .ge 51, 3) := by decide +kernel
theorem dX6_readInto_39 : decode cX6_readInto 39 = .ok (.aload_n 2, 1) := by decide +kernel
theorem dX6_readInto_40 : decode cX6_readInto 40 = .ok (.aload_n 0, 1) := by decide +kernel
theorem dX6_readInto_41 : decode cX6_readInto 41 = .ok (.getfield 40, 3) := by decide +kernel
theorem dX6_readInto_44 : decode cX6_readInto 44 = .ok (.iaload, 1) := by decide +kernel
theorem dX6_readInto_45 : decode cX6_readInto 45 = .ok (.bipush 32, 2) := by decide +kernel
theorem dX6_readInto_47 : decode cX6_readInto 47 = .ok (.if_icmp .ne 7, 3) := by decide +kernel
theorem dX6_readInto_50 : decode cX6_readInto 50 = .ok (.iconst 0, 1) := by decide +kernel
theorem dX6_readInto_51 : decode cX6_readInto 51 = .ok (.goto 13, 3) := by decide +kernel
theorem dX6_readInto_54 : decode cX6_readInto 54 = .ok (.aload_n 0, 1) := by decide +kernel
theorem dX6_readInto_55 : decode cX6_readInto 55 = .ok (.aload_n 2, 1) := by decide +kernel
theorem dX6_readInto_56 : decode cX6_readInto 56 = .ok (.aload_n 0, 1) := by decide +kernel
theorem dX6_readInto_57 : decode cX6_readInto 57 = .ok (.getfield 40, 3) := by decide +kernel
theorem dX6_readInto_60 : decode cX6_readInto 60 = .ok (.iaload, 1) := by decide +kernel
theorem dX6_readInto_61 : decode cX6_readInto 61 = .ok (.invokevirtual 43, 3) := by decide +kernel
theorem dX6_readInto_64 : decode cX6_readInto 64 = .ok (.istore 5, 2) := by decide +kernel
theorem dX6_readInto_66 : decode cX6_readInto 66 = .ok (.iload 5, 2) := by decide +kernel
theorem dX6_readInto_68 : decode cX6_readInto 68 = .ok (.ifCond .eq 6, 3) := by decide +kernel
theorem dX6_readInto_71 : decode cX6_readInto 71 = .ok (.iload 5, 2) := by decide +kernel
theorem dX6_readInto_73 : decode cX6_readInto 73 = .ok (.ireturn, 1) := by decide +kernel
theorem dX6_readInto_74 : decode cX6_readInto 74 = .ok (.aload_n 0, 1) := by decide +kernel
theorem dX6_readInto_75 : decode cX6_readInto 75 = .ok (.dup, 1) := by decide +kernel
theorem dX6_readInto_76 : decode cX6_readInto 76 = .ok (.getfield 40, 3) := by decide +kernel
theorem dX6_readInto_79 : decode cX6_readInto 79 = .ok (.iconst 1, 1) := by decide +kernel
theorem dX6_readInto_80 : decode cX6_readInto 80 = .ok (.iadd, 1) := by decide +kernel
theorem dX6_readInto_81 : decode cX6_readInto 81 = .ok (.putfield 40, 3) := by decide +kernel
theorem dX6_readInto_84 : decode cX6_readInto 84 = .ok (.goto (-54), 3) := by decide +kernel
theorem dX6_readInto_87 : decode cX6_readInto 87 = .ok (.aload_n 0, 1) := by decide +kernel
theorem dX6_readInto_88 : decode cX6_readInto 88 = .ok (.getfield 30, 3) := by decide +kernel
theorem dX6_readInto_91 : decode cX6_readInto 91 = .ok (.ifCond .ne 17, 3) := by decide +kernel
theorem dX6_readInto_94 : decode cX6_readInto 94 = .ok (.aload_n 0, 1) := by decide +kernel
theorem dX6_readInto_95 : decode cX6_readInto 95 = .ok (.getfield 21, 3) := by decide +kernel
theorem dX6_readInto_98 : decode cX6_readInto 98 = .ok (.getfield 47, 3) := by decide +kernel
theorem dX6_readInto_101 : decode cX6_readInto 101 = .ok (.ifCond .le 7, 3) := by decide +kernel
theorem dX6_readInto_104 : decode cX6_readInto 104 = .ok (.iconst 0, 1) := by decide +kernel
theorem dX6_readInto_105 : decode cX6_readInto 105 = .ok (.goto 4, 3) := by decide +kernel
theorem dX6_readInto_108 : decode cX6_readInto 108 = .ok (.iconst 1, 1) := by decide +kernel
theorem dX6_readInto_109 : decode cX6_readInto 109 = .ok (.ireturn, 1) := by decide +kernel
theorem dX6_readLetter_0 : decode cX6_readLetter 0 = .ok (.aload_n 0, 1) := by decide +kernel
theorem dX6_readLetter_1 : decode cX6_readLetter 1 = .ok (.getfield 30, 3) := by decide +kernel
theorem dX6_readLetter_4 : decode cX6_readLetter 4 = .ok (.tableswitch 46 0 2 #[28, 34, 40], 28) := by decide +kernel
theorem dX6_readLetter_32 : decode cX6_readLetter 32 = .ok (.aload_n 0, 1) := by decide +kernel
theorem dX6_readLetter_33 : decode cX6_readLetter 33 = .ok (.iload_n 1, 1) := by decide +kernel
theorem dX6_readLetter_34 : decode cX6_readLetter 34 = .ok (.invokevirtual 50, 3) := by decide +kernel
theorem dX6_readLetter_37 : decode cX6_readLetter 37 = .ok (.ireturn, 1) := by decide +kernel
theorem dX6_readLetter_38 : decode cX6_readLetter 38 = .ok (.aload_n 0, 1) := by decide +kernel
theorem dX6_readLetter_39 : decode cX6_readLetter 39 = .ok (.iload_n 1, 1) := by decide +kernel
theorem dX6_readLetter_40 : decode cX6_readLetter 40 = .ok (.invokevirtual 53, 3) := by decide +kernel
theorem dX6_readLetter_43 : decode cX6_readLetter 43 = .ok (.ireturn, 1) := by decide +kernel
theorem dX6_readLetter_44 : decode cX6_readLetter 44 = .ok (.aload_n 0, 1) := by decide +kernel
theorem dX6_readLetter_45 : decode cX6_readLetter 45 = .ok (.iload_n 1, 1) := by decide +kernel
theorem dX6_readLetter_46 : decode cX6_readLetter 46 = .ok (.invokevirtual 56, 3) := by decide +kernel
theorem dX6_readLetter_49 : decode cX6_readLetter 49 = .ok (.ireturn, 1) := by decide +kernel
theorem dX6_readLetter_50 : decode cX6_readLetter 50 = .ok (.aload_n 0, 1) := by decide +kernel
theorem dX6_readLetter_51 : decode cX6_readLetter 51 = .ok (.iload_n 1, 1) := by decide +kernel
theorem dX6_readLetter_52 : decode cX6_readLetter 52 = .ok (.invokevirtual 59, 3) := by decide +kernel
theorem dX6_readLetter_55 : decode cX6_readLetter 55 = .ok (.ireturn, 1) := by decide +kernel
theorem dX6_beginFunction_0 : decode cX6_beginFunction 0 = .ok (.iload_n 1, 1) := by decide +kernel
theorem dX6_beginFunction_1 : decode cX6_beginFunction 1 = .ok (.bipush 100, 2) := by decide +kernel
theorem dX6_beginFunction_3 : decode cX6_beginFunction 3 = .ok (.if_icmp .eq 5, 3) := by decide +kernel
theorem dX6_beginFunction_6 : decode cX6_beginFunction 6 = .ok (.iconst 1, 1) := by decide +kernel
theorem dX6_beginFunction_7 : decode cX6_beginFunction 7 = .ok (.ireturn, 1) := by decide +kernel
theorem dX6_beginFunction_8 : decode cX6_beginFunction 8 = .ok (.aload_n 0, 1) := by decide +kernel
theorem dX6_beginFunction_9 : decode cX6_beginFunction 9 = .ok (.getfield 21, 3) := by decide +kernel
theorem dX6_beginFunction_12 : decode cX6_beginFunction 12 = .ok (.getfield 47, 3) := by decide +kernel
theorem dX6_beginFunction_15 : decode cX6_beginFunction 15 = .ok (.iconst 5, 1) := by decide +kernel
theorem dX6_beginFunction_16 : decode cX6_beginFunction 16 = .ok (.if_icmp .lt 5, 3) := by decide +kernel
theorem dX6_beginFunction_19 : decode cX6_beginFunction 19 = .ok (.iconst 3, 1) := by decide +kernel
theorem dX6_beginFunction_20 : decode cX6_beginFunction 20 = .ok (.ireturn, 1) := by decide +kernel
theorem dX6_beginFunction_21 : decode cX6_beginFunction 21 = .ok (.aload_n 0, 1) := by decide +kernel
theorem dX6_beginFunction_22 : decode cX6_beginFunction 22 = .ok (.getfield 21, 3) := by decide +kernel
theorem dX6_beginFunction_25 : decode cX6_beginFunction 25 = .ok (.invokevirtual 62, 3) := by decide +kernel
theorem dX6_beginFunction_28 : decode cX6_beginFunction 28 = .ok (.aload_n 0, 1) := by decide +kernel
theorem dX6_beginFunction_29 : decode cX6_beginFunction 29 = .ok (.iconst 0, 1) := by decide +kernel
theorem dX6_beginFunction_30 : decode cX6_beginFunction 30 = .ok (.putfield 64, 3) := by decide +kernel
theorem dX6_beginFunction_33 : decode cX6_beginFunction 33 = .ok (.aload_n 0, 1) := by decide +kernel
theorem dX6_beginFunction_34 : decode cX6_beginFunction 34 = .ok (.iconst 0, 1) := by decide +kernel
theorem dX6_beginFunction_35 : decode cX6_beginFunction 35 = .ok (.putfield 67, 3) := by decide +kernel
theorem dX6_beginFunction_38 : decode cX6_beginFunction 38 = .ok (.aload_n 0, 1) := by decide +kernel
theorem dX6_beginFunction_39 : decode cX6_beginFunction 39 = .ok (.iconst 1, 1) := by decide +kernel
theorem dX6_beginFunction_40 : decode cX6_beginFunction 40 = .ok (.putfield 30, 3) := by decide +kernel
theorem dX6_beginFunction_43 : decode cX6_beginFunction 43 = .ok (.iconst 0, 1) := by decide +kernel
theorem dX6_beginFunction_44 : decode cX6_beginFunction 44 = .ok (.ireturn, 1) := by decide +kernel
theorem dX6_endFunction_0 : decode cX6_endFunction 0 = .ok (.iload_n 1, 1) := by decide +kernel
theorem dX6_endFunction_1 : decode cX6_endFunction 1 = .ok (.bipush 59, 2) := by decide +kernel
theorem dX6_endFunction_3 : decode cX6_endFunction 3 = .ok (.if_icmp .eq 5, 3) := by decide +kernel
theorem dX6_endFunction_6 : decode cX6_endFunction 6 = .ok (.iconst 1, 1) := by decide +kernel
theorem dX6_endFunction_7 : decode cX6_endFunction 7 = .ok (.ireturn, 1) := by decide +kernel
theorem dX6_endFunction_8 : decode cX6_endFunction 8 = .ok (.aload_n 0, 1) := by decide +kernel
theorem dX6_endFunction_9 : decode cX6_endFunction 9 = .ok (.getfield 21, 3) := by decide +kernel
theorem dX6_endFunction_12 : decode cX6_endFunction 12 = .ok (.invokevirtual 70, 3) := by decide +kernel
theorem dX6_endFunction_15 : decode cX6_endFunction 15 = .ok (.aload_n 0, 1) := by decide +kernel
theorem dX6_endFunction_16 : decode cX6_endFunction 16 = .ok (.iconst 0, 1) := by decide +kernel
theorem dX6_endFunction_17 : decode cX6_endFunction 17 = .ok (.putfield 30, 3) := by decide +kernel
theorem dX6_endFunction_20 : decode cX6_endFunction 20 = .ok (.iconst 0, 1) := by decide +kernel
theorem dX6_endFunction_21 : decode cX6_endFunction 21 = .ok (.ireturn, 1) := by decide +kernel
theorem dX6_beginTerm_0 : decode cX6_beginTerm 0 = .ok (.iload_n 1, 1) := by decide +kernel
theorem dX6_beginTerm_1 : decode cX6_beginTerm 1 = .ok (.invokestatic 72, 3) := by decide +kernel
theorem dX6_beginTerm_4 : decode cX6_beginTerm 4 = .ok (.ifCond .eq 13, 3) := by decide +kernel
theorem dX6_beginTerm_7 : decode cX6_beginTerm 7 = .ok (.aload_n 0, 1) := by decide +kernel
theorem dX6_beginTerm_8 : decode cX6_beginTerm 8 = .ok (.iconst 0, 1) := by decide +kernel
theorem dX6_beginTerm_9 : decode cX6_beginTerm 9 = .ok (.iload_n 1, 1) := by decide +kernel
theorem dX6_beginTerm_10 : decode cX6_beginTerm 10 = .ok (.bipush 48, 2) := by decide +kernel
theorem dX6_beginTerm_12 : decode cX6_beginTerm 12 = .ok (.isub, 1) := by decide +kernel
theorem dX6_beginTerm_13 : decode cX6_beginTerm 13 = .ok (.invokevirtual 76, 3) := by decide +kernel
theorem dX6_beginTerm_16 : decode cX6_beginTerm 16 = .ok (.ireturn, 1) := by decide +kernel
theorem dX6_beginTerm_17 : decode cX6_beginTerm 17 = .ok (.iload_n 1, 1) := by decide +kernel
theorem dX6_beginTerm_18 : decode cX6_beginTerm 18 = .ok (.lookupswitch 137 #[(42, 110), (43, 94), (45, 102), (60, 119), (63, 128), (102, 89), (110, 74), (120, 81)], 74) := by decide +kernel
theorem dX6_beginTerm_92 : decode cX6_beginTerm 92 = .ok (.aload_n 0, 1) := by decide +kernel
theorem dX6_beginTerm_93 : decode cX6_beginTerm 93 = .ok (.iconst 1, 1) := by decide +kernel
theorem dX6_beginTerm_94 : decode cX6_beginTerm 94 = .ok (.iconst 0, 1) := by decide +kernel
theorem dX6_beginTerm_95 : decode cX6_beginTerm 95 = .ok (.invokevirtual 76, 3) := by decide +kernel
theorem dX6_beginTerm_98 : decode cX6_beginTerm 98 = .ok (.ireturn, 1) := by decide +kernel
theorem dX6_beginTerm_99 : decode cX6_beginTerm 99 = .ok (.aload_n 0, 1) := by decide +kernel
theorem dX6_beginTerm_100 : decode cX6_beginTerm 100 = .ok (.iconst 2, 1) := by decide +kernel
theorem dX6_beginTerm_101 : decode cX6_beginTerm 101 = .ok (.iconst 0, 1) := by decide +kernel
theorem dX6_beginTerm_102 : decode cX6_beginTerm 102 = .ok (.iconst 1, 1) := by decide +kernel
theorem dX6_beginTerm_103 : decode cX6_beginTerm 103 = .ok (.invokevirtual 79, 3) := by decide +kernel
theorem dX6_beginTerm_106 : decode cX6_beginTerm 106 = .ok (.ireturn, 1) := by decide +kernel
theorem dX6_beginTerm_107 : decode cX6_beginTerm 107 = .ok (.aload_n 0, 1) := by decide +kernel
theorem dX6_beginTerm_108 : decode cX6_beginTerm 108 = .ok (.invokevirtual 83, 3) := by decide +kernel
theorem dX6_beginTerm_111 : decode cX6_beginTerm 111 = .ok (.ireturn, 1) := by decide +kernel
theorem dX6_beginTerm_112 : decode cX6_beginTerm 112 = .ok (.aload_n 0, 1) := by decide +kernel
theorem dX6_beginTerm_113 : decode cX6_beginTerm 113 = .ok (.iconst 4, 1) := by decide +kernel
theorem dX6_beginTerm_114 : decode cX6_beginTerm 114 = .ok (.iconst 0, 1) := by decide +kernel
theorem dX6_beginTerm_115 : decode cX6_beginTerm 115 = .ok (.iconst 2, 1) := by decide +kernel
theorem dX6_beginTerm_116 : decode cX6_beginTerm 116 = .ok (.invokevirtual 79, 3) := by decide +kernel
theorem dX6_beginTerm_119 : decode cX6_beginTerm 119 = .ok (.ireturn, 1) := by decide +kernel
theorem dX6_beginTerm_120 : decode cX6_beginTerm 120 = .ok (.aload_n 0, 1) := by decide +kernel
theorem dX6_beginTerm_121 : decode cX6_beginTerm 121 = .ok (.iconst 5, 1) := by decide +kernel
theorem dX6_beginTerm_122 : decode cX6_beginTerm 122 = .ok (.iconst 0, 1) := by decide +kernel
theorem dX6_beginTerm_123 : decode cX6_beginTerm 123 = .ok (.iconst 2, 1) := by decide +kernel
theorem dX6_beginTerm_124 : decode cX6_beginTerm 124 = .ok (.invokevirtual 79, 3) := by decide +kernel
theorem dX6_beginTerm_127 : decode cX6_beginTerm 127 = .ok (.ireturn, 1) := by decide +kernel
theorem dX6_beginTerm_128 : decode cX6_beginTerm 128 = .ok (.aload_n 0, 1) := by decide +kernel
theorem dX6_beginTerm_129 : decode cX6_beginTerm 129 = .ok (.bipush 6, 2) := by decide +kernel
theorem dX6_beginTerm_131 : decode cX6_beginTerm 131 = .ok (.iconst 0, 1) := by decide +kernel
theorem dX6_beginTerm_132 : decode cX6_beginTerm 132 = .ok (.iconst 2, 1) := by decide +kernel
theorem dX6_beginTerm_133 : decode cX6_beginTerm 133 = .ok (.invokevirtual 79, 3) := by decide +kernel
theorem dX6_beginTerm_136 : decode cX6_beginTerm 136 = .ok (.ireturn, 1) := by decide +kernel
theorem dX6_beginTerm_137 : decode cX6_beginTerm 137 = .ok (.aload_n 0, 1) := by decide +kernel
theorem dX6_beginTerm_138 : decode cX6_beginTerm 138 = .ok (.bipush 7, 2) := by decide +kernel
theorem dX6_beginTerm_140 : decode cX6_beginTerm 140 = .ok (.iconst 0, 1) := by decide +kernel
theorem dX6_beginTerm_141 : decode cX6_beginTerm 141 = .ok (.iconst 2, 1) := by decide +kernel
theorem dX6_beginTerm_142 : decode cX6_beginTerm 142 = .ok (.invokevirtual 79, 3) := by decide +kernel
theorem dX6_beginTerm_145 : decode cX6_beginTerm 145 = .ok (.ireturn, 1) := by decide +kernel
theorem dX6_beginTerm_146 : decode cX6_beginTerm 146 = .ok (.aload_n 0, 1) := by decide +kernel
theorem dX6_beginTerm_147 : decode cX6_beginTerm 147 = .ok (.bipush 8, 2) := by decide +kernel
theorem dX6_beginTerm_149 : decode cX6_beginTerm 149 = .ok (.iconst (-1), 1) := by decide +kernel
theorem dX6_beginTerm_150 : decode cX6_beginTerm 150 = .ok (.iconst 3, 1) := by decide +kernel
theorem dX6_beginTerm_151 : decode cX6_beginTerm 151 = .ok (.invokevirtual 79, 3) := by decide +kernel
theorem dX6_beginTerm_154 : decode cX6_beginTerm 154 = .ok (.ireturn, 1) := by decide +kernel
theorem dX6_beginTerm_155 : decode cX6_beginTerm 155 = .ok (.iconst 1, 1) := by decide +kernel
theorem dX6_beginTerm_156 : decode cX6_beginTerm 156 = .ok (.ireturn, 1) := by decide +kernel
theorem dX6_beginCall_0 : decode cX6_beginCall 0 = .ok (.aload_n 0, 1) := by decide +kernel
theorem dX6_beginCall_1 : decode cX6_beginCall 1 = .ok (.getfield 67, 3) := by decide +kernel
theorem dX6_beginCall_4 : decode cX6_beginCall 4 = .ok (.iconst 3, 1) := by decide +kernel
theorem dX6_beginCall_5 : decode cX6_beginCall 5 = .ok (.if_icmp .lt 5, 3) := by decide +kernel
theorem dX6_beginCall_8 : decode cX6_beginCall 8 = .ok (.iconst 4, 1) := by decide +kernel
theorem dX6_beginCall_9 : decode cX6_beginCall 9 = .ok (.ireturn, 1) := by decide +kernel
theorem dX6_beginCall_10 : decode cX6_beginCall 10 = .ok (.aload_n 0, 1) := by decide +kernel
theorem dX6_beginCall_11 : decode cX6_beginCall 11 = .ok (.dup, 1) := by decide +kernel
theorem dX6_beginCall_12 : decode cX6_beginCall 12 = .ok (.getfield 67, 3) := by decide +kernel
theorem dX6_beginCall_15 : decode cX6_beginCall 15 = .ok (.iconst 1, 1) := by decide +kernel
theorem dX6_beginCall_16 : decode cX6_beginCall 16 = .ok (.iadd, 1) := by decide +kernel
theorem dX6_beginCall_17 : decode cX6_beginCall 17 = .ok (.putfield 67, 3) := by decide +kernel
theorem dX6_beginCall_20 : decode cX6_beginCall 20 = .ok (.aload_n 0, 1) := by decide +kernel
theorem dX6_beginCall_21 : decode cX6_beginCall 21 = .ok (.iconst 2, 1) := by decide +kernel
theorem dX6_beginCall_22 : decode cX6_beginCall 22 = .ok (.putfield 30, 3) := by decide +kernel
theorem dX6_beginCall_25 : decode cX6_beginCall 25 = .ok (.iconst 0, 1) := by decide +kernel
theorem dX6_beginCall_26 : decode cX6_beginCall 26 = .ok (.ireturn, 1) := by decide +kernel
theorem dX6_readCalledFunction_0 : decode cX6_readCalledFunction 0 = .ok (.iload_n 1, 1) := by decide +kernel
theorem dX6_readCalledFunction_1 : decode cX6_readCalledFunction 1 = .ok (.invokestatic 72, 3) := by decide +kernel
theorem dX6_readCalledFunction_4 : decode cX6_readCalledFunction 4 = .ok (.ifCond .ne 5, 3) := by decide +kernel
theorem dX6_readCalledFunction_7 : decode cX6_readCalledFunction 7 = .ok (.iconst 1, 1) := by decide +kernel
theorem dX6_readCalledFunction_8 : decode cX6_readCalledFunction 8 = .ok (.ireturn, 1) := by decide +kernel
theorem dX6_readCalledFunction_9 : decode cX6_readCalledFunction 9 = .ok (.iload_n 1, 1) := by decide +kernel
theorem dX6_readCalledFunction_10 : decode cX6_readCalledFunction 10 = .ok (.bipush 48, 2) := by decide +kernel
theorem dX6_readCalledFunction_12 : decode cX6_readCalledFunction 12 = .ok (.isub, 1) := by decide +kernel
theorem dX6_readCalledFunction_13 : decode cX6_readCalledFunction 13 = .ok (.iconst 5, 1) := by decide +kernel
theorem dX6_readCalledFunction_14 : decode cX6_readCalledFunction 14 = .ok (.if_icmp .lt 5, 3) := by decide +kernel
theorem dX6_readCalledFunction_17 : decode cX6_readCalledFunction 17 = .ok (.iconst 2, 1) := by decide +kernel
theorem dX6_readCalledFunction_18 : decode cX6_readCalledFunction 18 = .ok (.ireturn, 1) := by decide +kernel
theorem dX6_readCalledFunction_19 : decode cX6_readCalledFunction 19 = .ok (.aload_n 0, 1) := by decide +kernel
theorem dX6_readCalledFunction_20 : decode cX6_readCalledFunction 20 = .ok (.iconst 1, 1) := by decide +kernel
theorem dX6_readCalledFunction_21 : decode cX6_readCalledFunction 21 = .ok (.putfield 30, 3) := by decide +kernel
theorem dX6_readCalledFunction_24 : decode cX6_readCalledFunction 24 = .ok (.aload_n 0, 1) := by decide +kernel
theorem dX6_readCalledFunction_25 : decode cX6_readCalledFunction 25 = .ok (.iconst 3, 1) := by decide +kernel
theorem dX6_readCalledFunction_26 : decode cX6_readCalledFunction 26 = .ok (.iload_n 1, 1) := by decide +kernel
theorem dX6_readCalledFunction_27 : decode cX6_readCalledFunction 27 = .ok (.bipush 48, 2) := by decide +kernel
theorem dX6_readCalledFunction_29 : decode cX6_readCalledFunction 29 = .ok (.isub, 1) := by decide +kernel
theorem dX6_readCalledFunction_30 : decode cX6_readCalledFunction 30 = .ok (.iconst 1, 1) := by decide +kernel
theorem dX6_readCalledFunction_31 : decode cX6_readCalledFunction 31 = .ok (.invokevirtual 79, 3) := by decide +kernel
theorem dX6_readCalledFunction_34 : decode cX6_readCalledFunction 34 = .ok (.ireturn, 1) := by decide +kernel
theorem dX6_openTerm_0 : decode cX6_openTerm 0 = .ok (.aload_n 0, 1) := by decide +kernel
theorem dX6_openTerm_1 : decode cX6_openTerm 1 = .ok (.getfield 64, 3) := by decide +kernel
theorem dX6_openTerm_4 : decode cX6_openTerm 4 = .ok (.sipush 160, 3) := by decide +kernel
theorem dX6_openTerm_7 : decode cX6_openTerm 7 = .ok (.if_icmp .lt 5, 3) := by decide +kernel
theorem dX6_openTerm_10 : decode cX6_openTerm 10 = .ok (.iconst 1, 1) := by decide +kernel
theorem dX6_openTerm_11 : decode cX6_openTerm 11 = .ok (.ireturn, 1) := by decide +kernel
theorem dX6_openTerm_12 : decode cX6_openTerm 12 = .ok (.aload_n 0, 1) := by decide +kernel
theorem dX6_openTerm_13 : decode cX6_openTerm 13 = .ok (.getfield 9, 3) := by decide +kernel
theorem dX6_openTerm_16 : decode cX6_openTerm 16 = .ok (.aload_n 0, 1) := by decide +kernel
theorem dX6_openTerm_17 : decode cX6_openTerm 17 = .ok (.getfield 64, 3) := by decide +kernel
theorem dX6_openTerm_20 : decode cX6_openTerm 20 = .ok (.iload_n 1, 1) := by decide +kernel
theorem dX6_openTerm_21 : decode cX6_openTerm 21 = .ok (.iastore, 1) := by decide +kernel
theorem dX6_openTerm_22 : decode cX6_openTerm 22 = .ok (.aload_n 0, 1) := by decide +kernel
theorem dX6_openTerm_23 : decode cX6_openTerm 23 = .ok (.getfield 15, 3) := by decide +kernel
theorem dX6_openTerm_26 : decode cX6_openTerm 26 = .ok (.aload_n 0, 1) := by decide +kernel
theorem dX6_openTerm_27 : decode cX6_openTerm 27 = .ok (.getfield 64, 3) := by decide +kernel
theorem dX6_openTerm_30 : decode cX6_openTerm 30 = .ok (.iload_n 2, 1) := by decide +kernel
theorem dX6_openTerm_31 : decode cX6_openTerm 31 = .ok (.iastore, 1) := by decide +kernel
theorem dX6_openTerm_32 : decode cX6_openTerm 32 = .ok (.aload_n 0, 1) := by decide +kernel
theorem dX6_openTerm_33 : decode cX6_openTerm 33 = .ok (.getfield 18, 3) := by decide +kernel
theorem dX6_openTerm_36 : decode cX6_openTerm 36 = .ok (.aload_n 0, 1) := by decide +kernel
theorem dX6_openTerm_37 : decode cX6_openTerm 37 = .ok (.getfield 64, 3) := by decide +kernel
theorem dX6_openTerm_40 : decode cX6_openTerm 40 = .ok (.iload_n 3, 1) := by decide +kernel
theorem dX6_openTerm_41 : decode cX6_openTerm 41 = .ok (.iastore, 1) := by decide +kernel
theorem dX6_openTerm_42 : decode cX6_openTerm 42 = .ok (.aload_n 0, 1) := by decide +kernel
theorem dX6_openTerm_43 : decode cX6_openTerm 43 = .ok (.dup, 1) := by decide +kernel
theorem dX6_openTerm_44 : decode cX6_openTerm 44 = .ok (.getfield 64, 3) := by decide +kernel
theorem dX6_openTerm_47 : decode cX6_openTerm 47 = .ok (.iconst 1, 1) := by decide +kernel
theorem dX6_openTerm_48 : decode cX6_openTerm 48 = .ok (.iadd, 1) := by decide +kernel
theorem dX6_openTerm_49 : decode cX6_openTerm 49 = .ok (.putfield 64, 3) := by decide +kernel
theorem dX6_openTerm_52 : decode cX6_openTerm 52 = .ok (.iconst 0, 1) := by decide +kernel
theorem dX6_openTerm_53 : decode cX6_openTerm 53 = .ok (.ireturn, 1) := by decide +kernel
theorem dX6_readLeaf_0 : decode cX6_readLeaf 0 = .ok (.aload_n 0, 1) := by decide +kernel
theorem dX6_readLeaf_1 : decode cX6_readLeaf 1 = .ok (.getfield 21, 3) := by decide +kernel
theorem dX6_readLeaf_4 : decode cX6_readLeaf 4 = .ok (.iload_n 1, 1) := by decide +kernel
theorem dX6_readLeaf_5 : decode cX6_readLeaf 5 = .ok (.iload_n 2, 1) := by decide +kernel
theorem dX6_readLeaf_6 : decode cX6_readLeaf 6 = .ok (.invokevirtual 87, 3) := by decide +kernel
theorem dX6_readLeaf_9 : decode cX6_readLeaf 9 = .ok (.pop, 1) := by decide +kernel
theorem dX6_readLeaf_10 : decode cX6_readLeaf 10 = .ok (.aload_n 0, 1) := by decide +kernel
theorem dX6_readLeaf_11 : decode cX6_readLeaf 11 = .ok (.getfield 64, 3) := by decide +kernel
theorem dX6_readLeaf_14 : decode cX6_readLeaf 14 = .ok (.iconst 1, 1) := by decide +kernel
theorem dX6_readLeaf_15 : decode cX6_readLeaf 15 = .ok (.isub, 1) := by decide +kernel
theorem dX6_readLeaf_16 : decode cX6_readLeaf 16 = .ok (.istore_n 3, 1) := by decide +kernel
theorem dX6_readLeaf_17 : decode cX6_readLeaf 17 = .ok (.iload_n 3, 1) := by decide +kernel
theorem dX6_readLeaf_18 : decode cX6_readLeaf 18 = .ok (.ifCond .lt 82, 3) := by decide +kernel
theorem dX6_readLeaf_21 : decode cX6_readLeaf 21 = .ok (.aload_n 0, 1) := by decide +kernel
theorem dX6_readLeaf_22 : decode cX6_readLeaf 22 = .ok (.getfield 18, 3) := by decide +kernel
theorem dX6_readLeaf_25 : decode cX6_readLeaf 25 = .ok (.iload_n 3, 1) := by decide +kernel
theorem dX6_readLeaf_26 : decode cX6_readLeaf 26 = .ok (.dup2, 1) := by decide +kernel
theorem dX6_readLeaf_27 : decode cX6_readLeaf 27 = .ok (.iaload, 1) := by decide +kernel
theorem dX6_readLeaf_28 : decode cX6_readLeaf 28 = .ok (.iconst 1, 1) := by decide +kernel
theorem dX6_readLeaf_29 : decode cX6_readLeaf 29 = .ok (.isub, 1) := by decide +kernel
theorem dX6_readLeaf_30 : decode cX6_readLeaf 30 = .ok (.iastore, 1) := by decide +kernel
theorem dX6_readLeaf_31 : decode cX6_readLeaf 31 = .ok (.aload_n 0, 1) := by decide +kernel
theorem dX6_readLeaf_32 : decode cX6_readLeaf 32 = .ok (.getfield 9, 3) := by decide +kernel
theorem dX6_readLeaf_35 : decode cX6_readLeaf 35 = .ok (.iload_n 3, 1) := by decide +kernel
theorem dX6_readLeaf_36 : decode cX6_readLeaf 36 = .ok (.iaload, 1) := by decide +kernel
theorem dX6_readLeaf_37 : decode cX6_readLeaf 37 = .ok (.bipush 8, 2) := by decide +kernel
theorem dX6_readLeaf_39 : decode cX6_readLeaf 39 = .ok (.if_icmp .ne 8, 3) := by decide +kernel
theorem dX6_readLeaf_42 : decode cX6_readLeaf 42 = .ok (.aload_n 0, 1) := by decide +kernel
theorem dX6_readLeaf_43 : decode cX6_readLeaf 43 = .ok (.iload_n 3, 1) := by decide +kernel
theorem dX6_readLeaf_44 : decode cX6_readLeaf 44 = .ok (.invokevirtual 90, 3) := by decide +kernel
theorem dX6_readLeaf_47 : decode cX6_readLeaf 47 = .ok (.aload_n 0, 1) := by decide +kernel
theorem dX6_readLeaf_48 : decode cX6_readLeaf 48 = .ok (.getfield 18, 3) := by decide +kernel
theorem dX6_readLeaf_51 : decode cX6_readLeaf 51 = .ok (.iload_n 3, 1) := by decide +kernel
theorem dX6_readLeaf_52 : decode cX6_readLeaf 52 = .ok (.iaload, 1) := by decide +kernel
theorem dX6_readLeaf_53 : decode cX6_readLeaf 53 = .ok (.ifCond .le 5, 3) := by decide +kernel
theorem dX6_readLeaf_56 : decode cX6_readLeaf 56 = .ok (.iconst 0, 1) := by decide +kernel
theorem dX6_readLeaf_57 : decode cX6_readLeaf 57 = .ok (.ireturn, 1) := by decide +kernel
theorem dX6_readLeaf_58 : decode cX6_readLeaf 58 = .ok (.aload_n 0, 1) := by decide +kernel
theorem dX6_readLeaf_59 : decode cX6_readLeaf 59 = .ok (.getfield 9, 3) := by decide +kernel
theorem dX6_readLeaf_62 : decode cX6_readLeaf 62 = .ok (.iload_n 3, 1) := by decide +kernel
theorem dX6_readLeaf_63 : decode cX6_readLeaf 63 = .ok (.iaload, 1) := by decide +kernel
theorem dX6_readLeaf_64 : decode cX6_readLeaf 64 = .ok (.bipush 8, 2) := by decide +kernel
theorem dX6_readLeaf_66 : decode cX6_readLeaf 66 = .ok (.if_icmp .eq 23, 3) := by decide +kernel
theorem dX6_readLeaf_69 : decode cX6_readLeaf 69 = .ok (.aload_n 0, 1) := by decide +kernel
theorem dX6_readLeaf_70 : decode cX6_readLeaf 70 = .ok (.getfield 21, 3) := by decide +kernel
theorem dX6_readLeaf_73 : decode cX6_readLeaf 73 = .ok (.aload_n 0, 1) := by decide +kernel
theorem dX6_readLeaf_74 : decode cX6_readLeaf 74 = .ok (.getfield 9, 3) := by decide +kernel
theorem dX6_readLeaf_77 : decode cX6_readLeaf 77 = .ok (.iload_n 3, 1) := by decide +kernel
theorem dX6_readLeaf_78 : decode cX6_readLeaf 78 = .ok (.iaload, 1) := by decide +kernel
theorem dX6_readLeaf_79 : decode cX6_readLeaf 79 = .ok (.aload_n 0, 1) := by decide +kernel
theorem dX6_readLeaf_80 : decode cX6_readLeaf 80 = .ok (.getfield 15, 3) := by decide +kernel
theorem dX6_readLeaf_83 : decode cX6_readLeaf 83 = .ok (.iload_n 3, 1) := by decide +kernel
theorem dX6_readLeaf_84 : decode cX6_readLeaf 84 = .ok (.iaload, 1) := by decide +kernel
theorem dX6_readLeaf_85 : decode cX6_readLeaf 85 = .ok (.invokevirtual 87, 3) := by decide +kernel
theorem dX6_readLeaf_88 : decode cX6_readLeaf 88 = .ok (.pop, 1) := by decide +kernel
theorem dX6_readLeaf_89 : decode cX6_readLeaf 89 = .ok (.aload_n 0, 1) := by decide +kernel
theorem dX6_readLeaf_90 : decode cX6_readLeaf 90 = .ok (.iload_n 3, 1) := by decide +kernel
theorem dX6_readLeaf_91 : decode cX6_readLeaf 91 = .ok (.putfield 64, 3) := by decide +kernel
theorem dX6_readLeaf_94 : decode cX6_readLeaf 94 = .ok (.iinc 3 (-1), 3) := by decide +kernel
theorem dX6_readLeaf_97 : decode cX6_readLeaf 97 = .ok (.goto (-80), 3) := by decide +kernel
theorem dX6_readLeaf_100 : decode cX6_readLeaf 100 = .ok (.aload_n 0, 1) := by decide +kernel
theorem dX6_readLeaf_101 : decode cX6_readLeaf 101 = .ok (.iconst 3, 1) := by decide +kernel
theorem dX6_readLeaf_102 : decode cX6_readLeaf 102 = .ok (.putfield 30, 3) := by decide +kernel
theorem dX6_readLeaf_105 : decode cX6_readLeaf 105 = .ok (.iconst 0, 1) := by decide +kernel
theorem dX6_readLeaf_106 : decode cX6_readLeaf 106 = .ok (.ireturn, 1) := by decide +kernel
theorem dX6_placeSkips_0 : decode cX6_placeSkips 0 = .ok (.aload_n 0, 1) := by decide +kernel
theorem dX6_placeSkips_1 : decode cX6_placeSkips 1 = .ok (.getfield 18, 3) := by decide +kernel
theorem dX6_placeSkips_4 : decode cX6_placeSkips 4 = .ok (.iload_n 1, 1) := by decide +kernel
theorem dX6_placeSkips_5 : decode cX6_placeSkips 5 = .ok (.iaload, 1) := by decide +kernel
theorem dX6_placeSkips_6 : decode cX6_placeSkips 6 = .ok (.iconst 2, 1) := by decide +kernel
theorem dX6_placeSkips_7 : decode cX6_placeSkips 7 = .ok (.if_icmp .ne 22, 3) := by decide +kernel
theorem dX6_placeSkips_10 : decode cX6_placeSkips 10 = .ok (.aload_n 0, 1) := by decide +kernel
theorem dX6_placeSkips_11 : decode cX6_placeSkips 11 = .ok (.getfield 15, 3) := by decide +kernel
theorem dX6_placeSkips_14 : decode cX6_placeSkips 14 = .ok (.iload_n 1, 1) := by decide +kernel
theorem dX6_placeSkips_15 : decode cX6_placeSkips 15 = .ok (.aload_n 0, 1) := by decide +kernel
theorem dX6_placeSkips_16 : decode cX6_placeSkips 16 = .ok (.getfield 21, 3) := by decide +kernel
theorem dX6_placeSkips_19 : decode cX6_placeSkips 19 = .ok (.bipush 9, 2) := by decide +kernel
theorem dX6_placeSkips_21 : decode cX6_placeSkips 21 = .ok (.iconst 0, 1) := by decide +kernel
theorem dX6_placeSkips_22 : decode cX6_placeSkips 22 = .ok (.invokevirtual 87, 3) := by decide +kernel
theorem dX6_placeSkips_25 : decode cX6_placeSkips 25 = .ok (.iastore, 1) := by decide +kernel
theorem dX6_placeSkips_26 : decode cX6_placeSkips 26 = .ok (.goto 60, 3) := by decide +kernel
theorem dX6_placeSkips_29 : decode cX6_placeSkips 29 = .ok (.aload_n 0, 1) := by decide +kernel
theorem dX6_placeSkips_30 : decode cX6_placeSkips 30 = .ok (.getfield 18, 3) := by decide +kernel
theorem dX6_placeSkips_33 : decode cX6_placeSkips 33 = .ok (.iload_n 1, 1) := by decide +kernel
theorem dX6_placeSkips_34 : decode cX6_placeSkips 34 = .ok (.iaload, 1) := by decide +kernel
theorem dX6_placeSkips_35 : decode cX6_placeSkips 35 = .ok (.iconst 1, 1) := by decide +kernel
theorem dX6_placeSkips_36 : decode cX6_placeSkips 36 = .ok (.if_icmp .ne 37, 3) := by decide +kernel
theorem dX6_placeSkips_39 : decode cX6_placeSkips 39 = .ok (.aload_n 0, 1) := by decide +kernel
theorem dX6_placeSkips_40 : decode cX6_placeSkips 40 = .ok (.getfield 21, 3) := by decide +kernel
theorem dX6_placeSkips_43 : decode cX6_placeSkips 43 = .ok (.bipush 10, 2) := by decide +kernel
theorem dX6_placeSkips_45 : decode cX6_placeSkips 45 = .ok (.iconst 0, 1) := by decide +kernel
theorem dX6_placeSkips_46 : decode cX6_placeSkips 46 = .ok (.invokevirtual 87, 3) := by decide +kernel
theorem dX6_placeSkips_49 : decode cX6_placeSkips 49 = .ok (.istore_n 2, 1) := by decide +kernel
theorem dX6_placeSkips_50 : decode cX6_placeSkips 50 = .ok (.aload_n 0, 1) := by decide +kernel
theorem dX6_placeSkips_51 : decode cX6_placeSkips 51 = .ok (.getfield 21, 3) := by decide +kernel
theorem dX6_placeSkips_54 : decode cX6_placeSkips 54 = .ok (.aload_n 0, 1) := by decide +kernel
theorem dX6_placeSkips_55 : decode cX6_placeSkips 55 = .ok (.getfield 15, 3) := by decide +kernel
theorem dX6_placeSkips_58 : decode cX6_placeSkips 58 = .ok (.iload_n 1, 1) := by decide +kernel
theorem dX6_placeSkips_59 : decode cX6_placeSkips 59 = .ok (.iaload, 1) := by decide +kernel
theorem dX6_placeSkips_60 : decode cX6_placeSkips 60 = .ok (.invokevirtual 94, 3) := by decide +kernel
theorem dX6_placeSkips_63 : decode cX6_placeSkips 63 = .ok (.aload_n 0, 1) := by decide +kernel
theorem dX6_placeSkips_64 : decode cX6_placeSkips 64 = .ok (.getfield 15, 3) := by decide +kernel
theorem dX6_placeSkips_67 : decode cX6_placeSkips 67 = .ok (.iload_n 1, 1) := by decide +kernel
theorem dX6_placeSkips_68 : decode cX6_placeSkips 68 = .ok (.iload_n 2, 1) := by decide +kernel
theorem dX6_placeSkips_69 : decode cX6_placeSkips 69 = .ok (.iastore, 1) := by decide +kernel
theorem dX6_placeSkips_70 : decode cX6_placeSkips 70 = .ok (.goto 16, 3) := by decide +kernel
theorem dX6_placeSkips_73 : decode cX6_placeSkips 73 = .ok (.aload_n 0, 1) := by decide +kernel
theorem dX6_placeSkips_74 : decode cX6_placeSkips 74 = .ok (.getfield 21, 3) := by decide +kernel
theorem dX6_placeSkips_77 : decode cX6_placeSkips 77 = .ok (.aload_n 0, 1) := by decide +kernel
theorem dX6_placeSkips_78 : decode cX6_placeSkips 78 = .ok (.getfield 15, 3) := by decide +kernel
theorem dX6_placeSkips_81 : decode cX6_placeSkips 81 = .ok (.iload_n 1, 1) := by decide +kernel
theorem dX6_placeSkips_82 : decode cX6_placeSkips 82 = .ok (.iaload, 1) := by decide +kernel
theorem dX6_placeSkips_83 : decode cX6_placeSkips 83 = .ok (.invokevirtual 94, 3) := by decide +kernel
theorem dX6_placeSkips_86 : decode cX6_placeSkips 86 = .ok (.return_, 1) := by decide +kernel
theorem dX6_isFigure_0 : decode cX6_isFigure 0 = .ok (.iload_n 0, 1) := by decide +kernel
theorem dX6_isFigure_1 : decode cX6_isFigure 1 = .ok (.bipush 48, 2) := by decide +kernel
theorem dX6_isFigure_3 : decode cX6_isFigure 3 = .ok (.if_icmp .lt 13, 3) := by decide +kernel
theorem dX6_isFigure_6 : decode cX6_isFigure 6 = .ok (.iload_n 0, 1) := by decide +kernel
theorem dX6_isFigure_7 : decode cX6_isFigure 7 = .ok (.bipush 57, 2) := by decide +kernel
theorem dX6_isFigure_9 : decode cX6_isFigure 9 = .ok (.if_icmp .gt 7, 3) := by decide +kernel
theorem dX6_isFigure_12 : decode cX6_isFigure 12 = .ok (.iconst 1, 1) := by decide +kernel
theorem dX6_isFigure_13 : decode cX6_isFigure 13 = .ok (.goto 4, 3) := by decide +kernel
theorem dX6_isFigure_16 : decode cX6_isFigure 16 = .ok (.iconst 0, 1) := by decide +kernel
theorem dX6_isFigure_17 : decode cX6_isFigure 17 = .ok (.ireturn, 1) := by decide +kernel
theorem dX7_init_0 : decode cX7_init 0 = .ok (.aload_n 0, 1) := by decide +kernel
theorem dX7_init_1 : decode cX7_init 1 = .ok (.invokespecial 3, 3) := by decide +kernel
theorem dX7_init_4 : decode cX7_init 4 = .ok (.aload_n 0, 1) := by decide +kernel
theorem dX7_init_5 : decode cX7_init 5 = .ok (.bipush 8, 2) := by decide +kernel
theorem dX7_init_7 : decode cX7_init 7 = .ok (.newarray .int, 2) := by decide +kernel
theorem dX7_init_9 : decode cX7_init 9 = .ok (.putfield 9, 3) := by decide +kernel
theorem dX7_init_12 : decode cX7_init 12 = .ok (.return_, 1) := by decide +kernel
theorem dX7_become_0 : decode cX7_become 0 = .ok (.aload_n 1, 1) := by decide +kernel
theorem dX7_become_1 : decode cX7_become 1 = .ok (.getfield 9, 3) := by decide +kernel
theorem dX7_become_4 : decode cX7_become 4 = .ok (.iconst 0, 1) := by decide +kernel
theorem dX7_become_5 : decode cX7_become 5 = .ok (.aload_n 0, 1) := by decide +kernel
theorem dX7_become_6 : decode cX7_become 6 = .ok (.getfield 9, 3) := by decide +kernel
theorem dX7_become_9 : decode cX7_become 9 = .ok (.iconst 0, 1) := by decide +kernel
theorem dX7_become_10 : decode cX7_become 10 = .ok (.bipush 8, 2) := by decide +kernel
theorem dX7_become_12 : decode cX7_become 12 = .ok (.invokestatic 15, 3) := by decide +kernel
theorem dX7_become_15 : decode cX7_become 15 = .ok (.aload_n 0, 1) := by decide +kernel
theorem dX7_become_16 : decode cX7_become 16 = .ok (.aload_n 1, 1) := by decide +kernel
theorem dX7_become_17 : decode cX7_become 17 = .ok (.getfield 21, 3) := by decide +kernel
theorem dX7_become_20 : decode cX7_become 20 = .ok (.putfield 21, 3) := by decide +kernel
theorem dX7_become_23 : decode cX7_become 23 = .ok (.aload_n 0, 1) := by decide +kernel
theorem dX7_become_24 : decode cX7_become 24 = .ok (.aload_n 1, 1) := by decide +kernel
theorem dX7_become_25 : decode cX7_become 25 = .ok (.getfield 25, 3) := by decide +kernel
theorem dX7_become_28 : decode cX7_become 28 = .ok (.putfield 25, 3) := by decide +kernel
theorem dX7_become_31 : decode cX7_become 31 = .ok (.aload_n 0, 1) := by decide +kernel
theorem dX7_become_32 : decode cX7_become 32 = .ok (.aload_n 1, 1) := by decide +kernel
theorem dX7_become_33 : decode cX7_become 33 = .ok (.getfield 28, 3) := by decide +kernel
theorem dX7_become_36 : decode cX7_become 36 = .ok (.putfield 28, 3) := by decide +kernel
theorem dX7_become_39 : decode cX7_become 39 = .ok (.return_, 1) := by decide +kernel
theorem dX7_draw_0 : decode cX7_draw 0 = .ok (.aload_n 0, 1) := by decide +kernel
theorem dX7_draw_1 : decode cX7_draw 1 = .ok (.aload_n 0, 1) := by decide +kernel
theorem dX7_draw_2 : decode cX7_draw 2 = .ok (.getfield 28, 3) := by decide +kernel
theorem dX7_draw_5 : decode cX7_draw 5 = .ok (.ldc 31, 2) := by decide +kernel
theorem dX7_draw_7 : decode cX7_draw 7 = .ok (.imul, 1) := by decide +kernel
theorem dX7_draw_8 : decode cX7_draw 8 = .ok (.sipush 12345, 3) := by decide +kernel
theorem dX7_draw_11 : decode cX7_draw 11 = .ok (.iadd, 1) := by decide +kernel
theorem dX7_draw_12 : decode cX7_draw 12 = .ok (.ldc 32, 2) := by decide +kernel
theorem dX7_draw_14 : decode cX7_draw 14 = .ok (.iand, 1) := by decide +kernel
theorem dX7_draw_15 : decode cX7_draw 15 = .ok (.putfield 28, 3) := by decide +kernel
theorem dX7_draw_18 : decode cX7_draw 18 = .ok (.iload_n 1, 1) := by decide +kernel
theorem dX7_draw_19 : decode cX7_draw 19 = .ok (.ifCond .le 15, 3) := by decide +kernel
theorem dX7_draw_22 : decode cX7_draw 22 = .ok (.aload_n 0, 1) := by decide +kernel
theorem dX7_draw_23 : decode cX7_draw 23 = .ok (.getfield 28, 3) := by decide +kernel
theorem dX7_draw_26 : decode cX7_draw 26 = .ok (.ldc 33, 2) := by decide +kernel
theorem dX7_draw_28 : decode cX7_draw 28 = .ok (.idiv, 1) := by decide +kernel
theorem dX7_draw_29 : decode cX7_draw 29 = .ok (.iload_n 1, 1) := by decide +kernel
theorem dX7_draw_30 : decode cX7_draw 30 = .ok (.irem, 1) := by decide +kernel
theorem dX7_draw_31 : decode cX7_draw 31 = .ok (.goto 4, 3) := by decide +kernel
theorem dX7_draw_34 : decode cX7_draw 34 = .ok (.iconst 0, 1) := by decide +kernel
theorem dX7_draw_35 : decode cX7_draw 35 = .ok (.ireturn, 1) := by decide +kernel
theorem dX8_init_0 : decode cX8_init 0 = .ok (.aload_n 0, 1) := by decide +kernel
theorem dX8_init_1 : decode cX8_init 1 = .ok (.invokespecial 3, 3) := by decide +kernel
theorem dX8_init_4 : decode cX8_init 4 = .ok (.aload_n 0, 1) := by decide +kernel
theorem dX8_init_5 : decode cX8_init 5 = .ok (.sipush 364, 3) := by decide +kernel
theorem dX8_init_8 : decode cX8_init 8 = .ok (.anewarray 9, 3) := by decide +kernel
theorem dX8_init_11 : decode cX8_init 11 = .ok (.putfield 11, 3) := by decide +kernel
theorem dX8_init_14 : decode cX8_init 14 = .ok (.return_, 1) := by decide +kernel
theorem dX8_list_0 : decode cX8_list 0 = .ok (.aload_n 0, 1) := by decide +kernel
theorem dX8_list_1 : decode cX8_list 1 = .ok (.aload_n 1, 1) := by decide +kernel
theorem dX8_list_2 : decode cX8_list 2 = .ok (.putfield 17, 3) := by decide +kernel
theorem dX8_list_5 : decode cX8_list 5 = .ok (.aload_n 0, 1) := by decide +kernel
theorem dX8_list_6 : decode cX8_list 6 = .ok (.iconst 0, 1) := by decide +kernel
theorem dX8_list_7 : decode cX8_list 7 = .ok (.putfield 21, 3) := by decide +kernel
theorem dX8_list_10 : decode cX8_list 10 = .ok (.aload_n 0, 1) := by decide +kernel
theorem dX8_list_11 : decode cX8_list 11 = .ok (.getfield 17, 3) := by decide +kernel
theorem dX8_list_14 : decode cX8_list 14 = .ok (.ifnull 12, 3) := by decide +kernel
theorem dX8_list_17 : decode cX8_list 17 = .ok (.aload_n 0, 1) := by decide +kernel
theorem dX8_list_18 : decode cX8_list 18 = .ok (.aload_n 0, 1) := by decide +kernel
theorem dX8_list_19 : decode cX8_list 19 = .ok (.getfield 17, 3) := by decide +kernel
theorem dX8_list_22 : decode cX8_list 22 = .ok (.iconst (-1), 1) := by decide +kernel
theorem dX8_list_23 : decode cX8_list 23 = .ok (.invokevirtual 25, 3) := by decide +kernel
theorem dX8_list_26 : decode cX8_list 26 = .ok (.return_, 1) := by decide +kernel
theorem dX8_listAll_0 : decode cX8_listAll 0 = .ok (.aload_n 0, 1) := by decide +kernel
theorem dX8_listAll_1 : decode cX8_listAll 1 = .ok (.getfield 21, 3) := by decide +kernel
theorem dX8_listAll_4 : decode cX8_listAll 4 = .ok (.sipush 364, 3) := by decide +kernel
theorem dX8_listAll_7 : decode cX8_listAll 7 = .ok (.if_icmp .ge 12, 3) := by decide +kernel
theorem dX8_listAll_10 : decode cX8_listAll 10 = .ok (.aload_n 1, 1) := by decide +kernel
theorem dX8_listAll_11 : decode cX8_listAll 11 = .ok (.getfield 29, 3) := by decide +kernel
theorem dX8_listAll_14 : decode cX8_listAll 14 = .ok (.bipush 6, 2) := by decide +kernel
theorem dX8_listAll_16 : decode cX8_listAll 16 = .ok (.if_icmp .le 4, 3) := by decide +kernel
theorem dX8_listAll_19 : decode cX8_listAll 19 = .ok (.return_, 1) := by decide +kernel
theorem dX8_listAll_20 : decode cX8_listAll 20 = .ok (.aload_n 0, 1) := by decide +kernel
theorem dX8_listAll_21 : decode cX8_listAll 21 = .ok (.getfield 21, 3) := by decide +kernel
theorem dX8_listAll_24 : decode cX8_listAll 24 = .ok (.istore_n 3, 1) := by decide +kernel
theorem dX8_listAll_25 : decode cX8_listAll 25 = .ok (.aload_n 0, 1) := by decide +kernel
theorem dX8_listAll_26 : decode cX8_listAll 26 = .ok (.getfield 11, 3) := by decide +kernel
theorem dX8_listAll_29 : decode cX8_listAll 29 = .ok (.iload_n 3, 1) := by decide +kernel
theorem dX8_listAll_30 : decode cX8_listAll 30 = .ok (.aload_n 1, 1) := by decide +kernel
theorem dX8_listAll_31 : decode cX8_listAll 31 = .ok (.aastore, 1) := by decide +kernel
theorem dX8_listAll_32 : decode cX8_listAll 32 = .ok (.aload_n 0, 1) := by decide +kernel
theorem dX8_listAll_33 : decode cX8_listAll 33 = .ok (.dup, 1) := by decide +kernel
theorem dX8_listAll_34 : decode cX8_listAll 34 = .ok (.getfield 21, 3) := by decide +kernel
theorem dX8_listAll_37 : decode cX8_listAll 37 = .ok (.iconst 1, 1) := by decide +kernel
theorem dX8_listAll_38 : decode cX8_listAll 38 = .ok (.iadd, 1) := by decide +kernel
theorem dX8_listAll_39 : decode cX8_listAll 39 = .ok (.putfield 21, 3) := by decide +kernel
theorem dX8_listAll_42 : decode cX8_listAll 42 = .ok (.aload_n 1, 1) := by decide +kernel
theorem dX8_listAll_43 : decode cX8_listAll 43 = .ok (.iload_n 2, 1) := by decide +kernel
theorem dX8_listAll_44 : decode cX8_listAll 44 = .ok (.putfield 32, 3) := by decide +kernel
theorem dX8_listAll_47 : decode cX8_listAll 47 = .ok (.aload_n 1, 1) := by decide +kernel
theorem dX8_listAll_48 : decode cX8_listAll 48 = .ok (.getfield 35, 3) := by decide +kernel
theorem dX8_listAll_51 : decode cX8_listAll 51 = .ok (.astore 4, 2) := by decide +kernel
theorem dX8_listAll_53 : decode cX8_listAll 53 = .ok (.aload 4, 2) := by decide +kernel
theorem dX8_listAll_55 : decode cX8_listAll 55 = .ok (.ifnull 20, 3) := by decide +kernel
theorem dX8_listAll_58 : decode cX8_listAll 58 = .ok (.aload_n 0, 1) := by decide +kernel
theorem dX8_listAll_59 : decode cX8_listAll 59 = .ok (.aload 4, 2) := by decide +kernel
theorem dX8_listAll_61 : decode cX8_listAll 61 = .ok (.iload_n 3, 1) := by decide +kernel
theorem dX8_listAll_62 : decode cX8_listAll 62 = .ok (.invokevirtual 25, 3) := by decide +kernel
theorem dX8_listAll_65 : decode cX8_listAll 65 = .ok (.aload 4, 2) := by decide +kernel
theorem dX8_listAll_67 : decode cX8_listAll 67 = .ok (.getfield 38, 3) := by decide +kernel
theorem dX8_listAll_70 : decode cX8_listAll 70 = .ok (.astore 4, 2) := by decide +kernel
theorem dX8_listAll_72 : decode cX8_listAll 72 = .ok (.goto (-19), 3) := by decide +kernel
theorem dX8_listAll_75 : decode cX8_listAll 75 = .ok (.aload_n 1, 1) := by decide +kernel
theorem dX8_listAll_76 : decode cX8_listAll 76 = .ok (.aload_n 0, 1) := by decide +kernel
theorem dX8_listAll_77 : decode cX8_listAll 77 = .ok (.getfield 21, 3) := by decide +kernel
theorem dX8_listAll_80 : decode cX8_listAll 80 = .ok (.iload_n 3, 1) := by decide +kernel
theorem dX8_listAll_81 : decode cX8_listAll 81 = .ok (.isub, 1) := by decide +kernel
theorem dX8_listAll_82 : decode cX8_listAll 82 = .ok (.putfield 41, 3) := by decide +kernel
theorem dX8_listAll_85 : decode cX8_listAll 85 = .ok (.return_, 1) := by decide +kernel
theorem dX8_numbered_0 : decode cX8_numbered 0 = .ok (.iload_n 1, 1) := by decide +kernel
theorem dX8_numbered_1 : decode cX8_numbered 1 = .ok (.ifCond .lt 20, 3) := by decide +kernel
theorem dX8_numbered_4 : decode cX8_numbered 4 = .ok (.iload_n 1, 1) := by decide +kernel
theorem dX8_numbered_5 : decode cX8_numbered 5 = .ok (.aload_n 0, 1) := by decide +kernel
theorem dX8_numbered_6 : decode cX8_numbered 6 = .ok (.getfield 21, 3) := by decide +kernel
theorem dX8_numbered_9 : decode cX8_numbered 9 = .ok (.if_icmp .ge 12, 3) := by decide +kernel
theorem dX8_numbered_12 : decode cX8_numbered 12 = .ok (.aload_n 0, 1) := by decide +kernel
theorem dX8_numbered_13 : decode cX8_numbered 13 = .ok (.getfield 11, 3) := by decide +kernel
theorem dX8_numbered_16 : decode cX8_numbered 16 = .ok (.iload_n 1, 1) := by decide +kernel
theorem dX8_numbered_17 : decode cX8_numbered 17 = .ok (.aaload, 1) := by decide +kernel
theorem dX8_numbered_18 : decode cX8_numbered 18 = .ok (.goto 4, 3) := by decide +kernel
theorem dX8_numbered_21 : decode cX8_numbered 21 = .ok (.aconst_null, 1) := by decide +kernel
theorem dX8_numbered_22 : decode cX8_numbered 22 = .ok (.areturn, 1) := by decide +kernel
theorem dX8_numberOfName_0 : decode cX8_numberOfName 0 = .ok (.iconst 0, 1) := by decide +kernel
theorem dX8_numberOfName_1 : decode cX8_numberOfName 1 = .ok (.istore_n 2, 1) := by decide +kernel
theorem dX8_numberOfName_2 : decode cX8_numberOfName 2 = .ok (.iload_n 2, 1) := by decide +kernel
theorem dX8_numberOfName_3 : decode cX8_numberOfName 3 = .ok (.aload_n 0, 1) := by decide +kernel
theorem dX8_numberOfName_4 : decode cX8_numberOfName 4 = .ok (.getfield 21, 3) := by decide +kernel
theorem dX8_numberOfName_7 : decode cX8_numberOfName 7 = .ok (.if_icmp .ge 24, 3) := by decide +kernel
theorem dX8_numberOfName_10 : decode cX8_numberOfName 10 = .ok (.aload_n 0, 1) := by decide +kernel
theorem dX8_numberOfName_11 : decode cX8_numberOfName 11 = .ok (.getfield 11, 3) := by decide +kernel
theorem dX8_numberOfName_14 : decode cX8_numberOfName 14 = .ok (.iload_n 2, 1) := by decide +kernel
theorem dX8_numberOfName_15 : decode cX8_numberOfName 15 = .ok (.aaload, 1) := by decide +kernel
theorem dX8_numberOfName_16 : decode cX8_numberOfName 16 = .ok (.getfield 44, 3) := by decide +kernel
theorem dX8_numberOfName_19 : decode cX8_numberOfName 19 = .ok (.iload_n 1, 1) := by decide +kernel
theorem dX8_numberOfName_20 : decode cX8_numberOfName 20 = .ok (.if_icmp .ne 5, 3) := by decide +kernel
theorem dX8_numberOfName_23 : decode cX8_numberOfName 23 = .ok (.iload_n 2, 1) := by decide +kernel
theorem dX8_numberOfName_24 : decode cX8_numberOfName 24 = .ok (.ireturn, 1) := by decide +kernel
theorem dX8_numberOfName_25 : decode cX8_numberOfName 25 = .ok (.iinc 2 1, 3) := by decide +kernel
theorem dX8_numberOfName_28 : decode cX8_numberOfName 28 = .ok (.goto (-26), 3) := by decide +kernel
theorem dX8_numberOfName_31 : decode cX8_numberOfName 31 = .ok (.iconst (-1), 1) := by decide +kernel
theorem dX8_numberOfName_32 : decode cX8_numberOfName 32 = .ok (.ireturn, 1) := by decide +kernel
theorem dX8_rootTells_0 : decode cX8_rootTells 0 = .ok (.aload_n 0, 1) := by decide +kernel
theorem dX8_rootTells_1 : decode cX8_rootTells 1 = .ok (.getfield 17, 3) := by decide +kernel
theorem dX8_rootTells_4 : decode cX8_rootTells 4 = .ok (.ifnonnull 7, 3) := by decide +kernel
theorem dX8_rootTells_7 : decode cX8_rootTells 7 = .ok (.iconst 0, 1) := by decide +kernel
theorem dX8_rootTells_8 : decode cX8_rootTells 8 = .ok (.goto 10, 3) := by decide +kernel
theorem dX8_rootTells_11 : decode cX8_rootTells 11 = .ok (.aload_n 0, 1) := by decide +kernel
theorem dX8_rootTells_12 : decode cX8_rootTells 12 = .ok (.getfield 17, 3) := by decide +kernel
theorem dX8_rootTells_15 : decode cX8_rootTells 15 = .ok (.getfield 47, 3) := by decide +kernel
theorem dX8_rootTells_18 : decode cX8_rootTells 18 = .ok (.ireturn, 1) := by decide +kernel
theorem dX8_greatestNest_0 : decode cX8_greatestNest 0 = .ok (.iconst 0, 1) := by decide +kernel
theorem dX8_greatestNest_1 : decode cX8_greatestNest 1 = .ok (.istore_n 1, 1) := by decide +kernel
theorem dX8_greatestNest_2 : decode cX8_greatestNest 2 = .ok (.iconst 0, 1) := by decide +kernel
theorem dX8_greatestNest_3 : decode cX8_greatestNest 3 = .ok (.istore_n 2, 1) := by decide +kernel
theorem dX8_greatestNest_4 : decode cX8_greatestNest 4 = .ok (.iload_n 2, 1) := by decide +kernel
theorem dX8_greatestNest_5 : decode cX8_greatestNest 5 = .ok (.aload_n 0, 1) := by decide +kernel
theorem dX8_greatestNest_6 : decode cX8_greatestNest 6 = .ok (.getfield 21, 3) := by decide +kernel
theorem dX8_greatestNest_9 : decode cX8_greatestNest 9 = .ok (.if_icmp .ge 23, 3) := by decide +kernel
theorem dX8_greatestNest_12 : decode cX8_greatestNest 12 = .ok (.iload_n 1, 1) := by decide +kernel
theorem dX8_greatestNest_13 : decode cX8_greatestNest 13 = .ok (.aload_n 0, 1) := by decide +kernel
theorem dX8_greatestNest_14 : decode cX8_greatestNest 14 = .ok (.getfield 11, 3) := by decide +kernel
theorem dX8_greatestNest_17 : decode cX8_greatestNest 17 = .ok (.iload_n 2, 1) := by decide +kernel
theorem dX8_greatestNest_18 : decode cX8_greatestNest 18 = .ok (.aaload, 1) := by decide +kernel
theorem dX8_greatestNest_19 : decode cX8_greatestNest 19 = .ok (.getfield 29, 3) := by decide +kernel
theorem dX8_greatestNest_22 : decode cX8_greatestNest 22 = .ok (.invokestatic 50, 3) := by decide +kernel
theorem dX8_greatestNest_25 : decode cX8_greatestNest 25 = .ok (.istore_n 1, 1) := by decide +kernel
theorem dX8_greatestNest_26 : decode cX8_greatestNest 26 = .ok (.iinc 2 1, 3) := by decide +kernel
theorem dX8_greatestNest_29 : decode cX8_greatestNest 29 = .ok (.goto (-25), 3) := by decide +kernel
theorem dX8_greatestNest_32 : decode cX8_greatestNest 32 = .ok (.iload_n 1, 1) := by decide +kernel
theorem dX8_greatestNest_33 : decode cX8_greatestNest 33 = .ok (.ireturn, 1) := by decide +kernel
theorem dX8_howManyOld_0 : decode cX8_howManyOld 0 = .ok (.iconst 0, 1) := by decide +kernel
theorem dX8_howManyOld_1 : decode cX8_howManyOld 1 = .ok (.istore_n 2, 1) := by decide +kernel
theorem dX8_howManyOld_2 : decode cX8_howManyOld 2 = .ok (.iconst 0, 1) := by decide +kernel
theorem dX8_howManyOld_3 : decode cX8_howManyOld 3 = .ok (.istore_n 3, 1) := by decide +kernel
theorem dX8_howManyOld_4 : decode cX8_howManyOld 4 = .ok (.iload_n 3, 1) := by decide +kernel
theorem dX8_howManyOld_5 : decode cX8_howManyOld 5 = .ok (.aload_n 0, 1) := by decide +kernel
theorem dX8_howManyOld_6 : decode cX8_howManyOld 6 = .ok (.getfield 21, 3) := by decide +kernel
theorem dX8_howManyOld_9 : decode cX8_howManyOld 9 = .ok (.if_icmp .ge 25, 3) := by decide +kernel
theorem dX8_howManyOld_12 : decode cX8_howManyOld 12 = .ok (.aload_n 0, 1) := by decide +kernel
theorem dX8_howManyOld_13 : decode cX8_howManyOld 13 = .ok (.getfield 11, 3) := by decide +kernel
theorem dX8_howManyOld_16 : decode cX8_howManyOld 16 = .ok (.iload_n 3, 1) := by decide +kernel
theorem dX8_howManyOld_17 : decode cX8_howManyOld 17 = .ok (.aaload, 1) := by decide +kernel
theorem dX8_howManyOld_18 : decode cX8_howManyOld 18 = .ok (.aload_n 1, 1) := by decide +kernel
theorem dX8_howManyOld_19 : decode cX8_howManyOld 19 = .ok (.invokevirtual 56, 3) := by decide +kernel
theorem dX8_howManyOld_22 : decode cX8_howManyOld 22 = .ok (.ifCond .eq 6, 3) := by decide +kernel
theorem dX8_howManyOld_25 : decode cX8_howManyOld 25 = .ok (.iinc 2 1, 3) := by decide +kernel
theorem dX8_howManyOld_28 : decode cX8_howManyOld 28 = .ok (.iinc 3 1, 3) := by decide +kernel
theorem dX8_howManyOld_31 : decode cX8_howManyOld 31 = .ok (.goto (-27), 3) := by decide +kernel
theorem dX8_howManyOld_34 : decode cX8_howManyOld 34 = .ok (.iload_n 2, 1) := by decide +kernel
theorem dX8_howManyOld_35 : decode cX8_howManyOld 35 = .ok (.ireturn, 1) := by decide +kernel
theorem dX8_cellsRead_0 : decode cX8_cellsRead 0 = .ok (.iconst 0, 1) := by decide +kernel
theorem dX8_cellsRead_1 : decode cX8_cellsRead 1 = .ok (.istore_n 1, 1) := by decide +kernel
theorem dX8_cellsRead_2 : decode cX8_cellsRead 2 = .ok (.iconst 0, 1) := by decide +kernel
theorem dX8_cellsRead_3 : decode cX8_cellsRead 3 = .ok (.istore_n 2, 1) := by decide +kernel
theorem dX8_cellsRead_4 : decode cX8_cellsRead 4 = .ok (.iload_n 2, 1) := by decide +kernel
theorem dX8_cellsRead_5 : decode cX8_cellsRead 5 = .ok (.aload_n 0, 1) := by decide +kernel
theorem dX8_cellsRead_6 : decode cX8_cellsRead 6 = .ok (.getfield 21, 3) := by decide +kernel
theorem dX8_cellsRead_9 : decode cX8_cellsRead 9 = .ok (.if_icmp .ge 21, 3) := by decide +kernel
theorem dX8_cellsRead_12 : decode cX8_cellsRead 12 = .ok (.iload_n 1, 1) := by decide +kernel
theorem dX8_cellsRead_13 : decode cX8_cellsRead 13 = .ok (.aload_n 0, 1) := by decide +kernel
theorem dX8_cellsRead_14 : decode cX8_cellsRead 14 = .ok (.getfield 11, 3) := by decide +kernel
theorem dX8_cellsRead_17 : decode cX8_cellsRead 17 = .ok (.iload_n 2, 1) := by decide +kernel
theorem dX8_cellsRead_18 : decode cX8_cellsRead 18 = .ok (.aaload, 1) := by decide +kernel
theorem dX8_cellsRead_19 : decode cX8_cellsRead 19 = .ok (.getfield 60, 3) := by decide +kernel
theorem dX8_cellsRead_22 : decode cX8_cellsRead 22 = .ok (.ior, 1) := by decide +kernel
theorem dX8_cellsRead_23 : decode cX8_cellsRead 23 = .ok (.istore_n 1, 1) := by decide +kernel
theorem dX8_cellsRead_24 : decode cX8_cellsRead 24 = .ok (.iinc 2 1, 3) := by decide +kernel
theorem dX8_cellsRead_27 : decode cX8_cellsRead 27 = .ok (.goto (-23), 3) := by decide +kernel
theorem dX8_cellsRead_30 : decode cX8_cellsRead 30 = .ok (.iload_n 1, 1) := by decide +kernel
theorem dX8_cellsRead_31 : decode cX8_cellsRead 31 = .ok (.ireturn, 1) := by decide +kernel
theorem dX9_init_0 : decode cX9_init 0 = .ok (.aload_n 0, 1) := by decide +kernel
theorem dX9_init_1 : decode cX9_init 1 = .ok (.invokespecial 3, 3) := by decide +kernel
theorem dX9_init_4 : decode cX9_init 4 = .ok (.aload_n 0, 1) := by decide +kernel
theorem dX9_init_5 : decode cX9_init 5 = .ok (.sipush 160, 3) := by decide +kernel
theorem dX9_init_8 : decode cX9_init 8 = .ok (.newarray .int, 2) := by decide +kernel
theorem dX9_init_10 : decode cX9_init 10 = .ok (.putfield 9, 3) := by decide +kernel
theorem dX9_init_13 : decode cX9_init 13 = .ok (.aload_n 0, 1) := by decide +kernel
theorem dX9_init_14 : decode cX9_init 14 = .ok (.iconst (-1), 1) := by decide +kernel
theorem dX9_init_15 : decode cX9_init 15 = .ok (.putfield 13, 3) := by decide +kernel
theorem dX9_init_18 : decode cX9_init 18 = .ok (.aload_n 0, 1) := by decide +kernel
theorem dX9_init_19 : decode cX9_init 19 = .ok (.new 17, 3) := by decide +kernel
theorem dX9_init_22 : decode cX9_init 22 = .ok (.dup, 1) := by decide +kernel
theorem dX9_init_23 : decode cX9_init 23 = .ok (.invokespecial 19, 3) := by decide +kernel
theorem dX9_init_26 : decode cX9_init 26 = .ok (.putfield 20, 3) := by decide +kernel
theorem dX9_init_29 : decode cX9_init 29 = .ok (.aload_n 0, 1) := by decide +kernel
theorem dX9_init_30 : decode cX9_init 30 = .ok (.new 24, 3) := by decide +kernel
theorem dX9_init_33 : decode cX9_init 33 = .ok (.dup, 1) := by decide +kernel
theorem dX9_init_34 : decode cX9_init 34 = .ok (.invokespecial 26, 3) := by decide +kernel
theorem dX9_init_37 : decode cX9_init 37 = .ok (.putfield 27, 3) := by decide +kernel
theorem dX9_init_40 : decode cX9_init 40 = .ok (.aload_n 0, 1) := by decide +kernel
theorem dX9_init_41 : decode cX9_init 41 = .ok (.new 24, 3) := by decide +kernel
theorem dX9_init_44 : decode cX9_init 44 = .ok (.dup, 1) := by decide +kernel
theorem dX9_init_45 : decode cX9_init 45 = .ok (.invokespecial 26, 3) := by decide +kernel
theorem dX9_init_48 : decode cX9_init 48 = .ok (.putfield 31, 3) := by decide +kernel
theorem dX9_init_51 : decode cX9_init 51 = .ok (.aload_n 0, 1) := by decide +kernel
theorem dX9_init_52 : decode cX9_init 52 = .ok (.new 34, 3) := by decide +kernel
theorem dX9_init_55 : decode cX9_init 55 = .ok (.dup, 1) := by decide +kernel
theorem dX9_init_56 : decode cX9_init 56 = .ok (.invokespecial 36, 3) := by decide +kernel
theorem dX9_init_59 : decode cX9_init 59 = .ok (.putfield 37, 3) := by decide +kernel
theorem dX9_init_62 : decode cX9_init 62 = .ok (.aload_n 0, 1) := by decide +kernel
theorem dX9_init_63 : decode cX9_init 63 = .ok (.new 41, 3) := by decide +kernel
theorem dX9_init_66 : decode cX9_init 66 = .ok (.dup, 1) := by decide +kernel
theorem dX9_init_67 : decode cX9_init 67 = .ok (.invokespecial 43, 3) := by decide +kernel
theorem dX9_init_70 : decode cX9_init 70 = .ok (.putfield 44, 3) := by decide +kernel
theorem dX9_init_73 : decode cX9_init 73 = .ok (.aload_n 0, 1) := by decide +kernel
theorem dX9_init_74 : decode cX9_init 74 = .ok (.new 48, 3) := by decide +kernel
theorem dX9_init_77 : decode cX9_init 77 = .ok (.dup, 1) := by decide +kernel
theorem dX9_init_78 : decode cX9_init 78 = .ok (.invokespecial 50, 3) := by decide +kernel

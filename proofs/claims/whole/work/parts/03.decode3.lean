theorem dX10_matchAll_197 : decode cX10_matchAll 197 = .ok (.isub, 1) := by decide +kernel
theorem dX10_matchAll_198 : decode cX10_matchAll 198 = .ok (.isub, 1) := by decide +kernel
theorem dX10_matchAll_199 : decode cX10_matchAll 199 = .ok (.putfield 195, 3) := by decide +kernel
theorem dX10_matchAll_202 : decode cX10_matchAll 202 = .ok (.return_, 1) := by decide +kernel
theorem dX10_takeOver_0 : decode cX10_takeOver 0 = .ok (.aload_n 0, 1) := by decide +kernel
theorem dX10_takeOver_1 : decode cX10_takeOver 1 = .ok (.aload_n 0, 1) := by decide +kernel
theorem dX10_takeOver_2 : decode cX10_takeOver 2 = .ok (.getfield 118, 3) := by decide +kernel
theorem dX10_takeOver_5 : decode cX10_takeOver 5 = .ok (.putfield 173, 3) := by decide +kernel
theorem dX10_takeOver_8 : decode cX10_takeOver 8 = .ok (.iconst 0, 1) := by decide +kernel
theorem dX10_takeOver_9 : decode cX10_takeOver 9 = .ok (.istore_n 1, 1) := by decide +kernel
theorem dX10_takeOver_10 : decode cX10_takeOver 10 = .ok (.iload_n 1, 1) := by decide +kernel
theorem dX10_takeOver_11 : decode cX10_takeOver 11 = .ok (.aload_n 0, 1) := by decide +kernel
theorem dX10_takeOver_12 : decode cX10_takeOver 12 = .ok (.getfield 173, 3) := by decide +kernel
theorem dX10_takeOver_15 : decode cX10_takeOver 15 = .ok (.if_icmp .ge 93, 3) := by decide +kernel
theorem dX10_takeOver_18 : decode cX10_takeOver 18 = .ok (.aload_n 0, 1) := by decide +kernel
theorem dX10_takeOver_19 : decode cX10_takeOver 19 = .ok (.getfield 38, 3) := by decide +kernel
theorem dX10_takeOver_22 : decode cX10_takeOver 22 = .ok (.iload_n 1, 1) := by decide +kernel
theorem dX10_takeOver_23 : decode cX10_takeOver 23 = .ok (.aload_n 0, 1) := by decide +kernel
theorem dX10_takeOver_24 : decode cX10_takeOver 24 = .ok (.getfield 62, 3) := by decide +kernel
theorem dX10_takeOver_27 : decode cX10_takeOver 27 = .ok (.iload_n 1, 1) := by decide +kernel
theorem dX10_takeOver_28 : decode cX10_takeOver 28 = .ok (.iaload, 1) := by decide +kernel
theorem dX10_takeOver_29 : decode cX10_takeOver 29 = .ok (.iastore, 1) := by decide +kernel
theorem dX10_takeOver_30 : decode cX10_takeOver 30 = .ok (.aload_n 0, 1) := by decide +kernel
theorem dX10_takeOver_31 : decode cX10_takeOver 31 = .ok (.getfield 41, 3) := by decide +kernel
theorem dX10_takeOver_34 : decode cX10_takeOver 34 = .ok (.iload_n 1, 1) := by decide +kernel
theorem dX10_takeOver_35 : decode cX10_takeOver 35 = .ok (.aload_n 0, 1) := by decide +kernel
theorem dX10_takeOver_36 : decode cX10_takeOver 36 = .ok (.getfield 65, 3) := by decide +kernel
theorem dX10_takeOver_39 : decode cX10_takeOver 39 = .ok (.iload_n 1, 1) := by decide +kernel
theorem dX10_takeOver_40 : decode cX10_takeOver 40 = .ok (.iaload, 1) := by decide +kernel
theorem dX10_takeOver_41 : decode cX10_takeOver 41 = .ok (.iastore, 1) := by decide +kernel
theorem dX10_takeOver_42 : decode cX10_takeOver 42 = .ok (.aload_n 0, 1) := by decide +kernel
theorem dX10_takeOver_43 : decode cX10_takeOver 43 = .ok (.getfield 44, 3) := by decide +kernel
theorem dX10_takeOver_46 : decode cX10_takeOver 46 = .ok (.iload_n 1, 1) := by decide +kernel
theorem dX10_takeOver_47 : decode cX10_takeOver 47 = .ok (.aload_n 0, 1) := by decide +kernel
theorem dX10_takeOver_48 : decode cX10_takeOver 48 = .ok (.getfield 68, 3) := by decide +kernel
theorem dX10_takeOver_51 : decode cX10_takeOver 51 = .ok (.iload_n 1, 1) := by decide +kernel
theorem dX10_takeOver_52 : decode cX10_takeOver 52 = .ok (.iaload, 1) := by decide +kernel
theorem dX10_takeOver_53 : decode cX10_takeOver 53 = .ok (.iastore, 1) := by decide +kernel
theorem dX10_takeOver_54 : decode cX10_takeOver 54 = .ok (.aload_n 0, 1) := by decide +kernel
theorem dX10_takeOver_55 : decode cX10_takeOver 55 = .ok (.getfield 47, 3) := by decide +kernel
theorem dX10_takeOver_58 : decode cX10_takeOver 58 = .ok (.iload_n 1, 1) := by decide +kernel
theorem dX10_takeOver_59 : decode cX10_takeOver 59 = .ok (.aload_n 0, 1) := by decide +kernel
theorem dX10_takeOver_60 : decode cX10_takeOver 60 = .ok (.getfield 71, 3) := by decide +kernel
theorem dX10_takeOver_63 : decode cX10_takeOver 63 = .ok (.iload_n 1, 1) := by decide +kernel
theorem dX10_takeOver_64 : decode cX10_takeOver 64 = .ok (.iaload, 1) := by decide +kernel
theorem dX10_takeOver_65 : decode cX10_takeOver 65 = .ok (.iastore, 1) := by decide +kernel
theorem dX10_takeOver_66 : decode cX10_takeOver 66 = .ok (.aload_n 0, 1) := by decide +kernel
theorem dX10_takeOver_67 : decode cX10_takeOver 67 = .ok (.getfield 50, 3) := by decide +kernel
theorem dX10_takeOver_70 : decode cX10_takeOver 70 = .ok (.iload_n 1, 1) := by decide +kernel
theorem dX10_takeOver_71 : decode cX10_takeOver 71 = .ok (.aload_n 0, 1) := by decide +kernel
theorem dX10_takeOver_72 : decode cX10_takeOver 72 = .ok (.getfield 74, 3) := by decide +kernel
theorem dX10_takeOver_75 : decode cX10_takeOver 75 = .ok (.iload_n 1, 1) := by decide +kernel
theorem dX10_takeOver_76 : decode cX10_takeOver 76 = .ok (.iaload, 1) := by decide +kernel
theorem dX10_takeOver_77 : decode cX10_takeOver 77 = .ok (.iastore, 1) := by decide +kernel
theorem dX10_takeOver_78 : decode cX10_takeOver 78 = .ok (.aload_n 0, 1) := by decide +kernel
theorem dX10_takeOver_79 : decode cX10_takeOver 79 = .ok (.getfield 53, 3) := by decide +kernel
theorem dX10_takeOver_82 : decode cX10_takeOver 82 = .ok (.iload_n 1, 1) := by decide +kernel
theorem dX10_takeOver_83 : decode cX10_takeOver 83 = .ok (.aload_n 0, 1) := by decide +kernel
theorem dX10_takeOver_84 : decode cX10_takeOver 84 = .ok (.getfield 80, 3) := by decide +kernel
theorem dX10_takeOver_87 : decode cX10_takeOver 87 = .ok (.iload_n 1, 1) := by decide +kernel
theorem dX10_takeOver_88 : decode cX10_takeOver 88 = .ok (.iaload, 1) := by decide +kernel
theorem dX10_takeOver_89 : decode cX10_takeOver 89 = .ok (.iastore, 1) := by decide +kernel
theorem dX10_takeOver_90 : decode cX10_takeOver 90 = .ok (.aload_n 0, 1) := by decide +kernel
theorem dX10_takeOver_91 : decode cX10_takeOver 91 = .ok (.getfield 56, 3) := by decide +kernel
theorem dX10_takeOver_94 : decode cX10_takeOver 94 = .ok (.iload_n 1, 1) := by decide +kernel
theorem dX10_takeOver_95 : decode cX10_takeOver 95 = .ok (.aload_n 0, 1) := by decide +kernel
theorem dX10_takeOver_96 : decode cX10_takeOver 96 = .ok (.getfield 83, 3) := by decide +kernel
theorem dX10_takeOver_99 : decode cX10_takeOver 99 = .ok (.iload_n 1, 1) := by decide +kernel
theorem dX10_takeOver_100 : decode cX10_takeOver 100 = .ok (.iaload, 1) := by decide +kernel
theorem dX10_takeOver_101 : decode cX10_takeOver 101 = .ok (.iastore, 1) := by decide +kernel
theorem dX10_takeOver_102 : decode cX10_takeOver 102 = .ok (.iinc 1 1, 3) := by decide +kernel
theorem dX10_takeOver_105 : decode cX10_takeOver 105 = .ok (.goto (-95), 3) := by decide +kernel
theorem dX10_takeOver_108 : decode cX10_takeOver 108 = .ok (.iconst 0, 1) := by decide +kernel
theorem dX10_takeOver_109 : decode cX10_takeOver 109 = .ok (.istore_n 1, 1) := by decide +kernel
theorem dX10_takeOver_110 : decode cX10_takeOver 110 = .ok (.iload_n 1, 1) := by decide +kernel
theorem dX10_takeOver_111 : decode cX10_takeOver 111 = .ok (.bipush 8, 2) := by decide +kernel
theorem dX10_takeOver_113 : decode cX10_takeOver 113 = .ok (.if_icmp .ge 21, 3) := by decide +kernel
theorem dX10_takeOver_116 : decode cX10_takeOver 116 = .ok (.aload_n 0, 1) := by decide +kernel
theorem dX10_takeOver_117 : decode cX10_takeOver 117 = .ok (.getfield 59, 3) := by decide +kernel
theorem dX10_takeOver_120 : decode cX10_takeOver 120 = .ok (.iload_n 1, 1) := by decide +kernel
theorem dX10_takeOver_121 : decode cX10_takeOver 121 = .ok (.aload_n 0, 1) := by decide +kernel
theorem dX10_takeOver_122 : decode cX10_takeOver 122 = .ok (.getfield 7, 3) := by decide +kernel
theorem dX10_takeOver_125 : decode cX10_takeOver 125 = .ok (.iload_n 1, 1) := by decide +kernel
theorem dX10_takeOver_126 : decode cX10_takeOver 126 = .ok (.iaload, 1) := by decide +kernel
theorem dX10_takeOver_127 : decode cX10_takeOver 127 = .ok (.iastore, 1) := by decide +kernel
theorem dX10_takeOver_128 : decode cX10_takeOver 128 = .ok (.iinc 1 1, 3) := by decide +kernel
theorem dX10_takeOver_131 : decode cX10_takeOver 131 = .ok (.goto (-21), 3) := by decide +kernel
theorem dX10_takeOver_134 : decode cX10_takeOver 134 = .ok (.return_, 1) := by decide +kernel
theorem dX10_layFirst_0 : decode cX10_layFirst 0 = .ok (.aload_n 0, 1) := by decide +kernel
theorem dX10_layFirst_1 : decode cX10_layFirst 1 = .ok (.getfield 7, 3) := by decide +kernel
theorem dX10_layFirst_4 : decode cX10_layFirst 4 = .ok (.bipush 8, 2) := by decide +kernel
theorem dX10_layFirst_6 : decode cX10_layFirst 6 = .ok (.iconst 0, 1) := by decide +kernel
theorem dX10_layFirst_7 : decode cX10_layFirst 7 = .ok (.iastore, 1) := by decide +kernel
theorem dX10_layFirst_8 : decode cX10_layFirst 8 = .ok (.aload_n 0, 1) := by decide +kernel
theorem dX10_layFirst_9 : decode cX10_layFirst 9 = .ok (.getfield 7, 3) := by decide +kernel
theorem dX10_layFirst_12 : decode cX10_layFirst 12 = .ok (.bipush 9, 2) := by decide +kernel
theorem dX10_layFirst_14 : decode cX10_layFirst 14 = .ok (.iconst 0, 1) := by decide +kernel
theorem dX10_layFirst_15 : decode cX10_layFirst 15 = .ok (.iastore, 1) := by decide +kernel
theorem dX10_layFirst_16 : decode cX10_layFirst 16 = .ok (.aload_n 0, 1) := by decide +kernel
theorem dX10_layFirst_17 : decode cX10_layFirst 17 = .ok (.iconst 0, 1) := by decide +kernel
theorem dX10_layFirst_18 : decode cX10_layFirst 18 = .ok (.putfield 105, 3) := by decide +kernel
theorem dX10_layFirst_21 : decode cX10_layFirst 21 = .ok (.aload_n 0, 1) := by decide +kernel
theorem dX10_layFirst_22 : decode cX10_layFirst 22 = .ok (.iconst 0, 1) := by decide +kernel
theorem dX10_layFirst_23 : decode cX10_layFirst 23 = .ok (.putfield 186, 3) := by decide +kernel
theorem dX10_layFirst_26 : decode cX10_layFirst 26 = .ok (.aload_n 0, 1) := by decide +kernel
theorem dX10_layFirst_27 : decode cX10_layFirst 27 = .ok (.iconst 0, 1) := by decide +kernel
theorem dX10_layFirst_28 : decode cX10_layFirst 28 = .ok (.putfield 173, 3) := by decide +kernel
theorem dX10_layFirst_31 : decode cX10_layFirst 31 = .ok (.aload_n 0, 1) := by decide +kernel
theorem dX10_layFirst_32 : decode cX10_layFirst 32 = .ok (.invokevirtual 198, 3) := by decide +kernel
theorem dX10_layFirst_35 : decode cX10_layFirst 35 = .ok (.istore_n 1, 1) := by decide +kernel
theorem dX10_layFirst_36 : decode cX10_layFirst 36 = .ok (.aload_n 0, 1) := by decide +kernel
theorem dX10_layFirst_37 : decode cX10_layFirst 37 = .ok (.iconst 0, 1) := by decide +kernel
theorem dX10_layFirst_38 : decode cX10_layFirst 38 = .ok (.invokevirtual 201, 3) := by decide +kernel
theorem dX10_layFirst_41 : decode cX10_layFirst 41 = .ok (.aload_n 0, 1) := by decide +kernel
theorem dX10_layFirst_42 : decode cX10_layFirst 42 = .ok (.invokevirtual 205, 3) := by decide +kernel
theorem dX10_layFirst_45 : decode cX10_layFirst 45 = .ok (.aload_n 0, 1) := by decide +kernel
theorem dX10_layFirst_46 : decode cX10_layFirst 46 = .ok (.iload_n 1, 1) := by decide +kernel
theorem dX10_layFirst_47 : decode cX10_layFirst 47 = .ok (.ifCond .ge 7, 3) := by decide +kernel
theorem dX10_layFirst_50 : decode cX10_layFirst 50 = .ok (.iconst (-1), 1) := by decide +kernel
theorem dX10_layFirst_51 : decode cX10_layFirst 51 = .ok (.goto 4, 3) := by decide +kernel
theorem dX10_layFirst_54 : decode cX10_layFirst 54 = .ok (.iconst 0, 1) := by decide +kernel
theorem dX10_layFirst_55 : decode cX10_layFirst 55 = .ok (.putfield 180, 3) := by decide +kernel
theorem dX10_layFirst_58 : decode cX10_layFirst 58 = .ok (.aload_n 0, 1) := by decide +kernel
theorem dX10_layFirst_59 : decode cX10_layFirst 59 = .ok (.iconst 0, 1) := by decide +kernel
theorem dX10_layFirst_60 : decode cX10_layFirst 60 = .ok (.putfield 183, 3) := by decide +kernel
theorem dX10_layFirst_63 : decode cX10_layFirst 63 = .ok (.aload_n 0, 1) := by decide +kernel
theorem dX10_layFirst_64 : decode cX10_layFirst 64 = .ok (.iconst 0, 1) := by decide +kernel
theorem dX10_layFirst_65 : decode cX10_layFirst 65 = .ok (.putfield 195, 3) := by decide +kernel
theorem dX10_layFirst_68 : decode cX10_layFirst 68 = .ok (.return_, 1) := by decide +kernel
theorem dX10_isAlike_0 : decode cX10_isAlike 0 = .ok (.aload_n 0, 1) := by decide +kernel
theorem dX10_isAlike_1 : decode cX10_isAlike 1 = .ok (.invokevirtual 198, 3) := by decide +kernel
theorem dX10_isAlike_4 : decode cX10_isAlike 4 = .ok (.istore_n 1, 1) := by decide +kernel
theorem dX10_isAlike_5 : decode cX10_isAlike 5 = .ok (.iload_n 1, 1) := by decide +kernel
theorem dX10_isAlike_6 : decode cX10_isAlike 6 = .ok (.aload_n 0, 1) := by decide +kernel
theorem dX10_isAlike_7 : decode cX10_isAlike 7 = .ok (.getfield 44, 3) := by decide +kernel
theorem dX10_isAlike_10 : decode cX10_isAlike 10 = .ok (.iconst 0, 1) := by decide +kernel
theorem dX10_isAlike_11 : decode cX10_isAlike 11 = .ok (.iaload, 1) := by decide +kernel
theorem dX10_isAlike_12 : decode cX10_isAlike 12 = .ok (.if_icmp .ne 18, 3) := by decide +kernel
theorem dX10_isAlike_15 : decode cX10_isAlike 15 = .ok (.aload_n 0, 1) := by decide +kernel
theorem dX10_isAlike_16 : decode cX10_isAlike 16 = .ok (.getfield 118, 3) := by decide +kernel
theorem dX10_isAlike_19 : decode cX10_isAlike 19 = .ok (.aload_n 0, 1) := by decide +kernel
theorem dX10_isAlike_20 : decode cX10_isAlike 20 = .ok (.getfield 173, 3) := by decide +kernel
theorem dX10_isAlike_23 : decode cX10_isAlike 23 = .ok (.if_icmp .ne 7, 3) := by decide +kernel
theorem dX10_isAlike_26 : decode cX10_isAlike 26 = .ok (.iconst 1, 1) := by decide +kernel
theorem dX10_isAlike_27 : decode cX10_isAlike 27 = .ok (.goto 4, 3) := by decide +kernel
theorem dX10_isAlike_30 : decode cX10_isAlike 30 = .ok (.iconst 0, 1) := by decide +kernel
theorem dX10_isAlike_31 : decode cX10_isAlike 31 = .ok (.istore_n 2, 1) := by decide +kernel
theorem dX10_isAlike_32 : decode cX10_isAlike 32 = .ok (.iconst 0, 1) := by decide +kernel
theorem dX10_isAlike_33 : decode cX10_isAlike 33 = .ok (.istore_n 3, 1) := by decide +kernel
theorem dX10_isAlike_34 : decode cX10_isAlike 34 = .ok (.iload_n 3, 1) := by decide +kernel
theorem dX10_isAlike_35 : decode cX10_isAlike 35 = .ok (.aload_n 0, 1) := by decide +kernel
theorem dX10_isAlike_36 : decode cX10_isAlike 36 = .ok (.getfield 173, 3) := by decide +kernel
theorem dX10_isAlike_39 : decode cX10_isAlike 39 = .ok (.if_icmp .ge 79, 3) := by decide +kernel
theorem dX10_isAlike_42 : decode cX10_isAlike 42 = .ok (.iload_n 2, 1) := by decide +kernel
theorem dX10_isAlike_43 : decode cX10_isAlike 43 = .ok (.ifCond .eq 75, 3) := by decide +kernel
theorem dX10_isAlike_46 : decode cX10_isAlike 46 = .ok (.aload_n 0, 1) := by decide +kernel
theorem dX10_isAlike_47 : decode cX10_isAlike 47 = .ok (.getfield 38, 3) := by decide +kernel
theorem dX10_isAlike_50 : decode cX10_isAlike 50 = .ok (.iload_n 3, 1) := by decide +kernel
theorem dX10_isAlike_51 : decode cX10_isAlike 51 = .ok (.iaload, 1) := by decide +kernel
theorem dX10_isAlike_52 : decode cX10_isAlike 52 = .ok (.aload_n 0, 1) := by decide +kernel
theorem dX10_isAlike_53 : decode cX10_isAlike 53 = .ok (.getfield 62, 3) := by decide +kernel
theorem dX10_isAlike_56 : decode cX10_isAlike 56 = .ok (.iload_n 3, 1) := by decide +kernel
theorem dX10_isAlike_57 : decode cX10_isAlike 57 = .ok (.iaload, 1) := by decide +kernel
theorem dX10_isAlike_58 : decode cX10_isAlike 58 = .ok (.if_icmp .ne 52, 3) := by decide +kernel
theorem dX10_isAlike_61 : decode cX10_isAlike 61 = .ok (.aload_n 0, 1) := by decide +kernel
theorem dX10_isAlike_62 : decode cX10_isAlike 62 = .ok (.getfield 41, 3) := by decide +kernel
theorem dX10_isAlike_65 : decode cX10_isAlike 65 = .ok (.iload_n 3, 1) := by decide +kernel
theorem dX10_isAlike_66 : decode cX10_isAlike 66 = .ok (.iaload, 1) := by decide +kernel
theorem dX10_isAlike_67 : decode cX10_isAlike 67 = .ok (.aload_n 0, 1) := by decide +kernel
theorem dX10_isAlike_68 : decode cX10_isAlike 68 = .ok (.getfield 65, 3) := by decide +kernel
theorem dX10_isAlike_71 : decode cX10_isAlike 71 = .ok (.iload_n 3, 1) := by decide +kernel
theorem dX10_isAlike_72 : decode cX10_isAlike 72 = .ok (.iaload, 1) := by decide +kernel
theorem dX10_isAlike_73 : decode cX10_isAlike 73 = .ok (.if_icmp .ne 37, 3) := by decide +kernel
theorem dX10_isAlike_76 : decode cX10_isAlike 76 = .ok (.aload_n 0, 1) := by decide +kernel
theorem dX10_isAlike_77 : decode cX10_isAlike 77 = .ok (.getfield 44, 3) := by decide +kernel
theorem dX10_isAlike_80 : decode cX10_isAlike 80 = .ok (.iload_n 3, 1) := by decide +kernel
theorem dX10_isAlike_81 : decode cX10_isAlike 81 = .ok (.iaload, 1) := by decide +kernel
theorem dX10_isAlike_82 : decode cX10_isAlike 82 = .ok (.aload_n 0, 1) := by decide +kernel
theorem dX10_isAlike_83 : decode cX10_isAlike 83 = .ok (.getfield 68, 3) := by decide +kernel
theorem dX10_isAlike_86 : decode cX10_isAlike 86 = .ok (.iload_n 3, 1) := by decide +kernel
theorem dX10_isAlike_87 : decode cX10_isAlike 87 = .ok (.iaload, 1) := by decide +kernel
theorem dX10_isAlike_88 : decode cX10_isAlike 88 = .ok (.if_icmp .ne 22, 3) := by decide +kernel
theorem dX10_isAlike_91 : decode cX10_isAlike 91 = .ok (.aload_n 0, 1) := by decide +kernel
theorem dX10_isAlike_92 : decode cX10_isAlike 92 = .ok (.getfield 47, 3) := by decide +kernel
theorem dX10_isAlike_95 : decode cX10_isAlike 95 = .ok (.iload_n 3, 1) := by decide +kernel
theorem dX10_isAlike_96 : decode cX10_isAlike 96 = .ok (.iaload, 1) := by decide +kernel
theorem dX10_isAlike_97 : decode cX10_isAlike 97 = .ok (.aload_n 0, 1) := by decide +kernel
theorem dX10_isAlike_98 : decode cX10_isAlike 98 = .ok (.getfield 71, 3) := by decide +kernel
theorem dX10_isAlike_101 : decode cX10_isAlike 101 = .ok (.iload_n 3, 1) := by decide +kernel
theorem dX10_isAlike_102 : decode cX10_isAlike 102 = .ok (.iaload, 1) := by decide +kernel
theorem dX10_isAlike_103 : decode cX10_isAlike 103 = .ok (.if_icmp .ne 7, 3) := by decide +kernel
theorem dX10_isAlike_106 : decode cX10_isAlike 106 = .ok (.iconst 1, 1) := by decide +kernel
theorem dX10_isAlike_107 : decode cX10_isAlike 107 = .ok (.goto 4, 3) := by decide +kernel
theorem dX10_isAlike_110 : decode cX10_isAlike 110 = .ok (.iconst 0, 1) := by decide +kernel
theorem dX10_isAlike_111 : decode cX10_isAlike 111 = .ok (.istore_n 2, 1) := by decide +kernel
theorem dX10_isAlike_112 : decode cX10_isAlike 112 = .ok (.iinc 3 1, 3) := by decide +kernel
theorem dX10_isAlike_115 : decode cX10_isAlike 115 = .ok (.goto (-81), 3) := by decide +kernel
theorem dX10_isAlike_118 : decode cX10_isAlike 118 = .ok (.iload_n 2, 1) := by decide +kernel
theorem dX10_isAlike_119 : decode cX10_isAlike 119 = .ok (.ireturn, 1) := by decide +kernel
theorem dX10_isTerm_0 : decode cX10_isTerm 0 = .ok (.iload_n 0, 1) := by decide +kernel
theorem dX10_isTerm_1 : decode cX10_isTerm 1 = .ok (.i2l, 1) := by decide +kernel
theorem dX10_isTerm_2 : decode cX10_isTerm 2 = .ok (.ldc2_w 127, 3) := by decide +kernel
theorem dX10_isTerm_5 : decode cX10_isTerm 5 = .ok (.ldc2_w 129, 3) := by decide +kernel
theorem dX10_isTerm_8 : decode cX10_isTerm 8 = .ok (.invokestatic 131, 3) := by decide +kernel
theorem dX10_isTerm_11 : decode cX10_isTerm 11 = .ok (.ifCond .ne 16, 3) := by decide +kernel
theorem dX10_isTerm_14 : decode cX10_isTerm 14 = .ok (.iload_n 0, 1) := by decide +kernel
theorem dX10_isTerm_15 : decode cX10_isTerm 15 = .ok (.bipush 110, 2) := by decide +kernel
theorem dX10_isTerm_17 : decode cX10_isTerm 17 = .ok (.if_icmp .eq 10, 3) := by decide +kernel
theorem dX10_isTerm_20 : decode cX10_isTerm 20 = .ok (.iload_n 0, 1) := by decide +kernel
theorem dX10_isTerm_21 : decode cX10_isTerm 21 = .ok (.invokestatic 114, 3) := by decide +kernel
theorem dX10_isTerm_24 : decode cX10_isTerm 24 = .ok (.ifCond .le 7, 3) := by decide +kernel
theorem dX10_isTerm_27 : decode cX10_isTerm 27 = .ok (.iconst 1, 1) := by decide +kernel
theorem dX10_isTerm_28 : decode cX10_isTerm 28 = .ok (.goto 4, 3) := by decide +kernel
theorem dX10_isTerm_31 : decode cX10_isTerm 31 = .ok (.iconst 0, 1) := by decide +kernel
theorem dX10_isTerm_32 : decode cX10_isTerm 32 = .ok (.ireturn, 1) := by decide +kernel
theorem dX10_faultOf_0 : decode cX10_faultOf 0 = .ok (.aload_n 0, 1) := by decide +kernel
theorem dX10_faultOf_1 : decode cX10_faultOf 1 = .ok (.getfield 208, 3) := by decide +kernel
theorem dX10_faultOf_4 : decode cX10_faultOf 4 = .ok (.ifCond .eq 33, 3) := by decide +kernel
theorem dX10_faultOf_7 : decode cX10_faultOf 7 = .ok (.iload_n 1, 1) := by decide +kernel
theorem dX10_faultOf_8 : decode cX10_faultOf 8 = .ok (.i2l, 1) := by decide +kernel
theorem dX10_faultOf_9 : decode cX10_faultOf 9 = .ok (.ldc2_w 127, 3) := by decide +kernel
theorem dX10_faultOf_12 : decode cX10_faultOf 12 = .ok (.ldc2_w 129, 3) := by decide +kernel
theorem dX10_faultOf_15 : decode cX10_faultOf 15 = .ok (.invokestatic 131, 3) := by decide +kernel
theorem dX10_faultOf_18 : decode cX10_faultOf 18 = .ok (.ifCond .ne 7, 3) := by decide +kernel
theorem dX10_faultOf_21 : decode cX10_faultOf 21 = .ok (.iconst 1, 1) := by decide +kernel
theorem dX10_faultOf_22 : decode cX10_faultOf 22 = .ok (.goto 14, 3) := by decide +kernel
theorem dX10_faultOf_25 : decode cX10_faultOf 25 = .ok (.iload_n 1, 1) := by decide +kernel
theorem dX10_faultOf_26 : decode cX10_faultOf 26 = .ok (.bipush 52, 2) := by decide +kernel
theorem dX10_faultOf_28 : decode cX10_faultOf 28 = .ok (.if_icmp .le 7, 3) := by decide +kernel
theorem dX10_faultOf_31 : decode cX10_faultOf 31 = .ok (.iconst 2, 1) := by decide +kernel
theorem dX10_faultOf_32 : decode cX10_faultOf 32 = .ok (.goto 4, 3) := by decide +kernel
theorem dX10_faultOf_35 : decode cX10_faultOf 35 = .ok (.iconst 0, 1) := by decide +kernel
theorem dX10_faultOf_36 : decode cX10_faultOf 36 = .ok (.ireturn, 1) := by decide +kernel
theorem dX10_faultOf_37 : decode cX10_faultOf 37 = .ok (.aload_n 0, 1) := by decide +kernel
theorem dX10_faultOf_38 : decode cX10_faultOf 38 = .ok (.getfield 212, 3) := by decide +kernel
theorem dX10_faultOf_41 : decode cX10_faultOf 41 = .ok (.ifCond .ne 27, 3) := by decide +kernel
theorem dX10_faultOf_44 : decode cX10_faultOf 44 = .ok (.iload_n 1, 1) := by decide +kernel
theorem dX10_faultOf_45 : decode cX10_faultOf 45 = .ok (.bipush 100, 2) := by decide +kernel
theorem dX10_faultOf_47 : decode cX10_faultOf 47 = .ok (.if_icmp .eq 7, 3) := by decide +kernel
theorem dX10_faultOf_50 : decode cX10_faultOf 50 = .ok (.iconst 1, 1) := by decide +kernel
theorem dX10_faultOf_51 : decode cX10_faultOf 51 = .ok (.goto 16, 3) := by decide +kernel
theorem dX10_faultOf_54 : decode cX10_faultOf 54 = .ok (.aload_n 0, 1) := by decide +kernel
theorem dX10_faultOf_55 : decode cX10_faultOf 55 = .ok (.getfield 215, 3) := by decide +kernel
theorem dX10_faultOf_58 : decode cX10_faultOf 58 = .ok (.iconst 5, 1) := by decide +kernel
theorem dX10_faultOf_59 : decode cX10_faultOf 59 = .ok (.if_icmp .ne 7, 3) := by decide +kernel
theorem dX10_faultOf_62 : decode cX10_faultOf 62 = .ok (.iconst 3, 1) := by decide +kernel
theorem dX10_faultOf_63 : decode cX10_faultOf 63 = .ok (.goto 4, 3) := by decide +kernel
theorem dX10_faultOf_66 : decode cX10_faultOf 66 = .ok (.iconst 0, 1) := by decide +kernel
theorem dX10_faultOf_67 : decode cX10_faultOf 67 = .ok (.ireturn, 1) := by decide +kernel
theorem dX10_faultOf_68 : decode cX10_faultOf 68 = .ok (.aload_n 0, 1) := by decide +kernel
theorem dX10_faultOf_69 : decode cX10_faultOf 69 = .ok (.getfield 218, 3) := by decide +kernel
theorem dX10_faultOf_72 : decode cX10_faultOf 72 = .ok (.ifCond .ne 15, 3) := by decide +kernel
theorem dX10_faultOf_75 : decode cX10_faultOf 75 = .ok (.iload_n 1, 1) := by decide +kernel
theorem dX10_faultOf_76 : decode cX10_faultOf 76 = .ok (.bipush 59, 2) := by decide +kernel
theorem dX10_faultOf_78 : decode cX10_faultOf 78 = .ok (.if_icmp .ne 7, 3) := by decide +kernel
theorem dX10_faultOf_81 : decode cX10_faultOf 81 = .ok (.iconst 0, 1) := by decide +kernel
theorem dX10_faultOf_82 : decode cX10_faultOf 82 = .ok (.goto 4, 3) := by decide +kernel
theorem dX10_faultOf_85 : decode cX10_faultOf 85 = .ok (.iconst 1, 1) := by decide +kernel
theorem dX10_faultOf_86 : decode cX10_faultOf 86 = .ok (.ireturn, 1) := by decide +kernel
theorem dX10_faultOf_87 : decode cX10_faultOf 87 = .ok (.iload_n 1, 1) := by decide +kernel
theorem dX10_faultOf_88 : decode cX10_faultOf 88 = .ok (.invokestatic 221, 3) := by decide +kernel
theorem dX10_faultOf_91 : decode cX10_faultOf 91 = .ok (.ifCond .ne 7, 3) := by decide +kernel
theorem dX10_faultOf_94 : decode cX10_faultOf 94 = .ok (.iconst 1, 1) := by decide +kernel
theorem dX10_faultOf_95 : decode cX10_faultOf 95 = .ok (.goto 22, 3) := by decide +kernel
theorem dX10_faultOf_98 : decode cX10_faultOf 98 = .ok (.iload_n 1, 1) := by decide +kernel
theorem dX10_faultOf_99 : decode cX10_faultOf 99 = .ok (.bipush 102, 2) := by decide +kernel
theorem dX10_faultOf_101 : decode cX10_faultOf 101 = .ok (.if_icmp .ne 15, 3) := by decide +kernel
theorem dX10_faultOf_104 : decode cX10_faultOf 104 = .ok (.aload_n 0, 1) := by decide +kernel
theorem dX10_faultOf_105 : decode cX10_faultOf 105 = .ok (.getfield 224, 3) := by decide +kernel
theorem dX10_faultOf_108 : decode cX10_faultOf 108 = .ok (.iconst 3, 1) := by decide +kernel
theorem dX10_faultOf_109 : decode cX10_faultOf 109 = .ok (.if_icmp .ne 7, 3) := by decide +kernel
theorem dX10_faultOf_112 : decode cX10_faultOf 112 = .ok (.iconst 4, 1) := by decide +kernel
theorem dX10_faultOf_113 : decode cX10_faultOf 113 = .ok (.goto 4, 3) := by decide +kernel
theorem dX10_faultOf_116 : decode cX10_faultOf 116 = .ok (.iconst 0, 1) := by decide +kernel
theorem dX10_faultOf_117 : decode cX10_faultOf 117 = .ok (.ireturn, 1) := by decide +kernel
theorem dX10_goOn_0 : decode cX10_goOn 0 = .ok (.aload_n 0, 1) := by decide +kernel
theorem dX10_goOn_1 : decode cX10_goOn 1 = .ok (.getfield 208, 3) := by decide +kernel
theorem dX10_goOn_4 : decode cX10_goOn 4 = .ok (.ifCond .eq 11, 3) := by decide +kernel
theorem dX10_goOn_7 : decode cX10_goOn 7 = .ok (.aload_n 0, 1) := by decide +kernel
theorem dX10_goOn_8 : decode cX10_goOn 8 = .ok (.iconst 0, 1) := by decide +kernel
theorem dX10_goOn_9 : decode cX10_goOn 9 = .ok (.putfield 208, 3) := by decide +kernel
theorem dX10_goOn_12 : decode cX10_goOn 12 = .ok (.goto 103, 3) := by decide +kernel
theorem dX10_goOn_15 : decode cX10_goOn 15 = .ok (.aload_n 0, 1) := by decide +kernel
theorem dX10_goOn_16 : decode cX10_goOn 16 = .ok (.getfield 212, 3) := by decide +kernel
theorem dX10_goOn_19 : decode cX10_goOn 19 = .ok (.ifCond .ne 21, 3) := by decide +kernel
theorem dX10_goOn_22 : decode cX10_goOn 22 = .ok (.aload_n 0, 1) := by decide +kernel
theorem dX10_goOn_23 : decode cX10_goOn 23 = .ok (.iconst 1, 1) := by decide +kernel
theorem dX10_goOn_24 : decode cX10_goOn 24 = .ok (.putfield 212, 3) := by decide +kernel
theorem dX10_goOn_27 : decode cX10_goOn 27 = .ok (.aload_n 0, 1) := by decide +kernel
theorem dX10_goOn_28 : decode cX10_goOn 28 = .ok (.iconst 1, 1) := by decide +kernel
theorem dX10_goOn_29 : decode cX10_goOn 29 = .ok (.putfield 218, 3) := by decide +kernel
theorem dX10_goOn_32 : decode cX10_goOn 32 = .ok (.aload_n 0, 1) := by decide +kernel
theorem dX10_goOn_33 : decode cX10_goOn 33 = .ok (.iconst 0, 1) := by decide +kernel
theorem dX10_goOn_34 : decode cX10_goOn 34 = .ok (.putfield 224, 3) := by decide +kernel
theorem dX10_goOn_37 : decode cX10_goOn 37 = .ok (.goto 78, 3) := by decide +kernel
theorem dX10_goOn_40 : decode cX10_goOn 40 = .ok (.aload_n 0, 1) := by decide +kernel
theorem dX10_goOn_41 : decode cX10_goOn 41 = .ok (.getfield 218, 3) := by decide +kernel
theorem dX10_goOn_44 : decode cX10_goOn 44 = .ok (.ifCond .ne 21, 3) := by decide +kernel
theorem dX10_goOn_47 : decode cX10_goOn 47 = .ok (.aload_n 0, 1) := by decide +kernel
theorem dX10_goOn_48 : decode cX10_goOn 48 = .ok (.iconst 0, 1) := by decide +kernel
theorem dX10_goOn_49 : decode cX10_goOn 49 = .ok (.putfield 212, 3) := by decide +kernel
theorem dX10_goOn_52 : decode cX10_goOn 52 = .ok (.aload_n 0, 1) := by decide +kernel
theorem dX10_goOn_53 : decode cX10_goOn 53 = .ok (.dup, 1) := by decide +kernel
theorem dX10_goOn_54 : decode cX10_goOn 54 = .ok (.getfield 215, 3) := by decide +kernel
theorem dX10_goOn_57 : decode cX10_goOn 57 = .ok (.iconst 1, 1) := by decide +kernel
theorem dX10_goOn_58 : decode cX10_goOn 58 = .ok (.iadd, 1) := by decide +kernel
theorem dX10_goOn_59 : decode cX10_goOn 59 = .ok (.putfield 215, 3) := by decide +kernel
theorem dX10_goOn_62 : decode cX10_goOn 62 = .ok (.goto 53, 3) := by decide +kernel
theorem dX10_goOn_65 : decode cX10_goOn 65 = .ok (.aload_n 0, 1) := by decide +kernel
theorem dX10_goOn_66 : decode cX10_goOn 66 = .ok (.dup, 1) := by decide +kernel
theorem dX10_goOn_67 : decode cX10_goOn 67 = .ok (.getfield 218, 3) := by decide +kernel
theorem dX10_goOn_70 : decode cX10_goOn 70 = .ok (.iload_n 1, 1) := by decide +kernel
theorem dX10_goOn_71 : decode cX10_goOn 71 = .ok (.invokestatic 114, 3) := by decide +kernel
theorem dX10_goOn_74 : decode cX10_goOn 74 = .ok (.iconst 1, 1) := by decide +kernel
theorem dX10_goOn_75 : decode cX10_goOn 75 = .ok (.isub, 1) := by decide +kernel
theorem dX10_goOn_76 : decode cX10_goOn 76 = .ok (.iadd, 1) := by decide +kernel
theorem dX10_goOn_77 : decode cX10_goOn 77 = .ok (.putfield 218, 3) := by decide +kernel
theorem dX10_goOn_80 : decode cX10_goOn 80 = .ok (.aload_n 0, 1) := by decide +kernel
theorem dX10_goOn_81 : decode cX10_goOn 81 = .ok (.iload_n 1, 1) := by decide +kernel
theorem dX10_goOn_82 : decode cX10_goOn 82 = .ok (.bipush 102, 2) := by decide +kernel
theorem dX10_goOn_84 : decode cX10_goOn 84 = .ok (.if_icmp .ne 7, 3) := by decide +kernel
theorem dX10_goOn_87 : decode cX10_goOn 87 = .ok (.iconst 1, 1) := by decide +kernel
theorem dX10_goOn_88 : decode cX10_goOn 88 = .ok (.goto 4, 3) := by decide +kernel
theorem dX10_goOn_91 : decode cX10_goOn 91 = .ok (.iconst 0, 1) := by decide +kernel
theorem dX10_goOn_92 : decode cX10_goOn 92 = .ok (.putfield 208, 3) := by decide +kernel
theorem dX10_goOn_95 : decode cX10_goOn 95 = .ok (.aload_n 0, 1) := by decide +kernel
theorem dX10_goOn_96 : decode cX10_goOn 96 = .ok (.dup, 1) := by decide +kernel
theorem dX10_goOn_97 : decode cX10_goOn 97 = .ok (.getfield 224, 3) := by decide +kernel
theorem dX10_goOn_100 : decode cX10_goOn 100 = .ok (.iload_n 1, 1) := by decide +kernel
theorem dX10_goOn_101 : decode cX10_goOn 101 = .ok (.bipush 102, 2) := by decide +kernel
theorem dX10_goOn_103 : decode cX10_goOn 103 = .ok (.if_icmp .ne 7, 3) := by decide +kernel
theorem dX10_goOn_106 : decode cX10_goOn 106 = .ok (.iconst 1, 1) := by decide +kernel
theorem dX10_goOn_107 : decode cX10_goOn 107 = .ok (.goto 4, 3) := by decide +kernel
theorem dX10_goOn_110 : decode cX10_goOn 110 = .ok (.iconst 0, 1) := by decide +kernel
theorem dX10_goOn_111 : decode cX10_goOn 111 = .ok (.iadd, 1) := by decide +kernel
theorem dX10_goOn_112 : decode cX10_goOn 112 = .ok (.putfield 224, 3) := by decide +kernel
theorem dX10_goOn_115 : decode cX10_goOn 115 = .ok (.return_, 1) := by decide +kernel
theorem dX10_readText_0 : decode cX10_readText 0 = .ok (.aload_n 0, 1) := by decide +kernel
theorem dX10_readText_1 : decode cX10_readText 1 = .ok (.iconst 0, 1) := by decide +kernel
theorem dX10_readText_2 : decode cX10_readText 2 = .ok (.putfield 218, 3) := by decide +kernel
theorem dX10_readText_5 : decode cX10_readText 5 = .ok (.aload_n 0, 1) := by decide +kernel
theorem dX10_readText_6 : decode cX10_readText 6 = .ok (.iconst 0, 1) := by decide +kernel
theorem dX10_readText_7 : decode cX10_readText 7 = .ok (.putfield 208, 3) := by decide +kernel
theorem dX10_readText_10 : decode cX10_readText 10 = .ok (.aload_n 0, 1) := by decide +kernel
theorem dX10_readText_11 : decode cX10_readText 11 = .ok (.iconst 0, 1) := by decide +kernel
theorem dX10_readText_12 : decode cX10_readText 12 = .ok (.putfield 212, 3) := by decide +kernel
theorem dX10_readText_15 : decode cX10_readText 15 = .ok (.aload_n 0, 1) := by decide +kernel
theorem dX10_readText_16 : decode cX10_readText 16 = .ok (.iconst 0, 1) := by decide +kernel
theorem dX10_readText_17 : decode cX10_readText 17 = .ok (.putfield 215, 3) := by decide +kernel
theorem dX10_readText_20 : decode cX10_readText 20 = .ok (.iconst 0, 1) := by decide +kernel
theorem dX10_readText_21 : decode cX10_readText 21 = .ok (.istore_n 1, 1) := by decide +kernel
theorem dX10_readText_22 : decode cX10_readText 22 = .ok (.iload_n 1, 1) := by decide +kernel
theorem dX10_readText_23 : decode cX10_readText 23 = .ok (.aload_n 0, 1) := by decide +kernel
theorem dX10_readText_24 : decode cX10_readText 24 = .ok (.getfield 227, 3) := by decide +kernel
theorem dX10_readText_27 : decode cX10_readText 27 = .ok (.if_icmp .ge 52, 3) := by decide +kernel
theorem dX10_readText_30 : decode cX10_readText 30 = .ok (.aload_n 0, 1) := by decide +kernel
theorem dX10_readText_31 : decode cX10_readText 31 = .ok (.getfield 16, 3) := by decide +kernel
theorem dX10_readText_34 : decode cX10_readText 34 = .ok (.iload_n 1, 1) := by decide +kernel
theorem dX10_readText_35 : decode cX10_readText 35 = .ok (.iaload, 1) := by decide +kernel
theorem dX10_readText_36 : decode cX10_readText 36 = .ok (.bipush 32, 2) := by decide +kernel
theorem dX10_readText_38 : decode cX10_readText 38 = .ok (.if_icmp .eq 35, 3) := by decide +kernel
theorem dX10_readText_41 : decode cX10_readText 41 = .ok (.aload_n 0, 1) := by decide +kernel
theorem dX10_readText_42 : decode cX10_readText 42 = .ok (.aload_n 0, 1) := by decide +kernel
theorem dX10_readText_43 : decode cX10_readText 43 = .ok (.getfield 16, 3) := by decide +kernel
theorem dX10_readText_46 : decode cX10_readText 46 = .ok (.iload_n 1, 1) := by decide +kernel
theorem dX10_readText_47 : decode cX10_readText 47 = .ok (.iaload, 1) := by decide +kernel
theorem dX10_readText_48 : decode cX10_readText 48 = .ok (.invokevirtual 230, 3) := by decide +kernel
theorem dX10_readText_51 : decode cX10_readText 51 = .ok (.istore_n 2, 1) := by decide +kernel
theorem dX10_readText_52 : decode cX10_readText 52 = .ok (.iload_n 2, 1) := by decide +kernel
theorem dX10_readText_53 : decode cX10_readText 53 = .ok (.ifCond .le 10, 3) := by decide +kernel
theorem dX10_readText_56 : decode cX10_readText 56 = .ok (.aload_n 0, 1) := by decide +kernel
theorem dX10_readText_57 : decode cX10_readText 57 = .ok (.iload_n 1, 1) := by decide +kernel
theorem dX10_readText_58 : decode cX10_readText 58 = .ok (.putfield 19, 3) := by decide +kernel
theorem dX10_readText_61 : decode cX10_readText 61 = .ok (.iload_n 2, 1) := by decide +kernel
theorem dX10_readText_62 : decode cX10_readText 62 = .ok (.ireturn, 1) := by decide +kernel
theorem dX10_readText_63 : decode cX10_readText 63 = .ok (.aload_n 0, 1) := by decide +kernel
theorem dX10_readText_64 : decode cX10_readText 64 = .ok (.aload_n 0, 1) := by decide +kernel
theorem dX10_readText_65 : decode cX10_readText 65 = .ok (.getfield 16, 3) := by decide +kernel
theorem dX10_readText_68 : decode cX10_readText 68 = .ok (.iload_n 1, 1) := by decide +kernel
theorem dX10_readText_69 : decode cX10_readText 69 = .ok (.iaload, 1) := by decide +kernel
theorem dX10_readText_70 : decode cX10_readText 70 = .ok (.invokevirtual 233, 3) := by decide +kernel
theorem dX10_readText_73 : decode cX10_readText 73 = .ok (.iinc 1 1, 3) := by decide +kernel
theorem dX10_readText_76 : decode cX10_readText 76 = .ok (.goto (-54), 3) := by decide +kernel
theorem dX10_readText_79 : decode cX10_readText 79 = .ok (.aload_n 0, 1) := by decide +kernel
theorem dX10_readText_80 : decode cX10_readText 80 = .ok (.getfield 212, 3) := by decide +kernel
theorem dX10_readText_83 : decode cX10_readText 83 = .ok (.ifCond .ne 14, 3) := by decide +kernel
theorem dX10_readText_86 : decode cX10_readText 86 = .ok (.aload_n 0, 1) := by decide +kernel
theorem dX10_readText_87 : decode cX10_readText 87 = .ok (.getfield 215, 3) := by decide +kernel
theorem dX10_readText_90 : decode cX10_readText 90 = .ok (.ifCond .le 7, 3) := by decide +kernel
theorem dX10_readText_93 : decode cX10_readText 93 = .ok (.iconst 1, 1) := by decide +kernel
theorem dX10_readText_94 : decode cX10_readText 94 = .ok (.goto 4, 3) := by decide +kernel
theorem dX10_readText_97 : decode cX10_readText 97 = .ok (.iconst 0, 1) := by decide +kernel
theorem dX10_readText_98 : decode cX10_readText 98 = .ok (.istore_n 1, 1) := by decide +kernel
theorem dX10_readText_99 : decode cX10_readText 99 = .ok (.aload_n 0, 1) := by decide +kernel
theorem dX10_readText_100 : decode cX10_readText 100 = .ok (.iload_n 1, 1) := by decide +kernel
theorem dX10_readText_101 : decode cX10_readText 101 = .ok (.ifCond .eq 7, 3) := by decide +kernel
theorem dX10_readText_104 : decode cX10_readText 104 = .ok (.iconst (-1), 1) := by decide +kernel
theorem dX10_readText_105 : decode cX10_readText 105 = .ok (.goto 7, 3) := by decide +kernel
theorem dX10_readText_108 : decode cX10_readText 108 = .ok (.aload_n 0, 1) := by decide +kernel
theorem dX10_readText_109 : decode cX10_readText 109 = .ok (.getfield 227, 3) := by decide +kernel
theorem dX10_readText_112 : decode cX10_readText 112 = .ok (.putfield 19, 3) := by decide +kernel
theorem dX10_readText_115 : decode cX10_readText 115 = .ok (.iload_n 1, 1) := by decide +kernel
theorem dX10_readText_116 : decode cX10_readText 116 = .ok (.ifCond .eq 7, 3) := by decide +kernel
theorem dX10_readText_119 : decode cX10_readText 119 = .ok (.iconst 0, 1) := by decide +kernel
theorem dX10_readText_120 : decode cX10_readText 120 = .ok (.goto 4, 3) := by decide +kernel
theorem dX10_readText_123 : decode cX10_readText 123 = .ok (.iconst 1, 1) := by decide +kernel
theorem dX10_readText_124 : decode cX10_readText 124 = .ok (.ireturn, 1) := by decide +kernel
theorem dX10_layCode_0 : decode cX10_layCode 0 = .ok (.iconst 0, 1) := by decide +kernel
theorem dX10_layCode_1 : decode cX10_layCode 1 = .ok (.istore_n 1, 1) := by decide +kernel
theorem dX10_layCode_2 : decode cX10_layCode 2 = .ok (.iconst 0, 1) := by decide +kernel
theorem dX10_layCode_3 : decode cX10_layCode 3 = .ok (.istore_n 2, 1) := by decide +kernel
theorem dX10_layCode_4 : decode cX10_layCode 4 = .ok (.iconst 0, 1) := by decide +kernel
theorem dX10_layCode_5 : decode cX10_layCode 5 = .ok (.istore_n 3, 1) := by decide +kernel
theorem dX10_layCode_6 : decode cX10_layCode 6 = .ok (.iload_n 3, 1) := by decide +kernel
theorem dX10_layCode_7 : decode cX10_layCode 7 = .ok (.aload_n 0, 1) := by decide +kernel
theorem dX10_layCode_8 : decode cX10_layCode 8 = .ok (.getfield 227, 3) := by decide +kernel
theorem dX10_layCode_11 : decode cX10_layCode 11 = .ok (.if_icmp .ge 56, 3) := by decide +kernel
theorem dX10_layCode_14 : decode cX10_layCode 14 = .ok (.aload_n 0, 1) := by decide +kernel
theorem dX10_layCode_15 : decode cX10_layCode 15 = .ok (.getfield 16, 3) := by decide +kernel
theorem dX10_layCode_18 : decode cX10_layCode 18 = .ok (.iload_n 3, 1) := by decide +kernel
theorem dX10_layCode_19 : decode cX10_layCode 19 = .ok (.iaload, 1) := by decide +kernel
theorem dX10_layCode_20 : decode cX10_layCode 20 = .ok (.bipush 32, 2) := by decide +kernel
theorem dX10_layCode_22 : decode cX10_layCode 22 = .ok (.if_icmp .eq 39, 3) := by decide +kernel
theorem dX10_layCode_25 : decode cX10_layCode 25 = .ok (.aload_n 0, 1) := by decide +kernel
theorem dX10_layCode_26 : decode cX10_layCode 26 = .ok (.getfield 32, 3) := by decide +kernel
theorem dX10_layCode_29 : decode cX10_layCode 29 = .ok (.iload_n 1, 1) := by decide +kernel
theorem dX10_layCode_30 : decode cX10_layCode 30 = .ok (.aload_n 0, 1) := by decide +kernel
theorem dX10_layCode_31 : decode cX10_layCode 31 = .ok (.getfield 16, 3) := by decide +kernel
theorem dX10_layCode_34 : decode cX10_layCode 34 = .ok (.iload_n 3, 1) := by decide +kernel
theorem dX10_layCode_35 : decode cX10_layCode 35 = .ok (.iaload, 1) := by decide +kernel
theorem dX10_layCode_36 : decode cX10_layCode 36 = .ok (.iastore, 1) := by decide +kernel
theorem dX10_layCode_37 : decode cX10_layCode 37 = .ok (.iinc 1 1, 3) := by decide +kernel
theorem dX10_layCode_40 : decode cX10_layCode 40 = .ok (.aload_n 0, 1) := by decide +kernel
theorem dX10_layCode_41 : decode cX10_layCode 41 = .ok (.getfield 16, 3) := by decide +kernel
theorem dX10_layCode_44 : decode cX10_layCode 44 = .ok (.iload_n 3, 1) := by decide +kernel
theorem dX10_layCode_45 : decode cX10_layCode 45 = .ok (.iaload, 1) := by decide +kernel
theorem dX10_layCode_46 : decode cX10_layCode 46 = .ok (.bipush 100, 2) := by decide +kernel
theorem dX10_layCode_48 : decode cX10_layCode 48 = .ok (.if_icmp .ne 13, 3) := by decide +kernel
theorem dX10_layCode_51 : decode cX10_layCode 51 = .ok (.aload_n 0, 1) := by decide +kernel
theorem dX10_layCode_52 : decode cX10_layCode 52 = .ok (.getfield 35, 3) := by decide +kernel
theorem dX10_layCode_55 : decode cX10_layCode 55 = .ok (.iload_n 2, 1) := by decide +kernel
theorem dX10_layCode_56 : decode cX10_layCode 56 = .ok (.iload_n 1, 1) := by decide +kernel
theorem dX10_layCode_57 : decode cX10_layCode 57 = .ok (.iastore, 1) := by decide +kernel
theorem dX10_layCode_58 : decode cX10_layCode 58 = .ok (.iinc 2 1, 3) := by decide +kernel
theorem dX10_layCode_61 : decode cX10_layCode 61 = .ok (.iinc 3 1, 3) := by decide +kernel
theorem dX10_layCode_64 : decode cX10_layCode 64 = .ok (.goto (-58), 3) := by decide +kernel
theorem dX10_layCode_67 : decode cX10_layCode 67 = .ok (.aload_n 0, 1) := by decide +kernel
theorem dX10_layCode_68 : decode cX10_layCode 68 = .ok (.iload_n 2, 1) := by decide +kernel
theorem dX10_layCode_69 : decode cX10_layCode 69 = .ok (.putfield 95, 3) := by decide +kernel
theorem dX10_layCode_72 : decode cX10_layCode 72 = .ok (.return_, 1) := by decide +kernel
theorem dX10_feed_0 : decode cX10_feed 0 = .ok (.iload_n 1, 1) := by decide +kernel
theorem dX10_feed_1 : decode cX10_feed 1 = .ok (.i2l, 1) := by decide +kernel
theorem dX10_feed_2 : decode cX10_feed 2 = .ok (.lconst 0, 1) := by decide +kernel
theorem dX10_feed_3 : decode cX10_feed 3 = .ok (.ldc2_w 237, 3) := by decide +kernel
theorem dX10_feed_6 : decode cX10_feed 6 = .ok (.invokestatic 131, 3) := by decide +kernel
theorem dX10_feed_9 : decode cX10_feed 9 = .ok (.ifCond .ne 6, 3) := by decide +kernel
theorem dX10_feed_12 : decode cX10_feed 12 = .ok (.ldc 239, 2) := by decide +kernel
theorem dX10_feed_14 : decode cX10_feed 14 = .ok (.ireturn, 1) := by decide +kernel
theorem dX10_feed_15 : decode cX10_feed 15 = .ok (.aload_n 0, 1) := by decide +kernel
theorem dX10_feed_16 : decode cX10_feed 16 = .ok (.getfield 227, 3) := by decide +kernel
theorem dX10_feed_19 : decode cX10_feed 19 = .ok (.sipush 160, 3) := by decide +kernel
theorem dX10_feed_22 : decode cX10_feed 22 = .ok (.if_icmp .ne 6, 3) := by decide +kernel
theorem dX10_feed_25 : decode cX10_feed 25 = .ok (.ldc 240, 2) := by decide +kernel
theorem dX10_feed_27 : decode cX10_feed 27 = .ok (.ireturn, 1) := by decide +kernel
theorem dX10_feed_28 : decode cX10_feed 28 = .ok (.aload_n 0, 1) := by decide +kernel
theorem dX10_feed_29 : decode cX10_feed 29 = .ok (.getfield 16, 3) := by decide +kernel
theorem dX10_feed_32 : decode cX10_feed 32 = .ok (.aload_n 0, 1) := by decide +kernel
theorem dX10_feed_33 : decode cX10_feed 33 = .ok (.getfield 227, 3) := by decide +kernel
theorem dX10_feed_36 : decode cX10_feed 36 = .ok (.iload_n 1, 1) := by decide +kernel
theorem dX10_feed_37 : decode cX10_feed 37 = .ok (.iastore, 1) := by decide +kernel
theorem dX10_feed_38 : decode cX10_feed 38 = .ok (.aload_n 0, 1) := by decide +kernel
theorem dX10_feed_39 : decode cX10_feed 39 = .ok (.dup, 1) := by decide +kernel
theorem dX10_feed_40 : decode cX10_feed 40 = .ok (.getfield 227, 3) := by decide +kernel
theorem dX10_feed_43 : decode cX10_feed 43 = .ok (.iconst 1, 1) := by decide +kernel
theorem dX10_feed_44 : decode cX10_feed 44 = .ok (.iadd, 1) := by decide +kernel
theorem dX10_feed_45 : decode cX10_feed 45 = .ok (.putfield 227, 3) := by decide +kernel
theorem dX10_feed_48 : decode cX10_feed 48 = .ok (.aload_n 0, 1) := by decide +kernel
theorem dX10_feed_49 : decode cX10_feed 49 = .ok (.getfield 227, 3) := by decide +kernel
theorem dX10_feed_52 : decode cX10_feed 52 = .ok (.ireturn, 1) := by decide +kernel
theorem dX10_functions_0 : decode cX10_functions 0 = .ok (.aload_n 0, 1) := by decide +kernel
theorem dX10_functions_1 : decode cX10_functions 1 = .ok (.invokevirtual 241, 3) := by decide +kernel
theorem dX10_functions_4 : decode cX10_functions 4 = .ok (.istore_n 1, 1) := by decide +kernel
theorem dX10_functions_5 : decode cX10_functions 5 = .ok (.iload_n 1, 1) := by decide +kernel
theorem dX10_functions_6 : decode cX10_functions 6 = .ok (.ifCond .ne 11, 3) := by decide +kernel
theorem dX10_functions_9 : decode cX10_functions 9 = .ok (.aload_n 0, 1) := by decide +kernel
theorem dX10_functions_10 : decode cX10_functions 10 = .ok (.invokevirtual 244, 3) := by decide +kernel
theorem dX10_functions_13 : decode cX10_functions 13 = .ok (.aload_n 0, 1) := by decide +kernel
theorem dX10_functions_14 : decode cX10_functions 14 = .ok (.invokevirtual 98, 3) := by decide +kernel
theorem dX10_functions_17 : decode cX10_functions 17 = .ok (.aload_n 0, 1) := by decide +kernel
theorem dX10_functions_18 : decode cX10_functions 18 = .ok (.iconst 0, 1) := by decide +kernel
theorem dX10_functions_19 : decode cX10_functions 19 = .ok (.putfield 227, 3) := by decide +kernel
theorem dX10_functions_22 : decode cX10_functions 22 = .ok (.iload_n 1, 1) := by decide +kernel
theorem dX10_functions_23 : decode cX10_functions 23 = .ok (.ifCond .le 10, 3) := by decide +kernel
theorem dX10_functions_26 : decode cX10_functions 26 = .ok (.bipush (-10), 2) := by decide +kernel
theorem dX10_functions_28 : decode cX10_functions 28 = .ok (.iload_n 1, 1) := by decide +kernel
theorem dX10_functions_29 : decode cX10_functions 29 = .ok (.isub, 1) := by decide +kernel
theorem dX10_functions_30 : decode cX10_functions 30 = .ok (.goto 7, 3) := by decide +kernel
theorem dX10_functions_33 : decode cX10_functions 33 = .ok (.aload_n 0, 1) := by decide +kernel
theorem dX10_functions_34 : decode cX10_functions 34 = .ok (.getfield 95, 3) := by decide +kernel
theorem dX10_functions_37 : decode cX10_functions 37 = .ok (.ireturn, 1) := by decide +kernel
theorem dX10_fault_0 : decode cX10_fault 0 = .ok (.aload_n 0, 1) := by decide +kernel
theorem dX10_fault_1 : decode cX10_fault 1 = .ok (.getfield 19, 3) := by decide +kernel
theorem dX10_fault_4 : decode cX10_fault 4 = .ok (.ireturn, 1) := by decide +kernel
theorem dX10_deepest_0 : decode cX10_deepest 0 = .ok (.iconst 0, 1) := by decide +kernel
theorem dX10_deepest_1 : decode cX10_deepest 1 = .ok (.istore_n 1, 1) := by decide +kernel
theorem dX10_deepest_2 : decode cX10_deepest 2 = .ok (.iconst 0, 1) := by decide +kernel
theorem dX10_deepest_3 : decode cX10_deepest 3 = .ok (.istore_n 2, 1) := by decide +kernel
theorem dX10_deepest_4 : decode cX10_deepest 4 = .ok (.iload_n 2, 1) := by decide +kernel
theorem dX10_deepest_5 : decode cX10_deepest 5 = .ok (.aload_n 0, 1) := by decide +kernel
theorem dX10_deepest_6 : decode cX10_deepest 6 = .ok (.getfield 173, 3) := by decide +kernel
theorem dX10_deepest_9 : decode cX10_deepest 9 = .ok (.if_icmp .ge 30, 3) := by decide +kernel
theorem dX10_deepest_12 : decode cX10_deepest 12 = .ok (.aload_n 0, 1) := by decide +kernel
theorem dX10_deepest_13 : decode cX10_deepest 13 = .ok (.getfield 47, 3) := by decide +kernel
theorem dX10_deepest_16 : decode cX10_deepest 16 = .ok (.iload_n 2, 1) := by decide +kernel
theorem dX10_deepest_17 : decode cX10_deepest 17 = .ok (.iaload, 1) := by decide +kernel
theorem dX10_deepest_18 : decode cX10_deepest 18 = .ok (.iload_n 1, 1) := by decide +kernel
theorem dX10_deepest_19 : decode cX10_deepest 19 = .ok (.if_icmp .le 12, 3) := by decide +kernel
theorem dX10_deepest_22 : decode cX10_deepest 22 = .ok (.aload_n 0, 1) := by decide +kernel
theorem dX10_deepest_23 : decode cX10_deepest 23 = .ok (.getfield 47, 3) := by decide +kernel
theorem dX10_deepest_26 : decode cX10_deepest 26 = .ok (.iload_n 2, 1) := by decide +kernel
theorem dX10_deepest_27 : decode cX10_deepest 27 = .ok (.iaload, 1) := by decide +kernel
theorem dX10_deepest_28 : decode cX10_deepest 28 = .ok (.goto 4, 3) := by decide +kernel
theorem dX10_deepest_31 : decode cX10_deepest 31 = .ok (.iload_n 1, 1) := by decide +kernel
theorem dX10_deepest_32 : decode cX10_deepest 32 = .ok (.istore_n 1, 1) := by decide +kernel
theorem dX10_deepest_33 : decode cX10_deepest 33 = .ok (.iinc 2 1, 3) := by decide +kernel
theorem dX10_deepest_36 : decode cX10_deepest 36 = .ok (.goto (-32), 3) := by decide +kernel
theorem dX10_deepest_39 : decode cX10_deepest 39 = .ok (.iload_n 1, 1) := by decide +kernel
theorem dX10_deepest_40 : decode cX10_deepest 40 = .ok (.ireturn, 1) := by decide +kernel
theorem dX10_oldMany_0 : decode cX10_oldMany 0 = .ok (.iconst 0, 1) := by decide +kernel
theorem dX10_oldMany_1 : decode cX10_oldMany 1 = .ok (.istore_n 1, 1) := by decide +kernel
theorem dX10_oldMany_2 : decode cX10_oldMany 2 = .ok (.iconst 0, 1) := by decide +kernel
theorem dX10_oldMany_3 : decode cX10_oldMany 3 = .ok (.istore_n 2, 1) := by decide +kernel
theorem dX10_oldMany_4 : decode cX10_oldMany 4 = .ok (.iload_n 2, 1) := by decide +kernel
theorem dX10_oldMany_5 : decode cX10_oldMany 5 = .ok (.aload_n 0, 1) := by decide +kernel
theorem dX10_oldMany_6 : decode cX10_oldMany 6 = .ok (.getfield 173, 3) := by decide +kernel
theorem dX10_oldMany_9 : decode cX10_oldMany 9 = .ok (.if_icmp .ge 25, 3) := by decide +kernel
theorem dX10_oldMany_12 : decode cX10_oldMany 12 = .ok (.iload_n 1, 1) := by decide +kernel
theorem dX10_oldMany_13 : decode cX10_oldMany 13 = .ok (.aload_n 0, 1) := by decide +kernel
theorem dX10_oldMany_14 : decode cX10_oldMany 14 = .ok (.iload_n 2, 1) := by decide +kernel
theorem dX10_oldMany_15 : decode cX10_oldMany 15 = .ok (.invokevirtual 169, 3) := by decide +kernel
theorem dX10_oldMany_18 : decode cX10_oldMany 18 = .ok (.ifCond .eq 7, 3) := by decide +kernel
theorem dX10_oldMany_21 : decode cX10_oldMany 21 = .ok (.iconst 1, 1) := by decide +kernel
theorem dX10_oldMany_22 : decode cX10_oldMany 22 = .ok (.goto 4, 3) := by decide +kernel
theorem dX10_oldMany_25 : decode cX10_oldMany 25 = .ok (.iconst 0, 1) := by decide +kernel
theorem dX10_oldMany_26 : decode cX10_oldMany 26 = .ok (.iadd, 1) := by decide +kernel
theorem dX10_oldMany_27 : decode cX10_oldMany 27 = .ok (.istore_n 1, 1) := by decide +kernel
theorem dX10_oldMany_28 : decode cX10_oldMany 28 = .ok (.iinc 2 1, 3) := by decide +kernel
theorem dX10_oldMany_31 : decode cX10_oldMany 31 = .ok (.goto (-27), 3) := by decide +kernel
theorem dX10_oldMany_34 : decode cX10_oldMany 34 = .ok (.iload_n 1, 1) := by decide +kernel
theorem dX10_oldMany_35 : decode cX10_oldMany 35 = .ok (.ireturn, 1) := by decide +kernel
theorem dX10_bears_0 : decode cX10_bears 0 = .ok (.iconst 0, 1) := by decide +kernel
theorem dX10_bears_1 : decode cX10_bears 1 = .ok (.istore_n 1, 1) := by decide +kernel
theorem dX10_bears_2 : decode cX10_bears 2 = .ok (.iconst 0, 1) := by decide +kernel
theorem dX10_bears_3 : decode cX10_bears 3 = .ok (.istore_n 2, 1) := by decide +kernel
theorem dX10_bears_4 : decode cX10_bears 4 = .ok (.iload_n 2, 1) := by decide +kernel
theorem dX10_bears_5 : decode cX10_bears 5 = .ok (.aload_n 0, 1) := by decide +kernel
theorem dX10_bears_6 : decode cX10_bears 6 = .ok (.getfield 173, 3) := by decide +kernel
theorem dX10_bears_9 : decode cX10_bears 9 = .ok (.if_icmp .ge 18, 3) := by decide +kernel
theorem dX10_bears_12 : decode cX10_bears 12 = .ok (.iload_n 1, 1) := by decide +kernel
theorem dX10_bears_13 : decode cX10_bears 13 = .ok (.aload_n 0, 1) := by decide +kernel
theorem dX10_bears_14 : decode cX10_bears 14 = .ok (.getfield 50, 3) := by decide +kernel
theorem dX10_bears_17 : decode cX10_bears 17 = .ok (.iload_n 2, 1) := by decide +kernel
theorem dX10_bears_18 : decode cX10_bears 18 = .ok (.iaload, 1) := by decide +kernel
theorem dX10_bears_19 : decode cX10_bears 19 = .ok (.ior, 1) := by decide +kernel
theorem dX10_bears_20 : decode cX10_bears 20 = .ok (.istore_n 1, 1) := by decide +kernel
theorem dX10_bears_21 : decode cX10_bears 21 = .ok (.iinc 2 1, 3) := by decide +kernel
theorem dX10_bears_24 : decode cX10_bears 24 = .ok (.goto (-20), 3) := by decide +kernel
theorem dX10_bears_27 : decode cX10_bears 27 = .ok (.iload_n 1, 1) := by decide +kernel
theorem dX10_bears_28 : decode cX10_bears 28 = .ok (.ireturn, 1) := by decide +kernel
theorem dX10_wrong_0 : decode cX10_wrong 0 = .ok (.iconst 0, 1) := by decide +kernel
theorem dX10_wrong_1 : decode cX10_wrong 1 = .ok (.istore_n 1, 1) := by decide +kernel
theorem dX10_wrong_2 : decode cX10_wrong 2 = .ok (.iload_n 1, 1) := by decide +kernel
theorem dX10_wrong_3 : decode cX10_wrong 3 = .ok (.aload_n 0, 1) := by decide +kernel
theorem dX10_wrong_4 : decode cX10_wrong 4 = .ok (.getfield 247, 3) := by decide +kernel
theorem dX10_wrong_7 : decode cX10_wrong 7 = .ok (.if_icmp .ge 36, 3) := by decide +kernel
theorem dX10_wrong_10 : decode cX10_wrong 10 = .ok (.aload_n 0, 1) := by decide +kernel
theorem dX10_wrong_11 : decode cX10_wrong 11 = .ok (.aload_n 0, 1) := by decide +kernel
theorem dX10_wrong_12 : decode cX10_wrong 12 = .ok (.getfield 23, 3) := by decide +kernel
theorem dX10_wrong_15 : decode cX10_wrong 15 = .ok (.iload_n 1, 1) := by decide +kernel
theorem dX10_wrong_16 : decode cX10_wrong 16 = .ok (.iaload, 1) := by decide +kernel
theorem dX10_wrong_17 : decode cX10_wrong 17 = .ok (.aload_n 0, 1) := by decide +kernel
theorem dX10_wrong_18 : decode cX10_wrong 18 = .ok (.getfield 26, 3) := by decide +kernel
theorem dX10_wrong_21 : decode cX10_wrong 21 = .ok (.iload_n 1, 1) := by decide +kernel
theorem dX10_wrong_22 : decode cX10_wrong 22 = .ok (.iaload, 1) := by decide +kernel
theorem dX10_wrong_23 : decode cX10_wrong 23 = .ok (.invokevirtual 162, 3) := by decide +kernel
theorem dX10_wrong_26 : decode cX10_wrong 26 = .ok (.aload_n 0, 1) := by decide +kernel
theorem dX10_wrong_27 : decode cX10_wrong 27 = .ok (.getfield 29, 3) := by decide +kernel
theorem dX10_wrong_30 : decode cX10_wrong 30 = .ok (.iload_n 1, 1) := by decide +kernel
theorem dX10_wrong_31 : decode cX10_wrong 31 = .ok (.iaload, 1) := by decide +kernel
theorem dX10_wrong_32 : decode cX10_wrong 32 = .ok (.if_icmp .eq 5, 3) := by decide +kernel
theorem dX10_wrong_35 : decode cX10_wrong 35 = .ok (.iload_n 1, 1) := by decide +kernel
theorem dX10_wrong_36 : decode cX10_wrong 36 = .ok (.ireturn, 1) := by decide +kernel
theorem dX10_wrong_37 : decode cX10_wrong 37 = .ok (.iinc 1 1, 3) := by decide +kernel
theorem dX10_wrong_40 : decode cX10_wrong 40 = .ok (.goto (-38), 3) := by decide +kernel
theorem dX10_wrong_43 : decode cX10_wrong 43 = .ok (.iconst (-1), 1) := by decide +kernel
theorem dX10_wrong_44 : decode cX10_wrong 44 = .ok (.ireturn, 1) := by decide +kernel
theorem dX10_toldMore_0 : decode cX10_toldMore 0 = .ok (.iload_n 1, 1) := by decide +kernel
theorem dX10_toldMore_1 : decode cX10_toldMore 1 = .ok (.tableswitch 102 9 17 #[51, 56, 61, 66, 71, 79, 87, 92, 97], 51) := by decide +kernel
theorem dX10_toldMore_52 : decode cX10_toldMore 52 = .ok (.aload_n 0, 1) := by decide +kernel
theorem dX10_toldMore_53 : decode cX10_toldMore 53 = .ok (.getfield 186, 3) := by decide +kernel
theorem dX10_toldMore_56 : decode cX10_toldMore 56 = .ok (.ireturn, 1) := by decide +kernel
theorem dX10_toldMore_57 : decode cX10_toldMore 57 = .ok (.aload_n 0, 1) := by decide +kernel
theorem dX10_toldMore_58 : decode cX10_toldMore 58 = .ok (.invokevirtual 250, 3) := by decide +kernel
theorem dX10_toldMore_61 : decode cX10_toldMore 61 = .ok (.ireturn, 1) := by decide +kernel
theorem dX10_toldMore_62 : decode cX10_toldMore 62 = .ok (.aload_n 0, 1) := by decide +kernel
theorem dX10_toldMore_63 : decode cX10_toldMore 63 = .ok (.invokevirtual 253, 3) := by decide +kernel
theorem dX10_toldMore_66 : decode cX10_toldMore 66 = .ok (.ireturn, 1) := by decide +kernel
theorem dX10_toldMore_67 : decode cX10_toldMore 67 = .ok (.aload_n 0, 1) := by decide +kernel
theorem dX10_toldMore_68 : decode cX10_toldMore 68 = .ok (.invokevirtual 256, 3) := by decide +kernel
theorem dX10_toldMore_71 : decode cX10_toldMore 71 = .ok (.ireturn, 1) := by decide +kernel
theorem dX10_toldMore_72 : decode cX10_toldMore 72 = .ok (.aload_n 0, 1) := by decide +kernel
theorem dX10_toldMore_73 : decode cX10_toldMore 73 = .ok (.getfield 7, 3) := by decide +kernel
theorem dX10_toldMore_76 : decode cX10_toldMore 76 = .ok (.bipush 8, 2) := by decide +kernel
theorem dX10_toldMore_78 : decode cX10_toldMore 78 = .ok (.iaload, 1) := by decide +kernel
theorem dX10_toldMore_79 : decode cX10_toldMore 79 = .ok (.ireturn, 1) := by decide +kernel
theorem dX10_toldMore_80 : decode cX10_toldMore 80 = .ok (.aload_n 0, 1) := by decide +kernel
theorem dX10_toldMore_81 : decode cX10_toldMore 81 = .ok (.getfield 7, 3) := by decide +kernel
theorem dX10_toldMore_84 : decode cX10_toldMore 84 = .ok (.bipush 9, 2) := by decide +kernel
theorem dX10_toldMore_86 : decode cX10_toldMore 86 = .ok (.iaload, 1) := by decide +kernel
theorem dX10_toldMore_87 : decode cX10_toldMore 87 = .ok (.ireturn, 1) := by decide +kernel
theorem dX10_toldMore_88 : decode cX10_toldMore 88 = .ok (.aload_n 0, 1) := by decide +kernel
theorem dX10_toldMore_89 : decode cX10_toldMore 89 = .ok (.getfield 247, 3) := by decide +kernel
theorem dX10_toldMore_92 : decode cX10_toldMore 92 = .ok (.ireturn, 1) := by decide +kernel
theorem dX10_toldMore_93 : decode cX10_toldMore 93 = .ok (.aload_n 0, 1) := by decide +kernel
theorem dX10_toldMore_94 : decode cX10_toldMore 94 = .ok (.invokevirtual 259, 3) := by decide +kernel
theorem dX10_toldMore_97 : decode cX10_toldMore 97 = .ok (.ireturn, 1) := by decide +kernel
theorem dX10_toldMore_98 : decode cX10_toldMore 98 = .ok (.aload_n 0, 1) := by decide +kernel
theorem dX10_toldMore_99 : decode cX10_toldMore 99 = .ok (.getfield 105, 3) := by decide +kernel
theorem dX10_toldMore_102 : decode cX10_toldMore 102 = .ok (.ireturn, 1) := by decide +kernel
theorem dX10_toldMore_103 : decode cX10_toldMore 103 = .ok (.ldc 239, 2) := by decide +kernel
theorem dX10_toldMore_105 : decode cX10_toldMore 105 = .ok (.ireturn, 1) := by decide +kernel
theorem dX10_told_0 : decode cX10_told 0 = .ok (.iload_n 1, 1) := by decide +kernel
theorem dX10_told_1 : decode cX10_told 1 = .ok (.tableswitch 106 0 8 #[51, 56, 61, 68, 73, 78, 91, 96, 101], 51) := by decide +kernel
theorem dX10_told_52 : decode cX10_told 52 = .ok (.aload_n 0, 1) := by decide +kernel
theorem dX10_told_53 : decode cX10_told 53 = .ok (.getfield 95, 3) := by decide +kernel
theorem dX10_told_56 : decode cX10_told 56 = .ok (.ireturn, 1) := by decide +kernel
theorem dX10_told_57 : decode cX10_told 57 = .ok (.aload_n 0, 1) := by decide +kernel
theorem dX10_told_58 : decode cX10_told 58 = .ok (.getfield 227, 3) := by decide +kernel
theorem dX10_told_61 : decode cX10_told 61 = .ok (.ireturn, 1) := by decide +kernel
theorem dX10_told_62 : decode cX10_told 62 = .ok (.aload_n 0, 1) := by decide +kernel
theorem dX10_told_63 : decode cX10_told 63 = .ok (.getfield 44, 3) := by decide +kernel
theorem dX10_told_66 : decode cX10_told 66 = .ok (.iconst 0, 1) := by decide +kernel
theorem dX10_told_67 : decode cX10_told 67 = .ok (.iaload, 1) := by decide +kernel
theorem dX10_told_68 : decode cX10_told 68 = .ok (.ireturn, 1) := by decide +kernel
theorem dX10_told_69 : decode cX10_told 69 = .ok (.aload_n 0, 1) := by decide +kernel
theorem dX10_told_70 : decode cX10_told 70 = .ok (.getfield 173, 3) := by decide +kernel
theorem dX10_told_73 : decode cX10_told 73 = .ok (.ireturn, 1) := by decide +kernel
theorem dX10_told_74 : decode cX10_told 74 = .ok (.aload_n 0, 1) := by decide +kernel
theorem dX10_told_75 : decode cX10_told 75 = .ok (.invokevirtual 198, 3) := by decide +kernel
theorem dX10_told_78 : decode cX10_told 78 = .ok (.ireturn, 1) := by decide +kernel
theorem dX10_told_79 : decode cX10_told 79 = .ok (.aload_n 0, 1) := by decide +kernel
theorem dX10_told_80 : decode cX10_told 80 = .ok (.invokevirtual 262, 3) := by decide +kernel
theorem dX10_told_83 : decode cX10_told 83 = .ok (.ifCond .eq 7, 3) := by decide +kernel
theorem dX10_told_86 : decode cX10_told 86 = .ok (.iconst 1, 1) := by decide +kernel
theorem dX10_told_87 : decode cX10_told 87 = .ok (.goto 4, 3) := by decide +kernel
theorem dX10_told_90 : decode cX10_told 90 = .ok (.iconst 0, 1) := by decide +kernel
theorem dX10_told_91 : decode cX10_told 91 = .ok (.ireturn, 1) := by decide +kernel
theorem dX10_told_92 : decode cX10_told 92 = .ok (.aload_n 0, 1) := by decide +kernel
theorem dX10_told_93 : decode cX10_told 93 = .ok (.getfield 180, 3) := by decide +kernel
theorem dX10_told_96 : decode cX10_told 96 = .ok (.ireturn, 1) := by decide +kernel
theorem dX10_told_97 : decode cX10_told 97 = .ok (.aload_n 0, 1) := by decide +kernel
theorem dX10_told_98 : decode cX10_told 98 = .ok (.getfield 183, 3) := by decide +kernel
theorem dX10_told_101 : decode cX10_told 101 = .ok (.ireturn, 1) := by decide +kernel
theorem dX10_told_102 : decode cX10_told 102 = .ok (.aload_n 0, 1) := by decide +kernel
theorem dX10_told_103 : decode cX10_told 103 = .ok (.getfield 195, 3) := by decide +kernel
theorem dX10_told_106 : decode cX10_told 106 = .ok (.ireturn, 1) := by decide +kernel
theorem dX10_told_107 : decode cX10_told 107 = .ok (.aload_n 0, 1) := by decide +kernel
theorem dX10_told_108 : decode cX10_told 108 = .ok (.iload_n 1, 1) := by decide +kernel
theorem dX10_told_109 : decode cX10_told 109 = .ok (.invokevirtual 266, 3) := by decide +kernel
theorem dX10_told_112 : decode cX10_told 112 = .ok (.ireturn, 1) := by decide +kernel
theorem dX10_cell_0 : decode cX10_cell 0 = .ok (.iload_n 1, 1) := by decide +kernel
theorem dX10_cell_1 : decode cX10_cell 1 = .ok (.i2l, 1) := by decide +kernel
theorem dX10_cell_2 : decode cX10_cell 2 = .ok (.lconst 0, 1) := by decide +kernel
theorem dX10_cell_3 : decode cX10_cell 3 = .ok (.ldc2_w 269, 3) := by decide +kernel
theorem dX10_cell_6 : decode cX10_cell 6 = .ok (.invokestatic 131, 3) := by decide +kernel
theorem dX10_cell_9 : decode cX10_cell 9 = .ok (.ifCond .eq 12, 3) := by decide +kernel
theorem dX10_cell_12 : decode cX10_cell 12 = .ok (.aload_n 0, 1) := by decide +kernel
theorem dX10_cell_13 : decode cX10_cell 13 = .ok (.getfield 7, 3) := by decide +kernel
theorem dX10_cell_16 : decode cX10_cell 16 = .ok (.iload_n 1, 1) := by decide +kernel
theorem dX10_cell_17 : decode cX10_cell 17 = .ok (.iaload, 1) := by decide +kernel
theorem dX10_cell_18 : decode cX10_cell 18 = .ok (.goto 6, 3) := by decide +kernel
theorem dX10_cell_21 : decode cX10_cell 21 = .ok (.ldc_w 271, 3) := by decide +kernel
theorem dX10_cell_24 : decode cX10_cell 24 = .ok (.ireturn, 1) := by decide +kernel
theorem dX10_makerOf_0 : decode cX10_makerOf 0 = .ok (.iconst (-1), 1) := by decide +kernel
theorem dX10_makerOf_1 : decode cX10_makerOf 1 = .ok (.istore_n 2, 1) := by decide +kernel
theorem dX10_makerOf_2 : decode cX10_makerOf 2 = .ok (.iconst 0, 1) := by decide +kernel
theorem dX10_makerOf_3 : decode cX10_makerOf 3 = .ok (.istore_n 3, 1) := by decide +kernel
theorem dX10_makerOf_4 : decode cX10_makerOf 4 = .ok (.iload_n 3, 1) := by decide +kernel
theorem dX10_makerOf_5 : decode cX10_makerOf 5 = .ok (.iload_n 1, 1) := by decide +kernel
theorem dX10_makerOf_6 : decode cX10_makerOf 6 = .ok (.if_icmp .ge 32, 3) := by decide +kernel
theorem dX10_makerOf_9 : decode cX10_makerOf 9 = .ok (.aload_n 0, 1) := by decide +kernel
theorem dX10_makerOf_10 : decode cX10_makerOf 10 = .ok (.getfield 47, 3) := by decide +kernel
theorem dX10_makerOf_13 : decode cX10_makerOf 13 = .ok (.iload_n 3, 1) := by decide +kernel
theorem dX10_makerOf_14 : decode cX10_makerOf 14 = .ok (.iaload, 1) := by decide +kernel
theorem dX10_makerOf_15 : decode cX10_makerOf 15 = .ok (.aload_n 0, 1) := by decide +kernel
theorem dX10_makerOf_16 : decode cX10_makerOf 16 = .ok (.getfield 47, 3) := by decide +kernel
theorem dX10_makerOf_19 : decode cX10_makerOf 19 = .ok (.iload_n 1, 1) := by decide +kernel
theorem dX10_makerOf_20 : decode cX10_makerOf 20 = .ok (.iaload, 1) := by decide +kernel
theorem dX10_makerOf_21 : decode cX10_makerOf 21 = .ok (.iconst 1, 1) := by decide +kernel
theorem dX10_makerOf_22 : decode cX10_makerOf 22 = .ok (.isub, 1) := by decide +kernel
theorem dX10_makerOf_23 : decode cX10_makerOf 23 = .ok (.if_icmp .ne 7, 3) := by decide +kernel
theorem dX10_makerOf_26 : decode cX10_makerOf 26 = .ok (.iload_n 3, 1) := by decide +kernel
theorem dX10_makerOf_27 : decode cX10_makerOf 27 = .ok (.goto 4, 3) := by decide +kernel
theorem dX10_makerOf_30 : decode cX10_makerOf 30 = .ok (.iload_n 2, 1) := by decide +kernel
theorem dX10_makerOf_31 : decode cX10_makerOf 31 = .ok (.istore_n 2, 1) := by decide +kernel
theorem dX10_makerOf_32 : decode cX10_makerOf 32 = .ok (.iinc 3 1, 3) := by decide +kernel
theorem dX10_makerOf_35 : decode cX10_makerOf 35 = .ok (.goto (-31), 3) := by decide +kernel
theorem dX10_makerOf_38 : decode cX10_makerOf 38 = .ok (.iload_n 2, 1) := by decide +kernel
theorem dX10_makerOf_39 : decode cX10_makerOf 39 = .ok (.ireturn, 1) := by decide +kernel
theorem dX10_partsOf_0 : decode cX10_partsOf 0 = .ok (.iconst 0, 1) := by decide +kernel
theorem dX10_partsOf_1 : decode cX10_partsOf 1 = .ok (.istore_n 2, 1) := by decide +kernel
theorem dX10_partsOf_2 : decode cX10_partsOf 2 = .ok (.iload_n 1, 1) := by decide +kernel
theorem dX10_partsOf_3 : decode cX10_partsOf 3 = .ok (.iconst 1, 1) := by decide +kernel
theorem dX10_partsOf_4 : decode cX10_partsOf 4 = .ok (.iadd, 1) := by decide +kernel
theorem dX10_partsOf_5 : decode cX10_partsOf 5 = .ok (.istore_n 3, 1) := by decide +kernel
theorem dX10_partsOf_6 : decode cX10_partsOf 6 = .ok (.iload_n 3, 1) := by decide +kernel
theorem dX10_partsOf_7 : decode cX10_partsOf 7 = .ok (.aload_n 0, 1) := by decide +kernel
theorem dX10_partsOf_8 : decode cX10_partsOf 8 = .ok (.getfield 47, 3) := by decide +kernel
theorem dX10_partsOf_11 : decode cX10_partsOf 11 = .ok (.aload_n 0, 1) := by decide +kernel
theorem dX10_partsOf_12 : decode cX10_partsOf 12 = .ok (.getfield 173, 3) := by decide +kernel
theorem dX10_partsOf_15 : decode cX10_partsOf 15 = .ok (.iload_n 1, 1) := by decide +kernel
theorem dX10_partsOf_16 : decode cX10_partsOf 16 = .ok (.invokestatic 176, 3) := by decide +kernel
theorem dX10_partsOf_19 : decode cX10_partsOf 19 = .ok (.if_icmp .ge 34, 3) := by decide +kernel
theorem dX10_partsOf_22 : decode cX10_partsOf 22 = .ok (.iload_n 2, 1) := by decide +kernel
theorem dX10_partsOf_23 : decode cX10_partsOf 23 = .ok (.aload_n 0, 1) := by decide +kernel
theorem dX10_partsOf_24 : decode cX10_partsOf 24 = .ok (.getfield 47, 3) := by decide +kernel
theorem dX10_partsOf_27 : decode cX10_partsOf 27 = .ok (.iload_n 3, 1) := by decide +kernel
theorem dX10_partsOf_28 : decode cX10_partsOf 28 = .ok (.iaload, 1) := by decide +kernel
theorem dX10_partsOf_29 : decode cX10_partsOf 29 = .ok (.aload_n 0, 1) := by decide +kernel
theorem dX10_partsOf_30 : decode cX10_partsOf 30 = .ok (.getfield 47, 3) := by decide +kernel
theorem dX10_partsOf_33 : decode cX10_partsOf 33 = .ok (.iload_n 1, 1) := by decide +kernel
theorem dX10_partsOf_34 : decode cX10_partsOf 34 = .ok (.iaload, 1) := by decide +kernel
theorem dX10_partsOf_35 : decode cX10_partsOf 35 = .ok (.iconst 1, 1) := by decide +kernel
theorem dX10_partsOf_36 : decode cX10_partsOf 36 = .ok (.iadd, 1) := by decide +kernel
theorem dX10_partsOf_37 : decode cX10_partsOf 37 = .ok (.if_icmp .ne 7, 3) := by decide +kernel
theorem dX10_partsOf_40 : decode cX10_partsOf 40 = .ok (.iconst 1, 1) := by decide +kernel
theorem dX10_partsOf_41 : decode cX10_partsOf 41 = .ok (.goto 4, 3) := by decide +kernel
theorem dX10_partsOf_44 : decode cX10_partsOf 44 = .ok (.iconst 0, 1) := by decide +kernel
theorem dX10_partsOf_45 : decode cX10_partsOf 45 = .ok (.iadd, 1) := by decide +kernel
theorem dX10_partsOf_46 : decode cX10_partsOf 46 = .ok (.istore_n 2, 1) := by decide +kernel
theorem dX10_partsOf_47 : decode cX10_partsOf 47 = .ok (.iinc 3 1, 3) := by decide +kernel
theorem dX10_partsOf_50 : decode cX10_partsOf 50 = .ok (.goto (-44), 3) := by decide +kernel
theorem dX10_partsOf_53 : decode cX10_partsOf 53 = .ok (.iload_n 2, 1) := by decide +kernel
theorem dX10_partsOf_54 : decode cX10_partsOf 54 = .ok (.ireturn, 1) := by decide +kernel
theorem dX10_call_0 : decode cX10_call 0 = .ok (.iload_n 1, 1) := by decide +kernel
theorem dX10_call_1 : decode cX10_call 1 = .ok (.i2l, 1) := by decide +kernel
theorem dX10_call_2 : decode cX10_call 2 = .ok (.lconst 0, 1) := by decide +kernel
theorem dX10_call_3 : decode cX10_call 3 = .ok (.aload_n 0, 1) := by decide +kernel
theorem dX10_call_4 : decode cX10_call 4 = .ok (.getfield 173, 3) := by decide +kernel
theorem dX10_call_7 : decode cX10_call 7 = .ok (.iconst 1, 1) := by decide +kernel
theorem dX10_call_8 : decode cX10_call 8 = .ok (.isub, 1) := by decide +kernel
theorem dX10_call_9 : decode cX10_call 9 = .ok (.i2l, 1) := by decide +kernel
theorem dX10_call_10 : decode cX10_call 10 = .ok (.invokestatic 131, 3) := by decide +kernel
theorem dX10_call_13 : decode cX10_call 13 = .ok (.ifCond .ne 7, 3) := by decide +kernel
theorem dX10_call_16 : decode cX10_call 16 = .ok (.ldc_w 271, 3) := by decide +kernel
theorem dX10_call_19 : decode cX10_call 19 = .ok (.ireturn, 1) := by decide +kernel
theorem dX10_call_20 : decode cX10_call 20 = .ok (.iload_n 2, 1) := by decide +kernel
theorem dX10_call_21 : decode cX10_call 21 = .ok (.tableswitch 149 0 10 #[59, 66, 73, 80, 87, 94, 100, 107, 114, 120, 135], 59) := by decide +kernel
theorem dX10_call_80 : decode cX10_call 80 = .ok (.aload_n 0, 1) := by decide +kernel
theorem dX10_call_81 : decode cX10_call 81 = .ok (.getfield 38, 3) := by decide +kernel
theorem dX10_call_84 : decode cX10_call 84 = .ok (.iload_n 1, 1) := by decide +kernel
theorem dX10_call_85 : decode cX10_call 85 = .ok (.iaload, 1) := by decide +kernel
theorem dX10_call_86 : decode cX10_call 86 = .ok (.ireturn, 1) := by decide +kernel
theorem dX10_call_87 : decode cX10_call 87 = .ok (.aload_n 0, 1) := by decide +kernel
theorem dX10_call_88 : decode cX10_call 88 = .ok (.getfield 41, 3) := by decide +kernel
theorem dX10_call_91 : decode cX10_call 91 = .ok (.iload_n 1, 1) := by decide +kernel
theorem dX10_call_92 : decode cX10_call 92 = .ok (.iaload, 1) := by decide +kernel
theorem dX10_call_93 : decode cX10_call 93 = .ok (.ireturn, 1) := by decide +kernel
theorem dX10_call_94 : decode cX10_call 94 = .ok (.aload_n 0, 1) := by decide +kernel
theorem dX10_call_95 : decode cX10_call 95 = .ok (.getfield 44, 3) := by decide +kernel
theorem dX10_call_98 : decode cX10_call 98 = .ok (.iload_n 1, 1) := by decide +kernel
theorem dX10_call_99 : decode cX10_call 99 = .ok (.iaload, 1) := by decide +kernel
theorem dX10_call_100 : decode cX10_call 100 = .ok (.ireturn, 1) := by decide +kernel
theorem dX10_call_101 : decode cX10_call 101 = .ok (.aload_n 0, 1) := by decide +kernel
theorem dX10_call_102 : decode cX10_call 102 = .ok (.getfield 53, 3) := by decide +kernel
theorem dX10_call_105 : decode cX10_call 105 = .ok (.iload_n 1, 1) := by decide +kernel
theorem dX10_call_106 : decode cX10_call 106 = .ok (.iaload, 1) := by decide +kernel
theorem dX10_call_107 : decode cX10_call 107 = .ok (.ireturn, 1) := by decide +kernel
theorem dX10_call_108 : decode cX10_call 108 = .ok (.aload_n 0, 1) := by decide +kernel
theorem dX10_call_109 : decode cX10_call 109 = .ok (.getfield 56, 3) := by decide +kernel
theorem dX10_call_112 : decode cX10_call 112 = .ok (.iload_n 1, 1) := by decide +kernel
theorem dX10_call_113 : decode cX10_call 113 = .ok (.iaload, 1) := by decide +kernel
theorem dX10_call_114 : decode cX10_call 114 = .ok (.ireturn, 1) := by decide +kernel
theorem dX10_call_115 : decode cX10_call 115 = .ok (.aload_n 0, 1) := by decide +kernel
theorem dX10_call_116 : decode cX10_call 116 = .ok (.iload_n 1, 1) := by decide +kernel
theorem dX10_call_117 : decode cX10_call 117 = .ok (.invokevirtual 272, 3) := by decide +kernel
theorem dX10_call_120 : decode cX10_call 120 = .ok (.ireturn, 1) := by decide +kernel
theorem dX10_call_121 : decode cX10_call 121 = .ok (.aload_n 0, 1) := by decide +kernel
theorem dX10_call_122 : decode cX10_call 122 = .ok (.getfield 47, 3) := by decide +kernel
theorem dX10_call_125 : decode cX10_call 125 = .ok (.iload_n 1, 1) := by decide +kernel
theorem dX10_call_126 : decode cX10_call 126 = .ok (.iaload, 1) := by decide +kernel
theorem dX10_call_127 : decode cX10_call 127 = .ok (.ireturn, 1) := by decide +kernel
theorem dX10_call_128 : decode cX10_call 128 = .ok (.aload_n 0, 1) := by decide +kernel
theorem dX10_call_129 : decode cX10_call 129 = .ok (.getfield 50, 3) := by decide +kernel
theorem dX10_call_132 : decode cX10_call 132 = .ok (.iload_n 1, 1) := by decide +kernel
theorem dX10_call_133 : decode cX10_call 133 = .ok (.iaload, 1) := by decide +kernel
theorem dX10_call_134 : decode cX10_call 134 = .ok (.ireturn, 1) := by decide +kernel
theorem dX10_call_135 : decode cX10_call 135 = .ok (.aload_n 0, 1) := by decide +kernel
theorem dX10_call_136 : decode cX10_call 136 = .ok (.iload_n 1, 1) := by decide +kernel
theorem dX10_call_137 : decode cX10_call 137 = .ok (.invokevirtual 275, 3) := by decide +kernel
theorem dX10_call_140 : decode cX10_call 140 = .ok (.ireturn, 1) := by decide +kernel
theorem dX10_call_141 : decode cX10_call 141 = .ok (.aload_n 0, 1) := by decide +kernel
theorem dX10_call_142 : decode cX10_call 142 = .ok (.getfield 47, 3) := by decide +kernel
theorem dX10_call_145 : decode cX10_call 145 = .ok (.aload_n 0, 1) := by decide +kernel
theorem dX10_call_146 : decode cX10_call 146 = .ok (.getfield 173, 3) := by decide +kernel
theorem dX10_call_149 : decode cX10_call 149 = .ok (.iload_n 1, 1) := by decide +kernel
theorem dX10_call_150 : decode cX10_call 150 = .ok (.invokestatic 176, 3) := by decide +kernel
theorem dX10_call_153 : decode cX10_call 153 = .ok (.iload_n 1, 1) := by decide +kernel
theorem dX10_call_154 : decode cX10_call 154 = .ok (.isub, 1) := by decide +kernel
theorem dX10_call_155 : decode cX10_call 155 = .ok (.ireturn, 1) := by decide +kernel
theorem dX10_call_156 : decode cX10_call 156 = .ok (.aload_n 0, 1) := by decide +kernel
theorem dX10_call_157 : decode cX10_call 157 = .ok (.iload_n 1, 1) := by decide +kernel
theorem dX10_call_158 : decode cX10_call 158 = .ok (.invokevirtual 169, 3) := by decide +kernel
theorem dX10_call_161 : decode cX10_call 161 = .ok (.ifCond .eq 7, 3) := by decide +kernel
theorem dX10_call_164 : decode cX10_call 164 = .ok (.iconst 1, 1) := by decide +kernel
theorem dX10_call_165 : decode cX10_call 165 = .ok (.goto 4, 3) := by decide +kernel
theorem dX10_call_168 : decode cX10_call 168 = .ok (.iconst 0, 1) := by decide +kernel
theorem dX10_call_169 : decode cX10_call 169 = .ok (.ireturn, 1) := by decide +kernel
theorem dX10_call_170 : decode cX10_call 170 = .ok (.ldc 239, 2) := by decide +kernel
theorem dX10_call_172 : decode cX10_call 172 = .ok (.ireturn, 1) := by decide +kernel
theorem dX10_find_0 : decode cX10_find 0 = .ok (.iconst (-1), 1) := by decide +kernel
theorem dX10_find_1 : decode cX10_find 1 = .ok (.istore_n 2, 1) := by decide +kernel
theorem dX10_find_2 : decode cX10_find 2 = .ok (.iconst 0, 1) := by decide +kernel
theorem dX10_find_3 : decode cX10_find 3 = .ok (.istore_n 3, 1) := by decide +kernel
theorem dX10_find_4 : decode cX10_find 4 = .ok (.iload_n 3, 1) := by decide +kernel
theorem dX10_find_5 : decode cX10_find 5 = .ok (.aload_n 0, 1) := by decide +kernel
theorem dX10_find_6 : decode cX10_find 6 = .ok (.getfield 173, 3) := by decide +kernel
theorem dX10_find_9 : decode cX10_find 9 = .ok (.if_icmp .ge 25, 3) := by decide +kernel
theorem dX10_find_12 : decode cX10_find 12 = .ok (.aload_n 0, 1) := by decide +kernel
theorem dX10_find_13 : decode cX10_find 13 = .ok (.getfield 53, 3) := by decide +kernel
theorem dX10_find_16 : decode cX10_find 16 = .ok (.iload_n 3, 1) := by decide +kernel
theorem dX10_find_17 : decode cX10_find 17 = .ok (.iaload, 1) := by decide +kernel
theorem dX10_find_18 : decode cX10_find 18 = .ok (.iload_n 1, 1) := by decide +kernel
theorem dX10_find_19 : decode cX10_find 19 = .ok (.if_icmp .ne 7, 3) := by decide +kernel
theorem dX10_find_22 : decode cX10_find 22 = .ok (.iload_n 3, 1) := by decide +kernel
theorem dX10_find_23 : decode cX10_find 23 = .ok (.goto 4, 3) := by decide +kernel
theorem dX10_find_26 : decode cX10_find 26 = .ok (.iload_n 2, 1) := by decide +kernel
theorem dX10_find_27 : decode cX10_find 27 = .ok (.istore_n 2, 1) := by decide +kernel
theorem dX10_find_28 : decode cX10_find 28 = .ok (.iinc 3 1, 3) := by decide +kernel
theorem dX10_find_31 : decode cX10_find 31 = .ok (.goto (-27), 3) := by decide +kernel
theorem dX10_find_34 : decode cX10_find 34 = .ok (.iload_n 2, 1) := by decide +kernel
theorem dX10_find_35 : decode cX10_find 35 = .ok (.ireturn, 1) := by decide +kernel
theorem dX10_set_0 : decode cX10_set 0 = .ok (.iload_n 1, 1) := by decide +kernel
theorem dX10_set_1 : decode cX10_set 1 = .ok (.i2l, 1) := by decide +kernel
theorem dX10_set_2 : decode cX10_set 2 = .ok (.lconst 0, 1) := by decide +kernel
theorem dX10_set_3 : decode cX10_set 3 = .ok (.ldc2_w 269, 3) := by decide +kernel
theorem dX10_set_6 : decode cX10_set 6 = .ok (.invokestatic 131, 3) := by decide +kernel
theorem dX10_set_9 : decode cX10_set 9 = .ok (.ifCond .ne 7, 3) := by decide +kernel
theorem dX10_set_12 : decode cX10_set 12 = .ok (.ldc_w 271, 3) := by decide +kernel
theorem dX10_set_15 : decode cX10_set 15 = .ok (.ireturn, 1) := by decide +kernel
theorem dX10_set_16 : decode cX10_set 16 = .ok (.iload_n 2, 1) := by decide +kernel
theorem dX10_set_17 : decode cX10_set 17 = .ok (.i2l, 1) := by decide +kernel
theorem dX10_set_18 : decode cX10_set 18 = .ok (.lconst 0, 1) := by decide +kernel
theorem dX10_set_19 : decode cX10_set 19 = .ok (.ldc2_w 278, 3) := by decide +kernel
theorem dX10_set_22 : decode cX10_set 22 = .ok (.invokestatic 131, 3) := by decide +kernel
theorem dX10_set_25 : decode cX10_set 25 = .ok (.ifCond .ne 6, 3) := by decide +kernel
theorem dX10_set_28 : decode cX10_set 28 = .ok (.ldc 239, 2) := by decide +kernel
theorem dX10_set_30 : decode cX10_set 30 = .ok (.ireturn, 1) := by decide +kernel
theorem dX10_set_31 : decode cX10_set 31 = .ok (.aload_n 0, 1) := by decide +kernel
theorem dX10_set_32 : decode cX10_set 32 = .ok (.invokevirtual 280, 3) := by decide +kernel
theorem dX10_set_35 : decode cX10_set 35 = .ok (.aload_n 0, 1) := by decide +kernel
theorem dX10_set_36 : decode cX10_set 36 = .ok (.getfield 7, 3) := by decide +kernel
theorem dX10_set_39 : decode cX10_set 39 = .ok (.iload_n 1, 1) := by decide +kernel
theorem dX10_set_40 : decode cX10_set 40 = .ok (.iaload, 1) := by decide +kernel
theorem dX10_set_41 : decode cX10_set 41 = .ok (.istore_n 3, 1) := by decide +kernel
theorem dX10_set_42 : decode cX10_set 42 = .ok (.aload_n 0, 1) := by decide +kernel
theorem dX10_set_43 : decode cX10_set 43 = .ok (.getfield 7, 3) := by decide +kernel
theorem dX10_set_46 : decode cX10_set 46 = .ok (.iload_n 1, 1) := by decide +kernel
theorem dX10_set_47 : decode cX10_set 47 = .ok (.iload_n 2, 1) := by decide +kernel
theorem dX10_set_48 : decode cX10_set 48 = .ok (.iastore, 1) := by decide +kernel
theorem dX10_set_49 : decode cX10_set 49 = .ok (.iload_n 3, 1) := by decide +kernel
theorem dX10_set_50 : decode cX10_set 50 = .ok (.ireturn, 1) := by decide +kernel
theorem dX10_aim_0 : decode cX10_aim 0 = .ok (.iload_n 1, 1) := by decide +kernel
theorem dX10_aim_1 : decode cX10_aim 1 = .ok (.i2l, 1) := by decide +kernel
theorem dX10_aim_2 : decode cX10_aim 2 = .ok (.lconst 0, 1) := by decide +kernel
theorem dX10_aim_3 : decode cX10_aim 3 = .ok (.aload_n 0, 1) := by decide +kernel
theorem dX10_aim_4 : decode cX10_aim 4 = .ok (.getfield 95, 3) := by decide +kernel
theorem dX10_aim_7 : decode cX10_aim 7 = .ok (.iconst 1, 1) := by decide +kernel
theorem dX10_aim_8 : decode cX10_aim 8 = .ok (.isub, 1) := by decide +kernel
theorem dX10_aim_9 : decode cX10_aim 9 = .ok (.i2l, 1) := by decide +kernel
theorem dX10_aim_10 : decode cX10_aim 10 = .ok (.invokestatic 131, 3) := by decide +kernel
theorem dX10_aim_13 : decode cX10_aim 13 = .ok (.ifCond .ne 7, 3) := by decide +kernel
theorem dX10_aim_16 : decode cX10_aim 16 = .ok (.ldc_w 271, 3) := by decide +kernel
theorem dX10_aim_19 : decode cX10_aim 19 = .ok (.ireturn, 1) := by decide +kernel
theorem dX10_aim_20 : decode cX10_aim 20 = .ok (.iload_n 2, 1) := by decide +kernel
theorem dX10_aim_21 : decode cX10_aim 21 = .ok (.i2l, 1) := by decide +kernel
theorem dX10_aim_22 : decode cX10_aim 22 = .ok (.lconst 0, 1) := by decide +kernel
theorem dX10_aim_23 : decode cX10_aim 23 = .ok (.ldc2_w 278, 3) := by decide +kernel
theorem dX10_aim_26 : decode cX10_aim 26 = .ok (.invokestatic 131, 3) := by decide +kernel
theorem dX10_aim_29 : decode cX10_aim 29 = .ok (.ifCond .ne 6, 3) := by decide +kernel
theorem dX10_aim_32 : decode cX10_aim 32 = .ok (.ldc 239, 2) := by decide +kernel
theorem dX10_aim_34 : decode cX10_aim 34 = .ok (.ireturn, 1) := by decide +kernel
theorem dX10_aim_35 : decode cX10_aim 35 = .ok (.aload_n 0, 1) := by decide +kernel
theorem dX10_aim_36 : decode cX10_aim 36 = .ok (.invokevirtual 280, 3) := by decide +kernel
theorem dX10_aim_39 : decode cX10_aim 39 = .ok (.aload_n 0, 1) := by decide +kernel
theorem dX10_aim_40 : decode cX10_aim 40 = .ok (.getfield 7, 3) := by decide +kernel
theorem dX10_aim_43 : decode cX10_aim 43 = .ok (.bipush 8, 2) := by decide +kernel
theorem dX10_aim_45 : decode cX10_aim 45 = .ok (.iaload, 1) := by decide +kernel
theorem dX10_aim_46 : decode cX10_aim 46 = .ok (.iload_n 1, 1) := by decide +kernel
theorem dX10_aim_47 : decode cX10_aim 47 = .ok (.if_icmp .ne 14, 3) := by decide +kernel
theorem dX10_aim_50 : decode cX10_aim 50 = .ok (.aload_n 0, 1) := by decide +kernel
theorem dX10_aim_51 : decode cX10_aim 51 = .ok (.getfield 7, 3) := by decide +kernel
theorem dX10_aim_54 : decode cX10_aim 54 = .ok (.bipush 9, 2) := by decide +kernel
theorem dX10_aim_56 : decode cX10_aim 56 = .ok (.iaload, 1) := by decide +kernel
theorem dX10_aim_57 : decode cX10_aim 57 = .ok (.iload_n 2, 1) := by decide +kernel
theorem dX10_aim_58 : decode cX10_aim 58 = .ok (.if_icmp .eq 7, 3) := by decide +kernel
theorem dX10_aim_61 : decode cX10_aim 61 = .ok (.iconst 1, 1) := by decide +kernel
theorem dX10_aim_62 : decode cX10_aim 62 = .ok (.goto 4, 3) := by decide +kernel
theorem dX10_aim_65 : decode cX10_aim 65 = .ok (.iconst 0, 1) := by decide +kernel
theorem dX10_aim_66 : decode cX10_aim 66 = .ok (.istore_n 3, 1) := by decide +kernel
theorem dX10_aim_67 : decode cX10_aim 67 = .ok (.aload_n 0, 1) := by decide +kernel
theorem dX10_aim_68 : decode cX10_aim 68 = .ok (.getfield 7, 3) := by decide +kernel
theorem dX10_aim_71 : decode cX10_aim 71 = .ok (.bipush 8, 2) := by decide +kernel
theorem dX10_aim_73 : decode cX10_aim 73 = .ok (.iload_n 1, 1) := by decide +kernel
theorem dX10_aim_74 : decode cX10_aim 74 = .ok (.iastore, 1) := by decide +kernel
theorem dX10_aim_75 : decode cX10_aim 75 = .ok (.aload_n 0, 1) := by decide +kernel
theorem dX10_aim_76 : decode cX10_aim 76 = .ok (.getfield 7, 3) := by decide +kernel
theorem dX10_aim_79 : decode cX10_aim 79 = .ok (.bipush 9, 2) := by decide +kernel
theorem dX10_aim_81 : decode cX10_aim 81 = .ok (.iload_n 2, 1) := by decide +kernel
theorem dX10_aim_82 : decode cX10_aim 82 = .ok (.iastore, 1) := by decide +kernel
theorem dX10_aim_83 : decode cX10_aim 83 = .ok (.iload_n 3, 1) := by decide +kernel
theorem dX10_aim_84 : decode cX10_aim 84 = .ok (.ifCond .eq 7, 3) := by decide +kernel
theorem dX10_aim_87 : decode cX10_aim 87 = .ok (.iconst 1, 1) := by decide +kernel
theorem dX10_aim_88 : decode cX10_aim 88 = .ok (.goto 4, 3) := by decide +kernel
theorem dX10_aim_91 : decode cX10_aim 91 = .ok (.iconst 0, 1) := by decide +kernel
theorem dX10_aim_92 : decode cX10_aim 92 = .ok (.ireturn, 1) := by decide +kernel
theorem dX10_bring_0 : decode cX10_bring 0 = .ok (.aload_n 0, 1) := by decide +kernel
theorem dX10_bring_1 : decode cX10_bring 1 = .ok (.invokevirtual 198, 3) := by decide +kernel
theorem dX10_bring_4 : decode cX10_bring 4 = .ok (.istore_n 1, 1) := by decide +kernel
theorem dX10_bring_5 : decode cX10_bring 5 = .ok (.aload_n 0, 1) := by decide +kernel
theorem dX10_bring_6 : decode cX10_bring 6 = .ok (.aload_n 0, 1) := by decide +kernel
theorem dX10_bring_7 : decode cX10_bring 7 = .ok (.getfield 38, 3) := by decide +kernel
theorem dX10_bring_10 : decode cX10_bring 10 = .ok (.iconst 0, 1) := by decide +kernel
theorem dX10_bring_11 : decode cX10_bring 11 = .ok (.iaload, 1) := by decide +kernel
theorem dX10_bring_12 : decode cX10_bring 12 = .ok (.aload_n 0, 1) := by decide +kernel
theorem dX10_bring_13 : decode cX10_bring 13 = .ok (.getfield 7, 3) := by decide +kernel
theorem dX10_bring_16 : decode cX10_bring 16 = .ok (.bipush 8, 2) := by decide +kernel
theorem dX10_bring_18 : decode cX10_bring 18 = .ok (.iaload, 1) := by decide +kernel
theorem dX10_bring_19 : decode cX10_bring 19 = .ok (.if_icmp .ne 23, 3) := by decide +kernel
theorem dX10_bring_22 : decode cX10_bring 22 = .ok (.aload_n 0, 1) := by decide +kernel
theorem dX10_bring_23 : decode cX10_bring 23 = .ok (.getfield 41, 3) := by decide +kernel
theorem dX10_bring_26 : decode cX10_bring 26 = .ok (.iconst 0, 1) := by decide +kernel
theorem dX10_bring_27 : decode cX10_bring 27 = .ok (.iaload, 1) := by decide +kernel
theorem dX10_bring_28 : decode cX10_bring 28 = .ok (.aload_n 0, 1) := by decide +kernel
theorem dX10_bring_29 : decode cX10_bring 29 = .ok (.getfield 7, 3) := by decide +kernel
theorem dX10_bring_32 : decode cX10_bring 32 = .ok (.bipush 9, 2) := by decide +kernel
theorem dX10_bring_34 : decode cX10_bring 34 = .ok (.iaload, 1) := by decide +kernel
theorem dX10_bring_35 : decode cX10_bring 35 = .ok (.if_icmp .ne 7, 3) := by decide +kernel
theorem dX10_bring_38 : decode cX10_bring 38 = .ok (.iconst 1, 1) := by decide +kernel
theorem dX10_bring_39 : decode cX10_bring 39 = .ok (.goto 4, 3) := by decide +kernel
theorem dX10_bring_42 : decode cX10_bring 42 = .ok (.iconst 0, 1) := by decide +kernel
theorem dX10_bring_43 : decode cX10_bring 43 = .ok (.invokevirtual 201, 3) := by decide +kernel
theorem dX10_bring_46 : decode cX10_bring 46 = .ok (.aload_n 0, 1) := by decide +kernel
theorem dX10_bring_47 : decode cX10_bring 47 = .ok (.invokevirtual 205, 3) := by decide +kernel
theorem dX10_bring_50 : decode cX10_bring 50 = .ok (.iload_n 1, 1) := by decide +kernel
theorem dX10_bring_51 : decode cX10_bring 51 = .ok (.ireturn, 1) := by decide +kernel
theorem dX10_draw_0 : decode cX10_draw 0 = .ok (.aload_n 0, 1) := by decide +kernel
theorem dX10_draw_1 : decode cX10_draw 1 = .ok (.aload_n 0, 1) := by decide +kernel
theorem dX10_draw_2 : decode cX10_draw 2 = .ok (.getfield 283, 3) := by decide +kernel
theorem dX10_draw_5 : decode cX10_draw 5 = .ok (.i2l, 1) := by decide +kernel
theorem dX10_draw_6 : decode cX10_draw 6 = .ok (.ldc2_w 286, 3) := by decide +kernel
theorem dX10_draw_9 : decode cX10_draw 9 = .ok (.lmul, 1) := by decide +kernel
theorem dX10_draw_10 : decode cX10_draw 10 = .ok (.ldc2_w 288, 3) := by decide +kernel
theorem dX10_draw_13 : decode cX10_draw 13 = .ok (.ladd, 1) := by decide +kernel
theorem dX10_draw_14 : decode cX10_draw 14 = .ok (.ldc2_w 290, 3) := by decide +kernel
theorem dX10_draw_17 : decode cX10_draw 17 = .ok (.lrem, 1) := by decide +kernel
theorem dX10_draw_18 : decode cX10_draw 18 = .ok (.l2i, 1) := by decide +kernel
theorem dX10_draw_19 : decode cX10_draw 19 = .ok (.putfield 283, 3) := by decide +kernel
theorem dX10_draw_22 : decode cX10_draw 22 = .ok (.aload_n 0, 1) := by decide +kernel
theorem dX10_draw_23 : decode cX10_draw 23 = .ok (.getfield 283, 3) := by decide +kernel
theorem dX10_draw_26 : decode cX10_draw 26 = .ok (.ldc_w 292, 3) := by decide +kernel
theorem dX10_draw_29 : decode cX10_draw 29 = .ok (.idiv, 1) := by decide +kernel
theorem dX10_draw_30 : decode cX10_draw 30 = .ok (.iload_n 1, 1) := by decide +kernel
theorem dX10_draw_31 : decode cX10_draw 31 = .ok (.irem, 1) := by decide +kernel
theorem dX10_draw_32 : decode cX10_draw 32 = .ok (.ireturn, 1) := by decide +kernel
theorem dX10_drift_0 : decode cX10_drift 0 = .ok (.iload_n 1, 1) := by decide +kernel
theorem dX10_drift_1 : decode cX10_drift 1 = .ok (.i2l, 1) := by decide +kernel
theorem dX10_drift_2 : decode cX10_drift 2 = .ok (.lconst 1, 1) := by decide +kernel
theorem dX10_drift_3 : decode cX10_drift 3 = .ok (.ldc2_w 293, 3) := by decide +kernel
theorem dX10_drift_6 : decode cX10_drift 6 = .ok (.invokestatic 131, 3) := by decide +kernel
theorem dX10_drift_9 : decode cX10_drift 9 = .ok (.ifCond .ne 6, 3) := by decide +kernel
theorem dX10_drift_12 : decode cX10_drift 12 = .ok (.ldc 239, 2) := by decide +kernel
theorem dX10_drift_14 : decode cX10_drift 14 = .ok (.ireturn, 1) := by decide +kernel
theorem dX10_drift_15 : decode cX10_drift 15 = .ok (.iconst 0, 1) := by decide +kernel
theorem dX10_drift_16 : decode cX10_drift 16 = .ok (.istore_n 2, 1) := by decide +kernel
theorem dX10_drift_17 : decode cX10_drift 17 = .ok (.iload_n 2, 1) := by decide +kernel
theorem dX10_drift_18 : decode cX10_drift 18 = .ok (.iload_n 1, 1) := by decide +kernel
theorem dX10_drift_19 : decode cX10_drift 19 = .ok (.if_icmp .ge 32, 3) := by decide +kernel
theorem dX10_drift_22 : decode cX10_drift 22 = .ok (.aload_n 0, 1) := by decide +kernel
theorem dX10_drift_23 : decode cX10_drift 23 = .ok (.invokevirtual 280, 3) := by decide +kernel
theorem dX10_drift_26 : decode cX10_drift 26 = .ok (.aload_n 0, 1) := by decide +kernel
theorem dX10_drift_27 : decode cX10_drift 27 = .ok (.bipush 8, 2) := by decide +kernel
theorem dX10_drift_29 : decode cX10_drift 29 = .ok (.invokevirtual 295, 3) := by decide +kernel
theorem dX10_drift_32 : decode cX10_drift 32 = .ok (.istore_n 3, 1) := by decide +kernel
theorem dX10_drift_33 : decode cX10_drift 33 = .ok (.aload_n 0, 1) := by decide +kernel
theorem dX10_drift_34 : decode cX10_drift 34 = .ok (.getfield 7, 3) := by decide +kernel
theorem dX10_drift_37 : decode cX10_drift 37 = .ok (.iload_n 3, 1) := by decide +kernel
theorem dX10_drift_38 : decode cX10_drift 38 = .ok (.aload_n 0, 1) := by decide +kernel
theorem dX10_drift_39 : decode cX10_drift 39 = .ok (.bipush 10, 2) := by decide +kernel
theorem dX10_drift_41 : decode cX10_drift 41 = .ok (.invokevirtual 295, 3) := by decide +kernel
theorem dX10_drift_44 : decode cX10_drift 44 = .ok (.iastore, 1) := by decide +kernel
theorem dX10_drift_45 : decode cX10_drift 45 = .ok (.iinc 2 1, 3) := by decide +kernel
theorem dX10_drift_48 : decode cX10_drift 48 = .ok (.goto (-31), 3) := by decide +kernel
theorem dX10_drift_51 : decode cX10_drift 51 = .ok (.aload_n 0, 1) := by decide +kernel
theorem dX10_drift_52 : decode cX10_drift 52 = .ok (.getfield 283, 3) := by decide +kernel
theorem dX10_drift_55 : decode cX10_drift 55 = .ok (.ireturn, 1) := by decide +kernel
theorem dX10_undo_0 : decode cX10_undo 0 = .ok (.iload_n 1, 1) := by decide +kernel
theorem dX10_undo_1 : decode cX10_undo 1 = .ok (.i2l, 1) := by decide +kernel
theorem dX10_undo_2 : decode cX10_undo 2 = .ok (.lconst 1, 1) := by decide +kernel
theorem dX10_undo_3 : decode cX10_undo 3 = .ok (.ldc2_w 298, 3) := by decide +kernel
theorem dX10_undo_6 : decode cX10_undo 6 = .ok (.invokestatic 131, 3) := by decide +kernel
theorem dX10_undo_9 : decode cX10_undo 9 = .ok (.ifCond .ne 6, 3) := by decide +kernel
theorem dX10_undo_12 : decode cX10_undo 12 = .ok (.ldc 239, 2) := by decide +kernel
theorem dX10_undo_14 : decode cX10_undo 14 = .ok (.ireturn, 1) := by decide +kernel
theorem dX10_undo_15 : decode cX10_undo 15 = .ok (.iload_n 1, 1) := by decide +kernel
theorem dX10_undo_16 : decode cX10_undo 16 = .ok (.aload_n 0, 1) := by decide +kernel
theorem dX10_undo_17 : decode cX10_undo 17 = .ok (.getfield 105, 3) := by decide +kernel
theorem dX10_undo_20 : decode cX10_undo 20 = .ok (.if_icmp .le 7, 3) := by decide +kernel
theorem dX10_undo_23 : decode cX10_undo 23 = .ok (.ldc_w 300, 3) := by decide +kernel
theorem dX10_undo_26 : decode cX10_undo 26 = .ok (.ireturn, 1) := by decide +kernel
theorem dX10_undo_27 : decode cX10_undo 27 = .ok (.iconst 0, 1) := by decide +kernel
theorem dX10_undo_28 : decode cX10_undo 28 = .ok (.istore_n 2, 1) := by decide +kernel
theorem dX10_undo_29 : decode cX10_undo 29 = .ok (.iload_n 2, 1) := by decide +kernel
theorem dX10_undo_30 : decode cX10_undo 30 = .ok (.iload_n 1, 1) := by decide +kernel
theorem dX10_undo_31 : decode cX10_undo 31 = .ok (.iadd, 1) := by decide +kernel
theorem dX10_undo_32 : decode cX10_undo 32 = .ok (.bipush 16, 2) := by decide +kernel
theorem dX10_undo_34 : decode cX10_undo 34 = .ok (.if_icmp .gt 23, 3) := by decide +kernel
theorem dX10_undo_37 : decode cX10_undo 37 = .ok (.aload_n 0, 1) := by decide +kernel
theorem dX10_undo_38 : decode cX10_undo 38 = .ok (.bipush 10, 2) := by decide +kernel
theorem dX10_undo_40 : decode cX10_undo 40 = .ok (.iload_n 2, 1) := by decide +kernel
theorem dX10_undo_41 : decode cX10_undo 41 = .ok (.iload_n 1, 1) := by decide +kernel
theorem dX10_undo_42 : decode cX10_undo 42 = .ok (.iadd, 1) := by decide +kernel
theorem dX10_undo_43 : decode cX10_undo 43 = .ok (.imul, 1) := by decide +kernel
theorem dX10_undo_44 : decode cX10_undo 44 = .ok (.bipush 10, 2) := by decide +kernel
theorem dX10_undo_46 : decode cX10_undo 46 = .ok (.iload_n 2, 1) := by decide +kernel
theorem dX10_undo_47 : decode cX10_undo 47 = .ok (.imul, 1) := by decide +kernel
theorem dX10_undo_48 : decode cX10_undo 48 = .ok (.invokevirtual 101, 3) := by decide +kernel
theorem dX10_undo_51 : decode cX10_undo 51 = .ok (.iinc 2 1, 3) := by decide +kernel
theorem dX10_undo_54 : decode cX10_undo 54 = .ok (.goto (-25), 3) := by decide +kernel
theorem dX10_undo_57 : decode cX10_undo 57 = .ok (.aload_n 0, 1) := by decide +kernel
theorem dX10_undo_58 : decode cX10_undo 58 = .ok (.dup, 1) := by decide +kernel
theorem dX10_undo_59 : decode cX10_undo 59 = .ok (.getfield 105, 3) := by decide +kernel
theorem dX10_undo_62 : decode cX10_undo 62 = .ok (.iload_n 1, 1) := by decide +kernel
theorem dX10_undo_63 : decode cX10_undo 63 = .ok (.isub, 1) := by decide +kernel
theorem dX10_undo_64 : decode cX10_undo 64 = .ok (.putfield 105, 3) := by decide +kernel
theorem dX10_undo_67 : decode cX10_undo 67 = .ok (.aload_n 0, 1) := by decide +kernel
theorem dX10_undo_68 : decode cX10_undo 68 = .ok (.getfield 105, 3) := by decide +kernel
theorem dX10_undo_71 : decode cX10_undo 71 = .ok (.ireturn, 1) := by decide +kernel
theorem dX10_write_0 : decode cX10_write 0 = .ok (.iload_n 1, 1) := by decide +kernel
theorem dX10_write_1 : decode cX10_write 1 = .ok (.i2l, 1) := by decide +kernel
theorem dX10_write_2 : decode cX10_write 2 = .ok (.lconst 0, 1) := by decide +kernel
theorem dX10_write_3 : decode cX10_write 3 = .ok (.aload_n 0, 1) := by decide +kernel
theorem dX10_write_4 : decode cX10_write 4 = .ok (.getfield 95, 3) := by decide +kernel
theorem dX10_write_7 : decode cX10_write 7 = .ok (.iconst 1, 1) := by decide +kernel
theorem dX10_write_8 : decode cX10_write 8 = .ok (.isub, 1) := by decide +kernel
theorem dX10_write_9 : decode cX10_write 9 = .ok (.i2l, 1) := by decide +kernel
theorem dX10_write_10 : decode cX10_write 10 = .ok (.invokestatic 131, 3) := by decide +kernel
theorem dX10_write_13 : decode cX10_write 13 = .ok (.ifCond .ne 7, 3) := by decide +kernel
theorem dX10_write_16 : decode cX10_write 16 = .ok (.ldc_w 271, 3) := by decide +kernel
theorem dX10_write_19 : decode cX10_write 19 = .ok (.ireturn, 1) := by decide +kernel
theorem dX10_write_20 : decode cX10_write 20 = .ok (.iload_n 2, 1) := by decide +kernel
theorem dX10_write_21 : decode cX10_write 21 = .ok (.i2l, 1) := by decide +kernel
theorem dX10_write_22 : decode cX10_write 22 = .ok (.lconst 0, 1) := by decide +kernel
theorem dX10_write_23 : decode cX10_write 23 = .ok (.ldc2_w 278, 3) := by decide +kernel
theorem dX10_write_26 : decode cX10_write 26 = .ok (.invokestatic 131, 3) := by decide +kernel
theorem dX10_write_29 : decode cX10_write 29 = .ok (.ifCond .ne 6, 3) := by decide +kernel
theorem dX10_write_32 : decode cX10_write 32 = .ok (.ldc 239, 2) := by decide +kernel
theorem dX10_write_34 : decode cX10_write 34 = .ok (.ireturn, 1) := by decide +kernel
theorem dX10_write_35 : decode cX10_write 35 = .ok (.aload_n 0, 1) := by decide +kernel
theorem dX10_write_36 : decode cX10_write 36 = .ok (.getfield 247, 3) := by decide +kernel
theorem dX10_write_39 : decode cX10_write 39 = .ok (.bipush 20, 2) := by decide +kernel
theorem dX10_write_41 : decode cX10_write 41 = .ok (.if_icmp .ne 6, 3) := by decide +kernel
theorem dX10_write_44 : decode cX10_write 44 = .ok (.ldc 240, 2) := by decide +kernel
theorem dX10_write_46 : decode cX10_write 46 = .ok (.ireturn, 1) := by decide +kernel
theorem dX10_write_47 : decode cX10_write 47 = .ok (.aload_n 0, 1) := by decide +kernel
theorem dX10_write_48 : decode cX10_write 48 = .ok (.getfield 23, 3) := by decide +kernel
theorem dX10_write_51 : decode cX10_write 51 = .ok (.aload_n 0, 1) := by decide +kernel
theorem dX10_write_52 : decode cX10_write 52 = .ok (.getfield 247, 3) := by decide +kernel
theorem dX10_write_55 : decode cX10_write 55 = .ok (.iload_n 1, 1) := by decide +kernel
theorem dX10_write_56 : decode cX10_write 56 = .ok (.iastore, 1) := by decide +kernel
theorem dX10_write_57 : decode cX10_write 57 = .ok (.aload_n 0, 1) := by decide +kernel
theorem dX10_write_58 : decode cX10_write 58 = .ok (.getfield 26, 3) := by decide +kernel
theorem dX10_write_61 : decode cX10_write 61 = .ok (.aload_n 0, 1) := by decide +kernel
theorem dX10_write_62 : decode cX10_write 62 = .ok (.getfield 247, 3) := by decide +kernel
theorem dX10_write_65 : decode cX10_write 65 = .ok (.iload_n 2, 1) := by decide +kernel
theorem dX10_write_66 : decode cX10_write 66 = .ok (.iastore, 1) := by decide +kernel
theorem dX10_write_67 : decode cX10_write 67 = .ok (.aload_n 0, 1) := by decide +kernel
theorem dX10_write_68 : decode cX10_write 68 = .ok (.getfield 29, 3) := by decide +kernel
theorem dX10_write_71 : decode cX10_write 71 = .ok (.aload_n 0, 1) := by decide +kernel
theorem dX10_write_72 : decode cX10_write 72 = .ok (.getfield 247, 3) := by decide +kernel
theorem dX10_write_75 : decode cX10_write 75 = .ok (.iload_n 3, 1) := by decide +kernel
theorem dX10_write_76 : decode cX10_write 76 = .ok (.iastore, 1) := by decide +kernel
theorem dX10_write_77 : decode cX10_write 77 = .ok (.aload_n 0, 1) := by decide +kernel
theorem dX10_write_78 : decode cX10_write 78 = .ok (.dup, 1) := by decide +kernel
theorem dX10_write_79 : decode cX10_write 79 = .ok (.getfield 247, 3) := by decide +kernel
theorem dX10_write_82 : decode cX10_write 82 = .ok (.iconst 1, 1) := by decide +kernel
theorem dX10_write_83 : decode cX10_write 83 = .ok (.iadd, 1) := by decide +kernel
theorem dX10_write_84 : decode cX10_write 84 = .ok (.putfield 247, 3) := by decide +kernel
theorem dX10_write_87 : decode cX10_write 87 = .ok (.aload_n 0, 1) := by decide +kernel
theorem dX10_write_88 : decode cX10_write 88 = .ok (.getfield 247, 3) := by decide +kernel
theorem dX10_write_91 : decode cX10_write 91 = .ok (.ireturn, 1) := by decide +kernel
theorem dX10_tear_0 : decode cX10_tear 0 = .ok (.aload_n 0, 1) := by decide +kernel
theorem dX10_tear_1 : decode cX10_tear 1 = .ok (.getfield 247, 3) := by decide +kernel
theorem dX10_tear_4 : decode cX10_tear 4 = .ok (.istore_n 1, 1) := by decide +kernel
theorem dX10_tear_5 : decode cX10_tear 5 = .ok (.aload_n 0, 1) := by decide +kernel
theorem dX10_tear_6 : decode cX10_tear 6 = .ok (.iconst 0, 1) := by decide +kernel
theorem dX10_tear_7 : decode cX10_tear 7 = .ok (.putfield 247, 3) := by decide +kernel
theorem dX10_tear_10 : decode cX10_tear 10 = .ok (.iload_n 1, 1) := by decide +kernel
theorem dX10_tear_11 : decode cX10_tear 11 = .ok (.ireturn, 1) := by decide +kernel
theorem dX10_seed_0 : decode cX10_seed 0 = .ok (.iload_n 1, 1) := by decide +kernel
theorem dX10_seed_1 : decode cX10_seed 1 = .ok (.ifCond .ge 6, 3) := by decide +kernel
theorem dX10_seed_4 : decode cX10_seed 4 = .ok (.ldc 239, 2) := by decide +kernel
theorem dX10_seed_6 : decode cX10_seed 6 = .ok (.ireturn, 1) := by decide +kernel
theorem dX10_seed_7 : decode cX10_seed 7 = .ok (.aload_n 0, 1) := by decide +kernel
theorem dX10_seed_8 : decode cX10_seed 8 = .ok (.getfield 283, 3) := by decide +kernel
theorem dX10_seed_11 : decode cX10_seed 11 = .ok (.istore_n 2, 1) := by decide +kernel
theorem dX10_seed_12 : decode cX10_seed 12 = .ok (.aload_n 0, 1) := by decide +kernel
theorem dX10_seed_13 : decode cX10_seed 13 = .ok (.iload_n 1, 1) := by decide +kernel
theorem dX10_seed_14 : decode cX10_seed 14 = .ok (.putfield 283, 3) := by decide +kernel
theorem dX10_seed_17 : decode cX10_seed 17 = .ok (.iload_n 2, 1) := by decide +kernel
theorem dX10_seed_18 : decode cX10_seed 18 = .ok (.ireturn, 1) := by decide +kernel
theorem dX10_keep_0 : decode cX10_keep 0 = .ok (.iload_n 1, 1) := by decide +kernel
theorem dX10_keep_1 : decode cX10_keep 1 = .ok (.i2l, 1) := by decide +kernel
theorem dX10_keep_2 : decode cX10_keep 2 = .ok (.lconst 0, 1) := by decide +kernel
theorem dX10_keep_3 : decode cX10_keep 3 = .ok (.lconst 1, 1) := by decide +kernel
theorem dX10_keep_4 : decode cX10_keep 4 = .ok (.invokestatic 131, 3) := by decide +kernel
theorem dX10_keep_7 : decode cX10_keep 7 = .ok (.ifCond .ne 7, 3) := by decide +kernel
theorem dX10_keep_10 : decode cX10_keep 10 = .ok (.ldc_w 271, 3) := by decide +kernel
theorem dX10_keep_13 : decode cX10_keep 13 = .ok (.ireturn, 1) := by decide +kernel
theorem dX10_keep_14 : decode cX10_keep 14 = .ok (.aload_n 0, 1) := by decide +kernel
theorem dX10_keep_15 : decode cX10_keep 15 = .ok (.iconst 0, 1) := by decide +kernel
theorem dX10_keep_16 : decode cX10_keep 16 = .ok (.sipush 170, 3) := by decide +kernel
theorem dX10_keep_19 : decode cX10_keep 19 = .ok (.bipush 10, 2) := by decide +kernel
theorem dX10_keep_21 : decode cX10_keep 21 = .ok (.iload_n 1, 1) := by decide +kernel
theorem dX10_keep_22 : decode cX10_keep 22 = .ok (.imul, 1) := by decide +kernel
theorem dX10_keep_23 : decode cX10_keep 23 = .ok (.iadd, 1) := by decide +kernel
theorem dX10_keep_24 : decode cX10_keep 24 = .ok (.invokevirtual 101, 3) := by decide +kernel
theorem dX10_keep_27 : decode cX10_keep 27 = .ok (.aload_n 0, 1) := by decide +kernel
theorem dX10_keep_28 : decode cX10_keep 28 = .ok (.getfield 13, 3) := by decide +kernel
theorem dX10_keep_31 : decode cX10_keep 31 = .ok (.iload_n 1, 1) := by decide +kernel
theorem dX10_keep_32 : decode cX10_keep 32 = .ok (.aload_n 0, 1) := by decide +kernel
theorem dX10_keep_33 : decode cX10_keep 33 = .ok (.getfield 283, 3) := by decide +kernel
theorem dX10_keep_36 : decode cX10_keep 36 = .ok (.iastore, 1) := by decide +kernel
theorem dX10_keep_37 : decode cX10_keep 37 = .ok (.aload_n 0, 1) := by decide +kernel
theorem dX10_keep_38 : decode cX10_keep 38 = .ok (.dup, 1) := by decide +kernel
theorem dX10_keep_39 : decode cX10_keep 39 = .ok (.getfield 301, 3) := by decide +kernel
theorem dX10_keep_42 : decode cX10_keep 42 = .ok (.iconst 1, 1) := by decide +kernel
theorem dX10_keep_43 : decode cX10_keep 43 = .ok (.iload_n 1, 1) := by decide +kernel
theorem dX10_keep_44 : decode cX10_keep 44 = .ok (.ishl, 1) := by decide +kernel
theorem dX10_keep_45 : decode cX10_keep 45 = .ok (.ior, 1) := by decide +kernel
theorem dX10_keep_46 : decode cX10_keep 46 = .ok (.putfield 301, 3) := by decide +kernel
theorem dX10_keep_49 : decode cX10_keep 49 = .ok (.aload_n 0, 1) := by decide +kernel
theorem dX10_keep_50 : decode cX10_keep 50 = .ok (.iconst 0, 1) := by decide +kernel
theorem dX10_keep_51 : decode cX10_keep 51 = .ok (.putfield 105, 3) := by decide +kernel
theorem dX10_keep_54 : decode cX10_keep 54 = .ok (.iconst 1, 1) := by decide +kernel
theorem dX10_keep_55 : decode cX10_keep 55 = .ok (.ireturn, 1) := by decide +kernel
theorem dX10_goBack_0 : decode cX10_goBack 0 = .ok (.iload_n 1, 1) := by decide +kernel
theorem dX10_goBack_1 : decode cX10_goBack 1 = .ok (.i2l, 1) := by decide +kernel
theorem dX10_goBack_2 : decode cX10_goBack 2 = .ok (.lconst 0, 1) := by decide +kernel
theorem dX10_goBack_3 : decode cX10_goBack 3 = .ok (.lconst 1, 1) := by decide +kernel
theorem dX10_goBack_4 : decode cX10_goBack 4 = .ok (.invokestatic 131, 3) := by decide +kernel
theorem dX10_goBack_7 : decode cX10_goBack 7 = .ok (.ifCond .ne 7, 3) := by decide +kernel
theorem dX10_goBack_10 : decode cX10_goBack 10 = .ok (.ldc_w 271, 3) := by decide +kernel
theorem dX10_goBack_13 : decode cX10_goBack 13 = .ok (.ireturn, 1) := by decide +kernel
theorem dX10_goBack_14 : decode cX10_goBack 14 = .ok (.aload_n 0, 1) := by decide +kernel
theorem dX10_goBack_15 : decode cX10_goBack 15 = .ok (.getfield 301, 3) := by decide +kernel
theorem dX10_goBack_18 : decode cX10_goBack 18 = .ok (.iload_n 1, 1) := by decide +kernel
theorem dX10_goBack_19 : decode cX10_goBack 19 = .ok (.invokestatic 165, 3) := by decide +kernel
theorem dX10_goBack_22 : decode cX10_goBack 22 = .ok (.ifCond .eq 26, 3) := by decide +kernel
theorem dX10_goBack_25 : decode cX10_goBack 25 = .ok (.aload_n 0, 1) := by decide +kernel
theorem dX10_goBack_26 : decode cX10_goBack 26 = .ok (.getfield 7, 3) := by decide +kernel
theorem dX10_goBack_29 : decode cX10_goBack 29 = .ok (.sipush 170, 3) := by decide +kernel
theorem dX10_goBack_32 : decode cX10_goBack 32 = .ok (.bipush 10, 2) := by decide +kernel
theorem dX10_goBack_34 : decode cX10_goBack 34 = .ok (.iload_n 1, 1) := by decide +kernel
theorem dX10_goBack_35 : decode cX10_goBack 35 = .ok (.imul, 1) := by decide +kernel
theorem dX10_goBack_36 : decode cX10_goBack 36 = .ok (.iadd, 1) := by decide +kernel
theorem dX10_goBack_37 : decode cX10_goBack 37 = .ok (.bipush 8, 2) := by decide +kernel
theorem dX10_goBack_39 : decode cX10_goBack 39 = .ok (.iadd, 1) := by decide +kernel
theorem dX10_goBack_40 : decode cX10_goBack 40 = .ok (.iaload, 1) := by decide +kernel
theorem dX10_goBack_41 : decode cX10_goBack 41 = .ok (.aload_n 0, 1) := by decide +kernel
theorem dX10_goBack_42 : decode cX10_goBack 42 = .ok (.getfield 95, 3) := by decide +kernel
theorem dX10_goBack_45 : decode cX10_goBack 45 = .ok (.if_icmp .lt 7, 3) := by decide +kernel
theorem dX10_goBack_48 : decode cX10_goBack 48 = .ok (.ldc_w 300, 3) := by decide +kernel
theorem dX10_goBack_51 : decode cX10_goBack 51 = .ok (.ireturn, 1) := by decide +kernel
theorem dX10_goBack_52 : decode cX10_goBack 52 = .ok (.aload_n 0, 1) := by decide +kernel
theorem dX10_goBack_53 : decode cX10_goBack 53 = .ok (.sipush 170, 3) := by decide +kernel
theorem dX10_goBack_56 : decode cX10_goBack 56 = .ok (.bipush 10, 2) := by decide +kernel
theorem dX10_goBack_58 : decode cX10_goBack 58 = .ok (.iload_n 1, 1) := by decide +kernel
theorem dX10_goBack_59 : decode cX10_goBack 59 = .ok (.imul, 1) := by decide +kernel
theorem dX10_goBack_60 : decode cX10_goBack 60 = .ok (.iadd, 1) := by decide +kernel
theorem dX10_goBack_61 : decode cX10_goBack 61 = .ok (.iconst 0, 1) := by decide +kernel
theorem dX10_goBack_62 : decode cX10_goBack 62 = .ok (.invokevirtual 101, 3) := by decide +kernel
theorem dX10_goBack_65 : decode cX10_goBack 65 = .ok (.aload_n 0, 1) := by decide +kernel
theorem dX10_goBack_66 : decode cX10_goBack 66 = .ok (.aload_n 0, 1) := by decide +kernel
theorem dX10_goBack_67 : decode cX10_goBack 67 = .ok (.getfield 13, 3) := by decide +kernel
theorem dX10_goBack_70 : decode cX10_goBack 70 = .ok (.iload_n 1, 1) := by decide +kernel
theorem dX10_goBack_71 : decode cX10_goBack 71 = .ok (.iaload, 1) := by decide +kernel
theorem dX10_goBack_72 : decode cX10_goBack 72 = .ok (.putfield 283, 3) := by decide +kernel
theorem dX10_goBack_75 : decode cX10_goBack 75 = .ok (.aload_n 0, 1) := by decide +kernel
theorem dX10_goBack_76 : decode cX10_goBack 76 = .ok (.iconst 0, 1) := by decide +kernel
theorem dX10_goBack_77 : decode cX10_goBack 77 = .ok (.putfield 105, 3) := by decide +kernel
theorem dX10_goBack_80 : decode cX10_goBack 80 = .ok (.iconst 1, 1) := by decide +kernel
theorem dX10_goBack_81 : decode cX10_goBack 81 = .ok (.ireturn, 1) := by decide +kernel
theorem dJ9_floorMod_7cf53_0 : decode cJ9_floorMod_7cf53 0 = .ok (.iload_n 0, 1) := by decide +kernel
theorem dJ9_floorMod_7cf53_1 : decode cJ9_floorMod_7cf53 1 = .ok (.iload_n 1, 1) := by decide +kernel
theorem dJ9_floorMod_7cf53_2 : decode cJ9_floorMod_7cf53 2 = .ok (.irem, 1) := by decide +kernel
theorem dJ9_floorMod_7cf53_3 : decode cJ9_floorMod_7cf53 3 = .ok (.istore_n 2, 1) := by decide +kernel
theorem dJ9_floorMod_7cf53_4 : decode cJ9_floorMod_7cf53 4 = .ok (.iload_n 0, 1) := by decide +kernel
theorem dJ9_floorMod_7cf53_5 : decode cJ9_floorMod_7cf53 5 = .ok (.iload_n 1, 1) := by decide +kernel
theorem dJ9_floorMod_7cf53_6 : decode cJ9_floorMod_7cf53 6 = .ok (.ixor, 1) := by decide +kernel
theorem dJ9_floorMod_7cf53_7 : decode cJ9_floorMod_7cf53 7 = .ok (.ifCond .ge 11, 3) := by decide +kernel
theorem dJ9_floorMod_7cf53_10 : decode cJ9_floorMod_7cf53 10 = .ok (.iload_n 2, 1) := by decide +kernel
theorem dJ9_floorMod_7cf53_11 : decode cJ9_floorMod_7cf53 11 = .ok (.ifCond .eq 7, 3) := by decide +kernel
theorem dJ9_floorMod_7cf53_14 : decode cJ9_floorMod_7cf53 14 = .ok (.iload_n 2, 1) := by decide +kernel
theorem dJ9_floorMod_7cf53_15 : decode cJ9_floorMod_7cf53 15 = .ok (.iload_n 1, 1) := by decide +kernel
theorem dJ9_floorMod_7cf53_16 : decode cJ9_floorMod_7cf53 16 = .ok (.iadd, 1) := by decide +kernel
theorem dJ9_floorMod_7cf53_17 : decode cJ9_floorMod_7cf53 17 = .ok (.ireturn, 1) := by decide +kernel
theorem dJ9_floorMod_7cf53_18 : decode cJ9_floorMod_7cf53 18 = .ok (.iload_n 2, 1) := by decide +kernel
theorem dJ9_floorMod_7cf53_19 : decode cJ9_floorMod_7cf53 19 = .ok (.ireturn, 1) := by decide +kernel
theorem dJ9_max_7cf53_0 : decode cJ9_max_7cf53 0 = .ok (.iload_n 0, 1) := by decide +kernel
theorem dJ9_max_7cf53_1 : decode cJ9_max_7cf53 1 = .ok (.iload_n 1, 1) := by decide +kernel
theorem dJ9_max_7cf53_2 : decode cJ9_max_7cf53 2 = .ok (.if_icmp .lt 7, 3) := by decide +kernel
theorem dJ9_max_7cf53_5 : decode cJ9_max_7cf53 5 = .ok (.iload_n 0, 1) := by decide +kernel
theorem dJ9_max_7cf53_6 : decode cJ9_max_7cf53 6 = .ok (.goto 4, 3) := by decide +kernel
theorem dJ9_max_7cf53_9 : decode cJ9_max_7cf53 9 = .ok (.iload_n 1, 1) := by decide +kernel
theorem dJ9_max_7cf53_10 : decode cJ9_max_7cf53 10 = .ok (.ireturn, 1) := by decide +kernel
theorem dJ9_min_7cf53_0 : decode cJ9_min_7cf53 0 = .ok (.iload_n 0, 1) := by decide +kernel
theorem dJ9_min_7cf53_1 : decode cJ9_min_7cf53 1 = .ok (.iload_n 1, 1) := by decide +kernel
theorem dJ9_min_7cf53_2 : decode cJ9_min_7cf53 2 = .ok (.if_icmp .gt 7, 3) := by decide +kernel
theorem dJ9_min_7cf53_5 : decode cJ9_min_7cf53 5 = .ok (.iload_n 0, 1) := by decide +kernel
theorem dJ9_min_7cf53_6 : decode cJ9_min_7cf53 6 = .ok (.goto 4, 3) := by decide +kernel
theorem dJ9_min_7cf53_9 : decode cJ9_min_7cf53 9 = .ok (.iload_n 1, 1) := by decide +kernel
theorem dJ9_min_7cf53_10 : decode cJ9_min_7cf53 10 = .ok (.ireturn, 1) := by decide +kernel
theorem dL_law_0 : decode cL_law 0 = .ok (.new 7, 3) := by decide +kernel
theorem dL_law_3 : decode cL_law 3 = .ok (.dup, 1) := by decide +kernel
theorem dL_law_4 : decode cL_law 4 = .ok (.invokespecial 9, 3) := by decide +kernel
theorem dL_law_7 : decode cL_law 7 = .ok (.astore_n 1, 1) := by decide +kernel
theorem dL_law_8 : decode cL_law 8 = .ok (.new 10, 3) := by decide +kernel
theorem dL_law_11 : decode cL_law 11 = .ok (.dup, 1) := by decide +kernel
theorem dL_law_12 : decode cL_law 12 = .ok (.invokespecial 12, 3) := by decide +kernel
theorem dL_law_15 : decode cL_law 15 = .ok (.astore_n 2, 1) := by decide +kernel
theorem dL_law_16 : decode cL_law 16 = .ok (.iconst 0, 1) := by decide +kernel
theorem dL_law_17 : decode cL_law 17 = .ok (.istore_n 3, 1) := by decide +kernel
theorem dL_law_18 : decode cL_law 18 = .ok (.iload_n 3, 1) := by decide +kernel
theorem dL_law_19 : decode cL_law 19 = .ok (.aload_n 0, 1) := by decide +kernel
theorem dL_law_20 : decode cL_law 20 = .ok (.arraylength, 1) := by decide +kernel
theorem dL_law_21 : decode cL_law 21 = .ok (.iconst 4, 1) := by decide +kernel
theorem dL_law_22 : decode cL_law 22 = .ok (.isub, 1) := by decide +kernel
theorem dL_law_23 : decode cL_law 23 = .ok (.if_icmp .gt 500, 3) := by decide +kernel
theorem dL_law_26 : decode cL_law 26 = .ok (.aload_n 0, 1) := by decide +kernel
theorem dL_law_27 : decode cL_law 27 = .ok (.iload_n 3, 1) := by decide +kernel
theorem dL_law_28 : decode cL_law 28 = .ok (.iaload, 1) := by decide +kernel
theorem dL_law_29 : decode cL_law 29 = .ok (.bipush 31, 2) := by decide +kernel
theorem dL_law_31 : decode cL_law 31 = .ok (.iand, 1) := by decide +kernel
theorem dL_law_32 : decode cL_law 32 = .ok (.tableswitch 485 0 16 #[84, 107, 120, 133, 156, 179, 212, 235, 268, 301, 314, 337, 360, 403, 416, 439, 462], 84) := by decide +kernel
theorem dL_law_116 : decode cL_law 116 = .ok (.aload_n 1, 1) := by decide +kernel
theorem dL_law_117 : decode cL_law 117 = .ok (.aload_n 0, 1) := by decide +kernel
theorem dL_law_118 : decode cL_law 118 = .ok (.iload_n 3, 1) := by decide +kernel
theorem dL_law_119 : decode cL_law 119 = .ok (.iconst 1, 1) := by decide +kernel
theorem dL_law_120 : decode cL_law 120 = .ok (.iadd, 1) := by decide +kernel
theorem dL_law_121 : decode cL_law 121 = .ok (.iaload, 1) := by decide +kernel
theorem dL_law_122 : decode cL_law 122 = .ok (.invokevirtual 13, 3) := by decide +kernel
theorem dL_law_125 : decode cL_law 125 = .ok (.aload_n 2, 1) := by decide +kernel
theorem dL_law_126 : decode cL_law 126 = .ok (.aload_n 0, 1) := by decide +kernel
theorem dL_law_127 : decode cL_law 127 = .ok (.iload_n 3, 1) := by decide +kernel
theorem dL_law_128 : decode cL_law 128 = .ok (.iconst 1, 1) := by decide +kernel
theorem dL_law_129 : decode cL_law 129 = .ok (.iadd, 1) := by decide +kernel
theorem dL_law_130 : decode cL_law 130 = .ok (.iaload, 1) := by decide +kernel
theorem dL_law_131 : decode cL_law 131 = .ok (.invokevirtual 17, 3) := by decide +kernel
theorem dL_law_134 : decode cL_law 134 = .ok (.if_icmp .eq 383, 3) := by decide +kernel
theorem dL_law_137 : decode cL_law 137 = .ok (.iconst 0, 1) := by decide +kernel
theorem dL_law_138 : decode cL_law 138 = .ok (.ireturn, 1) := by decide +kernel
theorem dL_law_139 : decode cL_law 139 = .ok (.aload_n 1, 1) := by decide +kernel
theorem dL_law_140 : decode cL_law 140 = .ok (.invokevirtual 18, 3) := by decide +kernel
theorem dL_law_143 : decode cL_law 143 = .ok (.aload_n 2, 1) := by decide +kernel
theorem dL_law_144 : decode cL_law 144 = .ok (.invokevirtual 22, 3) := by decide +kernel
theorem dL_law_147 : decode cL_law 147 = .ok (.if_icmp .eq 370, 3) := by decide +kernel
theorem dL_law_150 : decode cL_law 150 = .ok (.iconst 0, 1) := by decide +kernel
theorem dL_law_151 : decode cL_law 151 = .ok (.ireturn, 1) := by decide +kernel
theorem dL_law_152 : decode cL_law 152 = .ok (.aload_n 1, 1) := by decide +kernel
theorem dL_law_153 : decode cL_law 153 = .ok (.invokevirtual 23, 3) := by decide +kernel
theorem dL_law_156 : decode cL_law 156 = .ok (.aload_n 2, 1) := by decide +kernel
theorem dL_law_157 : decode cL_law 157 = .ok (.invokevirtual 26, 3) := by decide +kernel
theorem dL_law_160 : decode cL_law 160 = .ok (.if_icmp .eq 357, 3) := by decide +kernel
theorem dL_law_163 : decode cL_law 163 = .ok (.iconst 0, 1) := by decide +kernel
theorem dL_law_164 : decode cL_law 164 = .ok (.ireturn, 1) := by decide +kernel
theorem dL_law_165 : decode cL_law 165 = .ok (.aload_n 1, 1) := by decide +kernel
theorem dL_law_166 : decode cL_law 166 = .ok (.aload_n 0, 1) := by decide +kernel
theorem dL_law_167 : decode cL_law 167 = .ok (.iload_n 3, 1) := by decide +kernel
theorem dL_law_168 : decode cL_law 168 = .ok (.iconst 1, 1) := by decide +kernel
theorem dL_law_169 : decode cL_law 169 = .ok (.iadd, 1) := by decide +kernel
theorem dL_law_170 : decode cL_law 170 = .ok (.iaload, 1) := by decide +kernel
theorem dL_law_171 : decode cL_law 171 = .ok (.invokevirtual 27, 3) := by decide +kernel
theorem dL_law_174 : decode cL_law 174 = .ok (.aload_n 2, 1) := by decide +kernel
theorem dL_law_175 : decode cL_law 175 = .ok (.aload_n 0, 1) := by decide +kernel
theorem dL_law_176 : decode cL_law 176 = .ok (.iload_n 3, 1) := by decide +kernel
theorem dL_law_177 : decode cL_law 177 = .ok (.iconst 1, 1) := by decide +kernel
theorem dL_law_178 : decode cL_law 178 = .ok (.iadd, 1) := by decide +kernel
theorem dL_law_179 : decode cL_law 179 = .ok (.iaload, 1) := by decide +kernel
theorem dL_law_180 : decode cL_law 180 = .ok (.invokevirtual 30, 3) := by decide +kernel
theorem dL_law_183 : decode cL_law 183 = .ok (.if_icmp .eq 334, 3) := by decide +kernel
theorem dL_law_186 : decode cL_law 186 = .ok (.iconst 0, 1) := by decide +kernel
theorem dL_law_187 : decode cL_law 187 = .ok (.ireturn, 1) := by decide +kernel
theorem dL_law_188 : decode cL_law 188 = .ok (.aload_n 1, 1) := by decide +kernel
theorem dL_law_189 : decode cL_law 189 = .ok (.aload_n 0, 1) := by decide +kernel
theorem dL_law_190 : decode cL_law 190 = .ok (.iload_n 3, 1) := by decide +kernel
theorem dL_law_191 : decode cL_law 191 = .ok (.iconst 1, 1) := by decide +kernel
theorem dL_law_192 : decode cL_law 192 = .ok (.iadd, 1) := by decide +kernel
theorem dL_law_193 : decode cL_law 193 = .ok (.iaload, 1) := by decide +kernel
theorem dL_law_194 : decode cL_law 194 = .ok (.invokevirtual 31, 3) := by decide +kernel
theorem dL_law_197 : decode cL_law 197 = .ok (.aload_n 2, 1) := by decide +kernel
theorem dL_law_198 : decode cL_law 198 = .ok (.aload_n 0, 1) := by decide +kernel
theorem dL_law_199 : decode cL_law 199 = .ok (.iload_n 3, 1) := by decide +kernel
theorem dL_law_200 : decode cL_law 200 = .ok (.iconst 1, 1) := by decide +kernel
theorem dL_law_201 : decode cL_law 201 = .ok (.iadd, 1) := by decide +kernel
theorem dL_law_202 : decode cL_law 202 = .ok (.iaload, 1) := by decide +kernel
theorem dL_law_203 : decode cL_law 203 = .ok (.invokevirtual 34, 3) := by decide +kernel
theorem dL_law_206 : decode cL_law 206 = .ok (.if_icmp .eq 311, 3) := by decide +kernel
theorem dL_law_209 : decode cL_law 209 = .ok (.iconst 0, 1) := by decide +kernel
theorem dL_law_210 : decode cL_law 210 = .ok (.ireturn, 1) := by decide +kernel
theorem dL_law_211 : decode cL_law 211 = .ok (.aload_n 1, 1) := by decide +kernel
theorem dL_law_212 : decode cL_law 212 = .ok (.aload_n 0, 1) := by decide +kernel
theorem dL_law_213 : decode cL_law 213 = .ok (.iload_n 3, 1) := by decide +kernel
theorem dL_law_214 : decode cL_law 214 = .ok (.iconst 1, 1) := by decide +kernel
theorem dL_law_215 : decode cL_law 215 = .ok (.iadd, 1) := by decide +kernel
theorem dL_law_216 : decode cL_law 216 = .ok (.iaload, 1) := by decide +kernel
theorem dL_law_217 : decode cL_law 217 = .ok (.aload_n 0, 1) := by decide +kernel
theorem dL_law_218 : decode cL_law 218 = .ok (.iload_n 3, 1) := by decide +kernel
theorem dL_law_219 : decode cL_law 219 = .ok (.iconst 2, 1) := by decide +kernel
theorem dL_law_220 : decode cL_law 220 = .ok (.iadd, 1) := by decide +kernel
theorem dL_law_221 : decode cL_law 221 = .ok (.iaload, 1) := by decide +kernel
theorem dL_law_222 : decode cL_law 222 = .ok (.invokevirtual 35, 3) := by decide +kernel
theorem dL_law_225 : decode cL_law 225 = .ok (.aload_n 2, 1) := by decide +kernel
theorem dL_law_226 : decode cL_law 226 = .ok (.aload_n 0, 1) := by decide +kernel
theorem dL_law_227 : decode cL_law 227 = .ok (.iload_n 3, 1) := by decide +kernel
theorem dL_law_228 : decode cL_law 228 = .ok (.iconst 1, 1) := by decide +kernel
theorem dL_law_229 : decode cL_law 229 = .ok (.iadd, 1) := by decide +kernel
theorem dL_law_230 : decode cL_law 230 = .ok (.iaload, 1) := by decide +kernel
theorem dL_law_231 : decode cL_law 231 = .ok (.aload_n 0, 1) := by decide +kernel
theorem dL_law_232 : decode cL_law 232 = .ok (.iload_n 3, 1) := by decide +kernel
theorem dL_law_233 : decode cL_law 233 = .ok (.iconst 2, 1) := by decide +kernel
theorem dL_law_234 : decode cL_law 234 = .ok (.iadd, 1) := by decide +kernel
theorem dL_law_235 : decode cL_law 235 = .ok (.iaload, 1) := by decide +kernel
theorem dL_law_236 : decode cL_law 236 = .ok (.invokevirtual 39, 3) := by decide +kernel
theorem dL_law_239 : decode cL_law 239 = .ok (.if_icmp .eq 278, 3) := by decide +kernel
theorem dL_law_242 : decode cL_law 242 = .ok (.iconst 0, 1) := by decide +kernel
theorem dL_law_243 : decode cL_law 243 = .ok (.ireturn, 1) := by decide +kernel
theorem dL_law_244 : decode cL_law 244 = .ok (.aload_n 1, 1) := by decide +kernel
theorem dL_law_245 : decode cL_law 245 = .ok (.aload_n 0, 1) := by decide +kernel
theorem dL_law_246 : decode cL_law 246 = .ok (.iload_n 3, 1) := by decide +kernel
theorem dL_law_247 : decode cL_law 247 = .ok (.iconst 1, 1) := by decide +kernel
theorem dL_law_248 : decode cL_law 248 = .ok (.iadd, 1) := by decide +kernel
theorem dL_law_249 : decode cL_law 249 = .ok (.iaload, 1) := by decide +kernel
theorem dL_law_250 : decode cL_law 250 = .ok (.invokevirtual 40, 3) := by decide +kernel
theorem dL_law_253 : decode cL_law 253 = .ok (.aload_n 2, 1) := by decide +kernel
theorem dL_law_254 : decode cL_law 254 = .ok (.aload_n 0, 1) := by decide +kernel
theorem dL_law_255 : decode cL_law 255 = .ok (.iload_n 3, 1) := by decide +kernel
theorem dL_law_256 : decode cL_law 256 = .ok (.iconst 1, 1) := by decide +kernel
theorem dL_law_257 : decode cL_law 257 = .ok (.iadd, 1) := by decide +kernel
theorem dL_law_258 : decode cL_law 258 = .ok (.iaload, 1) := by decide +kernel
theorem dL_law_259 : decode cL_law 259 = .ok (.invokevirtual 43, 3) := by decide +kernel
theorem dL_law_262 : decode cL_law 262 = .ok (.if_icmp .eq 255, 3) := by decide +kernel
theorem dL_law_265 : decode cL_law 265 = .ok (.iconst 0, 1) := by decide +kernel
theorem dL_law_266 : decode cL_law 266 = .ok (.ireturn, 1) := by decide +kernel
theorem dL_law_267 : decode cL_law 267 = .ok (.aload_n 1, 1) := by decide +kernel
theorem dL_law_268 : decode cL_law 268 = .ok (.aload_n 0, 1) := by decide +kernel
theorem dL_law_269 : decode cL_law 269 = .ok (.iload_n 3, 1) := by decide +kernel
theorem dL_law_270 : decode cL_law 270 = .ok (.iconst 1, 1) := by decide +kernel
theorem dL_law_271 : decode cL_law 271 = .ok (.iadd, 1) := by decide +kernel
theorem dL_law_272 : decode cL_law 272 = .ok (.iaload, 1) := by decide +kernel
theorem dL_law_273 : decode cL_law 273 = .ok (.aload_n 0, 1) := by decide +kernel
theorem dL_law_274 : decode cL_law 274 = .ok (.iload_n 3, 1) := by decide +kernel
theorem dL_law_275 : decode cL_law 275 = .ok (.iconst 2, 1) := by decide +kernel
theorem dL_law_276 : decode cL_law 276 = .ok (.iadd, 1) := by decide +kernel
theorem dL_law_277 : decode cL_law 277 = .ok (.iaload, 1) := by decide +kernel
theorem dL_law_278 : decode cL_law 278 = .ok (.invokevirtual 44, 3) := by decide +kernel
theorem dL_law_281 : decode cL_law 281 = .ok (.aload_n 2, 1) := by decide +kernel
theorem dL_law_282 : decode cL_law 282 = .ok (.aload_n 0, 1) := by decide +kernel
theorem dL_law_283 : decode cL_law 283 = .ok (.iload_n 3, 1) := by decide +kernel
theorem dL_law_284 : decode cL_law 284 = .ok (.iconst 1, 1) := by decide +kernel
theorem dL_law_285 : decode cL_law 285 = .ok (.iadd, 1) := by decide +kernel
theorem dL_law_286 : decode cL_law 286 = .ok (.iaload, 1) := by decide +kernel
theorem dL_law_287 : decode cL_law 287 = .ok (.aload_n 0, 1) := by decide +kernel
theorem dL_law_288 : decode cL_law 288 = .ok (.iload_n 3, 1) := by decide +kernel
theorem dL_law_289 : decode cL_law 289 = .ok (.iconst 2, 1) := by decide +kernel
theorem dL_law_290 : decode cL_law 290 = .ok (.iadd, 1) := by decide +kernel
theorem dL_law_291 : decode cL_law 291 = .ok (.iaload, 1) := by decide +kernel
theorem dL_law_292 : decode cL_law 292 = .ok (.invokevirtual 47, 3) := by decide +kernel
theorem dL_law_295 : decode cL_law 295 = .ok (.if_icmp .eq 222, 3) := by decide +kernel
theorem dL_law_298 : decode cL_law 298 = .ok (.iconst 0, 1) := by decide +kernel
theorem dL_law_299 : decode cL_law 299 = .ok (.ireturn, 1) := by decide +kernel
theorem dL_law_300 : decode cL_law 300 = .ok (.aload_n 1, 1) := by decide +kernel
theorem dL_law_301 : decode cL_law 301 = .ok (.aload_n 0, 1) := by decide +kernel
theorem dL_law_302 : decode cL_law 302 = .ok (.iload_n 3, 1) := by decide +kernel
theorem dL_law_303 : decode cL_law 303 = .ok (.iconst 1, 1) := by decide +kernel
theorem dL_law_304 : decode cL_law 304 = .ok (.iadd, 1) := by decide +kernel
theorem dL_law_305 : decode cL_law 305 = .ok (.iaload, 1) := by decide +kernel
theorem dL_law_306 : decode cL_law 306 = .ok (.aload_n 0, 1) := by decide +kernel
theorem dL_law_307 : decode cL_law 307 = .ok (.iload_n 3, 1) := by decide +kernel
theorem dL_law_308 : decode cL_law 308 = .ok (.iconst 2, 1) := by decide +kernel
theorem dL_law_309 : decode cL_law 309 = .ok (.iadd, 1) := by decide +kernel
theorem dL_law_310 : decode cL_law 310 = .ok (.iaload, 1) := by decide +kernel
theorem dL_law_311 : decode cL_law 311 = .ok (.invokevirtual 48, 3) := by decide +kernel
theorem dL_law_314 : decode cL_law 314 = .ok (.aload_n 2, 1) := by decide +kernel
theorem dL_law_315 : decode cL_law 315 = .ok (.aload_n 0, 1) := by decide +kernel
theorem dL_law_316 : decode cL_law 316 = .ok (.iload_n 3, 1) := by decide +kernel
theorem dL_law_317 : decode cL_law 317 = .ok (.iconst 1, 1) := by decide +kernel
theorem dL_law_318 : decode cL_law 318 = .ok (.iadd, 1) := by decide +kernel
theorem dL_law_319 : decode cL_law 319 = .ok (.iaload, 1) := by decide +kernel
theorem dL_law_320 : decode cL_law 320 = .ok (.aload_n 0, 1) := by decide +kernel
theorem dL_law_321 : decode cL_law 321 = .ok (.iload_n 3, 1) := by decide +kernel
theorem dL_law_322 : decode cL_law 322 = .ok (.iconst 2, 1) := by decide +kernel
theorem dL_law_323 : decode cL_law 323 = .ok (.iadd, 1) := by decide +kernel
theorem dL_law_324 : decode cL_law 324 = .ok (.iaload, 1) := by decide +kernel
theorem dL_law_325 : decode cL_law 325 = .ok (.invokevirtual 51, 3) := by decide +kernel
theorem dL_law_328 : decode cL_law 328 = .ok (.if_icmp .eq 189, 3) := by decide +kernel
theorem dL_law_331 : decode cL_law 331 = .ok (.iconst 0, 1) := by decide +kernel
theorem dL_law_332 : decode cL_law 332 = .ok (.ireturn, 1) := by decide +kernel
theorem dL_law_333 : decode cL_law 333 = .ok (.aload_n 1, 1) := by decide +kernel
theorem dL_law_334 : decode cL_law 334 = .ok (.invokevirtual 52, 3) := by decide +kernel
theorem dL_law_337 : decode cL_law 337 = .ok (.aload_n 2, 1) := by decide +kernel
theorem dL_law_338 : decode cL_law 338 = .ok (.invokevirtual 55, 3) := by decide +kernel
theorem dL_law_341 : decode cL_law 341 = .ok (.if_icmp .eq 176, 3) := by decide +kernel
theorem dL_law_344 : decode cL_law 344 = .ok (.iconst 0, 1) := by decide +kernel
theorem dL_law_345 : decode cL_law 345 = .ok (.ireturn, 1) := by decide +kernel
theorem dL_law_346 : decode cL_law 346 = .ok (.aload_n 1, 1) := by decide +kernel
theorem dL_law_347 : decode cL_law 347 = .ok (.aload_n 0, 1) := by decide +kernel
theorem dL_law_348 : decode cL_law 348 = .ok (.iload_n 3, 1) := by decide +kernel
theorem dL_law_349 : decode cL_law 349 = .ok (.iconst 1, 1) := by decide +kernel
theorem dL_law_350 : decode cL_law 350 = .ok (.iadd, 1) := by decide +kernel
theorem dL_law_351 : decode cL_law 351 = .ok (.iaload, 1) := by decide +kernel
theorem dL_law_352 : decode cL_law 352 = .ok (.invokevirtual 56, 3) := by decide +kernel
theorem dL_law_355 : decode cL_law 355 = .ok (.aload_n 2, 1) := by decide +kernel
theorem dL_law_356 : decode cL_law 356 = .ok (.aload_n 0, 1) := by decide +kernel
theorem dL_law_357 : decode cL_law 357 = .ok (.iload_n 3, 1) := by decide +kernel
theorem dL_law_358 : decode cL_law 358 = .ok (.iconst 1, 1) := by decide +kernel
theorem dL_law_359 : decode cL_law 359 = .ok (.iadd, 1) := by decide +kernel
theorem dL_law_360 : decode cL_law 360 = .ok (.iaload, 1) := by decide +kernel
theorem dL_law_361 : decode cL_law 361 = .ok (.invokevirtual 59, 3) := by decide +kernel
theorem dL_law_364 : decode cL_law 364 = .ok (.if_icmp .eq 153, 3) := by decide +kernel
theorem dL_law_367 : decode cL_law 367 = .ok (.iconst 0, 1) := by decide +kernel
theorem dL_law_368 : decode cL_law 368 = .ok (.ireturn, 1) := by decide +kernel
theorem dL_law_369 : decode cL_law 369 = .ok (.aload_n 1, 1) := by decide +kernel
theorem dL_law_370 : decode cL_law 370 = .ok (.aload_n 0, 1) := by decide +kernel
theorem dL_law_371 : decode cL_law 371 = .ok (.iload_n 3, 1) := by decide +kernel
theorem dL_law_372 : decode cL_law 372 = .ok (.iconst 1, 1) := by decide +kernel
theorem dL_law_373 : decode cL_law 373 = .ok (.iadd, 1) := by decide +kernel
theorem dL_law_374 : decode cL_law 374 = .ok (.iaload, 1) := by decide +kernel
theorem dL_law_375 : decode cL_law 375 = .ok (.invokevirtual 60, 3) := by decide +kernel
theorem dL_law_378 : decode cL_law 378 = .ok (.aload_n 2, 1) := by decide +kernel
theorem dL_law_379 : decode cL_law 379 = .ok (.aload_n 0, 1) := by decide +kernel
theorem dL_law_380 : decode cL_law 380 = .ok (.iload_n 3, 1) := by decide +kernel
theorem dL_law_381 : decode cL_law 381 = .ok (.iconst 1, 1) := by decide +kernel
theorem dL_law_382 : decode cL_law 382 = .ok (.iadd, 1) := by decide +kernel
theorem dL_law_383 : decode cL_law 383 = .ok (.iaload, 1) := by decide +kernel
theorem dL_law_384 : decode cL_law 384 = .ok (.invokevirtual 63, 3) := by decide +kernel
theorem dL_law_387 : decode cL_law 387 = .ok (.if_icmp .eq 130, 3) := by decide +kernel
theorem dL_law_390 : decode cL_law 390 = .ok (.iconst 0, 1) := by decide +kernel
theorem dL_law_391 : decode cL_law 391 = .ok (.ireturn, 1) := by decide +kernel
theorem dL_law_392 : decode cL_law 392 = .ok (.aload_n 1, 1) := by decide +kernel
theorem dL_law_393 : decode cL_law 393 = .ok (.aload_n 0, 1) := by decide +kernel
theorem dL_law_394 : decode cL_law 394 = .ok (.iload_n 3, 1) := by decide +kernel
theorem dL_law_395 : decode cL_law 395 = .ok (.iconst 1, 1) := by decide +kernel
theorem dL_law_396 : decode cL_law 396 = .ok (.iadd, 1) := by decide +kernel
theorem dL_law_397 : decode cL_law 397 = .ok (.iaload, 1) := by decide +kernel
theorem dL_law_398 : decode cL_law 398 = .ok (.aload_n 0, 1) := by decide +kernel
theorem dL_law_399 : decode cL_law 399 = .ok (.iload_n 3, 1) := by decide +kernel
theorem dL_law_400 : decode cL_law 400 = .ok (.iconst 2, 1) := by decide +kernel
theorem dL_law_401 : decode cL_law 401 = .ok (.iadd, 1) := by decide +kernel
theorem dL_law_402 : decode cL_law 402 = .ok (.iaload, 1) := by decide +kernel
theorem dL_law_403 : decode cL_law 403 = .ok (.aload_n 0, 1) := by decide +kernel
theorem dL_law_404 : decode cL_law 404 = .ok (.iload_n 3, 1) := by decide +kernel
theorem dL_law_405 : decode cL_law 405 = .ok (.iconst 3, 1) := by decide +kernel
theorem dL_law_406 : decode cL_law 406 = .ok (.iadd, 1) := by decide +kernel
theorem dL_law_407 : decode cL_law 407 = .ok (.iaload, 1) := by decide +kernel
theorem dL_law_408 : decode cL_law 408 = .ok (.invokevirtual 64, 3) := by decide +kernel
theorem dL_law_411 : decode cL_law 411 = .ok (.aload_n 2, 1) := by decide +kernel
theorem dL_law_412 : decode cL_law 412 = .ok (.aload_n 0, 1) := by decide +kernel
theorem dL_law_413 : decode cL_law 413 = .ok (.iload_n 3, 1) := by decide +kernel
theorem dL_law_414 : decode cL_law 414 = .ok (.iconst 1, 1) := by decide +kernel
theorem dL_law_415 : decode cL_law 415 = .ok (.iadd, 1) := by decide +kernel
theorem dL_law_416 : decode cL_law 416 = .ok (.iaload, 1) := by decide +kernel
theorem dL_law_417 : decode cL_law 417 = .ok (.aload_n 0, 1) := by decide +kernel
theorem dL_law_418 : decode cL_law 418 = .ok (.iload_n 3, 1) := by decide +kernel
theorem dL_law_419 : decode cL_law 419 = .ok (.iconst 2, 1) := by decide +kernel
theorem dL_law_420 : decode cL_law 420 = .ok (.iadd, 1) := by decide +kernel
theorem dL_law_421 : decode cL_law 421 = .ok (.iaload, 1) := by decide +kernel
theorem dL_law_422 : decode cL_law 422 = .ok (.aload_n 0, 1) := by decide +kernel
theorem dL_law_423 : decode cL_law 423 = .ok (.iload_n 3, 1) := by decide +kernel
theorem dL_law_424 : decode cL_law 424 = .ok (.iconst 3, 1) := by decide +kernel
theorem dL_law_425 : decode cL_law 425 = .ok (.iadd, 1) := by decide +kernel
theorem dL_law_426 : decode cL_law 426 = .ok (.iaload, 1) := by decide +kernel
theorem dL_law_427 : decode cL_law 427 = .ok (.invokevirtual 68, 3) := by decide +kernel
theorem dL_law_430 : decode cL_law 430 = .ok (.if_icmp .eq 87, 3) := by decide +kernel
theorem dL_law_433 : decode cL_law 433 = .ok (.iconst 0, 1) := by decide +kernel
theorem dL_law_434 : decode cL_law 434 = .ok (.ireturn, 1) := by decide +kernel
theorem dL_law_435 : decode cL_law 435 = .ok (.aload_n 1, 1) := by decide +kernel
theorem dL_law_436 : decode cL_law 436 = .ok (.invokevirtual 69, 3) := by decide +kernel
theorem dL_law_439 : decode cL_law 439 = .ok (.aload_n 2, 1) := by decide +kernel
theorem dL_law_440 : decode cL_law 440 = .ok (.invokevirtual 72, 3) := by decide +kernel
theorem dL_law_443 : decode cL_law 443 = .ok (.if_icmp .eq 74, 3) := by decide +kernel
theorem dL_law_446 : decode cL_law 446 = .ok (.iconst 0, 1) := by decide +kernel
theorem dL_law_447 : decode cL_law 447 = .ok (.ireturn, 1) := by decide +kernel
theorem dL_law_448 : decode cL_law 448 = .ok (.aload_n 1, 1) := by decide +kernel
theorem dL_law_449 : decode cL_law 449 = .ok (.aload_n 0, 1) := by decide +kernel
theorem dL_law_450 : decode cL_law 450 = .ok (.iload_n 3, 1) := by decide +kernel
theorem dL_law_451 : decode cL_law 451 = .ok (.iconst 1, 1) := by decide +kernel
theorem dL_law_452 : decode cL_law 452 = .ok (.iadd, 1) := by decide +kernel
theorem dL_law_453 : decode cL_law 453 = .ok (.iaload, 1) := by decide +kernel
theorem dL_law_454 : decode cL_law 454 = .ok (.invokevirtual 73, 3) := by decide +kernel
theorem dL_law_457 : decode cL_law 457 = .ok (.aload_n 2, 1) := by decide +kernel
theorem dL_law_458 : decode cL_law 458 = .ok (.aload_n 0, 1) := by decide +kernel
theorem dL_law_459 : decode cL_law 459 = .ok (.iload_n 3, 1) := by decide +kernel
theorem dL_law_460 : decode cL_law 460 = .ok (.iconst 1, 1) := by decide +kernel
theorem dL_law_461 : decode cL_law 461 = .ok (.iadd, 1) := by decide +kernel
theorem dL_law_462 : decode cL_law 462 = .ok (.iaload, 1) := by decide +kernel
theorem dL_law_463 : decode cL_law 463 = .ok (.invokevirtual 76, 3) := by decide +kernel
theorem dL_law_466 : decode cL_law 466 = .ok (.if_icmp .eq 51, 3) := by decide +kernel
theorem dL_law_469 : decode cL_law 469 = .ok (.iconst 0, 1) := by decide +kernel
theorem dL_law_470 : decode cL_law 470 = .ok (.ireturn, 1) := by decide +kernel
theorem dL_law_471 : decode cL_law 471 = .ok (.aload_n 1, 1) := by decide +kernel
theorem dL_law_472 : decode cL_law 472 = .ok (.aload_n 0, 1) := by decide +kernel
theorem dL_law_473 : decode cL_law 473 = .ok (.iload_n 3, 1) := by decide +kernel
theorem dL_law_474 : decode cL_law 474 = .ok (.iconst 1, 1) := by decide +kernel
theorem dL_law_475 : decode cL_law 475 = .ok (.iadd, 1) := by decide +kernel
theorem dL_law_476 : decode cL_law 476 = .ok (.iaload, 1) := by decide +kernel
theorem dL_law_477 : decode cL_law 477 = .ok (.invokevirtual 77, 3) := by decide +kernel
theorem dL_law_480 : decode cL_law 480 = .ok (.aload_n 2, 1) := by decide +kernel
theorem dL_law_481 : decode cL_law 481 = .ok (.aload_n 0, 1) := by decide +kernel
theorem dL_law_482 : decode cL_law 482 = .ok (.iload_n 3, 1) := by decide +kernel
theorem dL_law_483 : decode cL_law 483 = .ok (.iconst 1, 1) := by decide +kernel
theorem dL_law_484 : decode cL_law 484 = .ok (.iadd, 1) := by decide +kernel
theorem dL_law_485 : decode cL_law 485 = .ok (.iaload, 1) := by decide +kernel
theorem dL_law_486 : decode cL_law 486 = .ok (.invokevirtual 80, 3) := by decide +kernel
theorem dL_law_489 : decode cL_law 489 = .ok (.if_icmp .eq 28, 3) := by decide +kernel
theorem dL_law_492 : decode cL_law 492 = .ok (.iconst 0, 1) := by decide +kernel
theorem dL_law_493 : decode cL_law 493 = .ok (.ireturn, 1) := by decide +kernel
theorem dL_law_494 : decode cL_law 494 = .ok (.aload_n 1, 1) := by decide +kernel
theorem dL_law_495 : decode cL_law 495 = .ok (.aload_n 0, 1) := by decide +kernel
theorem dL_law_496 : decode cL_law 496 = .ok (.iload_n 3, 1) := by decide +kernel
theorem dL_law_497 : decode cL_law 497 = .ok (.iconst 1, 1) := by decide +kernel
theorem dL_law_498 : decode cL_law 498 = .ok (.iadd, 1) := by decide +kernel
theorem dL_law_499 : decode cL_law 499 = .ok (.iaload, 1) := by decide +kernel
theorem dL_law_500 : decode cL_law 500 = .ok (.invokevirtual 81, 3) := by decide +kernel
theorem dL_law_503 : decode cL_law 503 = .ok (.aload_n 2, 1) := by decide +kernel
theorem dL_law_504 : decode cL_law 504 = .ok (.aload_n 0, 1) := by decide +kernel
theorem dL_law_505 : decode cL_law 505 = .ok (.iload_n 3, 1) := by decide +kernel
theorem dL_law_506 : decode cL_law 506 = .ok (.iconst 1, 1) := by decide +kernel
theorem dL_law_507 : decode cL_law 507 = .ok (.iadd, 1) := by decide +kernel
theorem dL_law_508 : decode cL_law 508 = .ok (.iaload, 1) := by decide +kernel
theorem dL_law_509 : decode cL_law 509 = .ok (.invokevirtual 84, 3) := by decide +kernel
theorem dL_law_512 : decode cL_law 512 = .ok (.if_icmp .eq 5, 3) := by decide +kernel
theorem dL_law_515 : decode cL_law 515 = .ok (.iconst 0, 1) := by decide +kernel
theorem dL_law_516 : decode cL_law 516 = .ok (.ireturn, 1) := by decide +kernel
theorem dL_law_517 : decode cL_law 517 = .ok (.iinc 3 4, 3) := by decide +kernel
theorem dL_law_520 : decode cL_law 520 = .ok (.goto (-502), 3) := by decide +kernel
theorem dL_law_523 : decode cL_law 523 = .ok (.iconst 1, 1) := by decide +kernel
theorem dL_law_524 : decode cL_law 524 = .ok (.ireturn, 1) := by decide +kernel

theorem dX9_init_81 : decode cX9_init 81 = .ok (.putfield 51, 3) := by decide +kernel
theorem dX9_init_84 : decode cX9_init 84 = .ok (.aload_n 0, 1) := by decide +kernel
theorem dX9_init_85 : decode cX9_init 85 = .ok (.new 55, 3) := by decide +kernel
theorem dX9_init_88 : decode cX9_init 88 = .ok (.dup, 1) := by decide +kernel
theorem dX9_init_89 : decode cX9_init 89 = .ok (.invokespecial 57, 3) := by decide +kernel
theorem dX9_init_92 : decode cX9_init 92 = .ok (.putfield 58, 3) := by decide +kernel
theorem dX9_init_95 : decode cX9_init 95 = .ok (.aload_n 0, 1) := by decide +kernel
theorem dX9_init_96 : decode cX9_init 96 = .ok (.iconst 2, 1) := by decide +kernel
theorem dX9_init_97 : decode cX9_init 97 = .ok (.anewarray 34, 3) := by decide +kernel
theorem dX9_init_100 : decode cX9_init 100 = .ok (.putfield 62, 3) := by decide +kernel
theorem dX9_init_103 : decode cX9_init 103 = .ok (.new 66, 3) := by decide +kernel
theorem dX9_init_106 : decode cX9_init 106 = .ok (.dup, 1) := by decide +kernel
theorem dX9_init_107 : decode cX9_init 107 = .ok (.invokespecial 68, 3) := by decide +kernel
theorem dX9_init_110 : decode cX9_init 110 = .ok (.astore_n 1, 1) := by decide +kernel
theorem dX9_init_111 : decode cX9_init 111 = .ok (.aload_n 0, 1) := by decide +kernel
theorem dX9_init_112 : decode cX9_init 112 = .ok (.new 69, 3) := by decide +kernel
theorem dX9_init_115 : decode cX9_init 115 = .ok (.dup, 1) := by decide +kernel
theorem dX9_init_116 : decode cX9_init 116 = .ok (.aload_n 0, 1) := by decide +kernel
theorem dX9_init_117 : decode cX9_init 117 = .ok (.getfield 37, 3) := by decide +kernel
theorem dX9_init_120 : decode cX9_init 120 = .ok (.aload_n 1, 1) := by decide +kernel
theorem dX9_init_121 : decode cX9_init 121 = .ok (.aload_n 0, 1) := by decide +kernel
theorem dX9_init_122 : decode cX9_init 122 = .ok (.getfield 27, 3) := by decide +kernel
theorem dX9_init_125 : decode cX9_init 125 = .ok (.invokespecial 71, 3) := by decide +kernel
theorem dX9_init_128 : decode cX9_init 128 = .ok (.putfield 74, 3) := by decide +kernel
theorem dX9_init_131 : decode cX9_init 131 = .ok (.aload_n 0, 1) := by decide +kernel
theorem dX9_init_132 : decode cX9_init 132 = .ok (.new 69, 3) := by decide +kernel
theorem dX9_init_135 : decode cX9_init 135 = .ok (.dup, 1) := by decide +kernel
theorem dX9_init_136 : decode cX9_init 136 = .ok (.aload_n 0, 1) := by decide +kernel
theorem dX9_init_137 : decode cX9_init 137 = .ok (.getfield 37, 3) := by decide +kernel
theorem dX9_init_140 : decode cX9_init 140 = .ok (.aload_n 1, 1) := by decide +kernel
theorem dX9_init_141 : decode cX9_init 141 = .ok (.aload_n 0, 1) := by decide +kernel
theorem dX9_init_142 : decode cX9_init 142 = .ok (.getfield 27, 3) := by decide +kernel
theorem dX9_init_145 : decode cX9_init 145 = .ok (.invokespecial 71, 3) := by decide +kernel
theorem dX9_init_148 : decode cX9_init 148 = .ok (.putfield 78, 3) := by decide +kernel
theorem dX9_init_151 : decode cX9_init 151 = .ok (.aload_n 0, 1) := by decide +kernel
theorem dX9_init_152 : decode cX9_init 152 = .ok (.bipush 100, 2) := by decide +kernel
theorem dX9_init_154 : decode cX9_init 154 = .ok (.invokevirtual 81, 3) := by decide +kernel
theorem dX9_init_157 : decode cX9_init 157 = .ok (.pop, 1) := by decide +kernel
theorem dX9_init_158 : decode cX9_init 158 = .ok (.aload_n 0, 1) := by decide +kernel
theorem dX9_init_159 : decode cX9_init 159 = .ok (.bipush 48, 2) := by decide +kernel
theorem dX9_init_161 : decode cX9_init 161 = .ok (.invokevirtual 81, 3) := by decide +kernel
theorem dX9_init_164 : decode cX9_init 164 = .ok (.pop, 1) := by decide +kernel
theorem dX9_init_165 : decode cX9_init 165 = .ok (.aload_n 0, 1) := by decide +kernel
theorem dX9_init_166 : decode cX9_init 166 = .ok (.bipush 59, 2) := by decide +kernel
theorem dX9_init_168 : decode cX9_init 168 = .ok (.invokevirtual 81, 3) := by decide +kernel
theorem dX9_init_171 : decode cX9_init 171 = .ok (.pop, 1) := by decide +kernel
theorem dX9_init_172 : decode cX9_init 172 = .ok (.aload_n 0, 1) := by decide +kernel
theorem dX9_init_173 : decode cX9_init 173 = .ok (.invokevirtual 85, 3) := by decide +kernel
theorem dX9_init_176 : decode cX9_init 176 = .ok (.pop, 1) := by decide +kernel
theorem dX9_init_177 : decode cX9_init 177 = .ok (.return_, 1) := by decide +kernel
theorem dX9_feed_0 : decode cX9_feed 0 = .ok (.iload_n 1, 1) := by decide +kernel
theorem dX9_feed_1 : decode cX9_feed 1 = .ok (.ifCond .lt 10, 3) := by decide +kernel
theorem dX9_feed_4 : decode cX9_feed 4 = .ok (.iload_n 1, 1) := by decide +kernel
theorem dX9_feed_5 : decode cX9_feed 5 = .ok (.sipush 256, 3) := by decide +kernel
theorem dX9_feed_8 : decode cX9_feed 8 = .ok (.if_icmp .lt 6, 3) := by decide +kernel
theorem dX9_feed_11 : decode cX9_feed 11 = .ok (.ldc 89, 2) := by decide +kernel
theorem dX9_feed_13 : decode cX9_feed 13 = .ok (.ireturn, 1) := by decide +kernel
theorem dX9_feed_14 : decode cX9_feed 14 = .ok (.aload_n 0, 1) := by decide +kernel
theorem dX9_feed_15 : decode cX9_feed 15 = .ok (.iload_n 1, 1) := by decide +kernel
theorem dX9_feed_16 : decode cX9_feed 16 = .ok (.invokevirtual 81, 3) := by decide +kernel
theorem dX9_feed_19 : decode cX9_feed 19 = .ok (.ifCond .eq 10, 3) := by decide +kernel
theorem dX9_feed_22 : decode cX9_feed 22 = .ok (.aload_n 0, 1) := by decide +kernel
theorem dX9_feed_23 : decode cX9_feed 23 = .ok (.getfield 90, 3) := by decide +kernel
theorem dX9_feed_26 : decode cX9_feed 26 = .ok (.goto 5, 3) := by decide +kernel
theorem dX9_feed_29 : decode cX9_feed 29 = .ok (.ldc 93, 2) := by decide +kernel
theorem dX9_feed_31 : decode cX9_feed 31 = .ok (.ireturn, 1) := by decide +kernel
theorem dX9_functions_0 : decode cX9_functions 0 = .ok (.aload_n 0, 1) := by decide +kernel
theorem dX9_functions_1 : decode cX9_functions 1 = .ok (.invokevirtual 85, 3) := by decide +kernel
theorem dX9_functions_4 : decode cX9_functions 4 = .ok (.istore_n 1, 1) := by decide +kernel
theorem dX9_functions_5 : decode cX9_functions 5 = .ok (.iload_n 1, 1) := by decide +kernel
theorem dX9_functions_6 : decode cX9_functions 6 = .ok (.ifCond .ne 13, 3) := by decide +kernel
theorem dX9_functions_9 : decode cX9_functions 9 = .ok (.aload_n 0, 1) := by decide +kernel
theorem dX9_functions_10 : decode cX9_functions 10 = .ok (.getfield 27, 3) := by decide +kernel
theorem dX9_functions_13 : decode cX9_functions 13 = .ok (.getfield 94, 3) := by decide +kernel
theorem dX9_functions_16 : decode cX9_functions 16 = .ok (.goto 7, 3) := by decide +kernel
theorem dX9_functions_19 : decode cX9_functions 19 = .ok (.bipush (-10), 2) := by decide +kernel
theorem dX9_functions_21 : decode cX9_functions 21 = .ok (.iload_n 1, 1) := by decide +kernel
theorem dX9_functions_22 : decode cX9_functions 22 = .ok (.isub, 1) := by decide +kernel
theorem dX9_functions_23 : decode cX9_functions 23 = .ok (.ireturn, 1) := by decide +kernel
theorem dX9_fault_0 : decode cX9_fault 0 = .ok (.aload_n 0, 1) := by decide +kernel
theorem dX9_fault_1 : decode cX9_fault 1 = .ok (.getfield 13, 3) := by decide +kernel
theorem dX9_fault_4 : decode cX9_fault 4 = .ok (.ireturn, 1) := by decide +kernel
theorem dX9_told_0 : decode cX9_told 0 = .ok (.iload_n 1, 1) := by decide +kernel
theorem dX9_told_1 : decode cX9_told 1 = .ok (.tableswitch 248 0 17 #[87, 95, 100, 108, 116, 135, 148, 156, 164, 172, 180, 188, 203, 211, 219, 227, 235, 240], 87) := by decide +kernel
theorem dX9_told_88 : decode cX9_told 88 = .ok (.aload_n 0, 1) := by decide +kernel
theorem dX9_told_89 : decode cX9_told 89 = .ok (.getfield 27, 3) := by decide +kernel
theorem dX9_told_92 : decode cX9_told 92 = .ok (.getfield 94, 3) := by decide +kernel
theorem dX9_told_95 : decode cX9_told 95 = .ok (.ireturn, 1) := by decide +kernel
theorem dX9_told_96 : decode cX9_told 96 = .ok (.aload_n 0, 1) := by decide +kernel
theorem dX9_told_97 : decode cX9_told 97 = .ok (.getfield 90, 3) := by decide +kernel
theorem dX9_told_100 : decode cX9_told 100 = .ok (.ireturn, 1) := by decide +kernel
theorem dX9_told_101 : decode cX9_told 101 = .ok (.aload_n 0, 1) := by decide +kernel
theorem dX9_told_102 : decode cX9_told 102 = .ok (.getfield 44, 3) := by decide +kernel
theorem dX9_told_105 : decode cX9_told 105 = .ok (.invokevirtual 97, 3) := by decide +kernel
theorem dX9_told_108 : decode cX9_told 108 = .ok (.ireturn, 1) := by decide +kernel
theorem dX9_told_109 : decode cX9_told 109 = .ok (.aload_n 0, 1) := by decide +kernel
theorem dX9_told_110 : decode cX9_told 110 = .ok (.getfield 44, 3) := by decide +kernel
theorem dX9_told_113 : decode cX9_told 113 = .ok (.getfield 100, 3) := by decide +kernel
theorem dX9_told_116 : decode cX9_told 116 = .ok (.ireturn, 1) := by decide +kernel
theorem dX9_told_117 : decode cX9_told 117 = .ok (.aload_n 0, 1) := by decide +kernel
theorem dX9_told_118 : decode cX9_told 118 = .ok (.aload_n 0, 1) := by decide +kernel
theorem dX9_told_119 : decode cX9_told 119 = .ok (.getfield 37, 3) := by decide +kernel
theorem dX9_told_122 : decode cX9_told 122 = .ok (.getfield 103, 3) := by decide +kernel
theorem dX9_told_125 : decode cX9_told 125 = .ok (.aload_n 0, 1) := by decide +kernel
theorem dX9_told_126 : decode cX9_told 126 = .ok (.getfield 37, 3) := by decide +kernel
theorem dX9_told_129 : decode cX9_told 129 = .ok (.getfield 106, 3) := by decide +kernel
theorem dX9_told_132 : decode cX9_told 132 = .ok (.invokevirtual 109, 3) := by decide +kernel
theorem dX9_told_135 : decode cX9_told 135 = .ok (.ireturn, 1) := by decide +kernel
theorem dX9_told_136 : decode cX9_told 136 = .ok (.aload_n 0, 1) := by decide +kernel
theorem dX9_told_137 : decode cX9_told 137 = .ok (.invokevirtual 113, 3) := by decide +kernel
theorem dX9_told_140 : decode cX9_told 140 = .ok (.ifCond .eq 7, 3) := by decide +kernel
theorem dX9_told_143 : decode cX9_told 143 = .ok (.iconst 1, 1) := by decide +kernel
theorem dX9_told_144 : decode cX9_told 144 = .ok (.goto 4, 3) := by decide +kernel
theorem dX9_told_147 : decode cX9_told 147 = .ok (.iconst 0, 1) := by decide +kernel
theorem dX9_told_148 : decode cX9_told 148 = .ok (.ireturn, 1) := by decide +kernel
theorem dX9_told_149 : decode cX9_told 149 = .ok (.aload_n 0, 1) := by decide +kernel
theorem dX9_told_150 : decode cX9_told 150 = .ok (.getfield 74, 3) := by decide +kernel
theorem dX9_told_153 : decode cX9_told 153 = .ok (.getfield 117, 3) := by decide +kernel
theorem dX9_told_156 : decode cX9_told 156 = .ok (.ireturn, 1) := by decide +kernel
theorem dX9_told_157 : decode cX9_told 157 = .ok (.aload_n 0, 1) := by decide +kernel
theorem dX9_told_158 : decode cX9_told 158 = .ok (.getfield 74, 3) := by decide +kernel
theorem dX9_told_161 : decode cX9_told 161 = .ok (.getfield 120, 3) := by decide +kernel
theorem dX9_told_164 : decode cX9_told 164 = .ok (.ireturn, 1) := by decide +kernel
theorem dX9_told_165 : decode cX9_told 165 = .ok (.aload_n 0, 1) := by decide +kernel
theorem dX9_told_166 : decode cX9_told 166 = .ok (.getfield 74, 3) := by decide +kernel
theorem dX9_told_169 : decode cX9_told 169 = .ok (.getfield 123, 3) := by decide +kernel
theorem dX9_told_172 : decode cX9_told 172 = .ok (.ireturn, 1) := by decide +kernel
theorem dX9_told_173 : decode cX9_told 173 = .ok (.aload_n 0, 1) := by decide +kernel
theorem dX9_told_174 : decode cX9_told 174 = .ok (.getfield 74, 3) := by decide +kernel
theorem dX9_told_177 : decode cX9_told 177 = .ok (.getfield 126, 3) := by decide +kernel
theorem dX9_told_180 : decode cX9_told 180 = .ok (.ireturn, 1) := by decide +kernel
theorem dX9_told_181 : decode cX9_told 181 = .ok (.aload_n 0, 1) := by decide +kernel
theorem dX9_told_182 : decode cX9_told 182 = .ok (.getfield 44, 3) := by decide +kernel
theorem dX9_told_185 : decode cX9_told 185 = .ok (.invokevirtual 129, 3) := by decide +kernel
theorem dX9_told_188 : decode cX9_told 188 = .ok (.ireturn, 1) := by decide +kernel
theorem dX9_told_189 : decode cX9_told 189 = .ok (.aload_n 0, 1) := by decide +kernel
theorem dX9_told_190 : decode cX9_told 190 = .ok (.getfield 44, 3) := by decide +kernel
theorem dX9_told_193 : decode cX9_told 193 = .ok (.aload_n 0, 1) := by decide +kernel
theorem dX9_told_194 : decode cX9_told 194 = .ok (.getfield 37, 3) := by decide +kernel
theorem dX9_told_197 : decode cX9_told 197 = .ok (.getfield 132, 3) := by decide +kernel
theorem dX9_told_200 : decode cX9_told 200 = .ok (.invokevirtual 135, 3) := by decide +kernel
theorem dX9_told_203 : decode cX9_told 203 = .ok (.ireturn, 1) := by decide +kernel
theorem dX9_told_204 : decode cX9_told 204 = .ok (.aload_n 0, 1) := by decide +kernel
theorem dX9_told_205 : decode cX9_told 205 = .ok (.getfield 44, 3) := by decide +kernel
theorem dX9_told_208 : decode cX9_told 208 = .ok (.invokevirtual 139, 3) := by decide +kernel
theorem dX9_told_211 : decode cX9_told 211 = .ok (.ireturn, 1) := by decide +kernel
theorem dX9_told_212 : decode cX9_told 212 = .ok (.aload_n 0, 1) := by decide +kernel
theorem dX9_told_213 : decode cX9_told 213 = .ok (.getfield 37, 3) := by decide +kernel
theorem dX9_told_216 : decode cX9_told 216 = .ok (.getfield 103, 3) := by decide +kernel
theorem dX9_told_219 : decode cX9_told 219 = .ok (.ireturn, 1) := by decide +kernel
theorem dX9_told_220 : decode cX9_told 220 = .ok (.aload_n 0, 1) := by decide +kernel
theorem dX9_told_221 : decode cX9_told 221 = .ok (.getfield 37, 3) := by decide +kernel
theorem dX9_told_224 : decode cX9_told 224 = .ok (.getfield 106, 3) := by decide +kernel
theorem dX9_told_227 : decode cX9_told 227 = .ok (.ireturn, 1) := by decide +kernel
theorem dX9_told_228 : decode cX9_told 228 = .ok (.aload_n 0, 1) := by decide +kernel
theorem dX9_told_229 : decode cX9_told 229 = .ok (.getfield 58, 3) := by decide +kernel
theorem dX9_told_232 : decode cX9_told 232 = .ok (.getfield 142, 3) := by decide +kernel
theorem dX9_told_235 : decode cX9_told 235 = .ok (.ireturn, 1) := by decide +kernel
theorem dX9_told_236 : decode cX9_told 236 = .ok (.aload_n 0, 1) := by decide +kernel
theorem dX9_told_237 : decode cX9_told 237 = .ok (.invokevirtual 145, 3) := by decide +kernel
theorem dX9_told_240 : decode cX9_told 240 = .ok (.ireturn, 1) := by decide +kernel
theorem dX9_told_241 : decode cX9_told 241 = .ok (.aload_n 0, 1) := by decide +kernel
theorem dX9_told_242 : decode cX9_told 242 = .ok (.getfield 51, 3) := by decide +kernel
theorem dX9_told_245 : decode cX9_told 245 = .ok (.getfield 148, 3) := by decide +kernel
theorem dX9_told_248 : decode cX9_told 248 = .ok (.ireturn, 1) := by decide +kernel
theorem dX9_told_249 : decode cX9_told 249 = .ok (.ldc 89, 2) := by decide +kernel
theorem dX9_told_251 : decode cX9_told 251 = .ok (.ireturn, 1) := by decide +kernel
theorem dX9_cell_0 : decode cX9_cell 0 = .ok (.iload_n 1, 1) := by decide +kernel
theorem dX9_cell_1 : decode cX9_cell 1 = .ok (.invokestatic 151, 3) := by decide +kernel
theorem dX9_cell_4 : decode cX9_cell 4 = .ok (.ifCond .eq 15, 3) := by decide +kernel
theorem dX9_cell_7 : decode cX9_cell 7 = .ok (.aload_n 0, 1) := by decide +kernel
theorem dX9_cell_8 : decode cX9_cell 8 = .ok (.getfield 37, 3) := by decide +kernel
theorem dX9_cell_11 : decode cX9_cell 11 = .ok (.getfield 132, 3) := by decide +kernel
theorem dX9_cell_14 : decode cX9_cell 14 = .ok (.iload_n 1, 1) := by decide +kernel
theorem dX9_cell_15 : decode cX9_cell 15 = .ok (.iaload, 1) := by decide +kernel
theorem dX9_cell_16 : decode cX9_cell 16 = .ok (.goto 5, 3) := by decide +kernel
theorem dX9_cell_19 : decode cX9_cell 19 = .ok (.ldc 154, 2) := by decide +kernel
theorem dX9_cell_21 : decode cX9_cell 21 = .ok (.ireturn, 1) := by decide +kernel
theorem dX9_call_0 : decode cX9_call 0 = .ok (.aload_n 0, 1) := by decide +kernel
theorem dX9_call_1 : decode cX9_call 1 = .ok (.getfield 44, 3) := by decide +kernel
theorem dX9_call_4 : decode cX9_call 4 = .ok (.iload_n 1, 1) := by decide +kernel
theorem dX9_call_5 : decode cX9_call 5 = .ok (.invokevirtual 155, 3) := by decide +kernel
theorem dX9_call_8 : decode cX9_call 8 = .ok (.astore_n 3, 1) := by decide +kernel
theorem dX9_call_9 : decode cX9_call 9 = .ok (.aload_n 3, 1) := by decide +kernel
theorem dX9_call_10 : decode cX9_call 10 = .ok (.ifnonnull 6, 3) := by decide +kernel
theorem dX9_call_13 : decode cX9_call 13 = .ok (.ldc 154, 2) := by decide +kernel
theorem dX9_call_15 : decode cX9_call 15 = .ok (.ireturn, 1) := by decide +kernel
theorem dX9_call_16 : decode cX9_call 16 = .ok (.iload_n 2, 1) := by decide +kernel
theorem dX9_call_17 : decode cX9_call 17 = .ok (.tableswitch 129 0 10 #[59, 64, 69, 74, 79, 84, 89, 94, 99, 104, 109], 59) := by decide +kernel
theorem dX9_call_76 : decode cX9_call 76 = .ok (.aload_n 3, 1) := by decide +kernel
theorem dX9_call_77 : decode cX9_call 77 = .ok (.getfield 159, 3) := by decide +kernel
theorem dX9_call_80 : decode cX9_call 80 = .ok (.ireturn, 1) := by decide +kernel
theorem dX9_call_81 : decode cX9_call 81 = .ok (.aload_n 3, 1) := by decide +kernel
theorem dX9_call_82 : decode cX9_call 82 = .ok (.getfield 164, 3) := by decide +kernel
theorem dX9_call_85 : decode cX9_call 85 = .ok (.ireturn, 1) := by decide +kernel
theorem dX9_call_86 : decode cX9_call 86 = .ok (.aload_n 3, 1) := by decide +kernel
theorem dX9_call_87 : decode cX9_call 87 = .ok (.getfield 167, 3) := by decide +kernel
theorem dX9_call_90 : decode cX9_call 90 = .ok (.ireturn, 1) := by decide +kernel
theorem dX9_call_91 : decode cX9_call 91 = .ok (.aload_n 3, 1) := by decide +kernel
theorem dX9_call_92 : decode cX9_call 92 = .ok (.getfield 170, 3) := by decide +kernel
theorem dX9_call_95 : decode cX9_call 95 = .ok (.ireturn, 1) := by decide +kernel
theorem dX9_call_96 : decode cX9_call 96 = .ok (.aload_n 3, 1) := by decide +kernel
theorem dX9_call_97 : decode cX9_call 97 = .ok (.getfield 173, 3) := by decide +kernel
theorem dX9_call_100 : decode cX9_call 100 = .ok (.ireturn, 1) := by decide +kernel
theorem dX9_call_101 : decode cX9_call 101 = .ok (.aload_n 3, 1) := by decide +kernel
theorem dX9_call_102 : decode cX9_call 102 = .ok (.getfield 176, 3) := by decide +kernel
theorem dX9_call_105 : decode cX9_call 105 = .ok (.ireturn, 1) := by decide +kernel
theorem dX9_call_106 : decode cX9_call 106 = .ok (.aload_n 3, 1) := by decide +kernel
theorem dX9_call_107 : decode cX9_call 107 = .ok (.getfield 179, 3) := by decide +kernel
theorem dX9_call_110 : decode cX9_call 110 = .ok (.ireturn, 1) := by decide +kernel
theorem dX9_call_111 : decode cX9_call 111 = .ok (.aload_n 3, 1) := by decide +kernel
theorem dX9_call_112 : decode cX9_call 112 = .ok (.getfield 182, 3) := by decide +kernel
theorem dX9_call_115 : decode cX9_call 115 = .ok (.ireturn, 1) := by decide +kernel
theorem dX9_call_116 : decode cX9_call 116 = .ok (.aload_n 3, 1) := by decide +kernel
theorem dX9_call_117 : decode cX9_call 117 = .ok (.invokevirtual 185, 3) := by decide +kernel
theorem dX9_call_120 : decode cX9_call 120 = .ok (.ireturn, 1) := by decide +kernel
theorem dX9_call_121 : decode cX9_call 121 = .ok (.aload_n 3, 1) := by decide +kernel
theorem dX9_call_122 : decode cX9_call 122 = .ok (.getfield 188, 3) := by decide +kernel
theorem dX9_call_125 : decode cX9_call 125 = .ok (.ireturn, 1) := by decide +kernel
theorem dX9_call_126 : decode cX9_call 126 = .ok (.aload_n 3, 1) := by decide +kernel
theorem dX9_call_127 : decode cX9_call 127 = .ok (.aload_n 0, 1) := by decide +kernel
theorem dX9_call_128 : decode cX9_call 128 = .ok (.getfield 37, 3) := by decide +kernel
theorem dX9_call_131 : decode cX9_call 131 = .ok (.getfield 132, 3) := by decide +kernel
theorem dX9_call_134 : decode cX9_call 134 = .ok (.invokevirtual 191, 3) := by decide +kernel
theorem dX9_call_137 : decode cX9_call 137 = .ok (.ifCond .eq 7, 3) := by decide +kernel
theorem dX9_call_140 : decode cX9_call 140 = .ok (.iconst 1, 1) := by decide +kernel
theorem dX9_call_141 : decode cX9_call 141 = .ok (.goto 4, 3) := by decide +kernel
theorem dX9_call_144 : decode cX9_call 144 = .ok (.iconst 0, 1) := by decide +kernel
theorem dX9_call_145 : decode cX9_call 145 = .ok (.ireturn, 1) := by decide +kernel
theorem dX9_call_146 : decode cX9_call 146 = .ok (.ldc 89, 2) := by decide +kernel
theorem dX9_call_148 : decode cX9_call 148 = .ok (.ireturn, 1) := by decide +kernel
theorem dX9_find_0 : decode cX9_find 0 = .ok (.aload_n 0, 1) := by decide +kernel
theorem dX9_find_1 : decode cX9_find 1 = .ok (.getfield 44, 3) := by decide +kernel
theorem dX9_find_4 : decode cX9_find 4 = .ok (.iload_n 1, 1) := by decide +kernel
theorem dX9_find_5 : decode cX9_find 5 = .ok (.invokevirtual 195, 3) := by decide +kernel
theorem dX9_find_8 : decode cX9_find 8 = .ok (.ireturn, 1) := by decide +kernel
theorem dX9_set_0 : decode cX9_set 0 = .ok (.iload_n 1, 1) := by decide +kernel
theorem dX9_set_1 : decode cX9_set 1 = .ok (.invokestatic 151, 3) := by decide +kernel
theorem dX9_set_4 : decode cX9_set 4 = .ok (.ifCond .ne 6, 3) := by decide +kernel
theorem dX9_set_7 : decode cX9_set 7 = .ok (.ldc 154, 2) := by decide +kernel
theorem dX9_set_9 : decode cX9_set 9 = .ok (.ireturn, 1) := by decide +kernel
theorem dX9_set_10 : decode cX9_set 10 = .ok (.iload_n 2, 1) := by decide +kernel
theorem dX9_set_11 : decode cX9_set 11 = .ok (.invokestatic 199, 3) := by decide +kernel
theorem dX9_set_14 : decode cX9_set 14 = .ok (.ifCond .ne 6, 3) := by decide +kernel
theorem dX9_set_17 : decode cX9_set 17 = .ok (.ldc 89, 2) := by decide +kernel
theorem dX9_set_19 : decode cX9_set 19 = .ok (.ireturn, 1) := by decide +kernel
theorem dX9_set_20 : decode cX9_set 20 = .ok (.aload_n 0, 1) := by decide +kernel
theorem dX9_set_21 : decode cX9_set 21 = .ok (.iload_n 1, 1) := by decide +kernel
theorem dX9_set_22 : decode cX9_set 22 = .ok (.iload_n 2, 1) := by decide +kernel
theorem dX9_set_23 : decode cX9_set 23 = .ok (.invokevirtual 202, 3) := by decide +kernel
theorem dX9_set_26 : decode cX9_set 26 = .ok (.ireturn, 1) := by decide +kernel
theorem dX9_aim_0 : decode cX9_aim 0 = .ok (.aload_n 0, 1) := by decide +kernel
theorem dX9_aim_1 : decode cX9_aim 1 = .ok (.getfield 27, 3) := by decide +kernel
theorem dX9_aim_4 : decode cX9_aim 4 = .ok (.iload_n 1, 1) := by decide +kernel
theorem dX9_aim_5 : decode cX9_aim 5 = .ok (.invokevirtual 205, 3) := by decide +kernel
theorem dX9_aim_8 : decode cX9_aim 8 = .ok (.ifCond .ne 6, 3) := by decide +kernel
theorem dX9_aim_11 : decode cX9_aim 11 = .ok (.ldc 154, 2) := by decide +kernel
theorem dX9_aim_13 : decode cX9_aim 13 = .ok (.ireturn, 1) := by decide +kernel
theorem dX9_aim_14 : decode cX9_aim 14 = .ok (.iload_n 2, 1) := by decide +kernel
theorem dX9_aim_15 : decode cX9_aim 15 = .ok (.invokestatic 199, 3) := by decide +kernel
theorem dX9_aim_18 : decode cX9_aim 18 = .ok (.ifCond .ne 6, 3) := by decide +kernel
theorem dX9_aim_21 : decode cX9_aim 21 = .ok (.ldc 89, 2) := by decide +kernel
theorem dX9_aim_23 : decode cX9_aim 23 = .ok (.ireturn, 1) := by decide +kernel
theorem dX9_aim_24 : decode cX9_aim 24 = .ok (.iload_n 1, 1) := by decide +kernel
theorem dX9_aim_25 : decode cX9_aim 25 = .ok (.aload_n 0, 1) := by decide +kernel
theorem dX9_aim_26 : decode cX9_aim 26 = .ok (.getfield 37, 3) := by decide +kernel
theorem dX9_aim_29 : decode cX9_aim 29 = .ok (.getfield 103, 3) := by decide +kernel
theorem dX9_aim_32 : decode cX9_aim 32 = .ok (.if_icmp .ne 14, 3) := by decide +kernel
theorem dX9_aim_35 : decode cX9_aim 35 = .ok (.iload_n 2, 1) := by decide +kernel
theorem dX9_aim_36 : decode cX9_aim 36 = .ok (.aload_n 0, 1) := by decide +kernel
theorem dX9_aim_37 : decode cX9_aim 37 = .ok (.getfield 37, 3) := by decide +kernel
theorem dX9_aim_40 : decode cX9_aim 40 = .ok (.getfield 106, 3) := by decide +kernel
theorem dX9_aim_43 : decode cX9_aim 43 = .ok (.if_icmp .eq 7, 3) := by decide +kernel
theorem dX9_aim_46 : decode cX9_aim 46 = .ok (.iconst 1, 1) := by decide +kernel
theorem dX9_aim_47 : decode cX9_aim 47 = .ok (.goto 4, 3) := by decide +kernel
theorem dX9_aim_50 : decode cX9_aim 50 = .ok (.iconst 0, 1) := by decide +kernel
theorem dX9_aim_51 : decode cX9_aim 51 = .ok (.istore_n 3, 1) := by decide +kernel
theorem dX9_aim_52 : decode cX9_aim 52 = .ok (.aload_n 0, 1) := by decide +kernel
theorem dX9_aim_53 : decode cX9_aim 53 = .ok (.getfield 51, 3) := by decide +kernel
theorem dX9_aim_56 : decode cX9_aim 56 = .ok (.aload_n 0, 1) := by decide +kernel
theorem dX9_aim_57 : decode cX9_aim 57 = .ok (.getfield 37, 3) := by decide +kernel
theorem dX9_aim_60 : decode cX9_aim 60 = .ok (.getfield 103, 3) := by decide +kernel
theorem dX9_aim_63 : decode cX9_aim 63 = .ok (.aload_n 0, 1) := by decide +kernel
theorem dX9_aim_64 : decode cX9_aim 64 = .ok (.getfield 37, 3) := by decide +kernel
theorem dX9_aim_67 : decode cX9_aim 67 = .ok (.getfield 106, 3) := by decide +kernel
theorem dX9_aim_70 : decode cX9_aim 70 = .ok (.invokevirtual 208, 3) := by decide +kernel
theorem dX9_aim_73 : decode cX9_aim 73 = .ok (.aload_n 0, 1) := by decide +kernel
theorem dX9_aim_74 : decode cX9_aim 74 = .ok (.getfield 37, 3) := by decide +kernel
theorem dX9_aim_77 : decode cX9_aim 77 = .ok (.iload_n 1, 1) := by decide +kernel
theorem dX9_aim_78 : decode cX9_aim 78 = .ok (.putfield 103, 3) := by decide +kernel
theorem dX9_aim_81 : decode cX9_aim 81 = .ok (.aload_n 0, 1) := by decide +kernel
theorem dX9_aim_82 : decode cX9_aim 82 = .ok (.getfield 37, 3) := by decide +kernel
theorem dX9_aim_85 : decode cX9_aim 85 = .ok (.iload_n 2, 1) := by decide +kernel
theorem dX9_aim_86 : decode cX9_aim 86 = .ok (.putfield 106, 3) := by decide +kernel
theorem dX9_aim_89 : decode cX9_aim 89 = .ok (.iload_n 3, 1) := by decide +kernel
theorem dX9_aim_90 : decode cX9_aim 90 = .ok (.ifCond .eq 7, 3) := by decide +kernel
theorem dX9_aim_93 : decode cX9_aim 93 = .ok (.iconst 1, 1) := by decide +kernel
theorem dX9_aim_94 : decode cX9_aim 94 = .ok (.goto 4, 3) := by decide +kernel
theorem dX9_aim_97 : decode cX9_aim 97 = .ok (.iconst 0, 1) := by decide +kernel
theorem dX9_aim_98 : decode cX9_aim 98 = .ok (.ireturn, 1) := by decide +kernel
theorem dX9_bring_0 : decode cX9_bring 0 = .ok (.aload_n 0, 1) := by decide +kernel
theorem dX9_bring_1 : decode cX9_bring 1 = .ok (.getfield 44, 3) := by decide +kernel
theorem dX9_bring_4 : decode cX9_bring 4 = .ok (.aload_n 0, 1) := by decide +kernel
theorem dX9_bring_5 : decode cX9_bring 5 = .ok (.getfield 74, 3) := by decide +kernel
theorem dX9_bring_8 : decode cX9_bring 8 = .ok (.aload_n 0, 1) := by decide +kernel
theorem dX9_bring_9 : decode cX9_bring 9 = .ok (.getfield 44, 3) := by decide +kernel
theorem dX9_bring_12 : decode cX9_bring 12 = .ok (.getfield 212, 3) := by decide +kernel
theorem dX9_bring_15 : decode cX9_bring 15 = .ok (.invokevirtual 216, 3) := by decide +kernel
theorem dX9_bring_18 : decode cX9_bring 18 = .ok (.invokevirtual 220, 3) := by decide +kernel
theorem dX9_bring_21 : decode cX9_bring 21 = .ok (.aload_n 0, 1) := by decide +kernel
theorem dX9_bring_22 : decode cX9_bring 22 = .ok (.getfield 44, 3) := by decide +kernel
theorem dX9_bring_25 : decode cX9_bring 25 = .ok (.invokevirtual 97, 3) := by decide +kernel
theorem dX9_bring_28 : decode cX9_bring 28 = .ok (.ireturn, 1) := by decide +kernel
theorem dX9_drift_0 : decode cX9_drift 0 = .ok (.iload_n 1, 1) := by decide +kernel
theorem dX9_drift_1 : decode cX9_drift 1 = .ok (.iconst 1, 1) := by decide +kernel
theorem dX9_drift_2 : decode cX9_drift 2 = .ok (.if_icmp .lt 9, 3) := by decide +kernel
theorem dX9_drift_5 : decode cX9_drift 5 = .ok (.iload_n 1, 1) := by decide +kernel
theorem dX9_drift_6 : decode cX9_drift 6 = .ok (.bipush 12, 2) := by decide +kernel
theorem dX9_drift_8 : decode cX9_drift 8 = .ok (.if_icmp .le 6, 3) := by decide +kernel
theorem dX9_drift_11 : decode cX9_drift 11 = .ok (.ldc 89, 2) := by decide +kernel
theorem dX9_drift_13 : decode cX9_drift 13 = .ok (.ireturn, 1) := by decide +kernel
theorem dX9_drift_14 : decode cX9_drift 14 = .ok (.iconst 0, 1) := by decide +kernel
theorem dX9_drift_15 : decode cX9_drift 15 = .ok (.istore_n 2, 1) := by decide +kernel
theorem dX9_drift_16 : decode cX9_drift 16 = .ok (.iload_n 2, 1) := by decide +kernel
theorem dX9_drift_17 : decode cX9_drift 17 = .ok (.iload_n 1, 1) := by decide +kernel
theorem dX9_drift_18 : decode cX9_drift 18 = .ok (.if_icmp .ge 38, 3) := by decide +kernel
theorem dX9_drift_21 : decode cX9_drift 21 = .ok (.aload_n 0, 1) := by decide +kernel
theorem dX9_drift_22 : decode cX9_drift 22 = .ok (.getfield 37, 3) := by decide +kernel
theorem dX9_drift_25 : decode cX9_drift 25 = .ok (.bipush 8, 2) := by decide +kernel
theorem dX9_drift_27 : decode cX9_drift 27 = .ok (.invokevirtual 224, 3) := by decide +kernel
theorem dX9_drift_30 : decode cX9_drift 30 = .ok (.istore_n 3, 1) := by decide +kernel
theorem dX9_drift_31 : decode cX9_drift 31 = .ok (.aload_n 0, 1) := by decide +kernel
theorem dX9_drift_32 : decode cX9_drift 32 = .ok (.getfield 37, 3) := by decide +kernel
theorem dX9_drift_35 : decode cX9_drift 35 = .ok (.bipush 10, 2) := by decide +kernel
theorem dX9_drift_37 : decode cX9_drift 37 = .ok (.invokevirtual 224, 3) := by decide +kernel
theorem dX9_drift_40 : decode cX9_drift 40 = .ok (.istore 4, 2) := by decide +kernel
theorem dX9_drift_42 : decode cX9_drift 42 = .ok (.aload_n 0, 1) := by decide +kernel
theorem dX9_drift_43 : decode cX9_drift 43 = .ok (.iload_n 3, 1) := by decide +kernel
theorem dX9_drift_44 : decode cX9_drift 44 = .ok (.iload 4, 2) := by decide +kernel
theorem dX9_drift_46 : decode cX9_drift 46 = .ok (.invokevirtual 202, 3) := by decide +kernel
theorem dX9_drift_49 : decode cX9_drift 49 = .ok (.pop, 1) := by decide +kernel
theorem dX9_drift_50 : decode cX9_drift 50 = .ok (.iinc 2 1, 3) := by decide +kernel
theorem dX9_drift_53 : decode cX9_drift 53 = .ok (.goto (-37), 3) := by decide +kernel
theorem dX9_drift_56 : decode cX9_drift 56 = .ok (.aload_n 0, 1) := by decide +kernel
theorem dX9_drift_57 : decode cX9_drift 57 = .ok (.getfield 37, 3) := by decide +kernel
theorem dX9_drift_60 : decode cX9_drift 60 = .ok (.getfield 227, 3) := by decide +kernel
theorem dX9_drift_63 : decode cX9_drift 63 = .ok (.ireturn, 1) := by decide +kernel
theorem dX9_undo_0 : decode cX9_undo 0 = .ok (.iload_n 1, 1) := by decide +kernel
theorem dX9_undo_1 : decode cX9_undo 1 = .ok (.iconst 1, 1) := by decide +kernel
theorem dX9_undo_2 : decode cX9_undo 2 = .ok (.if_icmp .lt 9, 3) := by decide +kernel
theorem dX9_undo_5 : decode cX9_undo 5 = .ok (.iload_n 1, 1) := by decide +kernel
theorem dX9_undo_6 : decode cX9_undo 6 = .ok (.bipush 16, 2) := by decide +kernel
theorem dX9_undo_8 : decode cX9_undo 8 = .ok (.if_icmp .le 6, 3) := by decide +kernel
theorem dX9_undo_11 : decode cX9_undo 11 = .ok (.ldc 89, 2) := by decide +kernel
theorem dX9_undo_13 : decode cX9_undo 13 = .ok (.ireturn, 1) := by decide +kernel
theorem dX9_undo_14 : decode cX9_undo 14 = .ok (.iload_n 1, 1) := by decide +kernel
theorem dX9_undo_15 : decode cX9_undo 15 = .ok (.aload_n 0, 1) := by decide +kernel
theorem dX9_undo_16 : decode cX9_undo 16 = .ok (.getfield 51, 3) := by decide +kernel
theorem dX9_undo_19 : decode cX9_undo 19 = .ok (.getfield 148, 3) := by decide +kernel
theorem dX9_undo_22 : decode cX9_undo 22 = .ok (.if_icmp .le 6, 3) := by decide +kernel
theorem dX9_undo_25 : decode cX9_undo 25 = .ok (.ldc 230, 2) := by decide +kernel
theorem dX9_undo_27 : decode cX9_undo 27 = .ok (.ireturn, 1) := by decide +kernel
theorem dX9_undo_28 : decode cX9_undo 28 = .ok (.iconst 0, 1) := by decide +kernel
theorem dX9_undo_29 : decode cX9_undo 29 = .ok (.istore_n 2, 1) := by decide +kernel
theorem dX9_undo_30 : decode cX9_undo 30 = .ok (.iload_n 2, 1) := by decide +kernel
theorem dX9_undo_31 : decode cX9_undo 31 = .ok (.iload_n 1, 1) := by decide +kernel
theorem dX9_undo_32 : decode cX9_undo 32 = .ok (.if_icmp .ge 20, 3) := by decide +kernel
theorem dX9_undo_35 : decode cX9_undo 35 = .ok (.aload_n 0, 1) := by decide +kernel
theorem dX9_undo_36 : decode cX9_undo 36 = .ok (.getfield 51, 3) := by decide +kernel
theorem dX9_undo_39 : decode cX9_undo 39 = .ok (.aload_n 0, 1) := by decide +kernel
theorem dX9_undo_40 : decode cX9_undo 40 = .ok (.getfield 37, 3) := by decide +kernel
theorem dX9_undo_43 : decode cX9_undo 43 = .ok (.invokevirtual 231, 3) := by decide +kernel
theorem dX9_undo_46 : decode cX9_undo 46 = .ok (.iinc 2 1, 3) := by decide +kernel
theorem dX9_undo_49 : decode cX9_undo 49 = .ok (.goto (-19), 3) := by decide +kernel
theorem dX9_undo_52 : decode cX9_undo 52 = .ok (.aload_n 0, 1) := by decide +kernel
theorem dX9_undo_53 : decode cX9_undo 53 = .ok (.getfield 51, 3) := by decide +kernel
theorem dX9_undo_56 : decode cX9_undo 56 = .ok (.getfield 148, 3) := by decide +kernel
theorem dX9_undo_59 : decode cX9_undo 59 = .ok (.ireturn, 1) := by decide +kernel
theorem dX9_write_0 : decode cX9_write 0 = .ok (.aload_n 0, 1) := by decide +kernel
theorem dX9_write_1 : decode cX9_write 1 = .ok (.getfield 27, 3) := by decide +kernel
theorem dX9_write_4 : decode cX9_write 4 = .ok (.iload_n 1, 1) := by decide +kernel
theorem dX9_write_5 : decode cX9_write 5 = .ok (.invokevirtual 205, 3) := by decide +kernel
theorem dX9_write_8 : decode cX9_write 8 = .ok (.ifCond .ne 6, 3) := by decide +kernel
theorem dX9_write_11 : decode cX9_write 11 = .ok (.ldc 154, 2) := by decide +kernel
theorem dX9_write_13 : decode cX9_write 13 = .ok (.ireturn, 1) := by decide +kernel
theorem dX9_write_14 : decode cX9_write 14 = .ok (.iload_n 2, 1) := by decide +kernel
theorem dX9_write_15 : decode cX9_write 15 = .ok (.invokestatic 199, 3) := by decide +kernel
theorem dX9_write_18 : decode cX9_write 18 = .ok (.ifCond .ne 6, 3) := by decide +kernel
theorem dX9_write_21 : decode cX9_write 21 = .ok (.ldc 89, 2) := by decide +kernel
theorem dX9_write_23 : decode cX9_write 23 = .ok (.ireturn, 1) := by decide +kernel
theorem dX9_write_24 : decode cX9_write 24 = .ok (.aload_n 0, 1) := by decide +kernel
theorem dX9_write_25 : decode cX9_write 25 = .ok (.getfield 58, 3) := by decide +kernel
theorem dX9_write_28 : decode cX9_write 28 = .ok (.iload_n 1, 1) := by decide +kernel
theorem dX9_write_29 : decode cX9_write 29 = .ok (.iload_n 2, 1) := by decide +kernel
theorem dX9_write_30 : decode cX9_write 30 = .ok (.iload_n 3, 1) := by decide +kernel
theorem dX9_write_31 : decode cX9_write 31 = .ok (.invokevirtual 235, 3) := by decide +kernel
theorem dX9_write_34 : decode cX9_write 34 = .ok (.ifCond .eq 13, 3) := by decide +kernel
theorem dX9_write_37 : decode cX9_write 37 = .ok (.aload_n 0, 1) := by decide +kernel
theorem dX9_write_38 : decode cX9_write 38 = .ok (.getfield 58, 3) := by decide +kernel
theorem dX9_write_41 : decode cX9_write 41 = .ok (.getfield 142, 3) := by decide +kernel
theorem dX9_write_44 : decode cX9_write 44 = .ok (.goto 5, 3) := by decide +kernel
theorem dX9_write_47 : decode cX9_write 47 = .ok (.ldc 93, 2) := by decide +kernel
theorem dX9_write_49 : decode cX9_write 49 = .ok (.ireturn, 1) := by decide +kernel
theorem dX9_tear_0 : decode cX9_tear 0 = .ok (.aload_n 0, 1) := by decide +kernel
theorem dX9_tear_1 : decode cX9_tear 1 = .ok (.getfield 58, 3) := by decide +kernel
theorem dX9_tear_4 : decode cX9_tear 4 = .ok (.getfield 142, 3) := by decide +kernel
theorem dX9_tear_7 : decode cX9_tear 7 = .ok (.istore_n 1, 1) := by decide +kernel
theorem dX9_tear_8 : decode cX9_tear 8 = .ok (.aload_n 0, 1) := by decide +kernel
theorem dX9_tear_9 : decode cX9_tear 9 = .ok (.getfield 58, 3) := by decide +kernel
theorem dX9_tear_12 : decode cX9_tear 12 = .ok (.iconst 0, 1) := by decide +kernel
theorem dX9_tear_13 : decode cX9_tear 13 = .ok (.putfield 142, 3) := by decide +kernel
theorem dX9_tear_16 : decode cX9_tear 16 = .ok (.iload_n 1, 1) := by decide +kernel
theorem dX9_tear_17 : decode cX9_tear 17 = .ok (.ireturn, 1) := by decide +kernel
theorem dX9_seed_0 : decode cX9_seed 0 = .ok (.iload_n 1, 1) := by decide +kernel
theorem dX9_seed_1 : decode cX9_seed 1 = .ok (.ifCond .ge 6, 3) := by decide +kernel
theorem dX9_seed_4 : decode cX9_seed 4 = .ok (.ldc 89, 2) := by decide +kernel
theorem dX9_seed_6 : decode cX9_seed 6 = .ok (.ireturn, 1) := by decide +kernel
theorem dX9_seed_7 : decode cX9_seed 7 = .ok (.aload_n 0, 1) := by decide +kernel
theorem dX9_seed_8 : decode cX9_seed 8 = .ok (.getfield 37, 3) := by decide +kernel
theorem dX9_seed_11 : decode cX9_seed 11 = .ok (.getfield 227, 3) := by decide +kernel
theorem dX9_seed_14 : decode cX9_seed 14 = .ok (.istore_n 2, 1) := by decide +kernel
theorem dX9_seed_15 : decode cX9_seed 15 = .ok (.aload_n 0, 1) := by decide +kernel
theorem dX9_seed_16 : decode cX9_seed 16 = .ok (.getfield 37, 3) := by decide +kernel
theorem dX9_seed_19 : decode cX9_seed 19 = .ok (.iload_n 1, 1) := by decide +kernel
theorem dX9_seed_20 : decode cX9_seed 20 = .ok (.putfield 227, 3) := by decide +kernel
theorem dX9_seed_23 : decode cX9_seed 23 = .ok (.iload_n 2, 1) := by decide +kernel
theorem dX9_seed_24 : decode cX9_seed 24 = .ok (.ireturn, 1) := by decide +kernel
theorem dX9_keep_0 : decode cX9_keep 0 = .ok (.iload_n 1, 1) := by decide +kernel
theorem dX9_keep_1 : decode cX9_keep 1 = .ok (.invokestatic 239, 3) := by decide +kernel
theorem dX9_keep_4 : decode cX9_keep 4 = .ok (.ifCond .ne 6, 3) := by decide +kernel
theorem dX9_keep_7 : decode cX9_keep 7 = .ok (.ldc 154, 2) := by decide +kernel
theorem dX9_keep_9 : decode cX9_keep 9 = .ok (.ireturn, 1) := by decide +kernel
theorem dX9_keep_10 : decode cX9_keep 10 = .ok (.aload_n 0, 1) := by decide +kernel
theorem dX9_keep_11 : decode cX9_keep 11 = .ok (.getfield 62, 3) := by decide +kernel
theorem dX9_keep_14 : decode cX9_keep 14 = .ok (.iload_n 1, 1) := by decide +kernel
theorem dX9_keep_15 : decode cX9_keep 15 = .ok (.aaload, 1) := by decide +kernel
theorem dX9_keep_16 : decode cX9_keep 16 = .ok (.astore_n 2, 1) := by decide +kernel
theorem dX9_keep_17 : decode cX9_keep 17 = .ok (.aload_n 2, 1) := by decide +kernel
theorem dX9_keep_18 : decode cX9_keep 18 = .ok (.ifnonnull 18, 3) := by decide +kernel
theorem dX9_keep_21 : decode cX9_keep 21 = .ok (.new 34, 3) := by decide +kernel
theorem dX9_keep_24 : decode cX9_keep 24 = .ok (.dup, 1) := by decide +kernel
theorem dX9_keep_25 : decode cX9_keep 25 = .ok (.invokespecial 36, 3) := by decide +kernel
theorem dX9_keep_28 : decode cX9_keep 28 = .ok (.astore_n 2, 1) := by decide +kernel
theorem dX9_keep_29 : decode cX9_keep 29 = .ok (.aload_n 0, 1) := by decide +kernel
theorem dX9_keep_30 : decode cX9_keep 30 = .ok (.getfield 62, 3) := by decide +kernel
theorem dX9_keep_33 : decode cX9_keep 33 = .ok (.iload_n 1, 1) := by decide +kernel
theorem dX9_keep_34 : decode cX9_keep 34 = .ok (.aload_n 2, 1) := by decide +kernel
theorem dX9_keep_35 : decode cX9_keep 35 = .ok (.aastore, 1) := by decide +kernel
theorem dX9_keep_36 : decode cX9_keep 36 = .ok (.aload_n 2, 1) := by decide +kernel
theorem dX9_keep_37 : decode cX9_keep 37 = .ok (.aload_n 0, 1) := by decide +kernel
theorem dX9_keep_38 : decode cX9_keep 38 = .ok (.getfield 37, 3) := by decide +kernel
theorem dX9_keep_41 : decode cX9_keep 41 = .ok (.invokevirtual 242, 3) := by decide +kernel
theorem dX9_keep_44 : decode cX9_keep 44 = .ok (.aload_n 0, 1) := by decide +kernel
theorem dX9_keep_45 : decode cX9_keep 45 = .ok (.getfield 51, 3) := by decide +kernel
theorem dX9_keep_48 : decode cX9_keep 48 = .ok (.invokevirtual 245, 3) := by decide +kernel
theorem dX9_keep_51 : decode cX9_keep 51 = .ok (.iconst 1, 1) := by decide +kernel
theorem dX9_keep_52 : decode cX9_keep 52 = .ok (.ireturn, 1) := by decide +kernel
theorem dX9_goBack_0 : decode cX9_goBack 0 = .ok (.iload_n 1, 1) := by decide +kernel
theorem dX9_goBack_1 : decode cX9_goBack 1 = .ok (.invokestatic 239, 3) := by decide +kernel
theorem dX9_goBack_4 : decode cX9_goBack 4 = .ok (.ifCond .ne 6, 3) := by decide +kernel
theorem dX9_goBack_7 : decode cX9_goBack 7 = .ok (.ldc 154, 2) := by decide +kernel
theorem dX9_goBack_9 : decode cX9_goBack 9 = .ok (.ireturn, 1) := by decide +kernel
theorem dX9_goBack_10 : decode cX9_goBack 10 = .ok (.aload_n 0, 1) := by decide +kernel
theorem dX9_goBack_11 : decode cX9_goBack 11 = .ok (.getfield 62, 3) := by decide +kernel
theorem dX9_goBack_14 : decode cX9_goBack 14 = .ok (.iload_n 1, 1) := by decide +kernel
theorem dX9_goBack_15 : decode cX9_goBack 15 = .ok (.aaload, 1) := by decide +kernel
theorem dX9_goBack_16 : decode cX9_goBack 16 = .ok (.astore_n 2, 1) := by decide +kernel
theorem dX9_goBack_17 : decode cX9_goBack 17 = .ok (.aload_n 2, 1) := by decide +kernel
theorem dX9_goBack_18 : decode cX9_goBack 18 = .ok (.ifnull 17, 3) := by decide +kernel
theorem dX9_goBack_21 : decode cX9_goBack 21 = .ok (.aload_n 0, 1) := by decide +kernel
theorem dX9_goBack_22 : decode cX9_goBack 22 = .ok (.getfield 27, 3) := by decide +kernel
theorem dX9_goBack_25 : decode cX9_goBack 25 = .ok (.aload_n 2, 1) := by decide +kernel
theorem dX9_goBack_26 : decode cX9_goBack 26 = .ok (.getfield 103, 3) := by decide +kernel
theorem dX9_goBack_29 : decode cX9_goBack 29 = .ok (.invokevirtual 205, 3) := by decide +kernel
theorem dX9_goBack_32 : decode cX9_goBack 32 = .ok (.ifCond .ne 6, 3) := by decide +kernel
theorem dX9_goBack_35 : decode cX9_goBack 35 = .ok (.ldc 230, 2) := by decide +kernel
theorem dX9_goBack_37 : decode cX9_goBack 37 = .ok (.ireturn, 1) := by decide +kernel
theorem dX9_goBack_38 : decode cX9_goBack 38 = .ok (.aload_n 0, 1) := by decide +kernel
theorem dX9_goBack_39 : decode cX9_goBack 39 = .ok (.getfield 37, 3) := by decide +kernel
theorem dX9_goBack_42 : decode cX9_goBack 42 = .ok (.aload_n 2, 1) := by decide +kernel
theorem dX9_goBack_43 : decode cX9_goBack 43 = .ok (.invokevirtual 242, 3) := by decide +kernel
theorem dX9_goBack_46 : decode cX9_goBack 46 = .ok (.aload_n 0, 1) := by decide +kernel
theorem dX9_goBack_47 : decode cX9_goBack 47 = .ok (.getfield 51, 3) := by decide +kernel
theorem dX9_goBack_50 : decode cX9_goBack 50 = .ok (.invokevirtual 245, 3) := by decide +kernel
theorem dX9_goBack_53 : decode cX9_goBack 53 = .ok (.iconst 1, 1) := by decide +kernel
theorem dX9_goBack_54 : decode cX9_goBack 54 = .ok (.ireturn, 1) := by decide +kernel
theorem dX9_isCell_0 : decode cX9_isCell 0 = .ok (.iload_n 0, 1) := by decide +kernel
theorem dX9_isCell_1 : decode cX9_isCell 1 = .ok (.ifCond .lt 13, 3) := by decide +kernel
theorem dX9_isCell_4 : decode cX9_isCell 4 = .ok (.iload_n 0, 1) := by decide +kernel
theorem dX9_isCell_5 : decode cX9_isCell 5 = .ok (.bipush 8, 2) := by decide +kernel
theorem dX9_isCell_7 : decode cX9_isCell 7 = .ok (.if_icmp .ge 7, 3) := by decide +kernel
theorem dX9_isCell_10 : decode cX9_isCell 10 = .ok (.iconst 1, 1) := by decide +kernel
theorem dX9_isCell_11 : decode cX9_isCell 11 = .ok (.goto 4, 3) := by decide +kernel
theorem dX9_isCell_14 : decode cX9_isCell 14 = .ok (.iconst 0, 1) := by decide +kernel
theorem dX9_isCell_15 : decode cX9_isCell 15 = .ok (.ireturn, 1) := by decide +kernel
theorem dX9_isNumber_0 : decode cX9_isNumber 0 = .ok (.iload_n 0, 1) := by decide +kernel
theorem dX9_isNumber_1 : decode cX9_isNumber 1 = .ok (.ifCond .lt 14, 3) := by decide +kernel
theorem dX9_isNumber_4 : decode cX9_isNumber 4 = .ok (.iload_n 0, 1) := by decide +kernel
theorem dX9_isNumber_5 : decode cX9_isNumber 5 = .ok (.sipush 997, 3) := by decide +kernel
theorem dX9_isNumber_8 : decode cX9_isNumber 8 = .ok (.if_icmp .ge 7, 3) := by decide +kernel
theorem dX9_isNumber_11 : decode cX9_isNumber 11 = .ok (.iconst 1, 1) := by decide +kernel
theorem dX9_isNumber_12 : decode cX9_isNumber 12 = .ok (.goto 4, 3) := by decide +kernel
theorem dX9_isNumber_15 : decode cX9_isNumber 15 = .ok (.iconst 0, 1) := by decide +kernel
theorem dX9_isNumber_16 : decode cX9_isNumber 16 = .ok (.ireturn, 1) := by decide +kernel
theorem dX9_isImage_0 : decode cX9_isImage 0 = .ok (.iload_n 0, 1) := by decide +kernel
theorem dX9_isImage_1 : decode cX9_isImage 1 = .ok (.ifCond .lt 12, 3) := by decide +kernel
theorem dX9_isImage_4 : decode cX9_isImage 4 = .ok (.iload_n 0, 1) := by decide +kernel
theorem dX9_isImage_5 : decode cX9_isImage 5 = .ok (.iconst 2, 1) := by decide +kernel
theorem dX9_isImage_6 : decode cX9_isImage 6 = .ok (.if_icmp .ge 7, 3) := by decide +kernel
theorem dX9_isImage_9 : decode cX9_isImage 9 = .ok (.iconst 1, 1) := by decide +kernel
theorem dX9_isImage_10 : decode cX9_isImage 10 = .ok (.goto 4, 3) := by decide +kernel
theorem dX9_isImage_13 : decode cX9_isImage 13 = .ok (.iconst 0, 1) := by decide +kernel
theorem dX9_isImage_14 : decode cX9_isImage 14 = .ok (.ireturn, 1) := by decide +kernel
theorem dX9_addLetter_0 : decode cX9_addLetter 0 = .ok (.aload_n 0, 1) := by decide +kernel
theorem dX9_addLetter_1 : decode cX9_addLetter 1 = .ok (.getfield 90, 3) := by decide +kernel
theorem dX9_addLetter_4 : decode cX9_addLetter 4 = .ok (.sipush 160, 3) := by decide +kernel
theorem dX9_addLetter_7 : decode cX9_addLetter 7 = .ok (.if_icmp .lt 5, 3) := by decide +kernel
theorem dX9_addLetter_10 : decode cX9_addLetter 10 = .ok (.iconst 0, 1) := by decide +kernel
theorem dX9_addLetter_11 : decode cX9_addLetter 11 = .ok (.ireturn, 1) := by decide +kernel
theorem dX9_addLetter_12 : decode cX9_addLetter 12 = .ok (.aload_n 0, 1) := by decide +kernel
theorem dX9_addLetter_13 : decode cX9_addLetter 13 = .ok (.getfield 9, 3) := by decide +kernel
theorem dX9_addLetter_16 : decode cX9_addLetter 16 = .ok (.aload_n 0, 1) := by decide +kernel
theorem dX9_addLetter_17 : decode cX9_addLetter 17 = .ok (.getfield 90, 3) := by decide +kernel
theorem dX9_addLetter_20 : decode cX9_addLetter 20 = .ok (.iload_n 1, 1) := by decide +kernel
theorem dX9_addLetter_21 : decode cX9_addLetter 21 = .ok (.iastore, 1) := by decide +kernel
theorem dX9_addLetter_22 : decode cX9_addLetter 22 = .ok (.aload_n 0, 1) := by decide +kernel
theorem dX9_addLetter_23 : decode cX9_addLetter 23 = .ok (.dup, 1) := by decide +kernel
theorem dX9_addLetter_24 : decode cX9_addLetter 24 = .ok (.getfield 90, 3) := by decide +kernel
theorem dX9_addLetter_27 : decode cX9_addLetter 27 = .ok (.iconst 1, 1) := by decide +kernel
theorem dX9_addLetter_28 : decode cX9_addLetter 28 = .ok (.iadd, 1) := by decide +kernel
theorem dX9_addLetter_29 : decode cX9_addLetter 29 = .ok (.putfield 90, 3) := by decide +kernel
theorem dX9_addLetter_32 : decode cX9_addLetter 32 = .ok (.iconst 1, 1) := by decide +kernel
theorem dX9_addLetter_33 : decode cX9_addLetter 33 = .ok (.ireturn, 1) := by decide +kernel
theorem dX9_takeText_0 : decode cX9_takeText 0 = .ok (.aload_n 0, 1) := by decide +kernel
theorem dX9_takeText_1 : decode cX9_takeText 1 = .ok (.getfield 20, 3) := by decide +kernel
theorem dX9_takeText_4 : decode cX9_takeText 4 = .ok (.aload_n 0, 1) := by decide +kernel
theorem dX9_takeText_5 : decode cX9_takeText 5 = .ok (.getfield 31, 3) := by decide +kernel
theorem dX9_takeText_8 : decode cX9_takeText 8 = .ok (.aload_n 0, 1) := by decide +kernel
theorem dX9_takeText_9 : decode cX9_takeText 9 = .ok (.getfield 9, 3) := by decide +kernel
theorem dX9_takeText_12 : decode cX9_takeText 12 = .ok (.aload_n 0, 1) := by decide +kernel
theorem dX9_takeText_13 : decode cX9_takeText 13 = .ok (.getfield 90, 3) := by decide +kernel
theorem dX9_takeText_16 : decode cX9_takeText 16 = .ok (.invokevirtual 248, 3) := by decide +kernel
theorem dX9_takeText_19 : decode cX9_takeText 19 = .ok (.istore_n 1, 1) := by decide +kernel
theorem dX9_takeText_20 : decode cX9_takeText 20 = .ok (.aload_n 0, 1) := by decide +kernel
theorem dX9_takeText_21 : decode cX9_takeText 21 = .ok (.iconst 0, 1) := by decide +kernel
theorem dX9_takeText_22 : decode cX9_takeText 22 = .ok (.putfield 90, 3) := by decide +kernel
theorem dX9_takeText_25 : decode cX9_takeText 25 = .ok (.iload_n 1, 1) := by decide +kernel
theorem dX9_takeText_26 : decode cX9_takeText 26 = .ok (.ifCond .eq 16, 3) := by decide +kernel
theorem dX9_takeText_29 : decode cX9_takeText 29 = .ok (.aload_n 0, 1) := by decide +kernel
theorem dX9_takeText_30 : decode cX9_takeText 30 = .ok (.aload_n 0, 1) := by decide +kernel
theorem dX9_takeText_31 : decode cX9_takeText 31 = .ok (.getfield 20, 3) := by decide +kernel
theorem dX9_takeText_34 : decode cX9_takeText 34 = .ok (.getfield 252, 3) := by decide +kernel
theorem dX9_takeText_37 : decode cX9_takeText 37 = .ok (.putfield 13, 3) := by decide +kernel
theorem dX9_takeText_40 : decode cX9_takeText 40 = .ok (.iload_n 1, 1) := by decide +kernel
theorem dX9_takeText_41 : decode cX9_takeText 41 = .ok (.ireturn, 1) := by decide +kernel
theorem dX9_takeText_42 : decode cX9_takeText 42 = .ok (.aload_n 0, 1) := by decide +kernel
theorem dX9_takeText_43 : decode cX9_takeText 43 = .ok (.iconst (-1), 1) := by decide +kernel
theorem dX9_takeText_44 : decode cX9_takeText 44 = .ok (.putfield 13, 3) := by decide +kernel
theorem dX9_takeText_47 : decode cX9_takeText 47 = .ok (.aload_n 0, 1) := by decide +kernel
theorem dX9_takeText_48 : decode cX9_takeText 48 = .ok (.getfield 27, 3) := by decide +kernel
theorem dX9_takeText_51 : decode cX9_takeText 51 = .ok (.astore_n 2, 1) := by decide +kernel
theorem dX9_takeText_52 : decode cX9_takeText 52 = .ok (.aload_n 0, 1) := by decide +kernel
theorem dX9_takeText_53 : decode cX9_takeText 53 = .ok (.aload_n 0, 1) := by decide +kernel
theorem dX9_takeText_54 : decode cX9_takeText 54 = .ok (.getfield 31, 3) := by decide +kernel
theorem dX9_takeText_57 : decode cX9_takeText 57 = .ok (.putfield 27, 3) := by decide +kernel
theorem dX9_takeText_60 : decode cX9_takeText 60 = .ok (.aload_n 0, 1) := by decide +kernel
theorem dX9_takeText_61 : decode cX9_takeText 61 = .ok (.aload_n 2, 1) := by decide +kernel
theorem dX9_takeText_62 : decode cX9_takeText 62 = .ok (.putfield 31, 3) := by decide +kernel
theorem dX9_takeText_65 : decode cX9_takeText 65 = .ok (.aload_n 0, 1) := by decide +kernel
theorem dX9_takeText_66 : decode cX9_takeText 66 = .ok (.invokevirtual 255, 3) := by decide +kernel
theorem dX9_takeText_69 : decode cX9_takeText 69 = .ok (.iconst 0, 1) := by decide +kernel
theorem dX9_takeText_70 : decode cX9_takeText 70 = .ok (.ireturn, 1) := by decide +kernel
theorem dX9_startAnew_0 : decode cX9_startAnew 0 = .ok (.aload_n 0, 1) := by decide +kernel
theorem dX9_startAnew_1 : decode cX9_startAnew 1 = .ok (.getfield 37, 3) := by decide +kernel
theorem dX9_startAnew_4 : decode cX9_startAnew 4 = .ok (.iconst 0, 1) := by decide +kernel
theorem dX9_startAnew_5 : decode cX9_startAnew 5 = .ok (.putfield 103, 3) := by decide +kernel
theorem dX9_startAnew_8 : decode cX9_startAnew 8 = .ok (.aload_n 0, 1) := by decide +kernel
theorem dX9_startAnew_9 : decode cX9_startAnew 9 = .ok (.getfield 37, 3) := by decide +kernel
theorem dX9_startAnew_12 : decode cX9_startAnew 12 = .ok (.iconst 0, 1) := by decide +kernel
theorem dX9_startAnew_13 : decode cX9_startAnew 13 = .ok (.putfield 106, 3) := by decide +kernel
theorem dX9_startAnew_16 : decode cX9_startAnew 16 = .ok (.aload_n 0, 1) := by decide +kernel
theorem dX9_startAnew_17 : decode cX9_startAnew 17 = .ok (.getfield 51, 3) := by decide +kernel
theorem dX9_startAnew_20 : decode cX9_startAnew 20 = .ok (.invokevirtual 245, 3) := by decide +kernel
theorem dX9_startAnew_23 : decode cX9_startAnew 23 = .ok (.aload_n 0, 1) := by decide +kernel
theorem dX9_startAnew_24 : decode cX9_startAnew 24 = .ok (.getfield 78, 3) := by decide +kernel
theorem dX9_startAnew_27 : decode cX9_startAnew 27 = .ok (.aload_n 0, 1) := by decide +kernel
theorem dX9_startAnew_28 : decode cX9_startAnew 28 = .ok (.getfield 27, 3) := by decide +kernel
theorem dX9_startAnew_31 : decode cX9_startAnew 31 = .ok (.invokevirtual 258, 3) := by decide +kernel
theorem dX9_startAnew_34 : decode cX9_startAnew 34 = .ok (.aload_n 0, 1) := by decide +kernel
theorem dX9_startAnew_35 : decode cX9_startAnew 35 = .ok (.getfield 74, 3) := by decide +kernel
theorem dX9_startAnew_38 : decode cX9_startAnew 38 = .ok (.aload_n 0, 1) := by decide +kernel
theorem dX9_startAnew_39 : decode cX9_startAnew 39 = .ok (.getfield 27, 3) := by decide +kernel
theorem dX9_startAnew_42 : decode cX9_startAnew 42 = .ok (.invokevirtual 258, 3) := by decide +kernel
theorem dX9_startAnew_45 : decode cX9_startAnew 45 = .ok (.aload_n 0, 1) := by decide +kernel
theorem dX9_startAnew_46 : decode cX9_startAnew 46 = .ok (.getfield 74, 3) := by decide +kernel
theorem dX9_startAnew_49 : decode cX9_startAnew 49 = .ok (.aload_n 0, 1) := by decide +kernel
theorem dX9_startAnew_50 : decode cX9_startAnew 50 = .ok (.getfield 44, 3) := by decide +kernel
theorem dX9_startAnew_53 : decode cX9_startAnew 53 = .ok (.getfield 212, 3) := by decide +kernel
theorem dX9_startAnew_56 : decode cX9_startAnew 56 = .ok (.invokevirtual 262, 3) := by decide +kernel
theorem dX9_startAnew_59 : decode cX9_startAnew 59 = .ok (.aload_n 0, 1) := by decide +kernel
theorem dX9_startAnew_60 : decode cX9_startAnew 60 = .ok (.getfield 44, 3) := by decide +kernel
theorem dX9_startAnew_63 : decode cX9_startAnew 63 = .ok (.aload_n 0, 1) := by decide +kernel
theorem dX9_startAnew_64 : decode cX9_startAnew 64 = .ok (.getfield 74, 3) := by decide +kernel
theorem dX9_startAnew_67 : decode cX9_startAnew 67 = .ok (.invokevirtual 265, 3) := by decide +kernel
theorem dX9_startAnew_70 : decode cX9_startAnew 70 = .ok (.invokevirtual 220, 3) := by decide +kernel
theorem dX9_startAnew_73 : decode cX9_startAnew 73 = .ok (.return_, 1) := by decide +kernel
theorem dX9_changeCell_0 : decode cX9_changeCell 0 = .ok (.aload_n 0, 1) := by decide +kernel
theorem dX9_changeCell_1 : decode cX9_changeCell 1 = .ok (.getfield 37, 3) := by decide +kernel
theorem dX9_changeCell_4 : decode cX9_changeCell 4 = .ok (.getfield 132, 3) := by decide +kernel
theorem dX9_changeCell_7 : decode cX9_changeCell 7 = .ok (.iload_n 1, 1) := by decide +kernel
theorem dX9_changeCell_8 : decode cX9_changeCell 8 = .ok (.iaload, 1) := by decide +kernel
theorem dX9_changeCell_9 : decode cX9_changeCell 9 = .ok (.istore_n 3, 1) := by decide +kernel
theorem dX9_changeCell_10 : decode cX9_changeCell 10 = .ok (.aload_n 0, 1) := by decide +kernel
theorem dX9_changeCell_11 : decode cX9_changeCell 11 = .ok (.getfield 51, 3) := by decide +kernel
theorem dX9_changeCell_14 : decode cX9_changeCell 14 = .ok (.iload_n 1, 1) := by decide +kernel
theorem dX9_changeCell_15 : decode cX9_changeCell 15 = .ok (.iload_n 3, 1) := by decide +kernel
theorem dX9_changeCell_16 : decode cX9_changeCell 16 = .ok (.invokevirtual 269, 3) := by decide +kernel
theorem dX9_changeCell_19 : decode cX9_changeCell 19 = .ok (.aload_n 0, 1) := by decide +kernel
theorem dX9_changeCell_20 : decode cX9_changeCell 20 = .ok (.getfield 37, 3) := by decide +kernel
theorem dX9_changeCell_23 : decode cX9_changeCell 23 = .ok (.getfield 132, 3) := by decide +kernel
theorem dX9_changeCell_26 : decode cX9_changeCell 26 = .ok (.iload_n 1, 1) := by decide +kernel
theorem dX9_changeCell_27 : decode cX9_changeCell 27 = .ok (.iload_n 2, 1) := by decide +kernel
theorem dX9_changeCell_28 : decode cX9_changeCell 28 = .ok (.iastore, 1) := by decide +kernel
theorem dX9_changeCell_29 : decode cX9_changeCell 29 = .ok (.iload_n 3, 1) := by decide +kernel
theorem dX9_changeCell_30 : decode cX9_changeCell 30 = .ok (.ireturn, 1) := by decide +kernel
theorem dX9_tellingByItself_0 : decode cX9_tellingByItself 0 = .ok (.aload_n 0, 1) := by decide +kernel
theorem dX9_tellingByItself_1 : decode cX9_tellingByItself 1 = .ok (.getfield 78, 3) := by decide +kernel
theorem dX9_tellingByItself_4 : decode cX9_tellingByItself 4 = .ok (.iload_n 1, 1) := by decide +kernel
theorem dX9_tellingByItself_5 : decode cX9_tellingByItself 5 = .ok (.iload_n 2, 1) := by decide +kernel
theorem dX9_tellingByItself_6 : decode cX9_tellingByItself 6 = .ok (.invokevirtual 272, 3) := by decide +kernel
theorem dX9_tellingByItself_9 : decode cX9_tellingByItself 9 = .ok (.astore_n 3, 1) := by decide +kernel
theorem dX9_tellingByItself_10 : decode cX9_tellingByItself 10 = .ok (.aload_n 3, 1) := by decide +kernel
theorem dX9_tellingByItself_11 : decode cX9_tellingByItself 11 = .ok (.getfield 167, 3) := by decide +kernel
theorem dX9_tellingByItself_14 : decode cX9_tellingByItself 14 = .ok (.istore 4, 2) := by decide +kernel
theorem dX9_tellingByItself_16 : decode cX9_tellingByItself 16 = .ok (.aload_n 0, 1) := by decide +kernel
theorem dX9_tellingByItself_17 : decode cX9_tellingByItself 17 = .ok (.getfield 78, 3) := by decide +kernel
theorem dX9_tellingByItself_20 : decode cX9_tellingByItself 20 = .ok (.aload_n 3, 1) := by decide +kernel
theorem dX9_tellingByItself_21 : decode cX9_tellingByItself 21 = .ok (.invokevirtual 262, 3) := by decide +kernel
theorem dX9_tellingByItself_24 : decode cX9_tellingByItself 24 = .ok (.iload 4, 2) := by decide +kernel
theorem dX9_tellingByItself_26 : decode cX9_tellingByItself 26 = .ok (.ireturn, 1) := by decide +kernel
theorem dX9_isAlike_0 : decode cX9_isAlike 0 = .ok (.aload_n 0, 1) := by decide +kernel
theorem dX9_isAlike_1 : decode cX9_isAlike 1 = .ok (.getfield 78, 3) := by decide +kernel
theorem dX9_isAlike_4 : decode cX9_isAlike 4 = .ok (.aload_n 0, 1) := by decide +kernel
theorem dX9_isAlike_5 : decode cX9_isAlike 5 = .ok (.getfield 37, 3) := by decide +kernel
theorem dX9_isAlike_8 : decode cX9_isAlike 8 = .ok (.getfield 103, 3) := by decide +kernel
theorem dX9_isAlike_11 : decode cX9_isAlike 11 = .ok (.aload_n 0, 1) := by decide +kernel
theorem dX9_isAlike_12 : decode cX9_isAlike 12 = .ok (.getfield 37, 3) := by decide +kernel
theorem dX9_isAlike_15 : decode cX9_isAlike 15 = .ok (.getfield 106, 3) := by decide +kernel
theorem dX9_isAlike_18 : decode cX9_isAlike 18 = .ok (.invokevirtual 272, 3) := by decide +kernel
theorem dX9_isAlike_21 : decode cX9_isAlike 21 = .ok (.astore_n 1, 1) := by decide +kernel
theorem dX9_isAlike_22 : decode cX9_isAlike 22 = .ok (.aload_n 0, 1) := by decide +kernel
theorem dX9_isAlike_23 : decode cX9_isAlike 23 = .ok (.getfield 44, 3) := by decide +kernel
theorem dX9_isAlike_26 : decode cX9_isAlike 26 = .ok (.getfield 212, 3) := by decide +kernel
theorem dX9_isAlike_29 : decode cX9_isAlike 29 = .ok (.ifnull 21, 3) := by decide +kernel
theorem dX9_isAlike_32 : decode cX9_isAlike 32 = .ok (.aload_n 0, 1) := by decide +kernel
theorem dX9_isAlike_33 : decode cX9_isAlike 33 = .ok (.getfield 44, 3) := by decide +kernel
theorem dX9_isAlike_36 : decode cX9_isAlike 36 = .ok (.getfield 212, 3) := by decide +kernel
theorem dX9_isAlike_39 : decode cX9_isAlike 39 = .ok (.aload_n 1, 1) := by decide +kernel
theorem dX9_isAlike_40 : decode cX9_isAlike 40 = .ok (.invokevirtual 276, 3) := by decide +kernel
theorem dX9_isAlike_43 : decode cX9_isAlike 43 = .ok (.ifCond .eq 7, 3) := by decide +kernel
theorem dX9_isAlike_46 : decode cX9_isAlike 46 = .ok (.iconst 1, 1) := by decide +kernel
theorem dX9_isAlike_47 : decode cX9_isAlike 47 = .ok (.goto 4, 3) := by decide +kernel
theorem dX9_isAlike_50 : decode cX9_isAlike 50 = .ok (.iconst 0, 1) := by decide +kernel
theorem dX9_isAlike_51 : decode cX9_isAlike 51 = .ok (.istore_n 2, 1) := by decide +kernel
theorem dX9_isAlike_52 : decode cX9_isAlike 52 = .ok (.aload_n 0, 1) := by decide +kernel
theorem dX9_isAlike_53 : decode cX9_isAlike 53 = .ok (.getfield 78, 3) := by decide +kernel
theorem dX9_isAlike_56 : decode cX9_isAlike 56 = .ok (.aload_n 1, 1) := by decide +kernel
theorem dX9_isAlike_57 : decode cX9_isAlike 57 = .ok (.invokevirtual 262, 3) := by decide +kernel
theorem dX9_isAlike_60 : decode cX9_isAlike 60 = .ok (.iload_n 2, 1) := by decide +kernel
theorem dX9_isAlike_61 : decode cX9_isAlike 61 = .ok (.ireturn, 1) := by decide +kernel
theorem dX9_firstWrong_0 : decode cX9_firstWrong 0 = .ok (.iconst 0, 1) := by decide +kernel
theorem dX9_firstWrong_1 : decode cX9_firstWrong 1 = .ok (.istore_n 1, 1) := by decide +kernel
theorem dX9_firstWrong_2 : decode cX9_firstWrong 2 = .ok (.iload_n 1, 1) := by decide +kernel
theorem dX9_firstWrong_3 : decode cX9_firstWrong 3 = .ok (.aload_n 0, 1) := by decide +kernel
theorem dX9_firstWrong_4 : decode cX9_firstWrong 4 = .ok (.getfield 58, 3) := by decide +kernel
theorem dX9_firstWrong_7 : decode cX9_firstWrong 7 = .ok (.getfield 142, 3) := by decide +kernel
theorem dX9_firstWrong_10 : decode cX9_firstWrong 10 = .ok (.if_icmp .ge 61, 3) := by decide +kernel
theorem dX9_firstWrong_13 : decode cX9_firstWrong 13 = .ok (.aload_n 0, 1) := by decide +kernel
theorem dX9_firstWrong_14 : decode cX9_firstWrong 14 = .ok (.getfield 58, 3) := by decide +kernel
theorem dX9_firstWrong_17 : decode cX9_firstWrong 17 = .ok (.iload_n 1, 1) := by decide +kernel
theorem dX9_firstWrong_18 : decode cX9_firstWrong 18 = .ok (.invokevirtual 279, 3) := by decide +kernel
theorem dX9_firstWrong_21 : decode cX9_firstWrong 21 = .ok (.istore_n 2, 1) := by decide +kernel
theorem dX9_firstWrong_22 : decode cX9_firstWrong 22 = .ok (.aload_n 0, 1) := by decide +kernel
theorem dX9_firstWrong_23 : decode cX9_firstWrong 23 = .ok (.getfield 27, 3) := by decide +kernel
theorem dX9_firstWrong_26 : decode cX9_firstWrong 26 = .ok (.iload_n 2, 1) := by decide +kernel
theorem dX9_firstWrong_27 : decode cX9_firstWrong 27 = .ok (.invokevirtual 205, 3) := by decide +kernel
theorem dX9_firstWrong_30 : decode cX9_firstWrong 30 = .ok (.ifCond .eq 19, 3) := by decide +kernel
theorem dX9_firstWrong_33 : decode cX9_firstWrong 33 = .ok (.aload_n 0, 1) := by decide +kernel
theorem dX9_firstWrong_34 : decode cX9_firstWrong 34 = .ok (.iload_n 2, 1) := by decide +kernel
theorem dX9_firstWrong_35 : decode cX9_firstWrong 35 = .ok (.aload_n 0, 1) := by decide +kernel
theorem dX9_firstWrong_36 : decode cX9_firstWrong 36 = .ok (.getfield 58, 3) := by decide +kernel
theorem dX9_firstWrong_39 : decode cX9_firstWrong 39 = .ok (.iload_n 1, 1) := by decide +kernel
theorem dX9_firstWrong_40 : decode cX9_firstWrong 40 = .ok (.invokevirtual 282, 3) := by decide +kernel
theorem dX9_firstWrong_43 : decode cX9_firstWrong 43 = .ok (.invokevirtual 109, 3) := by decide +kernel
theorem dX9_firstWrong_46 : decode cX9_firstWrong 46 = .ok (.goto 4, 3) := by decide +kernel
theorem dX9_firstWrong_49 : decode cX9_firstWrong 49 = .ok (.iconst 0, 1) := by decide +kernel
theorem dX9_firstWrong_50 : decode cX9_firstWrong 50 = .ok (.istore_n 3, 1) := by decide +kernel
theorem dX9_firstWrong_51 : decode cX9_firstWrong 51 = .ok (.iload_n 3, 1) := by decide +kernel
theorem dX9_firstWrong_52 : decode cX9_firstWrong 52 = .ok (.aload_n 0, 1) := by decide +kernel
theorem dX9_firstWrong_53 : decode cX9_firstWrong 53 = .ok (.getfield 58, 3) := by decide +kernel
theorem dX9_firstWrong_56 : decode cX9_firstWrong 56 = .ok (.iload_n 1, 1) := by decide +kernel
theorem dX9_firstWrong_57 : decode cX9_firstWrong 57 = .ok (.invokevirtual 285, 3) := by decide +kernel
theorem dX9_firstWrong_60 : decode cX9_firstWrong 60 = .ok (.if_icmp .eq 5, 3) := by decide +kernel
theorem dX9_firstWrong_63 : decode cX9_firstWrong 63 = .ok (.iload_n 1, 1) := by decide +kernel
theorem dX9_firstWrong_64 : decode cX9_firstWrong 64 = .ok (.ireturn, 1) := by decide +kernel
theorem dX9_firstWrong_65 : decode cX9_firstWrong 65 = .ok (.iinc 1 1, 3) := by decide +kernel
theorem dX9_firstWrong_68 : decode cX9_firstWrong 68 = .ok (.goto (-66), 3) := by decide +kernel
theorem dX9_firstWrong_71 : decode cX9_firstWrong 71 = .ok (.iconst (-1), 1) := by decide +kernel
theorem dX9_firstWrong_72 : decode cX9_firstWrong 72 = .ok (.ireturn, 1) := by decide +kernel
theorem dX10_init_0 : decode cX10_init 0 = .ok (.aload_n 0, 1) := by decide +kernel
theorem dX10_init_1 : decode cX10_init 1 = .ok (.invokespecial 1, 3) := by decide +kernel
theorem dX10_init_4 : decode cX10_init 4 = .ok (.aload_n 0, 1) := by decide +kernel
theorem dX10_init_5 : decode cX10_init 5 = .ok (.sipush 190, 3) := by decide +kernel
theorem dX10_init_8 : decode cX10_init 8 = .ok (.newarray .int, 2) := by decide +kernel
theorem dX10_init_10 : decode cX10_init 10 = .ok (.putfield 7, 3) := by decide +kernel
theorem dX10_init_13 : decode cX10_init 13 = .ok (.aload_n 0, 1) := by decide +kernel
theorem dX10_init_14 : decode cX10_init 14 = .ok (.iconst 2, 1) := by decide +kernel
theorem dX10_init_15 : decode cX10_init 15 = .ok (.newarray .int, 2) := by decide +kernel
theorem dX10_init_17 : decode cX10_init 17 = .ok (.putfield 13, 3) := by decide +kernel
theorem dX10_init_20 : decode cX10_init 20 = .ok (.aload_n 0, 1) := by decide +kernel
theorem dX10_init_21 : decode cX10_init 21 = .ok (.sipush 160, 3) := by decide +kernel
theorem dX10_init_24 : decode cX10_init 24 = .ok (.newarray .int, 2) := by decide +kernel
theorem dX10_init_26 : decode cX10_init 26 = .ok (.putfield 16, 3) := by decide +kernel
theorem dX10_init_29 : decode cX10_init 29 = .ok (.aload_n 0, 1) := by decide +kernel
theorem dX10_init_30 : decode cX10_init 30 = .ok (.iconst (-1), 1) := by decide +kernel
theorem dX10_init_31 : decode cX10_init 31 = .ok (.putfield 19, 3) := by decide +kernel
theorem dX10_init_34 : decode cX10_init 34 = .ok (.aload_n 0, 1) := by decide +kernel
theorem dX10_init_35 : decode cX10_init 35 = .ok (.bipush 20, 2) := by decide +kernel
theorem dX10_init_37 : decode cX10_init 37 = .ok (.newarray .int, 2) := by decide +kernel
theorem dX10_init_39 : decode cX10_init 39 = .ok (.putfield 23, 3) := by decide +kernel
theorem dX10_init_42 : decode cX10_init 42 = .ok (.aload_n 0, 1) := by decide +kernel
theorem dX10_init_43 : decode cX10_init 43 = .ok (.bipush 20, 2) := by decide +kernel
theorem dX10_init_45 : decode cX10_init 45 = .ok (.newarray .int, 2) := by decide +kernel
theorem dX10_init_47 : decode cX10_init 47 = .ok (.putfield 26, 3) := by decide +kernel
theorem dX10_init_50 : decode cX10_init 50 = .ok (.aload_n 0, 1) := by decide +kernel
theorem dX10_init_51 : decode cX10_init 51 = .ok (.bipush 20, 2) := by decide +kernel
theorem dX10_init_53 : decode cX10_init 53 = .ok (.newarray .int, 2) := by decide +kernel
theorem dX10_init_55 : decode cX10_init 55 = .ok (.putfield 29, 3) := by decide +kernel
theorem dX10_init_58 : decode cX10_init 58 = .ok (.aload_n 0, 1) := by decide +kernel
theorem dX10_init_59 : decode cX10_init 59 = .ok (.sipush 160, 3) := by decide +kernel
theorem dX10_init_62 : decode cX10_init 62 = .ok (.newarray .int, 2) := by decide +kernel
theorem dX10_init_64 : decode cX10_init 64 = .ok (.putfield 32, 3) := by decide +kernel
theorem dX10_init_67 : decode cX10_init 67 = .ok (.aload_n 0, 1) := by decide +kernel
theorem dX10_init_68 : decode cX10_init 68 = .ok (.iconst 5, 1) := by decide +kernel
theorem dX10_init_69 : decode cX10_init 69 = .ok (.newarray .int, 2) := by decide +kernel
theorem dX10_init_71 : decode cX10_init 71 = .ok (.putfield 35, 3) := by decide +kernel
theorem dX10_init_74 : decode cX10_init 74 = .ok (.aload_n 0, 1) := by decide +kernel
theorem dX10_init_75 : decode cX10_init 75 = .ok (.sipush 364, 3) := by decide +kernel
theorem dX10_init_78 : decode cX10_init 78 = .ok (.newarray .int, 2) := by decide +kernel
theorem dX10_init_80 : decode cX10_init 80 = .ok (.putfield 38, 3) := by decide +kernel
theorem dX10_init_83 : decode cX10_init 83 = .ok (.aload_n 0, 1) := by decide +kernel
theorem dX10_init_84 : decode cX10_init 84 = .ok (.sipush 364, 3) := by decide +kernel
theorem dX10_init_87 : decode cX10_init 87 = .ok (.newarray .int, 2) := by decide +kernel
theorem dX10_init_89 : decode cX10_init 89 = .ok (.putfield 41, 3) := by decide +kernel
theorem dX10_init_92 : decode cX10_init 92 = .ok (.aload_n 0, 1) := by decide +kernel
theorem dX10_init_93 : decode cX10_init 93 = .ok (.sipush 364, 3) := by decide +kernel
theorem dX10_init_96 : decode cX10_init 96 = .ok (.newarray .int, 2) := by decide +kernel
theorem dX10_init_98 : decode cX10_init 98 = .ok (.putfield 44, 3) := by decide +kernel
theorem dX10_init_101 : decode cX10_init 101 = .ok (.aload_n 0, 1) := by decide +kernel
theorem dX10_init_102 : decode cX10_init 102 = .ok (.sipush 364, 3) := by decide +kernel
theorem dX10_init_105 : decode cX10_init 105 = .ok (.newarray .int, 2) := by decide +kernel
theorem dX10_init_107 : decode cX10_init 107 = .ok (.putfield 47, 3) := by decide +kernel
theorem dX10_init_110 : decode cX10_init 110 = .ok (.aload_n 0, 1) := by decide +kernel
theorem dX10_init_111 : decode cX10_init 111 = .ok (.sipush 364, 3) := by decide +kernel
theorem dX10_init_114 : decode cX10_init 114 = .ok (.newarray .int, 2) := by decide +kernel
theorem dX10_init_116 : decode cX10_init 116 = .ok (.putfield 50, 3) := by decide +kernel
theorem dX10_init_119 : decode cX10_init 119 = .ok (.aload_n 0, 1) := by decide +kernel
theorem dX10_init_120 : decode cX10_init 120 = .ok (.sipush 364, 3) := by decide +kernel
theorem dX10_init_123 : decode cX10_init 123 = .ok (.newarray .int, 2) := by decide +kernel
theorem dX10_init_125 : decode cX10_init 125 = .ok (.putfield 53, 3) := by decide +kernel
theorem dX10_init_128 : decode cX10_init 128 = .ok (.aload_n 0, 1) := by decide +kernel
theorem dX10_init_129 : decode cX10_init 129 = .ok (.sipush 364, 3) := by decide +kernel
theorem dX10_init_132 : decode cX10_init 132 = .ok (.newarray .int, 2) := by decide +kernel
theorem dX10_init_134 : decode cX10_init 134 = .ok (.putfield 56, 3) := by decide +kernel
theorem dX10_init_137 : decode cX10_init 137 = .ok (.aload_n 0, 1) := by decide +kernel
theorem dX10_init_138 : decode cX10_init 138 = .ok (.bipush 8, 2) := by decide +kernel
theorem dX10_init_140 : decode cX10_init 140 = .ok (.newarray .int, 2) := by decide +kernel
theorem dX10_init_142 : decode cX10_init 142 = .ok (.putfield 59, 3) := by decide +kernel
theorem dX10_init_145 : decode cX10_init 145 = .ok (.aload_n 0, 1) := by decide +kernel
theorem dX10_init_146 : decode cX10_init 146 = .ok (.sipush 364, 3) := by decide +kernel
theorem dX10_init_149 : decode cX10_init 149 = .ok (.newarray .int, 2) := by decide +kernel
theorem dX10_init_151 : decode cX10_init 151 = .ok (.putfield 62, 3) := by decide +kernel
theorem dX10_init_154 : decode cX10_init 154 = .ok (.aload_n 0, 1) := by decide +kernel
theorem dX10_init_155 : decode cX10_init 155 = .ok (.sipush 364, 3) := by decide +kernel
theorem dX10_init_158 : decode cX10_init 158 = .ok (.newarray .int, 2) := by decide +kernel
theorem dX10_init_160 : decode cX10_init 160 = .ok (.putfield 65, 3) := by decide +kernel
theorem dX10_init_163 : decode cX10_init 163 = .ok (.aload_n 0, 1) := by decide +kernel
theorem dX10_init_164 : decode cX10_init 164 = .ok (.sipush 364, 3) := by decide +kernel
theorem dX10_init_167 : decode cX10_init 167 = .ok (.newarray .int, 2) := by decide +kernel
theorem dX10_init_169 : decode cX10_init 169 = .ok (.putfield 68, 3) := by decide +kernel
theorem dX10_init_172 : decode cX10_init 172 = .ok (.aload_n 0, 1) := by decide +kernel
theorem dX10_init_173 : decode cX10_init 173 = .ok (.sipush 364, 3) := by decide +kernel
theorem dX10_init_176 : decode cX10_init 176 = .ok (.newarray .int, 2) := by decide +kernel
theorem dX10_init_178 : decode cX10_init 178 = .ok (.putfield 71, 3) := by decide +kernel
theorem dX10_init_181 : decode cX10_init 181 = .ok (.aload_n 0, 1) := by decide +kernel
theorem dX10_init_182 : decode cX10_init 182 = .ok (.sipush 364, 3) := by decide +kernel
theorem dX10_init_185 : decode cX10_init 185 = .ok (.newarray .int, 2) := by decide +kernel
theorem dX10_init_187 : decode cX10_init 187 = .ok (.putfield 74, 3) := by decide +kernel
theorem dX10_init_190 : decode cX10_init 190 = .ok (.aload_n 0, 1) := by decide +kernel
theorem dX10_init_191 : decode cX10_init 191 = .ok (.sipush 364, 3) := by decide +kernel
theorem dX10_init_194 : decode cX10_init 194 = .ok (.newarray .int, 2) := by decide +kernel
theorem dX10_init_196 : decode cX10_init 196 = .ok (.putfield 77, 3) := by decide +kernel
theorem dX10_init_199 : decode cX10_init 199 = .ok (.aload_n 0, 1) := by decide +kernel
theorem dX10_init_200 : decode cX10_init 200 = .ok (.sipush 364, 3) := by decide +kernel
theorem dX10_init_203 : decode cX10_init 203 = .ok (.newarray .int, 2) := by decide +kernel
theorem dX10_init_205 : decode cX10_init 205 = .ok (.putfield 80, 3) := by decide +kernel
theorem dX10_init_208 : decode cX10_init 208 = .ok (.aload_n 0, 1) := by decide +kernel
theorem dX10_init_209 : decode cX10_init 209 = .ok (.sipush 364, 3) := by decide +kernel
theorem dX10_init_212 : decode cX10_init 212 = .ok (.newarray .int, 2) := by decide +kernel
theorem dX10_init_214 : decode cX10_init 214 = .ok (.putfield 83, 3) := by decide +kernel
theorem dX10_init_217 : decode cX10_init 217 = .ok (.aload_n 0, 1) := by decide +kernel
theorem dX10_init_218 : decode cX10_init 218 = .ok (.sipush 1200, 3) := by decide +kernel
theorem dX10_init_221 : decode cX10_init 221 = .ok (.newarray .int, 2) := by decide +kernel
theorem dX10_init_223 : decode cX10_init 223 = .ok (.putfield 86, 3) := by decide +kernel
theorem dX10_init_226 : decode cX10_init 226 = .ok (.aload_n 0, 1) := by decide +kernel
theorem dX10_init_227 : decode cX10_init 227 = .ok (.sipush 1200, 3) := by decide +kernel
theorem dX10_init_230 : decode cX10_init 230 = .ok (.newarray .int, 2) := by decide +kernel
theorem dX10_init_232 : decode cX10_init 232 = .ok (.putfield 89, 3) := by decide +kernel
theorem dX10_init_235 : decode cX10_init 235 = .ok (.aload_n 0, 1) := by decide +kernel
theorem dX10_init_236 : decode cX10_init 236 = .ok (.sipush 1200, 3) := by decide +kernel
theorem dX10_init_239 : decode cX10_init 239 = .ok (.newarray .int, 2) := by decide +kernel
theorem dX10_init_241 : decode cX10_init 241 = .ok (.putfield 92, 3) := by decide +kernel
theorem dX10_init_244 : decode cX10_init 244 = .ok (.aload_n 0, 1) := by decide +kernel
theorem dX10_init_245 : decode cX10_init 245 = .ok (.getfield 32, 3) := by decide +kernel
theorem dX10_init_248 : decode cX10_init 248 = .ok (.iconst 0, 1) := by decide +kernel
theorem dX10_init_249 : decode cX10_init 249 = .ok (.bipush 48, 2) := by decide +kernel
theorem dX10_init_251 : decode cX10_init 251 = .ok (.iastore, 1) := by decide +kernel
theorem dX10_init_252 : decode cX10_init 252 = .ok (.aload_n 0, 1) := by decide +kernel
theorem dX10_init_253 : decode cX10_init 253 = .ok (.iconst 1, 1) := by decide +kernel
theorem dX10_init_254 : decode cX10_init 254 = .ok (.putfield 95, 3) := by decide +kernel
theorem dX10_init_257 : decode cX10_init 257 = .ok (.aload_n 0, 1) := by decide +kernel
theorem dX10_init_258 : decode cX10_init 258 = .ok (.invokevirtual 98, 3) := by decide +kernel
theorem dX10_init_261 : decode cX10_init 261 = .ok (.return_, 1) := by decide +kernel
theorem dX10_in_0 : decode cX10_in 0 = .ok (.lload_n 0, 1) := by decide +kernel
theorem dX10_in_1 : decode cX10_in 1 = .ok (.lload_n 2, 1) := by decide +kernel
theorem dX10_in_2 : decode cX10_in 2 = .ok (.lcmp, 1) := by decide +kernel
theorem dX10_in_3 : decode cX10_in 3 = .ok (.ifCond .lt 14, 3) := by decide +kernel
theorem dX10_in_6 : decode cX10_in 6 = .ok (.lload_n 0, 1) := by decide +kernel
theorem dX10_in_7 : decode cX10_in 7 = .ok (.lload 4, 2) := by decide +kernel
theorem dX10_in_9 : decode cX10_in 9 = .ok (.lcmp, 1) := by decide +kernel
theorem dX10_in_10 : decode cX10_in 10 = .ok (.ifCond .gt 7, 3) := by decide +kernel
theorem dX10_in_13 : decode cX10_in 13 = .ok (.iconst 1, 1) := by decide +kernel
theorem dX10_in_14 : decode cX10_in 14 = .ok (.goto 4, 3) := by decide +kernel
theorem dX10_in_17 : decode cX10_in 17 = .ok (.iconst 0, 1) := by decide +kernel
theorem dX10_in_18 : decode cX10_in 18 = .ok (.ireturn, 1) := by decide +kernel
theorem dX10_has_0 : decode cX10_has 0 = .ok (.iload_n 0, 1) := by decide +kernel
theorem dX10_has_1 : decode cX10_has 1 = .ok (.iload_n 1, 1) := by decide +kernel
theorem dX10_has_2 : decode cX10_has 2 = .ok (.ishr, 1) := by decide +kernel
theorem dX10_has_3 : decode cX10_has 3 = .ok (.iconst 1, 1) := by decide +kernel
theorem dX10_has_4 : decode cX10_has 4 = .ok (.iand, 1) := by decide +kernel
theorem dX10_has_5 : decode cX10_has 5 = .ok (.iconst 1, 1) := by decide +kernel
theorem dX10_has_6 : decode cX10_has 6 = .ok (.if_icmp .ne 7, 3) := by decide +kernel
theorem dX10_has_9 : decode cX10_has 9 = .ok (.iconst 1, 1) := by decide +kernel
theorem dX10_has_10 : decode cX10_has 10 = .ok (.goto 4, 3) := by decide +kernel
theorem dX10_has_13 : decode cX10_has 13 = .ok (.iconst 0, 1) := by decide +kernel
theorem dX10_has_14 : decode cX10_has 14 = .ok (.ireturn, 1) := by decide +kernel
theorem dX10_copyRow_0 : decode cX10_copyRow 0 = .ok (.iconst 0, 1) := by decide +kernel
theorem dX10_copyRow_1 : decode cX10_copyRow 1 = .ok (.istore_n 3, 1) := by decide +kernel
theorem dX10_copyRow_2 : decode cX10_copyRow 2 = .ok (.iload_n 3, 1) := by decide +kernel
theorem dX10_copyRow_3 : decode cX10_copyRow 3 = .ok (.bipush 10, 2) := by decide +kernel
theorem dX10_copyRow_5 : decode cX10_copyRow 5 = .ok (.if_icmp .ge 25, 3) := by decide +kernel
theorem dX10_copyRow_8 : decode cX10_copyRow 8 = .ok (.aload_n 0, 1) := by decide +kernel
theorem dX10_copyRow_9 : decode cX10_copyRow 9 = .ok (.getfield 7, 3) := by decide +kernel
theorem dX10_copyRow_12 : decode cX10_copyRow 12 = .ok (.iload_n 2, 1) := by decide +kernel
theorem dX10_copyRow_13 : decode cX10_copyRow 13 = .ok (.iload_n 3, 1) := by decide +kernel
theorem dX10_copyRow_14 : decode cX10_copyRow 14 = .ok (.iadd, 1) := by decide +kernel
theorem dX10_copyRow_15 : decode cX10_copyRow 15 = .ok (.aload_n 0, 1) := by decide +kernel
theorem dX10_copyRow_16 : decode cX10_copyRow 16 = .ok (.getfield 7, 3) := by decide +kernel
theorem dX10_copyRow_19 : decode cX10_copyRow 19 = .ok (.iload_n 1, 1) := by decide +kernel
theorem dX10_copyRow_20 : decode cX10_copyRow 20 = .ok (.iload_n 3, 1) := by decide +kernel
theorem dX10_copyRow_21 : decode cX10_copyRow 21 = .ok (.iadd, 1) := by decide +kernel
theorem dX10_copyRow_22 : decode cX10_copyRow 22 = .ok (.iaload, 1) := by decide +kernel
theorem dX10_copyRow_23 : decode cX10_copyRow 23 = .ok (.iastore, 1) := by decide +kernel
theorem dX10_copyRow_24 : decode cX10_copyRow 24 = .ok (.iinc 3 1, 3) := by decide +kernel
theorem dX10_copyRow_27 : decode cX10_copyRow 27 = .ok (.goto (-25), 3) := by decide +kernel
theorem dX10_copyRow_30 : decode cX10_copyRow 30 = .ok (.return_, 1) := by decide +kernel
theorem dX10_remember_0 : decode cX10_remember 0 = .ok (.bipush 16, 2) := by decide +kernel
theorem dX10_remember_2 : decode cX10_remember 2 = .ok (.istore_n 1, 1) := by decide +kernel
theorem dX10_remember_3 : decode cX10_remember 3 = .ok (.iload_n 1, 1) := by decide +kernel
theorem dX10_remember_4 : decode cX10_remember 4 = .ok (.ifCond .le 23, 3) := by decide +kernel
theorem dX10_remember_7 : decode cX10_remember 7 = .ok (.aload_n 0, 1) := by decide +kernel
theorem dX10_remember_8 : decode cX10_remember 8 = .ok (.bipush 10, 2) := by decide +kernel
theorem dX10_remember_10 : decode cX10_remember 10 = .ok (.iload_n 1, 1) := by decide +kernel
theorem dX10_remember_11 : decode cX10_remember 11 = .ok (.iconst 1, 1) := by decide +kernel
theorem dX10_remember_12 : decode cX10_remember 12 = .ok (.isub, 1) := by decide +kernel
theorem dX10_remember_13 : decode cX10_remember 13 = .ok (.imul, 1) := by decide +kernel
theorem dX10_remember_14 : decode cX10_remember 14 = .ok (.bipush 10, 2) := by decide +kernel
theorem dX10_remember_16 : decode cX10_remember 16 = .ok (.iload_n 1, 1) := by decide +kernel
theorem dX10_remember_17 : decode cX10_remember 17 = .ok (.imul, 1) := by decide +kernel
theorem dX10_remember_18 : decode cX10_remember 18 = .ok (.invokevirtual 101, 3) := by decide +kernel
theorem dX10_remember_21 : decode cX10_remember 21 = .ok (.iinc 1 (-1), 3) := by decide +kernel
theorem dX10_remember_24 : decode cX10_remember 24 = .ok (.goto (-21), 3) := by decide +kernel
theorem dX10_remember_27 : decode cX10_remember 27 = .ok (.aload_n 0, 1) := by decide +kernel
theorem dX10_remember_28 : decode cX10_remember 28 = .ok (.aload_n 0, 1) := by decide +kernel
theorem dX10_remember_29 : decode cX10_remember 29 = .ok (.getfield 105, 3) := by decide +kernel
theorem dX10_remember_32 : decode cX10_remember 32 = .ok (.bipush 16, 2) := by decide +kernel
theorem dX10_remember_34 : decode cX10_remember 34 = .ok (.if_icmp .ge 12, 3) := by decide +kernel
theorem dX10_remember_37 : decode cX10_remember 37 = .ok (.aload_n 0, 1) := by decide +kernel
theorem dX10_remember_38 : decode cX10_remember 38 = .ok (.getfield 105, 3) := by decide +kernel
theorem dX10_remember_41 : decode cX10_remember 41 = .ok (.iconst 1, 1) := by decide +kernel
theorem dX10_remember_42 : decode cX10_remember 42 = .ok (.iadd, 1) := by decide +kernel
theorem dX10_remember_43 : decode cX10_remember 43 = .ok (.goto 5, 3) := by decide +kernel
theorem dX10_remember_46 : decode cX10_remember 46 = .ok (.bipush 16, 2) := by decide +kernel
theorem dX10_remember_48 : decode cX10_remember 48 = .ok (.putfield 105, 3) := by decide +kernel
theorem dX10_remember_51 : decode cX10_remember 51 = .ok (.return_, 1) := by decide +kernel
theorem dX10_push_0 : decode cX10_push 0 = .ok (.aload_n 0, 1) := by decide +kernel
theorem dX10_push_1 : decode cX10_push 1 = .ok (.getfield 86, 3) := by decide +kernel
theorem dX10_push_4 : decode cX10_push 4 = .ok (.aload_n 0, 1) := by decide +kernel
theorem dX10_push_5 : decode cX10_push 5 = .ok (.getfield 108, 3) := by decide +kernel
theorem dX10_push_8 : decode cX10_push 8 = .ok (.iload_n 1, 1) := by decide +kernel
theorem dX10_push_9 : decode cX10_push 9 = .ok (.iastore, 1) := by decide +kernel
theorem dX10_push_10 : decode cX10_push 10 = .ok (.aload_n 0, 1) := by decide +kernel
theorem dX10_push_11 : decode cX10_push 11 = .ok (.getfield 89, 3) := by decide +kernel
theorem dX10_push_14 : decode cX10_push 14 = .ok (.aload_n 0, 1) := by decide +kernel
theorem dX10_push_15 : decode cX10_push 15 = .ok (.getfield 108, 3) := by decide +kernel
theorem dX10_push_18 : decode cX10_push 18 = .ok (.iconst 0, 1) := by decide +kernel
theorem dX10_push_19 : decode cX10_push 19 = .ok (.iastore, 1) := by decide +kernel
theorem dX10_push_20 : decode cX10_push 20 = .ok (.aload_n 0, 1) := by decide +kernel
theorem dX10_push_21 : decode cX10_push 21 = .ok (.getfield 92, 3) := by decide +kernel
theorem dX10_push_24 : decode cX10_push 24 = .ok (.aload_n 0, 1) := by decide +kernel
theorem dX10_push_25 : decode cX10_push 25 = .ok (.getfield 108, 3) := by decide +kernel
theorem dX10_push_28 : decode cX10_push 28 = .ok (.iload_n 2, 1) := by decide +kernel
theorem dX10_push_29 : decode cX10_push 29 = .ok (.iastore, 1) := by decide +kernel
theorem dX10_push_30 : decode cX10_push 30 = .ok (.aload_n 0, 1) := by decide +kernel
theorem dX10_push_31 : decode cX10_push 31 = .ok (.dup, 1) := by decide +kernel
theorem dX10_push_32 : decode cX10_push 32 = .ok (.getfield 108, 3) := by decide +kernel
theorem dX10_push_35 : decode cX10_push 35 = .ok (.iconst 1, 1) := by decide +kernel
theorem dX10_push_36 : decode cX10_push 36 = .ok (.iadd, 1) := by decide +kernel
theorem dX10_push_37 : decode cX10_push 37 = .ok (.putfield 108, 3) := by decide +kernel
theorem dX10_push_40 : decode cX10_push 40 = .ok (.return_, 1) := by decide +kernel
theorem dX10_wants_0 : decode cX10_wants 0 = .ok (.iload_n 0, 1) := by decide +kernel
theorem dX10_wants_1 : decode cX10_wants 1 = .ok (.bipush 43, 2) := by decide +kernel
theorem dX10_wants_3 : decode cX10_wants 3 = .ok (.if_icmp .eq 21, 3) := by decide +kernel
theorem dX10_wants_6 : decode cX10_wants 6 = .ok (.iload_n 0, 1) := by decide +kernel
theorem dX10_wants_7 : decode cX10_wants 7 = .ok (.bipush 45, 2) := by decide +kernel
theorem dX10_wants_9 : decode cX10_wants 9 = .ok (.if_icmp .eq 15, 3) := by decide +kernel
theorem dX10_wants_12 : decode cX10_wants 12 = .ok (.iload_n 0, 1) := by decide +kernel
theorem dX10_wants_13 : decode cX10_wants 13 = .ok (.bipush 42, 2) := by decide +kernel
theorem dX10_wants_15 : decode cX10_wants 15 = .ok (.if_icmp .eq 9, 3) := by decide +kernel
theorem dX10_wants_18 : decode cX10_wants 18 = .ok (.iload_n 0, 1) := by decide +kernel
theorem dX10_wants_19 : decode cX10_wants 19 = .ok (.bipush 60, 2) := by decide +kernel
theorem dX10_wants_21 : decode cX10_wants 21 = .ok (.if_icmp .ne 5, 3) := by decide +kernel
theorem dX10_wants_24 : decode cX10_wants 24 = .ok (.iconst 2, 1) := by decide +kernel
theorem dX10_wants_25 : decode cX10_wants 25 = .ok (.ireturn, 1) := by decide +kernel
theorem dX10_wants_26 : decode cX10_wants 26 = .ok (.iload_n 0, 1) := by decide +kernel
theorem dX10_wants_27 : decode cX10_wants 27 = .ok (.bipush 63, 2) := by decide +kernel
theorem dX10_wants_29 : decode cX10_wants 29 = .ok (.if_icmp .ne 7, 3) := by decide +kernel
theorem dX10_wants_32 : decode cX10_wants 32 = .ok (.iconst 3, 1) := by decide +kernel
theorem dX10_wants_33 : decode cX10_wants 33 = .ok (.goto 20, 3) := by decide +kernel
theorem dX10_wants_36 : decode cX10_wants 36 = .ok (.iload_n 0, 1) := by decide +kernel
theorem dX10_wants_37 : decode cX10_wants 37 = .ok (.bipush 120, 2) := by decide +kernel
theorem dX10_wants_39 : decode cX10_wants 39 = .ok (.if_icmp .eq 9, 3) := by decide +kernel
theorem dX10_wants_42 : decode cX10_wants 42 = .ok (.iload_n 0, 1) := by decide +kernel
theorem dX10_wants_43 : decode cX10_wants 43 = .ok (.bipush 102, 2) := by decide +kernel
theorem dX10_wants_45 : decode cX10_wants 45 = .ok (.if_icmp .ne 7, 3) := by decide +kernel
theorem dX10_wants_48 : decode cX10_wants 48 = .ok (.iconst 1, 1) := by decide +kernel
theorem dX10_wants_49 : decode cX10_wants 49 = .ok (.goto 4, 3) := by decide +kernel
theorem dX10_wants_52 : decode cX10_wants 52 = .ok (.iconst 0, 1) := by decide +kernel
theorem dX10_wants_53 : decode cX10_wants 53 = .ok (.ireturn, 1) := by decide +kernel
theorem dX10_skip_0 : decode cX10_skip 0 = .ok (.iconst 1, 1) := by decide +kernel
theorem dX10_skip_1 : decode cX10_skip 1 = .ok (.istore_n 1, 1) := by decide +kernel
theorem dX10_skip_2 : decode cX10_skip 2 = .ok (.iload_n 1, 1) := by decide +kernel
theorem dX10_skip_3 : decode cX10_skip 3 = .ok (.ifCond .le 45, 3) := by decide +kernel
theorem dX10_skip_6 : decode cX10_skip 6 = .ok (.aload_n 0, 1) := by decide +kernel
theorem dX10_skip_7 : decode cX10_skip 7 = .ok (.getfield 32, 3) := by decide +kernel
theorem dX10_skip_10 : decode cX10_skip 10 = .ok (.aload_n 0, 1) := by decide +kernel
theorem dX10_skip_11 : decode cX10_skip 11 = .ok (.getfield 111, 3) := by decide +kernel
theorem dX10_skip_14 : decode cX10_skip 14 = .ok (.iaload, 1) := by decide +kernel
theorem dX10_skip_15 : decode cX10_skip 15 = .ok (.istore_n 2, 1) := by decide +kernel
theorem dX10_skip_16 : decode cX10_skip 16 = .ok (.aload_n 0, 1) := by decide +kernel
theorem dX10_skip_17 : decode cX10_skip 17 = .ok (.dup, 1) := by decide +kernel
theorem dX10_skip_18 : decode cX10_skip 18 = .ok (.getfield 111, 3) := by decide +kernel
theorem dX10_skip_21 : decode cX10_skip 21 = .ok (.iload_n 2, 1) := by decide +kernel
theorem dX10_skip_22 : decode cX10_skip 22 = .ok (.bipush 102, 2) := by decide +kernel
theorem dX10_skip_24 : decode cX10_skip 24 = .ok (.if_icmp .ne 7, 3) := by decide +kernel
theorem dX10_skip_27 : decode cX10_skip 27 = .ok (.iconst 2, 1) := by decide +kernel
theorem dX10_skip_28 : decode cX10_skip 28 = .ok (.goto 4, 3) := by decide +kernel
theorem dX10_skip_31 : decode cX10_skip 31 = .ok (.iconst 1, 1) := by decide +kernel
theorem dX10_skip_32 : decode cX10_skip 32 = .ok (.iadd, 1) := by decide +kernel
theorem dX10_skip_33 : decode cX10_skip 33 = .ok (.putfield 111, 3) := by decide +kernel
theorem dX10_skip_36 : decode cX10_skip 36 = .ok (.iload_n 1, 1) := by decide +kernel
theorem dX10_skip_37 : decode cX10_skip 37 = .ok (.iload_n 2, 1) := by decide +kernel
theorem dX10_skip_38 : decode cX10_skip 38 = .ok (.invokestatic 114, 3) := by decide +kernel
theorem dX10_skip_41 : decode cX10_skip 41 = .ok (.iconst 1, 1) := by decide +kernel
theorem dX10_skip_42 : decode cX10_skip 42 = .ok (.isub, 1) := by decide +kernel
theorem dX10_skip_43 : decode cX10_skip 43 = .ok (.iadd, 1) := by decide +kernel
theorem dX10_skip_44 : decode cX10_skip 44 = .ok (.istore_n 1, 1) := by decide +kernel
theorem dX10_skip_45 : decode cX10_skip 45 = .ok (.goto (-43), 3) := by decide +kernel
theorem dX10_skip_48 : decode cX10_skip 48 = .ok (.return_, 1) := by decide +kernel
theorem dX10_begin_0 : decode cX10_begin 0 = .ok (.aload_n 0, 1) := by decide +kernel
theorem dX10_begin_1 : decode cX10_begin 1 = .ok (.getfield 118, 3) := by decide +kernel
theorem dX10_begin_4 : decode cX10_begin 4 = .ok (.ifCond .ne 7, 3) := by decide +kernel
theorem dX10_begin_7 : decode cX10_begin 7 = .ok (.iconst 0, 1) := by decide +kernel
theorem dX10_begin_8 : decode cX10_begin 8 = .ok (.goto 12, 3) := by decide +kernel
theorem dX10_begin_11 : decode cX10_begin 11 = .ok (.aload_n 0, 1) := by decide +kernel
theorem dX10_begin_12 : decode cX10_begin 12 = .ok (.getfield 71, 3) := by decide +kernel
theorem dX10_begin_15 : decode cX10_begin 15 = .ok (.aload_n 0, 1) := by decide +kernel
theorem dX10_begin_16 : decode cX10_begin 16 = .ok (.getfield 121, 3) := by decide +kernel
theorem dX10_begin_19 : decode cX10_begin 19 = .ok (.iaload, 1) := by decide +kernel
theorem dX10_begin_20 : decode cX10_begin 20 = .ok (.istore_n 3, 1) := by decide +kernel
theorem dX10_begin_21 : decode cX10_begin 21 = .ok (.aload_n 0, 1) := by decide +kernel
theorem dX10_begin_22 : decode cX10_begin 22 = .ok (.getfield 121, 3) := by decide +kernel
theorem dX10_begin_25 : decode cX10_begin 25 = .ok (.istore 4, 2) := by decide +kernel
theorem dX10_begin_27 : decode cX10_begin 27 = .ok (.aload_n 0, 1) := by decide +kernel
theorem dX10_begin_28 : decode cX10_begin 28 = .ok (.aload_n 0, 1) := by decide +kernel
theorem dX10_begin_29 : decode cX10_begin 29 = .ok (.getfield 118, 3) := by decide +kernel
theorem dX10_begin_32 : decode cX10_begin 32 = .ok (.putfield 121, 3) := by decide +kernel
theorem dX10_begin_35 : decode cX10_begin 35 = .ok (.aload_n 0, 1) := by decide +kernel
theorem dX10_begin_36 : decode cX10_begin 36 = .ok (.getfield 62, 3) := by decide +kernel
theorem dX10_begin_39 : decode cX10_begin 39 = .ok (.aload_n 0, 1) := by decide +kernel
theorem dX10_begin_40 : decode cX10_begin 40 = .ok (.getfield 121, 3) := by decide +kernel
theorem dX10_begin_43 : decode cX10_begin 43 = .ok (.iload_n 1, 1) := by decide +kernel
theorem dX10_begin_44 : decode cX10_begin 44 = .ok (.iastore, 1) := by decide +kernel
theorem dX10_begin_45 : decode cX10_begin 45 = .ok (.aload_n 0, 1) := by decide +kernel
theorem dX10_begin_46 : decode cX10_begin 46 = .ok (.getfield 65, 3) := by decide +kernel
theorem dX10_begin_49 : decode cX10_begin 49 = .ok (.aload_n 0, 1) := by decide +kernel
theorem dX10_begin_50 : decode cX10_begin 50 = .ok (.getfield 121, 3) := by decide +kernel
theorem dX10_begin_53 : decode cX10_begin 53 = .ok (.iload_n 2, 1) := by decide +kernel
theorem dX10_begin_54 : decode cX10_begin 54 = .ok (.iastore, 1) := by decide +kernel
theorem dX10_begin_55 : decode cX10_begin 55 = .ok (.aload_n 0, 1) := by decide +kernel
theorem dX10_begin_56 : decode cX10_begin 56 = .ok (.getfield 71, 3) := by decide +kernel
theorem dX10_begin_59 : decode cX10_begin 59 = .ok (.aload_n 0, 1) := by decide +kernel
theorem dX10_begin_60 : decode cX10_begin 60 = .ok (.getfield 121, 3) := by decide +kernel
theorem dX10_begin_63 : decode cX10_begin 63 = .ok (.iload_n 3, 1) := by decide +kernel
theorem dX10_begin_64 : decode cX10_begin 64 = .ok (.iconst 1, 1) := by decide +kernel
theorem dX10_begin_65 : decode cX10_begin 65 = .ok (.iadd, 1) := by decide +kernel
theorem dX10_begin_66 : decode cX10_begin 66 = .ok (.iastore, 1) := by decide +kernel
theorem dX10_begin_67 : decode cX10_begin 67 = .ok (.aload_n 0, 1) := by decide +kernel
theorem dX10_begin_68 : decode cX10_begin 68 = .ok (.getfield 74, 3) := by decide +kernel
theorem dX10_begin_71 : decode cX10_begin 71 = .ok (.aload_n 0, 1) := by decide +kernel
theorem dX10_begin_72 : decode cX10_begin 72 = .ok (.getfield 121, 3) := by decide +kernel
theorem dX10_begin_75 : decode cX10_begin 75 = .ok (.iconst 0, 1) := by decide +kernel
theorem dX10_begin_76 : decode cX10_begin 76 = .ok (.iastore, 1) := by decide +kernel
theorem dX10_begin_77 : decode cX10_begin 77 = .ok (.aload_n 0, 1) := by decide +kernel
theorem dX10_begin_78 : decode cX10_begin 78 = .ok (.dup, 1) := by decide +kernel
theorem dX10_begin_79 : decode cX10_begin 79 = .ok (.getfield 118, 3) := by decide +kernel
theorem dX10_begin_82 : decode cX10_begin 82 = .ok (.iconst 1, 1) := by decide +kernel
theorem dX10_begin_83 : decode cX10_begin 83 = .ok (.iadd, 1) := by decide +kernel
theorem dX10_begin_84 : decode cX10_begin 84 = .ok (.putfield 118, 3) := by decide +kernel
theorem dX10_begin_87 : decode cX10_begin 87 = .ok (.aload_n 0, 1) := by decide +kernel
theorem dX10_begin_88 : decode cX10_begin 88 = .ok (.bipush 67, 2) := by decide +kernel
theorem dX10_begin_90 : decode cX10_begin 90 = .ok (.iload 4, 2) := by decide +kernel
theorem dX10_begin_92 : decode cX10_begin 92 = .ok (.invokevirtual 124, 3) := by decide +kernel
theorem dX10_begin_95 : decode cX10_begin 95 = .ok (.aload_n 0, 1) := by decide +kernel
theorem dX10_begin_96 : decode cX10_begin 96 = .ok (.getfield 89, 3) := by decide +kernel
theorem dX10_begin_99 : decode cX10_begin 99 = .ok (.aload_n 0, 1) := by decide +kernel
theorem dX10_begin_100 : decode cX10_begin 100 = .ok (.getfield 108, 3) := by decide +kernel
theorem dX10_begin_103 : decode cX10_begin 103 = .ok (.iconst 1, 1) := by decide +kernel
theorem dX10_begin_104 : decode cX10_begin 104 = .ok (.isub, 1) := by decide +kernel
theorem dX10_begin_105 : decode cX10_begin 105 = .ok (.aload_n 0, 1) := by decide +kernel
theorem dX10_begin_106 : decode cX10_begin 106 = .ok (.getfield 111, 3) := by decide +kernel
theorem dX10_begin_109 : decode cX10_begin 109 = .ok (.iastore, 1) := by decide +kernel
theorem dX10_begin_110 : decode cX10_begin 110 = .ok (.aload_n 0, 1) := by decide +kernel
theorem dX10_begin_111 : decode cX10_begin 111 = .ok (.aload_n 0, 1) := by decide +kernel
theorem dX10_begin_112 : decode cX10_begin 112 = .ok (.getfield 35, 3) := by decide +kernel
theorem dX10_begin_115 : decode cX10_begin 115 = .ok (.iload_n 1, 1) := by decide +kernel
theorem dX10_begin_116 : decode cX10_begin 116 = .ok (.iaload, 1) := by decide +kernel
theorem dX10_begin_117 : decode cX10_begin 117 = .ok (.putfield 111, 3) := by decide +kernel
theorem dX10_begin_120 : decode cX10_begin 120 = .ok (.return_, 1) := by decide +kernel
theorem dX10_counted_0 : decode cX10_counted 0 = .ok (.iload_n 0, 1) := by decide +kernel
theorem dX10_counted_1 : decode cX10_counted 1 = .ok (.tableswitch 59 42 45 #[51, 31, 59, 39], 31) := by decide +kernel
theorem dX10_counted_32 : decode cX10_counted 32 = .ok (.iload_n 1, 1) := by decide +kernel
theorem dX10_counted_33 : decode cX10_counted 33 = .ok (.iload_n 2, 1) := by decide +kernel
theorem dX10_counted_34 : decode cX10_counted 34 = .ok (.iadd, 1) := by decide +kernel
theorem dX10_counted_35 : decode cX10_counted 35 = .ok (.sipush 997, 3) := by decide +kernel
theorem dX10_counted_38 : decode cX10_counted 38 = .ok (.irem, 1) := by decide +kernel
theorem dX10_counted_39 : decode cX10_counted 39 = .ok (.ireturn, 1) := by decide +kernel
theorem dX10_counted_40 : decode cX10_counted 40 = .ok (.iload_n 1, 1) := by decide +kernel
theorem dX10_counted_41 : decode cX10_counted 41 = .ok (.iload_n 2, 1) := by decide +kernel
theorem dX10_counted_42 : decode cX10_counted 42 = .ok (.isub, 1) := by decide +kernel
theorem dX10_counted_43 : decode cX10_counted 43 = .ok (.sipush 997, 3) := by decide +kernel
theorem dX10_counted_46 : decode cX10_counted 46 = .ok (.iadd, 1) := by decide +kernel
theorem dX10_counted_47 : decode cX10_counted 47 = .ok (.sipush 997, 3) := by decide +kernel
theorem dX10_counted_50 : decode cX10_counted 50 = .ok (.irem, 1) := by decide +kernel
theorem dX10_counted_51 : decode cX10_counted 51 = .ok (.ireturn, 1) := by decide +kernel
theorem dX10_counted_52 : decode cX10_counted 52 = .ok (.iload_n 1, 1) := by decide +kernel
theorem dX10_counted_53 : decode cX10_counted 53 = .ok (.iload_n 2, 1) := by decide +kernel
theorem dX10_counted_54 : decode cX10_counted 54 = .ok (.imul, 1) := by decide +kernel
theorem dX10_counted_55 : decode cX10_counted 55 = .ok (.sipush 997, 3) := by decide +kernel
theorem dX10_counted_58 : decode cX10_counted 58 = .ok (.irem, 1) := by decide +kernel
theorem dX10_counted_59 : decode cX10_counted 59 = .ok (.ireturn, 1) := by decide +kernel
theorem dX10_counted_60 : decode cX10_counted 60 = .ok (.iload_n 1, 1) := by decide +kernel
theorem dX10_counted_61 : decode cX10_counted 61 = .ok (.iload_n 2, 1) := by decide +kernel
theorem dX10_counted_62 : decode cX10_counted 62 = .ok (.if_icmp .ge 7, 3) := by decide +kernel
theorem dX10_counted_65 : decode cX10_counted 65 = .ok (.iconst 1, 1) := by decide +kernel
theorem dX10_counted_66 : decode cX10_counted 66 = .ok (.goto 4, 3) := by decide +kernel
theorem dX10_counted_69 : decode cX10_counted 69 = .ok (.iconst 0, 1) := by decide +kernel
theorem dX10_counted_70 : decode cX10_counted 70 = .ok (.ireturn, 1) := by decide +kernel
theorem dX10_open_0 : decode cX10_open 0 = .ok (.aload_n 0, 1) := by decide +kernel
theorem dX10_open_1 : decode cX10_open 1 = .ok (.getfield 32, 3) := by decide +kernel
theorem dX10_open_4 : decode cX10_open 4 = .ok (.aload_n 0, 1) := by decide +kernel
theorem dX10_open_5 : decode cX10_open 5 = .ok (.getfield 111, 3) := by decide +kernel
theorem dX10_open_8 : decode cX10_open 8 = .ok (.iaload, 1) := by decide +kernel
theorem dX10_open_9 : decode cX10_open 9 = .ok (.istore_n 1, 1) := by decide +kernel
theorem dX10_open_10 : decode cX10_open 10 = .ok (.aload_n 0, 1) := by decide +kernel
theorem dX10_open_11 : decode cX10_open 11 = .ok (.dup, 1) := by decide +kernel
theorem dX10_open_12 : decode cX10_open 12 = .ok (.getfield 111, 3) := by decide +kernel
theorem dX10_open_15 : decode cX10_open 15 = .ok (.iconst 1, 1) := by decide +kernel
theorem dX10_open_16 : decode cX10_open 16 = .ok (.iadd, 1) := by decide +kernel
theorem dX10_open_17 : decode cX10_open 17 = .ok (.putfield 111, 3) := by decide +kernel
theorem dX10_open_20 : decode cX10_open 20 = .ok (.iload_n 1, 1) := by decide +kernel
theorem dX10_open_21 : decode cX10_open 21 = .ok (.i2l, 1) := by decide +kernel
theorem dX10_open_22 : decode cX10_open 22 = .ok (.ldc2_w 127, 3) := by decide +kernel
theorem dX10_open_25 : decode cX10_open 25 = .ok (.ldc2_w 129, 3) := by decide +kernel
theorem dX10_open_28 : decode cX10_open 28 = .ok (.invokestatic 131, 3) := by decide +kernel
theorem dX10_open_31 : decode cX10_open 31 = .ok (.ifCond .eq 8, 3) := by decide +kernel
theorem dX10_open_34 : decode cX10_open 34 = .ok (.iload_n 1, 1) := by decide +kernel
theorem dX10_open_35 : decode cX10_open 35 = .ok (.bipush 48, 2) := by decide +kernel
theorem dX10_open_37 : decode cX10_open 37 = .ok (.isub, 1) := by decide +kernel
theorem dX10_open_38 : decode cX10_open 38 = .ok (.ireturn, 1) := by decide +kernel
theorem dX10_open_39 : decode cX10_open 39 = .ok (.iload_n 1, 1) := by decide +kernel
theorem dX10_open_40 : decode cX10_open 40 = .ok (.bipush 110, 2) := by decide +kernel
theorem dX10_open_42 : decode cX10_open 42 = .ok (.if_icmp .ne 13, 3) := by decide +kernel
theorem dX10_open_45 : decode cX10_open 45 = .ok (.aload_n 0, 1) := by decide +kernel
theorem dX10_open_46 : decode cX10_open 46 = .ok (.getfield 65, 3) := by decide +kernel
theorem dX10_open_49 : decode cX10_open 49 = .ok (.aload_n 0, 1) := by decide +kernel
theorem dX10_open_50 : decode cX10_open 50 = .ok (.getfield 121, 3) := by decide +kernel
theorem dX10_open_53 : decode cX10_open 53 = .ok (.iaload, 1) := by decide +kernel
theorem dX10_open_54 : decode cX10_open 54 = .ok (.ireturn, 1) := by decide +kernel
theorem dX10_open_55 : decode cX10_open 55 = .ok (.iload_n 1, 1) := by decide +kernel
theorem dX10_open_56 : decode cX10_open 56 = .ok (.bipush 102, 2) := by decide +kernel
theorem dX10_open_58 : decode cX10_open 58 = .ok (.if_icmp .ne 33, 3) := by decide +kernel
theorem dX10_open_61 : decode cX10_open 61 = .ok (.aload_n 0, 1) := by decide +kernel
theorem dX10_open_62 : decode cX10_open 62 = .ok (.iload_n 1, 1) := by decide +kernel
theorem dX10_open_63 : decode cX10_open 63 = .ok (.aload_n 0, 1) := by decide +kernel
theorem dX10_open_64 : decode cX10_open 64 = .ok (.getfield 32, 3) := by decide +kernel
theorem dX10_open_67 : decode cX10_open 67 = .ok (.aload_n 0, 1) := by decide +kernel
theorem dX10_open_68 : decode cX10_open 68 = .ok (.getfield 111, 3) := by decide +kernel
theorem dX10_open_71 : decode cX10_open 71 = .ok (.iaload, 1) := by decide +kernel
theorem dX10_open_72 : decode cX10_open 72 = .ok (.bipush 48, 2) := by decide +kernel
theorem dX10_open_74 : decode cX10_open 74 = .ok (.isub, 1) := by decide +kernel
theorem dX10_open_75 : decode cX10_open 75 = .ok (.invokevirtual 124, 3) := by decide +kernel
theorem dX10_open_78 : decode cX10_open 78 = .ok (.aload_n 0, 1) := by decide +kernel
theorem dX10_open_79 : decode cX10_open 79 = .ok (.dup, 1) := by decide +kernel
theorem dX10_open_80 : decode cX10_open 80 = .ok (.getfield 111, 3) := by decide +kernel
theorem dX10_open_83 : decode cX10_open 83 = .ok (.iconst 1, 1) := by decide +kernel
theorem dX10_open_84 : decode cX10_open 84 = .ok (.iadd, 1) := by decide +kernel
theorem dX10_open_85 : decode cX10_open 85 = .ok (.putfield 111, 3) := by decide +kernel
theorem dX10_open_88 : decode cX10_open 88 = .ok (.goto 9, 3) := by decide +kernel
theorem dX10_open_91 : decode cX10_open 91 = .ok (.aload_n 0, 1) := by decide +kernel
theorem dX10_open_92 : decode cX10_open 92 = .ok (.iload_n 1, 1) := by decide +kernel
theorem dX10_open_93 : decode cX10_open 93 = .ok (.iconst 0, 1) := by decide +kernel
theorem dX10_open_94 : decode cX10_open 94 = .ok (.invokevirtual 124, 3) := by decide +kernel
theorem dX10_open_97 : decode cX10_open 97 = .ok (.iconst (-1), 1) := by decide +kernel
theorem dX10_open_98 : decode cX10_open 98 = .ok (.ireturn, 1) := by decide +kernel
theorem dX10_called_0 : decode cX10_called 0 = .ok (.iload_n 1, 1) := by decide +kernel
theorem dX10_called_1 : decode cX10_called 1 = .ok (.aload_n 0, 1) := by decide +kernel
theorem dX10_called_2 : decode cX10_called 2 = .ok (.getfield 95, 3) := by decide +kernel
theorem dX10_called_5 : decode cX10_called 5 = .ok (.if_icmp .ge 17, 3) := by decide +kernel
theorem dX10_called_8 : decode cX10_called 8 = .ok (.aload_n 0, 1) := by decide +kernel
theorem dX10_called_9 : decode cX10_called 9 = .ok (.getfield 71, 3) := by decide +kernel
theorem dX10_called_12 : decode cX10_called 12 = .ok (.aload_n 0, 1) := by decide +kernel
theorem dX10_called_13 : decode cX10_called 13 = .ok (.getfield 121, 3) := by decide +kernel
theorem dX10_called_16 : decode cX10_called 16 = .ok (.iaload, 1) := by decide +kernel
theorem dX10_called_17 : decode cX10_called 17 = .ok (.bipush 6, 2) := by decide +kernel
theorem dX10_called_19 : decode cX10_called 19 = .ok (.if_icmp .ne 5, 3) := by decide +kernel
theorem dX10_called_22 : decode cX10_called 22 = .ok (.iconst 0, 1) := by decide +kernel
theorem dX10_called_23 : decode cX10_called 23 = .ok (.ireturn, 1) := by decide +kernel
theorem dX10_called_24 : decode cX10_called 24 = .ok (.aload_n 0, 1) := by decide +kernel
theorem dX10_called_25 : decode cX10_called 25 = .ok (.iload_n 1, 1) := by decide +kernel
theorem dX10_called_26 : decode cX10_called 26 = .ok (.iload_n 2, 1) := by decide +kernel
theorem dX10_called_27 : decode cX10_called 27 = .ok (.invokevirtual 135, 3) := by decide +kernel
theorem dX10_called_30 : decode cX10_called 30 = .ok (.iconst (-1), 1) := by decide +kernel
theorem dX10_called_31 : decode cX10_called 31 = .ok (.ireturn, 1) := by decide +kernel
theorem dX10_give_0 : decode cX10_give 0 = .ok (.aload_n 0, 1) := by decide +kernel
theorem dX10_give_1 : decode cX10_give 1 = .ok (.getfield 108, 3) := by decide +kernel
theorem dX10_give_4 : decode cX10_give 4 = .ok (.iconst 1, 1) := by decide +kernel
theorem dX10_give_5 : decode cX10_give 5 = .ok (.isub, 1) := by decide +kernel
theorem dX10_give_6 : decode cX10_give 6 = .ok (.istore_n 2, 1) := by decide +kernel
theorem dX10_give_7 : decode cX10_give 7 = .ok (.aload_n 0, 1) := by decide +kernel
theorem dX10_give_8 : decode cX10_give 8 = .ok (.getfield 86, 3) := by decide +kernel
theorem dX10_give_11 : decode cX10_give 11 = .ok (.iload_n 2, 1) := by decide +kernel
theorem dX10_give_12 : decode cX10_give 12 = .ok (.iaload, 1) := by decide +kernel
theorem dX10_give_13 : decode cX10_give 13 = .ok (.istore_n 3, 1) := by decide +kernel
theorem dX10_give_14 : decode cX10_give 14 = .ok (.iload_n 3, 1) := by decide +kernel
theorem dX10_give_15 : decode cX10_give 15 = .ok (.bipush 67, 2) := by decide +kernel
theorem dX10_give_17 : decode cX10_give 17 = .ok (.if_icmp .ne 45, 3) := by decide +kernel
theorem dX10_give_20 : decode cX10_give 20 = .ok (.aload_n 0, 1) := by decide +kernel
theorem dX10_give_21 : decode cX10_give 21 = .ok (.getfield 68, 3) := by decide +kernel
theorem dX10_give_24 : decode cX10_give 24 = .ok (.aload_n 0, 1) := by decide +kernel
theorem dX10_give_25 : decode cX10_give 25 = .ok (.getfield 121, 3) := by decide +kernel
theorem dX10_give_28 : decode cX10_give 28 = .ok (.iload_n 1, 1) := by decide +kernel
theorem dX10_give_29 : decode cX10_give 29 = .ok (.iastore, 1) := by decide +kernel
theorem dX10_give_30 : decode cX10_give 30 = .ok (.aload_n 0, 1) := by decide +kernel
theorem dX10_give_31 : decode cX10_give 31 = .ok (.aload_n 0, 1) := by decide +kernel
theorem dX10_give_32 : decode cX10_give 32 = .ok (.getfield 92, 3) := by decide +kernel
theorem dX10_give_35 : decode cX10_give 35 = .ok (.iload_n 2, 1) := by decide +kernel
theorem dX10_give_36 : decode cX10_give 36 = .ok (.iaload, 1) := by decide +kernel
theorem dX10_give_37 : decode cX10_give 37 = .ok (.putfield 121, 3) := by decide +kernel
theorem dX10_give_40 : decode cX10_give 40 = .ok (.aload_n 0, 1) := by decide +kernel
theorem dX10_give_41 : decode cX10_give 41 = .ok (.aload_n 0, 1) := by decide +kernel
theorem dX10_give_42 : decode cX10_give 42 = .ok (.getfield 89, 3) := by decide +kernel
theorem dX10_give_45 : decode cX10_give 45 = .ok (.iload_n 2, 1) := by decide +kernel
theorem dX10_give_46 : decode cX10_give 46 = .ok (.iaload, 1) := by decide +kernel
theorem dX10_give_47 : decode cX10_give 47 = .ok (.putfield 111, 3) := by decide +kernel
theorem dX10_give_50 : decode cX10_give 50 = .ok (.aload_n 0, 1) := by decide +kernel
theorem dX10_give_51 : decode cX10_give 51 = .ok (.dup, 1) := by decide +kernel
theorem dX10_give_52 : decode cX10_give 52 = .ok (.getfield 108, 3) := by decide +kernel
theorem dX10_give_55 : decode cX10_give 55 = .ok (.iconst 1, 1) := by decide +kernel
theorem dX10_give_56 : decode cX10_give 56 = .ok (.isub, 1) := by decide +kernel
theorem dX10_give_57 : decode cX10_give 57 = .ok (.putfield 108, 3) := by decide +kernel
theorem dX10_give_60 : decode cX10_give 60 = .ok (.iload_n 1, 1) := by decide +kernel
theorem dX10_give_61 : decode cX10_give 61 = .ok (.ireturn, 1) := by decide +kernel
theorem dX10_give_62 : decode cX10_give 62 = .ok (.iload_n 3, 1) := by decide +kernel
theorem dX10_give_63 : decode cX10_give 63 = .ok (.bipush 120, 2) := by decide +kernel
theorem dX10_give_65 : decode cX10_give 65 = .ok (.if_icmp .ne 41, 3) := by decide +kernel
theorem dX10_give_68 : decode cX10_give 68 = .ok (.aload_n 0, 1) := by decide +kernel
theorem dX10_give_69 : decode cX10_give 69 = .ok (.dup, 1) := by decide +kernel
theorem dX10_give_70 : decode cX10_give 70 = .ok (.getfield 108, 3) := by decide +kernel
theorem dX10_give_73 : decode cX10_give 73 = .ok (.iconst 1, 1) := by decide +kernel
theorem dX10_give_74 : decode cX10_give 74 = .ok (.isub, 1) := by decide +kernel
theorem dX10_give_75 : decode cX10_give 75 = .ok (.putfield 108, 3) := by decide +kernel
theorem dX10_give_78 : decode cX10_give 78 = .ok (.aload_n 0, 1) := by decide +kernel
theorem dX10_give_79 : decode cX10_give 79 = .ok (.getfield 74, 3) := by decide +kernel
theorem dX10_give_82 : decode cX10_give 82 = .ok (.aload_n 0, 1) := by decide +kernel
theorem dX10_give_83 : decode cX10_give 83 = .ok (.getfield 121, 3) := by decide +kernel
theorem dX10_give_86 : decode cX10_give 86 = .ok (.dup2, 1) := by decide +kernel
theorem dX10_give_87 : decode cX10_give 87 = .ok (.iaload, 1) := by decide +kernel
theorem dX10_give_88 : decode cX10_give 88 = .ok (.iconst 1, 1) := by decide +kernel
theorem dX10_give_89 : decode cX10_give 89 = .ok (.iload_n 1, 1) := by decide +kernel
theorem dX10_give_90 : decode cX10_give 90 = .ok (.bipush 8, 2) := by decide +kernel
theorem dX10_give_92 : decode cX10_give 92 = .ok (.irem, 1) := by decide +kernel
theorem dX10_give_93 : decode cX10_give 93 = .ok (.ishl, 1) := by decide +kernel
theorem dX10_give_94 : decode cX10_give 94 = .ok (.ior, 1) := by decide +kernel
theorem dX10_give_95 : decode cX10_give 95 = .ok (.iastore, 1) := by decide +kernel
theorem dX10_give_96 : decode cX10_give 96 = .ok (.aload_n 0, 1) := by decide +kernel
theorem dX10_give_97 : decode cX10_give 97 = .ok (.getfield 7, 3) := by decide +kernel
theorem dX10_give_100 : decode cX10_give 100 = .ok (.iload_n 1, 1) := by decide +kernel
theorem dX10_give_101 : decode cX10_give 101 = .ok (.bipush 8, 2) := by decide +kernel
theorem dX10_give_103 : decode cX10_give 103 = .ok (.irem, 1) := by decide +kernel
theorem dX10_give_104 : decode cX10_give 104 = .ok (.iaload, 1) := by decide +kernel
theorem dX10_give_105 : decode cX10_give 105 = .ok (.ireturn, 1) := by decide +kernel
theorem dX10_give_106 : decode cX10_give 106 = .ok (.iload_n 3, 1) := by decide +kernel
theorem dX10_give_107 : decode cX10_give 107 = .ok (.bipush 102, 2) := by decide +kernel
theorem dX10_give_109 : decode cX10_give 109 = .ok (.if_icmp .ne 25, 3) := by decide +kernel
theorem dX10_give_112 : decode cX10_give 112 = .ok (.aload_n 0, 1) := by decide +kernel
theorem dX10_give_113 : decode cX10_give 113 = .ok (.dup, 1) := by decide +kernel
theorem dX10_give_114 : decode cX10_give 114 = .ok (.getfield 108, 3) := by decide +kernel
theorem dX10_give_117 : decode cX10_give 117 = .ok (.iconst 1, 1) := by decide +kernel
theorem dX10_give_118 : decode cX10_give 118 = .ok (.isub, 1) := by decide +kernel
theorem dX10_give_119 : decode cX10_give 119 = .ok (.putfield 108, 3) := by decide +kernel
theorem dX10_give_122 : decode cX10_give 122 = .ok (.aload_n 0, 1) := by decide +kernel
theorem dX10_give_123 : decode cX10_give 123 = .ok (.aload_n 0, 1) := by decide +kernel
theorem dX10_give_124 : decode cX10_give 124 = .ok (.getfield 92, 3) := by decide +kernel
theorem dX10_give_127 : decode cX10_give 127 = .ok (.iload_n 2, 1) := by decide +kernel
theorem dX10_give_128 : decode cX10_give 128 = .ok (.iaload, 1) := by decide +kernel
theorem dX10_give_129 : decode cX10_give 129 = .ok (.iload_n 1, 1) := by decide +kernel
theorem dX10_give_130 : decode cX10_give 130 = .ok (.invokevirtual 138, 3) := by decide +kernel
theorem dX10_give_133 : decode cX10_give 133 = .ok (.ireturn, 1) := by decide +kernel
theorem dX10_give_134 : decode cX10_give 134 = .ok (.iload_n 3, 1) := by decide +kernel
theorem dX10_give_135 : decode cX10_give 135 = .ok (.bipush 63, 2) := by decide +kernel
theorem dX10_give_137 : decode cX10_give 137 = .ok (.if_icmp .ne 12, 3) := by decide +kernel
theorem dX10_give_140 : decode cX10_give 140 = .ok (.aload_n 0, 1) := by decide +kernel
theorem dX10_give_141 : decode cX10_give 141 = .ok (.iload_n 2, 1) := by decide +kernel
theorem dX10_give_142 : decode cX10_give 142 = .ok (.iload_n 1, 1) := by decide +kernel
theorem dX10_give_143 : decode cX10_give 143 = .ok (.invokevirtual 142, 3) := by decide +kernel
theorem dX10_give_146 : decode cX10_give 146 = .ok (.goto 9, 3) := by decide +kernel
theorem dX10_give_149 : decode cX10_give 149 = .ok (.aload_n 0, 1) := by decide +kernel
theorem dX10_give_150 : decode cX10_give 150 = .ok (.iload_n 2, 1) := by decide +kernel
theorem dX10_give_151 : decode cX10_give 151 = .ok (.iload_n 1, 1) := by decide +kernel
theorem dX10_give_152 : decode cX10_give 152 = .ok (.invokevirtual 145, 3) := by decide +kernel
theorem dX10_give_155 : decode cX10_give 155 = .ok (.ireturn, 1) := by decide +kernel
theorem dX10_giveTwo_0 : decode cX10_giveTwo 0 = .ok (.aload_n 0, 1) := by decide +kernel
theorem dX10_giveTwo_1 : decode cX10_giveTwo 1 = .ok (.getfield 89, 3) := by decide +kernel
theorem dX10_giveTwo_4 : decode cX10_giveTwo 4 = .ok (.iload_n 1, 1) := by decide +kernel
theorem dX10_giveTwo_5 : decode cX10_giveTwo 5 = .ok (.dup2, 1) := by decide +kernel
theorem dX10_giveTwo_6 : decode cX10_giveTwo 6 = .ok (.iaload, 1) := by decide +kernel
theorem dX10_giveTwo_7 : decode cX10_giveTwo 7 = .ok (.iconst 1, 1) := by decide +kernel
theorem dX10_giveTwo_8 : decode cX10_giveTwo 8 = .ok (.iadd, 1) := by decide +kernel
theorem dX10_giveTwo_9 : decode cX10_giveTwo 9 = .ok (.iastore, 1) := by decide +kernel
theorem dX10_giveTwo_10 : decode cX10_giveTwo 10 = .ok (.aload_n 0, 1) := by decide +kernel
theorem dX10_giveTwo_11 : decode cX10_giveTwo 11 = .ok (.getfield 89, 3) := by decide +kernel
theorem dX10_giveTwo_14 : decode cX10_giveTwo 14 = .ok (.iload_n 1, 1) := by decide +kernel
theorem dX10_giveTwo_15 : decode cX10_giveTwo 15 = .ok (.iaload, 1) := by decide +kernel
theorem dX10_giveTwo_16 : decode cX10_giveTwo 16 = .ok (.iconst 1, 1) := by decide +kernel
theorem dX10_giveTwo_17 : decode cX10_giveTwo 17 = .ok (.if_icmp .ne 12, 3) := by decide +kernel
theorem dX10_giveTwo_20 : decode cX10_giveTwo 20 = .ok (.aload_n 0, 1) := by decide +kernel
theorem dX10_giveTwo_21 : decode cX10_giveTwo 21 = .ok (.getfield 92, 3) := by decide +kernel
theorem dX10_giveTwo_24 : decode cX10_giveTwo 24 = .ok (.iload_n 1, 1) := by decide +kernel
theorem dX10_giveTwo_25 : decode cX10_giveTwo 25 = .ok (.iload_n 2, 1) := by decide +kernel
theorem dX10_giveTwo_26 : decode cX10_giveTwo 26 = .ok (.iastore, 1) := by decide +kernel
theorem dX10_giveTwo_27 : decode cX10_giveTwo 27 = .ok (.iconst (-1), 1) := by decide +kernel
theorem dX10_giveTwo_28 : decode cX10_giveTwo 28 = .ok (.ireturn, 1) := by decide +kernel
theorem dX10_giveTwo_29 : decode cX10_giveTwo 29 = .ok (.aload_n 0, 1) := by decide +kernel
theorem dX10_giveTwo_30 : decode cX10_giveTwo 30 = .ok (.dup, 1) := by decide +kernel
theorem dX10_giveTwo_31 : decode cX10_giveTwo 31 = .ok (.getfield 108, 3) := by decide +kernel
theorem dX10_giveTwo_34 : decode cX10_giveTwo 34 = .ok (.iconst 1, 1) := by decide +kernel
theorem dX10_giveTwo_35 : decode cX10_giveTwo 35 = .ok (.isub, 1) := by decide +kernel
theorem dX10_giveTwo_36 : decode cX10_giveTwo 36 = .ok (.putfield 108, 3) := by decide +kernel
theorem dX10_giveTwo_39 : decode cX10_giveTwo 39 = .ok (.aload_n 0, 1) := by decide +kernel
theorem dX10_giveTwo_40 : decode cX10_giveTwo 40 = .ok (.getfield 86, 3) := by decide +kernel
theorem dX10_giveTwo_43 : decode cX10_giveTwo 43 = .ok (.iload_n 1, 1) := by decide +kernel
theorem dX10_giveTwo_44 : decode cX10_giveTwo 44 = .ok (.iaload, 1) := by decide +kernel
theorem dX10_giveTwo_45 : decode cX10_giveTwo 45 = .ok (.aload_n 0, 1) := by decide +kernel
theorem dX10_giveTwo_46 : decode cX10_giveTwo 46 = .ok (.getfield 92, 3) := by decide +kernel
theorem dX10_giveTwo_49 : decode cX10_giveTwo 49 = .ok (.iload_n 1, 1) := by decide +kernel
theorem dX10_giveTwo_50 : decode cX10_giveTwo 50 = .ok (.iaload, 1) := by decide +kernel
theorem dX10_giveTwo_51 : decode cX10_giveTwo 51 = .ok (.iload_n 2, 1) := by decide +kernel
theorem dX10_giveTwo_52 : decode cX10_giveTwo 52 = .ok (.invokestatic 148, 3) := by decide +kernel
theorem dX10_giveTwo_55 : decode cX10_giveTwo 55 = .ok (.ireturn, 1) := by decide +kernel
theorem dX10_choose_0 : decode cX10_choose 0 = .ok (.aload_n 0, 1) := by decide +kernel
theorem dX10_choose_1 : decode cX10_choose 1 = .ok (.getfield 89, 3) := by decide +kernel
theorem dX10_choose_4 : decode cX10_choose 4 = .ok (.iload_n 1, 1) := by decide +kernel
theorem dX10_choose_5 : decode cX10_choose 5 = .ok (.iaload, 1) := by decide +kernel
theorem dX10_choose_6 : decode cX10_choose 6 = .ok (.ifCond .ne 28, 3) := by decide +kernel
theorem dX10_choose_9 : decode cX10_choose 9 = .ok (.iload_n 2, 1) := by decide +kernel
theorem dX10_choose_10 : decode cX10_choose 10 = .ok (.ifCond .ne 7, 3) := by decide +kernel
theorem dX10_choose_13 : decode cX10_choose 13 = .ok (.aload_n 0, 1) := by decide +kernel
theorem dX10_choose_14 : decode cX10_choose 14 = .ok (.invokevirtual 152, 3) := by decide +kernel
theorem dX10_choose_17 : decode cX10_choose 17 = .ok (.aload_n 0, 1) := by decide +kernel
theorem dX10_choose_18 : decode cX10_choose 18 = .ok (.getfield 89, 3) := by decide +kernel
theorem dX10_choose_21 : decode cX10_choose 21 = .ok (.iload_n 1, 1) := by decide +kernel
theorem dX10_choose_22 : decode cX10_choose 22 = .ok (.iload_n 2, 1) := by decide +kernel
theorem dX10_choose_23 : decode cX10_choose 23 = .ok (.ifCond .ne 7, 3) := by decide +kernel
theorem dX10_choose_26 : decode cX10_choose 26 = .ok (.iconst 2, 1) := by decide +kernel
theorem dX10_choose_27 : decode cX10_choose 27 = .ok (.goto 4, 3) := by decide +kernel
theorem dX10_choose_30 : decode cX10_choose 30 = .ok (.iconst 1, 1) := by decide +kernel
theorem dX10_choose_31 : decode cX10_choose 31 = .ok (.iastore, 1) := by decide +kernel
theorem dX10_choose_32 : decode cX10_choose 32 = .ok (.iconst (-1), 1) := by decide +kernel
theorem dX10_choose_33 : decode cX10_choose 33 = .ok (.ireturn, 1) := by decide +kernel
theorem dX10_choose_34 : decode cX10_choose 34 = .ok (.aload_n 0, 1) := by decide +kernel
theorem dX10_choose_35 : decode cX10_choose 35 = .ok (.getfield 89, 3) := by decide +kernel
theorem dX10_choose_38 : decode cX10_choose 38 = .ok (.iload_n 1, 1) := by decide +kernel
theorem dX10_choose_39 : decode cX10_choose 39 = .ok (.iaload, 1) := by decide +kernel
theorem dX10_choose_40 : decode cX10_choose 40 = .ok (.iconst 1, 1) := by decide +kernel
theorem dX10_choose_41 : decode cX10_choose 41 = .ok (.if_icmp .ne 7, 3) := by decide +kernel
theorem dX10_choose_44 : decode cX10_choose 44 = .ok (.aload_n 0, 1) := by decide +kernel
theorem dX10_choose_45 : decode cX10_choose 45 = .ok (.invokevirtual 152, 3) := by decide +kernel
theorem dX10_choose_48 : decode cX10_choose 48 = .ok (.aload_n 0, 1) := by decide +kernel
theorem dX10_choose_49 : decode cX10_choose 49 = .ok (.dup, 1) := by decide +kernel
theorem dX10_choose_50 : decode cX10_choose 50 = .ok (.getfield 108, 3) := by decide +kernel
theorem dX10_choose_53 : decode cX10_choose 53 = .ok (.iconst 1, 1) := by decide +kernel
theorem dX10_choose_54 : decode cX10_choose 54 = .ok (.isub, 1) := by decide +kernel
theorem dX10_choose_55 : decode cX10_choose 55 = .ok (.putfield 108, 3) := by decide +kernel
theorem dX10_choose_58 : decode cX10_choose 58 = .ok (.iload_n 2, 1) := by decide +kernel
theorem dX10_choose_59 : decode cX10_choose 59 = .ok (.ireturn, 1) := by decide +kernel
theorem dX10_layNew_0 : decode cX10_layNew 0 = .ok (.aload_n 0, 1) := by decide +kernel
theorem dX10_layNew_1 : decode cX10_layNew 1 = .ok (.iconst 0, 1) := by decide +kernel
theorem dX10_layNew_2 : decode cX10_layNew 2 = .ok (.putfield 118, 3) := by decide +kernel
theorem dX10_layNew_5 : decode cX10_layNew 5 = .ok (.iload_n 1, 1) := by decide +kernel
theorem dX10_layNew_6 : decode cX10_layNew 6 = .ok (.aload_n 0, 1) := by decide +kernel
theorem dX10_layNew_7 : decode cX10_layNew 7 = .ok (.getfield 95, 3) := by decide +kernel
theorem dX10_layNew_10 : decode cX10_layNew 10 = .ok (.if_icmp .lt 5, 3) := by decide +kernel
theorem dX10_layNew_13 : decode cX10_layNew 13 = .ok (.iconst 0, 1) := by decide +kernel
theorem dX10_layNew_14 : decode cX10_layNew 14 = .ok (.ireturn, 1) := by decide +kernel
theorem dX10_layNew_15 : decode cX10_layNew 15 = .ok (.aload_n 0, 1) := by decide +kernel
theorem dX10_layNew_16 : decode cX10_layNew 16 = .ok (.iconst 0, 1) := by decide +kernel
theorem dX10_layNew_17 : decode cX10_layNew 17 = .ok (.putfield 108, 3) := by decide +kernel
theorem dX10_layNew_20 : decode cX10_layNew 20 = .ok (.aload_n 0, 1) := by decide +kernel
theorem dX10_layNew_21 : decode cX10_layNew 21 = .ok (.iconst 0, 1) := by decide +kernel
theorem dX10_layNew_22 : decode cX10_layNew 22 = .ok (.putfield 121, 3) := by decide +kernel
theorem dX10_layNew_25 : decode cX10_layNew 25 = .ok (.aload_n 0, 1) := by decide +kernel
theorem dX10_layNew_26 : decode cX10_layNew 26 = .ok (.iconst 0, 1) := by decide +kernel
theorem dX10_layNew_27 : decode cX10_layNew 27 = .ok (.putfield 111, 3) := by decide +kernel
theorem dX10_layNew_30 : decode cX10_layNew 30 = .ok (.aload_n 0, 1) := by decide +kernel
theorem dX10_layNew_31 : decode cX10_layNew 31 = .ok (.iload_n 1, 1) := by decide +kernel
theorem dX10_layNew_32 : decode cX10_layNew 32 = .ok (.iload_n 2, 1) := by decide +kernel
theorem dX10_layNew_33 : decode cX10_layNew 33 = .ok (.invokevirtual 135, 3) := by decide +kernel
theorem dX10_layNew_36 : decode cX10_layNew 36 = .ok (.aload_n 0, 1) := by decide +kernel
theorem dX10_layNew_37 : decode cX10_layNew 37 = .ok (.getfield 108, 3) := by decide +kernel
theorem dX10_layNew_40 : decode cX10_layNew 40 = .ok (.ifCond .le 31, 3) := by decide +kernel
theorem dX10_layNew_43 : decode cX10_layNew 43 = .ok (.aload_n 0, 1) := by decide +kernel
theorem dX10_layNew_44 : decode cX10_layNew 44 = .ok (.invokevirtual 155, 3) := by decide +kernel
theorem dX10_layNew_47 : decode cX10_layNew 47 = .ok (.istore_n 3, 1) := by decide +kernel
theorem dX10_layNew_48 : decode cX10_layNew 48 = .ok (.iload_n 3, 1) := by decide +kernel
theorem dX10_layNew_49 : decode cX10_layNew 49 = .ok (.ifCond .lt 19, 3) := by decide +kernel
theorem dX10_layNew_52 : decode cX10_layNew 52 = .ok (.aload_n 0, 1) := by decide +kernel
theorem dX10_layNew_53 : decode cX10_layNew 53 = .ok (.getfield 108, 3) := by decide +kernel
theorem dX10_layNew_56 : decode cX10_layNew 56 = .ok (.ifCond .le 12, 3) := by decide +kernel
theorem dX10_layNew_59 : decode cX10_layNew 59 = .ok (.aload_n 0, 1) := by decide +kernel
theorem dX10_layNew_60 : decode cX10_layNew 60 = .ok (.iload_n 3, 1) := by decide +kernel
theorem dX10_layNew_61 : decode cX10_layNew 61 = .ok (.invokevirtual 159, 3) := by decide +kernel
theorem dX10_layNew_64 : decode cX10_layNew 64 = .ok (.istore_n 3, 1) := by decide +kernel
theorem dX10_layNew_65 : decode cX10_layNew 65 = .ok (.goto (-17), 3) := by decide +kernel
theorem dX10_layNew_68 : decode cX10_layNew 68 = .ok (.goto (-32), 3) := by decide +kernel
theorem dX10_layNew_71 : decode cX10_layNew 71 = .ok (.aload_n 0, 1) := by decide +kernel
theorem dX10_layNew_72 : decode cX10_layNew 72 = .ok (.getfield 68, 3) := by decide +kernel
theorem dX10_layNew_75 : decode cX10_layNew 75 = .ok (.iconst 0, 1) := by decide +kernel
theorem dX10_layNew_76 : decode cX10_layNew 76 = .ok (.iaload, 1) := by decide +kernel
theorem dX10_layNew_77 : decode cX10_layNew 77 = .ok (.ireturn, 1) := by decide +kernel
theorem dX10_layNow_0 : decode cX10_layNow 0 = .ok (.aload_n 0, 1) := by decide +kernel
theorem dX10_layNow_1 : decode cX10_layNow 1 = .ok (.aload_n 0, 1) := by decide +kernel
theorem dX10_layNow_2 : decode cX10_layNow 2 = .ok (.getfield 7, 3) := by decide +kernel
theorem dX10_layNow_5 : decode cX10_layNow 5 = .ok (.bipush 8, 2) := by decide +kernel
theorem dX10_layNow_7 : decode cX10_layNow 7 = .ok (.iaload, 1) := by decide +kernel
theorem dX10_layNow_8 : decode cX10_layNow 8 = .ok (.aload_n 0, 1) := by decide +kernel
theorem dX10_layNow_9 : decode cX10_layNow 9 = .ok (.getfield 7, 3) := by decide +kernel
theorem dX10_layNow_12 : decode cX10_layNow 12 = .ok (.bipush 9, 2) := by decide +kernel
theorem dX10_layNow_14 : decode cX10_layNow 14 = .ok (.iaload, 1) := by decide +kernel
theorem dX10_layNow_15 : decode cX10_layNow 15 = .ok (.invokevirtual 162, 3) := by decide +kernel
theorem dX10_layNow_18 : decode cX10_layNow 18 = .ok (.ireturn, 1) := by decide +kernel
theorem dX10_endOf_0 : decode cX10_endOf 0 = .ok (.iload_n 2, 1) := by decide +kernel
theorem dX10_endOf_1 : decode cX10_endOf 1 = .ok (.iconst 1, 1) := by decide +kernel
theorem dX10_endOf_2 : decode cX10_endOf 2 = .ok (.iadd, 1) := by decide +kernel
theorem dX10_endOf_3 : decode cX10_endOf 3 = .ok (.istore_n 3, 1) := by decide +kernel
theorem dX10_endOf_4 : decode cX10_endOf 4 = .ok (.iload_n 3, 1) := by decide +kernel
theorem dX10_endOf_5 : decode cX10_endOf 5 = .ok (.iload_n 1, 1) := by decide +kernel
theorem dX10_endOf_6 : decode cX10_endOf 6 = .ok (.if_icmp .ge 18, 3) := by decide +kernel
theorem dX10_endOf_9 : decode cX10_endOf 9 = .ok (.aload_n 0, 1) := by decide +kernel
theorem dX10_endOf_10 : decode cX10_endOf 10 = .ok (.iload_n 3, 1) := by decide +kernel
theorem dX10_endOf_11 : decode cX10_endOf 11 = .ok (.iaload, 1) := by decide +kernel
theorem dX10_endOf_12 : decode cX10_endOf 12 = .ok (.aload_n 0, 1) := by decide +kernel
theorem dX10_endOf_13 : decode cX10_endOf 13 = .ok (.iload_n 2, 1) := by decide +kernel
theorem dX10_endOf_14 : decode cX10_endOf 14 = .ok (.iaload, 1) := by decide +kernel
theorem dX10_endOf_15 : decode cX10_endOf 15 = .ok (.if_icmp .le 9, 3) := by decide +kernel
theorem dX10_endOf_18 : decode cX10_endOf 18 = .ok (.iinc 3 1, 3) := by decide +kernel
theorem dX10_endOf_21 : decode cX10_endOf 21 = .ok (.goto (-17), 3) := by decide +kernel
theorem dX10_endOf_24 : decode cX10_endOf 24 = .ok (.iload_n 3, 1) := by decide +kernel
theorem dX10_endOf_25 : decode cX10_endOf 25 = .ok (.ireturn, 1) := by decide +kernel
theorem dX10_isOld_0 : decode cX10_isOld 0 = .ok (.iconst 0, 1) := by decide +kernel
theorem dX10_isOld_1 : decode cX10_isOld 1 = .ok (.istore_n 2, 1) := by decide +kernel
theorem dX10_isOld_2 : decode cX10_isOld 2 = .ok (.iconst 0, 1) := by decide +kernel
theorem dX10_isOld_3 : decode cX10_isOld 3 = .ok (.istore_n 3, 1) := by decide +kernel
theorem dX10_isOld_4 : decode cX10_isOld 4 = .ok (.iload_n 3, 1) := by decide +kernel
theorem dX10_isOld_5 : decode cX10_isOld 5 = .ok (.bipush 8, 2) := by decide +kernel
theorem dX10_isOld_7 : decode cX10_isOld 7 = .ok (.if_icmp .ge 47, 3) := by decide +kernel
theorem dX10_isOld_10 : decode cX10_isOld 10 = .ok (.iload_n 2, 1) := by decide +kernel
theorem dX10_isOld_11 : decode cX10_isOld 11 = .ok (.ifCond .ne 31, 3) := by decide +kernel
theorem dX10_isOld_14 : decode cX10_isOld 14 = .ok (.aload_n 0, 1) := by decide +kernel
theorem dX10_isOld_15 : decode cX10_isOld 15 = .ok (.getfield 50, 3) := by decide +kernel
theorem dX10_isOld_18 : decode cX10_isOld 18 = .ok (.iload_n 1, 1) := by decide +kernel
theorem dX10_isOld_19 : decode cX10_isOld 19 = .ok (.iaload, 1) := by decide +kernel
theorem dX10_isOld_20 : decode cX10_isOld 20 = .ok (.iload_n 3, 1) := by decide +kernel
theorem dX10_isOld_21 : decode cX10_isOld 21 = .ok (.invokestatic 165, 3) := by decide +kernel
theorem dX10_isOld_24 : decode cX10_isOld 24 = .ok (.ifCond .eq 22, 3) := by decide +kernel
theorem dX10_isOld_27 : decode cX10_isOld 27 = .ok (.aload_n 0, 1) := by decide +kernel
theorem dX10_isOld_28 : decode cX10_isOld 28 = .ok (.getfield 59, 3) := by decide +kernel
theorem dX10_isOld_31 : decode cX10_isOld 31 = .ok (.iload_n 3, 1) := by decide +kernel
theorem dX10_isOld_32 : decode cX10_isOld 32 = .ok (.iaload, 1) := by decide +kernel
theorem dX10_isOld_33 : decode cX10_isOld 33 = .ok (.aload_n 0, 1) := by decide +kernel
theorem dX10_isOld_34 : decode cX10_isOld 34 = .ok (.getfield 7, 3) := by decide +kernel
theorem dX10_isOld_37 : decode cX10_isOld 37 = .ok (.iload_n 3, 1) := by decide +kernel
theorem dX10_isOld_38 : decode cX10_isOld 38 = .ok (.iaload, 1) := by decide +kernel
theorem dX10_isOld_39 : decode cX10_isOld 39 = .ok (.if_icmp .eq 7, 3) := by decide +kernel
theorem dX10_isOld_42 : decode cX10_isOld 42 = .ok (.iconst 1, 1) := by decide +kernel
theorem dX10_isOld_43 : decode cX10_isOld 43 = .ok (.goto 4, 3) := by decide +kernel
theorem dX10_isOld_46 : decode cX10_isOld 46 = .ok (.iconst 0, 1) := by decide +kernel
theorem dX10_isOld_47 : decode cX10_isOld 47 = .ok (.istore_n 2, 1) := by decide +kernel
theorem dX10_isOld_48 : decode cX10_isOld 48 = .ok (.iinc 3 1, 3) := by decide +kernel
theorem dX10_isOld_51 : decode cX10_isOld 51 = .ok (.goto (-47), 3) := by decide +kernel
theorem dX10_isOld_54 : decode cX10_isOld 54 = .ok (.iload_n 2, 1) := by decide +kernel
theorem dX10_isOld_55 : decode cX10_isOld 55 = .ok (.ireturn, 1) := by decide +kernel
theorem dX10_isDoneAnew_0 : decode cX10_isDoneAnew 0 = .ok (.aload_n 0, 1) := by decide +kernel
theorem dX10_isDoneAnew_1 : decode cX10_isDoneAnew 1 = .ok (.iload_n 1, 1) := by decide +kernel
theorem dX10_isDoneAnew_2 : decode cX10_isDoneAnew 2 = .ok (.invokevirtual 169, 3) := by decide +kernel
theorem dX10_isDoneAnew_5 : decode cX10_isDoneAnew 5 = .ok (.ifCond .eq 5, 3) := by decide +kernel
theorem dX10_isDoneAnew_8 : decode cX10_isDoneAnew 8 = .ok (.iconst 1, 1) := by decide +kernel
theorem dX10_isDoneAnew_9 : decode cX10_isDoneAnew 9 = .ok (.ireturn, 1) := by decide +kernel
theorem dX10_isDoneAnew_10 : decode cX10_isDoneAnew 10 = .ok (.aload_n 0, 1) := by decide +kernel
theorem dX10_isDoneAnew_11 : decode cX10_isDoneAnew 11 = .ok (.getfield 47, 3) := by decide +kernel
theorem dX10_isDoneAnew_14 : decode cX10_isDoneAnew 14 = .ok (.aload_n 0, 1) := by decide +kernel
theorem dX10_isDoneAnew_15 : decode cX10_isDoneAnew 15 = .ok (.getfield 173, 3) := by decide +kernel
theorem dX10_isDoneAnew_18 : decode cX10_isDoneAnew 18 = .ok (.iload_n 1, 1) := by decide +kernel
theorem dX10_isDoneAnew_19 : decode cX10_isDoneAnew 19 = .ok (.invokestatic 176, 3) := by decide +kernel
theorem dX10_isDoneAnew_22 : decode cX10_isDoneAnew 22 = .ok (.istore_n 3, 1) := by decide +kernel
theorem dX10_isDoneAnew_23 : decode cX10_isDoneAnew 23 = .ok (.aload_n 0, 1) := by decide +kernel
theorem dX10_isDoneAnew_24 : decode cX10_isDoneAnew 24 = .ok (.getfield 71, 3) := by decide +kernel
theorem dX10_isDoneAnew_27 : decode cX10_isDoneAnew 27 = .ok (.aload_n 0, 1) := by decide +kernel
theorem dX10_isDoneAnew_28 : decode cX10_isDoneAnew 28 = .ok (.getfield 118, 3) := by decide +kernel
theorem dX10_isDoneAnew_31 : decode cX10_isDoneAnew 31 = .ok (.iload_n 2, 1) := by decide +kernel
theorem dX10_isDoneAnew_32 : decode cX10_isDoneAnew 32 = .ok (.invokestatic 176, 3) := by decide +kernel
theorem dX10_isDoneAnew_35 : decode cX10_isDoneAnew 35 = .ok (.istore 4, 2) := by decide +kernel
theorem dX10_isDoneAnew_37 : decode cX10_isDoneAnew 37 = .ok (.iload_n 1, 1) := by decide +kernel
theorem dX10_isDoneAnew_38 : decode cX10_isDoneAnew 38 = .ok (.iconst 1, 1) := by decide +kernel
theorem dX10_isDoneAnew_39 : decode cX10_isDoneAnew 39 = .ok (.iadd, 1) := by decide +kernel
theorem dX10_isDoneAnew_40 : decode cX10_isDoneAnew 40 = .ok (.istore 5, 2) := by decide +kernel
theorem dX10_isDoneAnew_42 : decode cX10_isDoneAnew 42 = .ok (.iload_n 2, 1) := by decide +kernel
theorem dX10_isDoneAnew_43 : decode cX10_isDoneAnew 43 = .ok (.iconst 1, 1) := by decide +kernel
theorem dX10_isDoneAnew_44 : decode cX10_isDoneAnew 44 = .ok (.iadd, 1) := by decide +kernel
theorem dX10_isDoneAnew_45 : decode cX10_isDoneAnew 45 = .ok (.istore 6, 2) := by decide +kernel
theorem dX10_isDoneAnew_47 : decode cX10_isDoneAnew 47 = .ok (.iload 5, 2) := by decide +kernel
theorem dX10_isDoneAnew_49 : decode cX10_isDoneAnew 49 = .ok (.iload_n 3, 1) := by decide +kernel
theorem dX10_isDoneAnew_50 : decode cX10_isDoneAnew 50 = .ok (.if_icmp .ge 62, 3) := by decide +kernel
theorem dX10_isDoneAnew_53 : decode cX10_isDoneAnew 53 = .ok (.iload 6, 2) := by decide +kernel
theorem dX10_isDoneAnew_55 : decode cX10_isDoneAnew 55 = .ok (.iload 4, 2) := by decide +kernel
theorem dX10_isDoneAnew_57 : decode cX10_isDoneAnew 57 = .ok (.if_icmp .ge 55, 3) := by decide +kernel
theorem dX10_isDoneAnew_60 : decode cX10_isDoneAnew 60 = .ok (.aload_n 0, 1) := by decide +kernel
theorem dX10_isDoneAnew_61 : decode cX10_isDoneAnew 61 = .ok (.getfield 44, 3) := by decide +kernel
theorem dX10_isDoneAnew_64 : decode cX10_isDoneAnew 64 = .ok (.iload 5, 2) := by decide +kernel
theorem dX10_isDoneAnew_66 : decode cX10_isDoneAnew 66 = .ok (.iaload, 1) := by decide +kernel
theorem dX10_isDoneAnew_67 : decode cX10_isDoneAnew 67 = .ok (.aload_n 0, 1) := by decide +kernel
theorem dX10_isDoneAnew_68 : decode cX10_isDoneAnew 68 = .ok (.getfield 68, 3) := by decide +kernel
theorem dX10_isDoneAnew_71 : decode cX10_isDoneAnew 71 = .ok (.iload 6, 2) := by decide +kernel
theorem dX10_isDoneAnew_73 : decode cX10_isDoneAnew 73 = .ok (.iaload, 1) := by decide +kernel
theorem dX10_isDoneAnew_74 : decode cX10_isDoneAnew 74 = .ok (.if_icmp .eq 5, 3) := by decide +kernel
theorem dX10_isDoneAnew_77 : decode cX10_isDoneAnew 77 = .ok (.iconst 1, 1) := by decide +kernel
theorem dX10_isDoneAnew_78 : decode cX10_isDoneAnew 78 = .ok (.ireturn, 1) := by decide +kernel
theorem dX10_isDoneAnew_79 : decode cX10_isDoneAnew 79 = .ok (.aload_n 0, 1) := by decide +kernel
theorem dX10_isDoneAnew_80 : decode cX10_isDoneAnew 80 = .ok (.getfield 47, 3) := by decide +kernel
theorem dX10_isDoneAnew_83 : decode cX10_isDoneAnew 83 = .ok (.aload_n 0, 1) := by decide +kernel
theorem dX10_isDoneAnew_84 : decode cX10_isDoneAnew 84 = .ok (.getfield 173, 3) := by decide +kernel
theorem dX10_isDoneAnew_87 : decode cX10_isDoneAnew 87 = .ok (.iload 5, 2) := by decide +kernel
theorem dX10_isDoneAnew_89 : decode cX10_isDoneAnew 89 = .ok (.invokestatic 176, 3) := by decide +kernel
theorem dX10_isDoneAnew_92 : decode cX10_isDoneAnew 92 = .ok (.istore 5, 2) := by decide +kernel
theorem dX10_isDoneAnew_94 : decode cX10_isDoneAnew 94 = .ok (.aload_n 0, 1) := by decide +kernel
theorem dX10_isDoneAnew_95 : decode cX10_isDoneAnew 95 = .ok (.getfield 71, 3) := by decide +kernel
theorem dX10_isDoneAnew_98 : decode cX10_isDoneAnew 98 = .ok (.aload_n 0, 1) := by decide +kernel
theorem dX10_isDoneAnew_99 : decode cX10_isDoneAnew 99 = .ok (.getfield 118, 3) := by decide +kernel
theorem dX10_isDoneAnew_102 : decode cX10_isDoneAnew 102 = .ok (.iload 6, 2) := by decide +kernel
theorem dX10_isDoneAnew_104 : decode cX10_isDoneAnew 104 = .ok (.invokestatic 176, 3) := by decide +kernel
theorem dX10_isDoneAnew_107 : decode cX10_isDoneAnew 107 = .ok (.istore 6, 2) := by decide +kernel
theorem dX10_isDoneAnew_109 : decode cX10_isDoneAnew 109 = .ok (.goto (-62), 3) := by decide +kernel
theorem dX10_isDoneAnew_112 : decode cX10_isDoneAnew 112 = .ok (.iconst 0, 1) := by decide +kernel
theorem dX10_isDoneAnew_113 : decode cX10_isDoneAnew 113 = .ok (.ireturn, 1) := by decide +kernel
theorem dX10_matchParts_0 : decode cX10_matchParts 0 = .ok (.aload_n 0, 1) := by decide +kernel
theorem dX10_matchParts_1 : decode cX10_matchParts 1 = .ok (.getfield 47, 3) := by decide +kernel
theorem dX10_matchParts_4 : decode cX10_matchParts 4 = .ok (.aload_n 0, 1) := by decide +kernel
theorem dX10_matchParts_5 : decode cX10_matchParts 5 = .ok (.getfield 173, 3) := by decide +kernel
theorem dX10_matchParts_8 : decode cX10_matchParts 8 = .ok (.iload_n 1, 1) := by decide +kernel
theorem dX10_matchParts_9 : decode cX10_matchParts 9 = .ok (.invokestatic 176, 3) := by decide +kernel
theorem dX10_matchParts_12 : decode cX10_matchParts 12 = .ok (.istore_n 3, 1) := by decide +kernel
theorem dX10_matchParts_13 : decode cX10_matchParts 13 = .ok (.aload_n 0, 1) := by decide +kernel
theorem dX10_matchParts_14 : decode cX10_matchParts 14 = .ok (.getfield 71, 3) := by decide +kernel
theorem dX10_matchParts_17 : decode cX10_matchParts 17 = .ok (.aload_n 0, 1) := by decide +kernel
theorem dX10_matchParts_18 : decode cX10_matchParts 18 = .ok (.getfield 118, 3) := by decide +kernel
theorem dX10_matchParts_21 : decode cX10_matchParts 21 = .ok (.iload_n 2, 1) := by decide +kernel
theorem dX10_matchParts_22 : decode cX10_matchParts 22 = .ok (.invokestatic 176, 3) := by decide +kernel
theorem dX10_matchParts_25 : decode cX10_matchParts 25 = .ok (.istore 4, 2) := by decide +kernel
theorem dX10_matchParts_27 : decode cX10_matchParts 27 = .ok (.iload_n 1, 1) := by decide +kernel
theorem dX10_matchParts_28 : decode cX10_matchParts 28 = .ok (.iconst 1, 1) := by decide +kernel
theorem dX10_matchParts_29 : decode cX10_matchParts 29 = .ok (.iadd, 1) := by decide +kernel
theorem dX10_matchParts_30 : decode cX10_matchParts 30 = .ok (.istore 5, 2) := by decide +kernel
theorem dX10_matchParts_32 : decode cX10_matchParts 32 = .ok (.iload_n 2, 1) := by decide +kernel
theorem dX10_matchParts_33 : decode cX10_matchParts 33 = .ok (.iconst 1, 1) := by decide +kernel
theorem dX10_matchParts_34 : decode cX10_matchParts 34 = .ok (.iadd, 1) := by decide +kernel
theorem dX10_matchParts_35 : decode cX10_matchParts 35 = .ok (.istore 6, 2) := by decide +kernel
theorem dX10_matchParts_37 : decode cX10_matchParts 37 = .ok (.iload 6, 2) := by decide +kernel
theorem dX10_matchParts_39 : decode cX10_matchParts 39 = .ok (.iload 4, 2) := by decide +kernel
theorem dX10_matchParts_41 : decode cX10_matchParts 41 = .ok (.if_icmp .ge 113, 3) := by decide +kernel
theorem dX10_matchParts_44 : decode cX10_matchParts 44 = .ok (.iload 5, 2) := by decide +kernel
theorem dX10_matchParts_46 : decode cX10_matchParts 46 = .ok (.istore 7, 2) := by decide +kernel
theorem dX10_matchParts_48 : decode cX10_matchParts 48 = .ok (.iload 7, 2) := by decide +kernel
theorem dX10_matchParts_50 : decode cX10_matchParts 50 = .ok (.iload_n 3, 1) := by decide +kernel
theorem dX10_matchParts_51 : decode cX10_matchParts 51 = .ok (.if_icmp .ge 55, 3) := by decide +kernel
theorem dX10_matchParts_54 : decode cX10_matchParts 54 = .ok (.aload_n 0, 1) := by decide +kernel
theorem dX10_matchParts_55 : decode cX10_matchParts 55 = .ok (.getfield 38, 3) := by decide +kernel
theorem dX10_matchParts_58 : decode cX10_matchParts 58 = .ok (.iload 7, 2) := by decide +kernel
theorem dX10_matchParts_60 : decode cX10_matchParts 60 = .ok (.iaload, 1) := by decide +kernel
theorem dX10_matchParts_61 : decode cX10_matchParts 61 = .ok (.aload_n 0, 1) := by decide +kernel
theorem dX10_matchParts_62 : decode cX10_matchParts 62 = .ok (.getfield 62, 3) := by decide +kernel
theorem dX10_matchParts_65 : decode cX10_matchParts 65 = .ok (.iload 6, 2) := by decide +kernel
theorem dX10_matchParts_67 : decode cX10_matchParts 67 = .ok (.iaload, 1) := by decide +kernel
theorem dX10_matchParts_68 : decode cX10_matchParts 68 = .ok (.if_icmp .ne 20, 3) := by decide +kernel
theorem dX10_matchParts_71 : decode cX10_matchParts 71 = .ok (.aload_n 0, 1) := by decide +kernel
theorem dX10_matchParts_72 : decode cX10_matchParts 72 = .ok (.getfield 41, 3) := by decide +kernel
theorem dX10_matchParts_75 : decode cX10_matchParts 75 = .ok (.iload 7, 2) := by decide +kernel
theorem dX10_matchParts_77 : decode cX10_matchParts 77 = .ok (.iaload, 1) := by decide +kernel
theorem dX10_matchParts_78 : decode cX10_matchParts 78 = .ok (.aload_n 0, 1) := by decide +kernel
theorem dX10_matchParts_79 : decode cX10_matchParts 79 = .ok (.getfield 65, 3) := by decide +kernel
theorem dX10_matchParts_82 : decode cX10_matchParts 82 = .ok (.iload 6, 2) := by decide +kernel
theorem dX10_matchParts_84 : decode cX10_matchParts 84 = .ok (.iaload, 1) := by decide +kernel
theorem dX10_matchParts_85 : decode cX10_matchParts 85 = .ok (.if_icmp .eq 21, 3) := by decide +kernel
theorem dX10_matchParts_88 : decode cX10_matchParts 88 = .ok (.aload_n 0, 1) := by decide +kernel
theorem dX10_matchParts_89 : decode cX10_matchParts 89 = .ok (.getfield 47, 3) := by decide +kernel
theorem dX10_matchParts_92 : decode cX10_matchParts 92 = .ok (.aload_n 0, 1) := by decide +kernel
theorem dX10_matchParts_93 : decode cX10_matchParts 93 = .ok (.getfield 173, 3) := by decide +kernel
theorem dX10_matchParts_96 : decode cX10_matchParts 96 = .ok (.iload 7, 2) := by decide +kernel
theorem dX10_matchParts_98 : decode cX10_matchParts 98 = .ok (.invokestatic 176, 3) := by decide +kernel
theorem dX10_matchParts_101 : decode cX10_matchParts 101 = .ok (.istore 7, 2) := by decide +kernel
theorem dX10_matchParts_103 : decode cX10_matchParts 103 = .ok (.goto (-55), 3) := by decide +kernel
theorem dX10_matchParts_106 : decode cX10_matchParts 106 = .ok (.iload 7, 2) := by decide +kernel
theorem dX10_matchParts_108 : decode cX10_matchParts 108 = .ok (.iload_n 3, 1) := by decide +kernel
theorem dX10_matchParts_109 : decode cX10_matchParts 109 = .ok (.if_icmp .ge 27, 3) := by decide +kernel
theorem dX10_matchParts_112 : decode cX10_matchParts 112 = .ok (.aload_n 0, 1) := by decide +kernel
theorem dX10_matchParts_113 : decode cX10_matchParts 113 = .ok (.getfield 77, 3) := by decide +kernel
theorem dX10_matchParts_116 : decode cX10_matchParts 116 = .ok (.iload 6, 2) := by decide +kernel
theorem dX10_matchParts_118 : decode cX10_matchParts 118 = .ok (.iload 7, 2) := by decide +kernel
theorem dX10_matchParts_120 : decode cX10_matchParts 120 = .ok (.iastore, 1) := by decide +kernel
theorem dX10_matchParts_121 : decode cX10_matchParts 121 = .ok (.aload_n 0, 1) := by decide +kernel
theorem dX10_matchParts_122 : decode cX10_matchParts 122 = .ok (.getfield 47, 3) := by decide +kernel
theorem dX10_matchParts_125 : decode cX10_matchParts 125 = .ok (.aload_n 0, 1) := by decide +kernel
theorem dX10_matchParts_126 : decode cX10_matchParts 126 = .ok (.getfield 173, 3) := by decide +kernel
theorem dX10_matchParts_129 : decode cX10_matchParts 129 = .ok (.iload 7, 2) := by decide +kernel
theorem dX10_matchParts_131 : decode cX10_matchParts 131 = .ok (.invokestatic 176, 3) := by decide +kernel
theorem dX10_matchParts_134 : decode cX10_matchParts 134 = .ok (.istore 5, 2) := by decide +kernel
theorem dX10_matchParts_136 : decode cX10_matchParts 136 = .ok (.aload_n 0, 1) := by decide +kernel
theorem dX10_matchParts_137 : decode cX10_matchParts 137 = .ok (.getfield 71, 3) := by decide +kernel
theorem dX10_matchParts_140 : decode cX10_matchParts 140 = .ok (.aload_n 0, 1) := by decide +kernel
theorem dX10_matchParts_141 : decode cX10_matchParts 141 = .ok (.getfield 118, 3) := by decide +kernel
theorem dX10_matchParts_144 : decode cX10_matchParts 144 = .ok (.iload 6, 2) := by decide +kernel
theorem dX10_matchParts_146 : decode cX10_matchParts 146 = .ok (.invokestatic 176, 3) := by decide +kernel
theorem dX10_matchParts_149 : decode cX10_matchParts 149 = .ok (.istore 6, 2) := by decide +kernel
theorem dX10_matchParts_151 : decode cX10_matchParts 151 = .ok (.goto (-114), 3) := by decide +kernel
theorem dX10_matchParts_154 : decode cX10_matchParts 154 = .ok (.return_, 1) := by decide +kernel
theorem dX10_matchAll_0 : decode cX10_matchAll 0 = .ok (.iconst 0, 1) := by decide +kernel
theorem dX10_matchAll_1 : decode cX10_matchAll 1 = .ok (.istore_n 2, 1) := by decide +kernel
theorem dX10_matchAll_2 : decode cX10_matchAll 2 = .ok (.iload_n 2, 1) := by decide +kernel
theorem dX10_matchAll_3 : decode cX10_matchAll 3 = .ok (.aload_n 0, 1) := by decide +kernel
theorem dX10_matchAll_4 : decode cX10_matchAll 4 = .ok (.getfield 118, 3) := by decide +kernel
theorem dX10_matchAll_7 : decode cX10_matchAll 7 = .ok (.if_icmp .ge 16, 3) := by decide +kernel
theorem dX10_matchAll_10 : decode cX10_matchAll 10 = .ok (.aload_n 0, 1) := by decide +kernel
theorem dX10_matchAll_11 : decode cX10_matchAll 11 = .ok (.getfield 77, 3) := by decide +kernel
theorem dX10_matchAll_14 : decode cX10_matchAll 14 = .ok (.iload_n 2, 1) := by decide +kernel
theorem dX10_matchAll_15 : decode cX10_matchAll 15 = .ok (.iconst (-1), 1) := by decide +kernel
theorem dX10_matchAll_16 : decode cX10_matchAll 16 = .ok (.iastore, 1) := by decide +kernel
theorem dX10_matchAll_17 : decode cX10_matchAll 17 = .ok (.iinc 2 1, 3) := by decide +kernel
theorem dX10_matchAll_20 : decode cX10_matchAll 20 = .ok (.goto (-18), 3) := by decide +kernel
theorem dX10_matchAll_23 : decode cX10_matchAll 23 = .ok (.aload_n 0, 1) := by decide +kernel
theorem dX10_matchAll_24 : decode cX10_matchAll 24 = .ok (.getfield 77, 3) := by decide +kernel
theorem dX10_matchAll_27 : decode cX10_matchAll 27 = .ok (.iconst 0, 1) := by decide +kernel
theorem dX10_matchAll_28 : decode cX10_matchAll 28 = .ok (.iload_n 1, 1) := by decide +kernel
theorem dX10_matchAll_29 : decode cX10_matchAll 29 = .ok (.ifCond .eq 7, 3) := by decide +kernel
theorem dX10_matchAll_32 : decode cX10_matchAll 32 = .ok (.iconst 0, 1) := by decide +kernel
theorem dX10_matchAll_33 : decode cX10_matchAll 33 = .ok (.goto 4, 3) := by decide +kernel
theorem dX10_matchAll_36 : decode cX10_matchAll 36 = .ok (.iconst (-1), 1) := by decide +kernel
theorem dX10_matchAll_37 : decode cX10_matchAll 37 = .ok (.iastore, 1) := by decide +kernel
theorem dX10_matchAll_38 : decode cX10_matchAll 38 = .ok (.aload_n 0, 1) := by decide +kernel
theorem dX10_matchAll_39 : decode cX10_matchAll 39 = .ok (.iconst 0, 1) := by decide +kernel
theorem dX10_matchAll_40 : decode cX10_matchAll 40 = .ok (.putfield 180, 3) := by decide +kernel
theorem dX10_matchAll_43 : decode cX10_matchAll 43 = .ok (.aload_n 0, 1) := by decide +kernel
theorem dX10_matchAll_44 : decode cX10_matchAll 44 = .ok (.iconst 0, 1) := by decide +kernel
theorem dX10_matchAll_45 : decode cX10_matchAll 45 = .ok (.putfield 183, 3) := by decide +kernel
theorem dX10_matchAll_48 : decode cX10_matchAll 48 = .ok (.iconst 0, 1) := by decide +kernel
theorem dX10_matchAll_49 : decode cX10_matchAll 49 = .ok (.istore_n 2, 1) := by decide +kernel
theorem dX10_matchAll_50 : decode cX10_matchAll 50 = .ok (.iload_n 2, 1) := by decide +kernel
theorem dX10_matchAll_51 : decode cX10_matchAll 51 = .ok (.aload_n 0, 1) := by decide +kernel
theorem dX10_matchAll_52 : decode cX10_matchAll 52 = .ok (.getfield 118, 3) := by decide +kernel
theorem dX10_matchAll_55 : decode cX10_matchAll 55 = .ok (.if_icmp .ge 129, 3) := by decide +kernel
theorem dX10_matchAll_58 : decode cX10_matchAll 58 = .ok (.aload_n 0, 1) := by decide +kernel
theorem dX10_matchAll_59 : decode cX10_matchAll 59 = .ok (.getfield 77, 3) := by decide +kernel
theorem dX10_matchAll_62 : decode cX10_matchAll 62 = .ok (.iload_n 2, 1) := by decide +kernel
theorem dX10_matchAll_63 : decode cX10_matchAll 63 = .ok (.iaload, 1) := by decide +kernel
theorem dX10_matchAll_64 : decode cX10_matchAll 64 = .ok (.istore_n 3, 1) := by decide +kernel
theorem dX10_matchAll_65 : decode cX10_matchAll 65 = .ok (.iload_n 3, 1) := by decide +kernel
theorem dX10_matchAll_66 : decode cX10_matchAll 66 = .ok (.iconst (-1), 1) := by decide +kernel
theorem dX10_matchAll_67 : decode cX10_matchAll 67 = .ok (.if_icmp .ne 43, 3) := by decide +kernel
theorem dX10_matchAll_70 : decode cX10_matchAll 70 = .ok (.aload_n 0, 1) := by decide +kernel
theorem dX10_matchAll_71 : decode cX10_matchAll 71 = .ok (.getfield 80, 3) := by decide +kernel
theorem dX10_matchAll_74 : decode cX10_matchAll 74 = .ok (.iload_n 2, 1) := by decide +kernel
theorem dX10_matchAll_75 : decode cX10_matchAll 75 = .ok (.aload_n 0, 1) := by decide +kernel
theorem dX10_matchAll_76 : decode cX10_matchAll 76 = .ok (.getfield 186, 3) := by decide +kernel
theorem dX10_matchAll_79 : decode cX10_matchAll 79 = .ok (.iastore, 1) := by decide +kernel
theorem dX10_matchAll_80 : decode cX10_matchAll 80 = .ok (.aload_n 0, 1) := by decide +kernel
theorem dX10_matchAll_81 : decode cX10_matchAll 81 = .ok (.getfield 83, 3) := by decide +kernel
theorem dX10_matchAll_84 : decode cX10_matchAll 84 = .ok (.iload_n 2, 1) := by decide +kernel
theorem dX10_matchAll_85 : decode cX10_matchAll 85 = .ok (.iconst 1, 1) := by decide +kernel
theorem dX10_matchAll_86 : decode cX10_matchAll 86 = .ok (.iastore, 1) := by decide +kernel
theorem dX10_matchAll_87 : decode cX10_matchAll 87 = .ok (.aload_n 0, 1) := by decide +kernel
theorem dX10_matchAll_88 : decode cX10_matchAll 88 = .ok (.dup, 1) := by decide +kernel
theorem dX10_matchAll_89 : decode cX10_matchAll 89 = .ok (.getfield 186, 3) := by decide +kernel
theorem dX10_matchAll_92 : decode cX10_matchAll 92 = .ok (.iconst 1, 1) := by decide +kernel
theorem dX10_matchAll_93 : decode cX10_matchAll 93 = .ok (.iadd, 1) := by decide +kernel
theorem dX10_matchAll_94 : decode cX10_matchAll 94 = .ok (.putfield 186, 3) := by decide +kernel
theorem dX10_matchAll_97 : decode cX10_matchAll 97 = .ok (.aload_n 0, 1) := by decide +kernel
theorem dX10_matchAll_98 : decode cX10_matchAll 98 = .ok (.dup, 1) := by decide +kernel
theorem dX10_matchAll_99 : decode cX10_matchAll 99 = .ok (.getfield 180, 3) := by decide +kernel
theorem dX10_matchAll_102 : decode cX10_matchAll 102 = .ok (.iconst 1, 1) := by decide +kernel
theorem dX10_matchAll_103 : decode cX10_matchAll 103 = .ok (.iadd, 1) := by decide +kernel
theorem dX10_matchAll_104 : decode cX10_matchAll 104 = .ok (.putfield 180, 3) := by decide +kernel
theorem dX10_matchAll_107 : decode cX10_matchAll 107 = .ok (.goto 71, 3) := by decide +kernel
theorem dX10_matchAll_110 : decode cX10_matchAll 110 = .ok (.aload_n 0, 1) := by decide +kernel
theorem dX10_matchAll_111 : decode cX10_matchAll 111 = .ok (.iload_n 3, 1) := by decide +kernel
theorem dX10_matchAll_112 : decode cX10_matchAll 112 = .ok (.iload_n 2, 1) := by decide +kernel
theorem dX10_matchAll_113 : decode cX10_matchAll 113 = .ok (.invokevirtual 189, 3) := by decide +kernel
theorem dX10_matchAll_116 : decode cX10_matchAll 116 = .ok (.istore 4, 2) := by decide +kernel
theorem dX10_matchAll_118 : decode cX10_matchAll 118 = .ok (.aload_n 0, 1) := by decide +kernel
theorem dX10_matchAll_119 : decode cX10_matchAll 119 = .ok (.getfield 80, 3) := by decide +kernel
theorem dX10_matchAll_122 : decode cX10_matchAll 122 = .ok (.iload_n 2, 1) := by decide +kernel
theorem dX10_matchAll_123 : decode cX10_matchAll 123 = .ok (.aload_n 0, 1) := by decide +kernel
theorem dX10_matchAll_124 : decode cX10_matchAll 124 = .ok (.getfield 53, 3) := by decide +kernel
theorem dX10_matchAll_127 : decode cX10_matchAll 127 = .ok (.iload_n 3, 1) := by decide +kernel
theorem dX10_matchAll_128 : decode cX10_matchAll 128 = .ok (.iaload, 1) := by decide +kernel
theorem dX10_matchAll_129 : decode cX10_matchAll 129 = .ok (.iastore, 1) := by decide +kernel
theorem dX10_matchAll_130 : decode cX10_matchAll 130 = .ok (.aload_n 0, 1) := by decide +kernel
theorem dX10_matchAll_131 : decode cX10_matchAll 131 = .ok (.getfield 83, 3) := by decide +kernel
theorem dX10_matchAll_134 : decode cX10_matchAll 134 = .ok (.iload_n 2, 1) := by decide +kernel
theorem dX10_matchAll_135 : decode cX10_matchAll 135 = .ok (.aload_n 0, 1) := by decide +kernel
theorem dX10_matchAll_136 : decode cX10_matchAll 136 = .ok (.getfield 56, 3) := by decide +kernel
theorem dX10_matchAll_139 : decode cX10_matchAll 139 = .ok (.iload_n 3, 1) := by decide +kernel
theorem dX10_matchAll_140 : decode cX10_matchAll 140 = .ok (.iaload, 1) := by decide +kernel
theorem dX10_matchAll_141 : decode cX10_matchAll 141 = .ok (.iload 4, 2) := by decide +kernel
theorem dX10_matchAll_143 : decode cX10_matchAll 143 = .ok (.ifCond .eq 7, 3) := by decide +kernel
theorem dX10_matchAll_146 : decode cX10_matchAll 146 = .ok (.iconst 1, 1) := by decide +kernel
theorem dX10_matchAll_147 : decode cX10_matchAll 147 = .ok (.goto 4, 3) := by decide +kernel
theorem dX10_matchAll_150 : decode cX10_matchAll 150 = .ok (.iconst 0, 1) := by decide +kernel
theorem dX10_matchAll_151 : decode cX10_matchAll 151 = .ok (.iadd, 1) := by decide +kernel
theorem dX10_matchAll_152 : decode cX10_matchAll 152 = .ok (.iastore, 1) := by decide +kernel
theorem dX10_matchAll_153 : decode cX10_matchAll 153 = .ok (.aload_n 0, 1) := by decide +kernel
theorem dX10_matchAll_154 : decode cX10_matchAll 154 = .ok (.dup, 1) := by decide +kernel
theorem dX10_matchAll_155 : decode cX10_matchAll 155 = .ok (.getfield 183, 3) := by decide +kernel
theorem dX10_matchAll_158 : decode cX10_matchAll 158 = .ok (.iload 4, 2) := by decide +kernel
theorem dX10_matchAll_160 : decode cX10_matchAll 160 = .ok (.ifCond .eq 7, 3) := by decide +kernel
theorem dX10_matchAll_163 : decode cX10_matchAll 163 = .ok (.iconst 1, 1) := by decide +kernel
theorem dX10_matchAll_164 : decode cX10_matchAll 164 = .ok (.goto 4, 3) := by decide +kernel
theorem dX10_matchAll_167 : decode cX10_matchAll 167 = .ok (.iconst 0, 1) := by decide +kernel
theorem dX10_matchAll_168 : decode cX10_matchAll 168 = .ok (.iadd, 1) := by decide +kernel
theorem dX10_matchAll_169 : decode cX10_matchAll 169 = .ok (.putfield 183, 3) := by decide +kernel
theorem dX10_matchAll_172 : decode cX10_matchAll 172 = .ok (.aload_n 0, 1) := by decide +kernel
theorem dX10_matchAll_173 : decode cX10_matchAll 173 = .ok (.iload_n 3, 1) := by decide +kernel
theorem dX10_matchAll_174 : decode cX10_matchAll 174 = .ok (.iload_n 2, 1) := by decide +kernel
theorem dX10_matchAll_175 : decode cX10_matchAll 175 = .ok (.invokevirtual 192, 3) := by decide +kernel
theorem dX10_matchAll_178 : decode cX10_matchAll 178 = .ok (.iinc 2 1, 3) := by decide +kernel
theorem dX10_matchAll_181 : decode cX10_matchAll 181 = .ok (.goto (-131), 3) := by decide +kernel
theorem dX10_matchAll_184 : decode cX10_matchAll 184 = .ok (.aload_n 0, 1) := by decide +kernel
theorem dX10_matchAll_185 : decode cX10_matchAll 185 = .ok (.aload_n 0, 1) := by decide +kernel
theorem dX10_matchAll_186 : decode cX10_matchAll 186 = .ok (.getfield 173, 3) := by decide +kernel
theorem dX10_matchAll_189 : decode cX10_matchAll 189 = .ok (.aload_n 0, 1) := by decide +kernel
theorem dX10_matchAll_190 : decode cX10_matchAll 190 = .ok (.getfield 118, 3) := by decide +kernel
theorem dX10_matchAll_193 : decode cX10_matchAll 193 = .ok (.aload_n 0, 1) := by decide +kernel
theorem dX10_matchAll_194 : decode cX10_matchAll 194 = .ok (.getfield 180, 3) := by decide +kernel

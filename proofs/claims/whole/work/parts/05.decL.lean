-- decode rows
theorem d_L_set_0 : decode b_L_set 0 = .ok (.aload_n 0, 1) := by decide +kernel
theorem d_L_set_1 : decode b_L_set 1 = .ok (.iload_n 1, 1) := by decide +kernel
theorem d_L_set_2 : decode b_L_set 2 = .ok (.lload_n 2, 1) := by decide +kernel
theorem d_L_set_3 : decode b_L_set 3 = .ok (.lload 4, 2) := by decide +kernel
theorem d_L_set_5 : decode b_L_set 5 = .ok (.lload 6, 2) := by decide +kernel
theorem d_L_set_7 : decode b_L_set 7 = .ok (.lload 8, 2) := by decide +kernel
theorem d_L_set_9 : decode b_L_set 9 = .ok (.invokevirtual 7, 3) := by decide +kernel
theorem d_L_set_12 : decode b_L_set 12 = .ok (.goto 7, 3) := by decide +kernel
theorem d_L_set_15 : decode b_L_set 15 = .ok (.astore 10, 2) := by decide +kernel
theorem d_L_set_17 : decode b_L_set 17 = .ok (.iconst 1, 1) := by decide +kernel
theorem d_L_set_18 : decode b_L_set 18 = .ok (.ireturn, 1) := by decide +kernel
theorem d_L_set_19 : decode b_L_set 19 = .ok (.iconst 0, 1) := by decide +kernel
theorem d_L_set_20 : decode b_L_set 20 = .ok (.ireturn, 1) := by decide +kernel
theorem d_L_get_0 : decode b_L_get 0 = .ok (.aload_n 3, 1) := by decide +kernel
theorem d_L_get_1 : decode b_L_get 1 = .ok (.iconst 0, 1) := by decide +kernel
theorem d_L_get_2 : decode b_L_get 2 = .ok (.aload_n 0, 1) := by decide +kernel
theorem d_L_get_3 : decode b_L_get 3 = .ok (.iload_n 1, 1) := by decide +kernel
theorem d_L_get_4 : decode b_L_get 4 = .ok (.iload_n 2, 1) := by decide +kernel
theorem d_L_get_5 : decode b_L_get 5 = .ok (.invokevirtual 15, 3) := by decide +kernel
theorem d_L_get_8 : decode b_L_get 8 = .ok (.lastore, 1) := by decide +kernel
theorem d_L_get_9 : decode b_L_get 9 = .ok (.goto 7, 3) := by decide +kernel
theorem d_L_get_12 : decode b_L_get 12 = .ok (.astore 4, 2) := by decide +kernel
theorem d_L_get_14 : decode b_L_get 14 = .ok (.iconst 1, 1) := by decide +kernel
theorem d_L_get_15 : decode b_L_get 15 = .ok (.ireturn, 1) := by decide +kernel
theorem d_L_get_16 : decode b_L_get 16 = .ok (.iconst 0, 1) := by decide +kernel
theorem d_L_get_17 : decode b_L_get 17 = .ok (.ireturn, 1) := by decide +kernel
theorem d_L_two_0 : decode b_L_two 0 = .ok (.aload_n 0, 1) := by decide +kernel
theorem d_L_two_1 : decode b_L_two 1 = .ok (.iload_n 1, 1) := by decide +kernel
theorem d_L_two_2 : decode b_L_two 2 = .ok (.iload_n 2, 1) := by decide +kernel
theorem d_L_two_3 : decode b_L_two 3 = .ok (.iload_n 3, 1) := by decide +kernel
theorem d_L_two_4 : decode b_L_two 4 = .ok (.iload 4, 2) := by decide +kernel
theorem d_L_two_6 : decode b_L_two 6 = .ok (.invokevirtual 19, 3) := by decide +kernel
theorem d_L_two_9 : decode b_L_two 9 = .ok (.goto 7, 3) := by decide +kernel
theorem d_L_two_12 : decode b_L_two 12 = .ok (.astore 5, 2) := by decide +kernel
theorem d_L_two_14 : decode b_L_two 14 = .ok (.iconst 1, 1) := by decide +kernel
theorem d_L_two_15 : decode b_L_two 15 = .ok (.ireturn, 1) := by decide +kernel
theorem d_L_two_16 : decode b_L_two 16 = .ok (.iconst 0, 1) := by decide +kernel
theorem d_L_two_17 : decode b_L_two 17 = .ok (.ireturn, 1) := by decide +kernel
theorem d_L_modular_0 : decode b_L_modular 0 = .ok (.aload_n 0, 1) := by decide +kernel
theorem d_L_modular_1 : decode b_L_modular 1 = .ok (.iload_n 1, 1) := by decide +kernel
theorem d_L_modular_2 : decode b_L_modular 2 = .ok (.iload_n 2, 1) := by decide +kernel
theorem d_L_modular_3 : decode b_L_modular 3 = .ok (.iload_n 3, 1) := by decide +kernel
theorem d_L_modular_4 : decode b_L_modular 4 = .ok (.iload 4, 2) := by decide +kernel
theorem d_L_modular_6 : decode b_L_modular 6 = .ok (.iload 5, 2) := by decide +kernel
theorem d_L_modular_8 : decode b_L_modular 8 = .ok (.invokevirtual 23, 3) := by decide +kernel
theorem d_L_modular_11 : decode b_L_modular 11 = .ok (.goto 7, 3) := by decide +kernel
theorem d_L_modular_14 : decode b_L_modular 14 = .ok (.astore 6, 2) := by decide +kernel
theorem d_L_modular_16 : decode b_L_modular 16 = .ok (.iconst 1, 1) := by decide +kernel
theorem d_L_modular_17 : decode b_L_modular 17 = .ok (.ireturn, 1) := by decide +kernel
theorem d_L_modular_18 : decode b_L_modular 18 = .ok (.iconst 0, 1) := by decide +kernel
theorem d_L_modular_19 : decode b_L_modular 19 = .ok (.ireturn, 1) := by decide +kernel
theorem d_L_turn_0 : decode b_L_turn 0 = .ok (.aload_n 0, 1) := by decide +kernel
theorem d_L_turn_1 : decode b_L_turn 1 = .ok (.iload_n 1, 1) := by decide +kernel
theorem d_L_turn_2 : decode b_L_turn 2 = .ok (.iload_n 2, 1) := by decide +kernel
theorem d_L_turn_3 : decode b_L_turn 3 = .ok (.iload_n 3, 1) := by decide +kernel
theorem d_L_turn_4 : decode b_L_turn 4 = .ok (.invokevirtual 27, 3) := by decide +kernel
theorem d_L_turn_7 : decode b_L_turn 7 = .ok (.goto 7, 3) := by decide +kernel
theorem d_L_turn_10 : decode b_L_turn 10 = .ok (.astore 4, 2) := by decide +kernel
theorem d_L_turn_12 : decode b_L_turn 12 = .ok (.iconst 1, 1) := by decide +kernel
theorem d_L_turn_13 : decode b_L_turn 13 = .ok (.ireturn, 1) := by decide +kernel
theorem d_L_turn_14 : decode b_L_turn 14 = .ok (.iconst 0, 1) := by decide +kernel
theorem d_L_turn_15 : decode b_L_turn 15 = .ok (.ireturn, 1) := by decide +kernel
theorem d_L_compare_0 : decode b_L_compare 0 = .ok (.aload 4, 2) := by decide +kernel
theorem d_L_compare_2 : decode b_L_compare 2 = .ok (.iconst 0, 1) := by decide +kernel
theorem d_L_compare_3 : decode b_L_compare 3 = .ok (.aload_n 0, 1) := by decide +kernel
theorem d_L_compare_4 : decode b_L_compare 4 = .ok (.iload_n 1, 1) := by decide +kernel
theorem d_L_compare_5 : decode b_L_compare 5 = .ok (.iload_n 2, 1) := by decide +kernel
theorem d_L_compare_6 : decode b_L_compare 6 = .ok (.iload_n 3, 1) := by decide +kernel
theorem d_L_compare_7 : decode b_L_compare 7 = .ok (.invokevirtual 31, 3) := by decide +kernel
theorem d_L_compare_10 : decode b_L_compare 10 = .ok (.i2l, 1) := by decide +kernel
theorem d_L_compare_11 : decode b_L_compare 11 = .ok (.lastore, 1) := by decide +kernel
theorem d_L_compare_12 : decode b_L_compare 12 = .ok (.goto 7, 3) := by decide +kernel
theorem d_L_compare_15 : decode b_L_compare 15 = .ok (.astore 5, 2) := by decide +kernel
theorem d_L_compare_17 : decode b_L_compare 17 = .ok (.iconst 1, 1) := by decide +kernel
theorem d_L_compare_18 : decode b_L_compare 18 = .ok (.ireturn, 1) := by decide +kernel
theorem d_L_compare_19 : decode b_L_compare 19 = .ok (.iconst 0, 1) := by decide +kernel
theorem d_L_compare_20 : decode b_L_compare 20 = .ok (.ireturn, 1) := by decide +kernel
theorem d_L_bytes_0 : decode b_L_bytes 0 = .ok (.aload_n 2, 1) := by decide +kernel
theorem d_L_bytes_1 : decode b_L_bytes 1 = .ok (.iconst 0, 1) := by decide +kernel
theorem d_L_bytes_2 : decode b_L_bytes 2 = .ok (.aload_n 0, 1) := by decide +kernel
theorem d_L_bytes_3 : decode b_L_bytes 3 = .ok (.iload_n 1, 1) := by decide +kernel
theorem d_L_bytes_4 : decode b_L_bytes 4 = .ok (.invokevirtual 35, 3) := by decide +kernel
theorem d_L_bytes_7 : decode b_L_bytes 7 = .ok (.i2l, 1) := by decide +kernel
theorem d_L_bytes_8 : decode b_L_bytes 8 = .ok (.lastore, 1) := by decide +kernel
theorem d_L_bytes_9 : decode b_L_bytes 9 = .ok (.goto 6, 3) := by decide +kernel
theorem d_L_bytes_12 : decode b_L_bytes 12 = .ok (.astore_n 3, 1) := by decide +kernel
theorem d_L_bytes_13 : decode b_L_bytes 13 = .ok (.iconst 1, 1) := by decide +kernel
theorem d_L_bytes_14 : decode b_L_bytes 14 = .ok (.ireturn, 1) := by decide +kernel
theorem d_L_bytes_15 : decode b_L_bytes 15 = .ok (.iconst 0, 1) := by decide +kernel
theorem d_L_bytes_16 : decode b_L_bytes 16 = .ok (.ireturn, 1) := by decide +kernel
theorem d_L_law_0 : decode b_L_law 0 = .ok (.new 8, 3) := by decide +kernel
theorem d_L_law_3 : decode b_L_law 3 = .ok (.dup, 1) := by decide +kernel
theorem d_L_law_4 : decode b_L_law 4 = .ok (.invokespecial 39, 3) := by decide +kernel
theorem d_L_law_7 : decode b_L_law 7 = .ok (.astore_n 1, 1) := by decide +kernel
theorem d_L_law_8 : decode b_L_law 8 = .ok (.new 40, 3) := by decide +kernel
theorem d_L_law_11 : decode b_L_law 11 = .ok (.dup, 1) := by decide +kernel
theorem d_L_law_12 : decode b_L_law 12 = .ok (.invokespecial 42, 3) := by decide +kernel
theorem d_L_law_15 : decode b_L_law 15 = .ok (.astore_n 2, 1) := by decide +kernel
theorem d_L_law_16 : decode b_L_law 16 = .ok (.iconst 1, 1) := by decide +kernel
theorem d_L_law_17 : decode b_L_law 17 = .ok (.newarray .long, 2) := by decide +kernel
theorem d_L_law_19 : decode b_L_law 19 = .ok (.astore_n 3, 1) := by decide +kernel
theorem d_L_law_20 : decode b_L_law 20 = .ok (.iconst 0, 1) := by decide +kernel
theorem d_L_law_21 : decode b_L_law 21 = .ok (.istore 4, 2) := by decide +kernel
theorem d_L_law_23 : decode b_L_law 23 = .ok (.iload 4, 2) := by decide +kernel
theorem d_L_law_25 : decode b_L_law 25 = .ok (.aload_n 0, 1) := by decide +kernel
theorem d_L_law_26 : decode b_L_law 26 = .ok (.arraylength, 1) := by decide +kernel
theorem d_L_law_27 : decode b_L_law 27 = .ok (.bipush 10, 2) := by decide +kernel
theorem d_L_law_29 : decode b_L_law 29 = .ok (.isub, 1) := by decide +kernel
theorem d_L_law_30 : decode b_L_law 30 = .ok (.if_icmp .gt 747, 3) := by decide +kernel
theorem d_L_law_33 : decode b_L_law 33 = .ok (.aload_n 0, 1) := by decide +kernel
theorem d_L_law_34 : decode b_L_law 34 = .ok (.iload 4, 2) := by decide +kernel
theorem d_L_law_36 : decode b_L_law 36 = .ok (.iaload, 1) := by decide +kernel
theorem d_L_law_37 : decode b_L_law 37 = .ok (.bipush 7, 2) := by decide +kernel
theorem d_L_law_39 : decode b_L_law 39 = .ok (.iand, 1) := by decide +kernel
theorem d_L_law_40 : decode b_L_law 40 = .ok (.tableswitch 731 0 6 #[44, 264, 331, 403, 503, 579, 675], 44) := by decide +kernel
theorem d_L_law_84 : decode b_L_law 84 = .ok (.aload_n 1, 1) := by decide +kernel
theorem d_L_law_85 : decode b_L_law 85 = .ok (.aload_n 0, 1) := by decide +kernel
theorem d_L_law_86 : decode b_L_law 86 = .ok (.iload 4, 2) := by decide +kernel
theorem d_L_law_88 : decode b_L_law 88 = .ok (.iconst 1, 1) := by decide +kernel
theorem d_L_law_89 : decode b_L_law 89 = .ok (.iadd, 1) := by decide +kernel
theorem d_L_law_90 : decode b_L_law 90 = .ok (.iaload, 1) := by decide +kernel
theorem d_L_law_91 : decode b_L_law 91 = .ok (.aload_n 0, 1) := by decide +kernel
theorem d_L_law_92 : decode b_L_law 92 = .ok (.iload 4, 2) := by decide +kernel
theorem d_L_law_94 : decode b_L_law 94 = .ok (.iconst 2, 1) := by decide +kernel
theorem d_L_law_95 : decode b_L_law 95 = .ok (.iadd, 1) := by decide +kernel
theorem d_L_law_96 : decode b_L_law 96 = .ok (.iaload, 1) := by decide +kernel
theorem d_L_law_97 : decode b_L_law 97 = .ok (.i2l, 1) := by decide +kernel
theorem d_L_law_98 : decode b_L_law 98 = .ok (.bipush 32, 2) := by decide +kernel
theorem d_L_law_100 : decode b_L_law 100 = .ok (.lshl, 1) := by decide +kernel
theorem d_L_law_101 : decode b_L_law 101 = .ok (.aload_n 0, 1) := by decide +kernel
theorem d_L_law_102 : decode b_L_law 102 = .ok (.iload 4, 2) := by decide +kernel
theorem d_L_law_104 : decode b_L_law 104 = .ok (.iconst 3, 1) := by decide +kernel
theorem d_L_law_105 : decode b_L_law 105 = .ok (.iadd, 1) := by decide +kernel
theorem d_L_law_106 : decode b_L_law 106 = .ok (.iaload, 1) := by decide +kernel
theorem d_L_law_107 : decode b_L_law 107 = .ok (.i2l, 1) := by decide +kernel
theorem d_L_law_108 : decode b_L_law 108 = .ok (.ldc2_w 43, 3) := by decide +kernel
theorem d_L_law_111 : decode b_L_law 111 = .ok (.land, 1) := by decide +kernel
theorem d_L_law_112 : decode b_L_law 112 = .ok (.lor, 1) := by decide +kernel
theorem d_L_law_113 : decode b_L_law 113 = .ok (.aload_n 0, 1) := by decide +kernel
theorem d_L_law_114 : decode b_L_law 114 = .ok (.iload 4, 2) := by decide +kernel
theorem d_L_law_116 : decode b_L_law 116 = .ok (.iconst 4, 1) := by decide +kernel
theorem d_L_law_117 : decode b_L_law 117 = .ok (.iadd, 1) := by decide +kernel
theorem d_L_law_118 : decode b_L_law 118 = .ok (.iaload, 1) := by decide +kernel
theorem d_L_law_119 : decode b_L_law 119 = .ok (.i2l, 1) := by decide +kernel
theorem d_L_law_120 : decode b_L_law 120 = .ok (.bipush 32, 2) := by decide +kernel
theorem d_L_law_122 : decode b_L_law 122 = .ok (.lshl, 1) := by decide +kernel
theorem d_L_law_123 : decode b_L_law 123 = .ok (.aload_n 0, 1) := by decide +kernel
theorem d_L_law_124 : decode b_L_law 124 = .ok (.iload 4, 2) := by decide +kernel
theorem d_L_law_126 : decode b_L_law 126 = .ok (.iconst 5, 1) := by decide +kernel
theorem d_L_law_127 : decode b_L_law 127 = .ok (.iadd, 1) := by decide +kernel
theorem d_L_law_128 : decode b_L_law 128 = .ok (.iaload, 1) := by decide +kernel
theorem d_L_law_129 : decode b_L_law 129 = .ok (.i2l, 1) := by decide +kernel
theorem d_L_law_130 : decode b_L_law 130 = .ok (.ldc2_w 43, 3) := by decide +kernel
theorem d_L_law_133 : decode b_L_law 133 = .ok (.land, 1) := by decide +kernel
theorem d_L_law_134 : decode b_L_law 134 = .ok (.lor, 1) := by decide +kernel
theorem d_L_law_135 : decode b_L_law 135 = .ok (.aload_n 0, 1) := by decide +kernel
theorem d_L_law_136 : decode b_L_law 136 = .ok (.iload 4, 2) := by decide +kernel
theorem d_L_law_138 : decode b_L_law 138 = .ok (.bipush 6, 2) := by decide +kernel
theorem d_L_law_140 : decode b_L_law 140 = .ok (.iadd, 1) := by decide +kernel
theorem d_L_law_141 : decode b_L_law 141 = .ok (.iaload, 1) := by decide +kernel
theorem d_L_law_142 : decode b_L_law 142 = .ok (.i2l, 1) := by decide +kernel
theorem d_L_law_143 : decode b_L_law 143 = .ok (.bipush 32, 2) := by decide +kernel
theorem d_L_law_145 : decode b_L_law 145 = .ok (.lshl, 1) := by decide +kernel
theorem d_L_law_146 : decode b_L_law 146 = .ok (.aload_n 0, 1) := by decide +kernel
theorem d_L_law_147 : decode b_L_law 147 = .ok (.iload 4, 2) := by decide +kernel
theorem d_L_law_149 : decode b_L_law 149 = .ok (.bipush 7, 2) := by decide +kernel
theorem d_L_law_151 : decode b_L_law 151 = .ok (.iadd, 1) := by decide +kernel
theorem d_L_law_152 : decode b_L_law 152 = .ok (.iaload, 1) := by decide +kernel
theorem d_L_law_153 : decode b_L_law 153 = .ok (.i2l, 1) := by decide +kernel
theorem d_L_law_154 : decode b_L_law 154 = .ok (.ldc2_w 43, 3) := by decide +kernel
theorem d_L_law_157 : decode b_L_law 157 = .ok (.land, 1) := by decide +kernel
theorem d_L_law_158 : decode b_L_law 158 = .ok (.lor, 1) := by decide +kernel
theorem d_L_law_159 : decode b_L_law 159 = .ok (.aload_n 0, 1) := by decide +kernel
theorem d_L_law_160 : decode b_L_law 160 = .ok (.iload 4, 2) := by decide +kernel
theorem d_L_law_162 : decode b_L_law 162 = .ok (.bipush 8, 2) := by decide +kernel
theorem d_L_law_164 : decode b_L_law 164 = .ok (.iadd, 1) := by decide +kernel
theorem d_L_law_165 : decode b_L_law 165 = .ok (.iaload, 1) := by decide +kernel
theorem d_L_law_166 : decode b_L_law 166 = .ok (.i2l, 1) := by decide +kernel
theorem d_L_law_167 : decode b_L_law 167 = .ok (.bipush 32, 2) := by decide +kernel
theorem d_L_law_169 : decode b_L_law 169 = .ok (.lshl, 1) := by decide +kernel
theorem d_L_law_170 : decode b_L_law 170 = .ok (.aload_n 0, 1) := by decide +kernel
theorem d_L_law_171 : decode b_L_law 171 = .ok (.iload 4, 2) := by decide +kernel
theorem d_L_law_173 : decode b_L_law 173 = .ok (.bipush 9, 2) := by decide +kernel
theorem d_L_law_175 : decode b_L_law 175 = .ok (.iadd, 1) := by decide +kernel
theorem d_L_law_176 : decode b_L_law 176 = .ok (.iaload, 1) := by decide +kernel
theorem d_L_law_177 : decode b_L_law 177 = .ok (.i2l, 1) := by decide +kernel
theorem d_L_law_178 : decode b_L_law 178 = .ok (.ldc2_w 43, 3) := by decide +kernel
theorem d_L_law_181 : decode b_L_law 181 = .ok (.land, 1) := by decide +kernel
theorem d_L_law_182 : decode b_L_law 182 = .ok (.lor, 1) := by decide +kernel
theorem d_L_law_183 : decode b_L_law 183 = .ok (.invokestatic 45, 3) := by decide +kernel
theorem d_L_law_186 : decode b_L_law 186 = .ok (.istore 5, 2) := by decide +kernel
theorem d_L_law_188 : decode b_L_law 188 = .ok (.aload_n 2, 1) := by decide +kernel
theorem d_L_law_189 : decode b_L_law 189 = .ok (.aload_n 0, 1) := by decide +kernel
theorem d_L_law_190 : decode b_L_law 190 = .ok (.iload 4, 2) := by decide +kernel
theorem d_L_law_192 : decode b_L_law 192 = .ok (.iconst 1, 1) := by decide +kernel
theorem d_L_law_193 : decode b_L_law 193 = .ok (.iadd, 1) := by decide +kernel
theorem d_L_law_194 : decode b_L_law 194 = .ok (.iaload, 1) := by decide +kernel
theorem d_L_law_195 : decode b_L_law 195 = .ok (.aload_n 0, 1) := by decide +kernel
theorem d_L_law_196 : decode b_L_law 196 = .ok (.iload 4, 2) := by decide +kernel
theorem d_L_law_198 : decode b_L_law 198 = .ok (.iconst 2, 1) := by decide +kernel
theorem d_L_law_199 : decode b_L_law 199 = .ok (.iadd, 1) := by decide +kernel
theorem d_L_law_200 : decode b_L_law 200 = .ok (.iaload, 1) := by decide +kernel
theorem d_L_law_201 : decode b_L_law 201 = .ok (.i2l, 1) := by decide +kernel
theorem d_L_law_202 : decode b_L_law 202 = .ok (.bipush 32, 2) := by decide +kernel
theorem d_L_law_204 : decode b_L_law 204 = .ok (.lshl, 1) := by decide +kernel
theorem d_L_law_205 : decode b_L_law 205 = .ok (.aload_n 0, 1) := by decide +kernel
theorem d_L_law_206 : decode b_L_law 206 = .ok (.iload 4, 2) := by decide +kernel
theorem d_L_law_208 : decode b_L_law 208 = .ok (.iconst 3, 1) := by decide +kernel
theorem d_L_law_209 : decode b_L_law 209 = .ok (.iadd, 1) := by decide +kernel
theorem d_L_law_210 : decode b_L_law 210 = .ok (.iaload, 1) := by decide +kernel
theorem d_L_law_211 : decode b_L_law 211 = .ok (.i2l, 1) := by decide +kernel
theorem d_L_law_212 : decode b_L_law 212 = .ok (.ldc2_w 43, 3) := by decide +kernel
theorem d_L_law_215 : decode b_L_law 215 = .ok (.land, 1) := by decide +kernel
theorem d_L_law_216 : decode b_L_law 216 = .ok (.lor, 1) := by decide +kernel
theorem d_L_law_217 : decode b_L_law 217 = .ok (.aload_n 0, 1) := by decide +kernel
theorem d_L_law_218 : decode b_L_law 218 = .ok (.iload 4, 2) := by decide +kernel
theorem d_L_law_220 : decode b_L_law 220 = .ok (.iconst 4, 1) := by decide +kernel
theorem d_L_law_221 : decode b_L_law 221 = .ok (.iadd, 1) := by decide +kernel
theorem d_L_law_222 : decode b_L_law 222 = .ok (.iaload, 1) := by decide +kernel
theorem d_L_law_223 : decode b_L_law 223 = .ok (.i2l, 1) := by decide +kernel
theorem d_L_law_224 : decode b_L_law 224 = .ok (.bipush 32, 2) := by decide +kernel
theorem d_L_law_226 : decode b_L_law 226 = .ok (.lshl, 1) := by decide +kernel
theorem d_L_law_227 : decode b_L_law 227 = .ok (.aload_n 0, 1) := by decide +kernel
theorem d_L_law_228 : decode b_L_law 228 = .ok (.iload 4, 2) := by decide +kernel
theorem d_L_law_230 : decode b_L_law 230 = .ok (.iconst 5, 1) := by decide +kernel
theorem d_L_law_231 : decode b_L_law 231 = .ok (.iadd, 1) := by decide +kernel
theorem d_L_law_232 : decode b_L_law 232 = .ok (.iaload, 1) := by decide +kernel
theorem d_L_law_233 : decode b_L_law 233 = .ok (.i2l, 1) := by decide +kernel
theorem d_L_law_234 : decode b_L_law 234 = .ok (.ldc2_w 43, 3) := by decide +kernel
theorem d_L_law_237 : decode b_L_law 237 = .ok (.land, 1) := by decide +kernel
theorem d_L_law_238 : decode b_L_law 238 = .ok (.lor, 1) := by decide +kernel
theorem d_L_law_239 : decode b_L_law 239 = .ok (.aload_n 0, 1) := by decide +kernel
theorem d_L_law_240 : decode b_L_law 240 = .ok (.iload 4, 2) := by decide +kernel
theorem d_L_law_242 : decode b_L_law 242 = .ok (.bipush 6, 2) := by decide +kernel
theorem d_L_law_244 : decode b_L_law 244 = .ok (.iadd, 1) := by decide +kernel
theorem d_L_law_245 : decode b_L_law 245 = .ok (.iaload, 1) := by decide +kernel
theorem d_L_law_246 : decode b_L_law 246 = .ok (.i2l, 1) := by decide +kernel
theorem d_L_law_247 : decode b_L_law 247 = .ok (.bipush 32, 2) := by decide +kernel
theorem d_L_law_249 : decode b_L_law 249 = .ok (.lshl, 1) := by decide +kernel
theorem d_L_law_250 : decode b_L_law 250 = .ok (.aload_n 0, 1) := by decide +kernel
theorem d_L_law_251 : decode b_L_law 251 = .ok (.iload 4, 2) := by decide +kernel
theorem d_L_law_253 : decode b_L_law 253 = .ok (.bipush 7, 2) := by decide +kernel
theorem d_L_law_255 : decode b_L_law 255 = .ok (.iadd, 1) := by decide +kernel
theorem d_L_law_256 : decode b_L_law 256 = .ok (.iaload, 1) := by decide +kernel
theorem d_L_law_257 : decode b_L_law 257 = .ok (.i2l, 1) := by decide +kernel
theorem d_L_law_258 : decode b_L_law 258 = .ok (.ldc2_w 43, 3) := by decide +kernel
theorem d_L_law_261 : decode b_L_law 261 = .ok (.land, 1) := by decide +kernel
theorem d_L_law_262 : decode b_L_law 262 = .ok (.lor, 1) := by decide +kernel
theorem d_L_law_263 : decode b_L_law 263 = .ok (.aload_n 0, 1) := by decide +kernel
theorem d_L_law_264 : decode b_L_law 264 = .ok (.iload 4, 2) := by decide +kernel
theorem d_L_law_266 : decode b_L_law 266 = .ok (.bipush 8, 2) := by decide +kernel
theorem d_L_law_268 : decode b_L_law 268 = .ok (.iadd, 1) := by decide +kernel
theorem d_L_law_269 : decode b_L_law 269 = .ok (.iaload, 1) := by decide +kernel
theorem d_L_law_270 : decode b_L_law 270 = .ok (.i2l, 1) := by decide +kernel
theorem d_L_law_271 : decode b_L_law 271 = .ok (.bipush 32, 2) := by decide +kernel
theorem d_L_law_273 : decode b_L_law 273 = .ok (.lshl, 1) := by decide +kernel
theorem d_L_law_274 : decode b_L_law 274 = .ok (.aload_n 0, 1) := by decide +kernel
theorem d_L_law_275 : decode b_L_law 275 = .ok (.iload 4, 2) := by decide +kernel
theorem d_L_law_277 : decode b_L_law 277 = .ok (.bipush 9, 2) := by decide +kernel
theorem d_L_law_279 : decode b_L_law 279 = .ok (.iadd, 1) := by decide +kernel
theorem d_L_law_280 : decode b_L_law 280 = .ok (.iaload, 1) := by decide +kernel
theorem d_L_law_281 : decode b_L_law 281 = .ok (.i2l, 1) := by decide +kernel
theorem d_L_law_282 : decode b_L_law 282 = .ok (.ldc2_w 43, 3) := by decide +kernel
theorem d_L_law_285 : decode b_L_law 285 = .ok (.land, 1) := by decide +kernel
theorem d_L_law_286 : decode b_L_law 286 = .ok (.lor, 1) := by decide +kernel
theorem d_L_law_287 : decode b_L_law 287 = .ok (.invokevirtual 50, 3) := by decide +kernel
theorem d_L_law_290 : decode b_L_law 290 = .ok (.aload_n 2, 1) := by decide +kernel
theorem d_L_law_291 : decode b_L_law 291 = .ok (.invokevirtual 51, 3) := by decide +kernel
theorem d_L_law_294 : decode b_L_law 294 = .ok (.iload 5, 2) := by decide +kernel
theorem d_L_law_296 : decode b_L_law 296 = .ok (.if_icmp .eq 5, 3) := by decide +kernel
theorem d_L_law_299 : decode b_L_law 299 = .ok (.iconst 0, 1) := by decide +kernel
theorem d_L_law_300 : decode b_L_law 300 = .ok (.ireturn, 1) := by decide +kernel
theorem d_L_law_301 : decode b_L_law 301 = .ok (.goto 470, 3) := by decide +kernel
theorem d_L_law_304 : decode b_L_law 304 = .ok (.aload_n 1, 1) := by decide +kernel
theorem d_L_law_305 : decode b_L_law 305 = .ok (.aload_n 0, 1) := by decide +kernel
theorem d_L_law_306 : decode b_L_law 306 = .ok (.iload 4, 2) := by decide +kernel
theorem d_L_law_308 : decode b_L_law 308 = .ok (.iconst 1, 1) := by decide +kernel
theorem d_L_law_309 : decode b_L_law 309 = .ok (.iadd, 1) := by decide +kernel
theorem d_L_law_310 : decode b_L_law 310 = .ok (.iaload, 1) := by decide +kernel
theorem d_L_law_311 : decode b_L_law 311 = .ok (.aload_n 0, 1) := by decide +kernel
theorem d_L_law_312 : decode b_L_law 312 = .ok (.iload 4, 2) := by decide +kernel
theorem d_L_law_314 : decode b_L_law 314 = .ok (.iconst 2, 1) := by decide +kernel
theorem d_L_law_315 : decode b_L_law 315 = .ok (.iadd, 1) := by decide +kernel
theorem d_L_law_316 : decode b_L_law 316 = .ok (.iaload, 1) := by decide +kernel
theorem d_L_law_317 : decode b_L_law 317 = .ok (.aload_n 3, 1) := by decide +kernel
theorem d_L_law_318 : decode b_L_law 318 = .ok (.invokestatic 55, 3) := by decide +kernel
theorem d_L_law_321 : decode b_L_law 321 = .ok (.istore 5, 2) := by decide +kernel
theorem d_L_law_323 : decode b_L_law 323 = .ok (.aload_n 2, 1) := by decide +kernel
theorem d_L_law_324 : decode b_L_law 324 = .ok (.aload_n 0, 1) := by decide +kernel
theorem d_L_law_325 : decode b_L_law 325 = .ok (.iload 4, 2) := by decide +kernel
theorem d_L_law_327 : decode b_L_law 327 = .ok (.iconst 1, 1) := by decide +kernel
theorem d_L_law_328 : decode b_L_law 328 = .ok (.iadd, 1) := by decide +kernel
theorem d_L_law_329 : decode b_L_law 329 = .ok (.iaload, 1) := by decide +kernel
theorem d_L_law_330 : decode b_L_law 330 = .ok (.aload_n 0, 1) := by decide +kernel
theorem d_L_law_331 : decode b_L_law 331 = .ok (.iload 4, 2) := by decide +kernel
theorem d_L_law_333 : decode b_L_law 333 = .ok (.iconst 2, 1) := by decide +kernel
theorem d_L_law_334 : decode b_L_law 334 = .ok (.iadd, 1) := by decide +kernel
theorem d_L_law_335 : decode b_L_law 335 = .ok (.iaload, 1) := by decide +kernel
theorem d_L_law_336 : decode b_L_law 336 = .ok (.invokevirtual 58, 3) := by decide +kernel
theorem d_L_law_339 : decode b_L_law 339 = .ok (.lstore 6, 2) := by decide +kernel
theorem d_L_law_341 : decode b_L_law 341 = .ok (.aload_n 2, 1) := by decide +kernel
theorem d_L_law_342 : decode b_L_law 342 = .ok (.invokevirtual 51, 3) := by decide +kernel
theorem d_L_law_345 : decode b_L_law 345 = .ok (.iload 5, 2) := by decide +kernel
theorem d_L_law_347 : decode b_L_law 347 = .ok (.if_icmp .eq 5, 3) := by decide +kernel
theorem d_L_law_350 : decode b_L_law 350 = .ok (.iconst 0, 1) := by decide +kernel
theorem d_L_law_351 : decode b_L_law 351 = .ok (.ireturn, 1) := by decide +kernel
theorem d_L_law_352 : decode b_L_law 352 = .ok (.iload 5, 2) := by decide +kernel
theorem d_L_law_354 : decode b_L_law 354 = .ok (.ifCond .ne 14, 3) := by decide +kernel
theorem d_L_law_357 : decode b_L_law 357 = .ok (.aload_n 3, 1) := by decide +kernel
theorem d_L_law_358 : decode b_L_law 358 = .ok (.iconst 0, 1) := by decide +kernel
theorem d_L_law_359 : decode b_L_law 359 = .ok (.laload, 1) := by decide +kernel
theorem d_L_law_360 : decode b_L_law 360 = .ok (.lload 6, 2) := by decide +kernel
theorem d_L_law_362 : decode b_L_law 362 = .ok (.lcmp, 1) := by decide +kernel
theorem d_L_law_363 : decode b_L_law 363 = .ok (.ifCond .eq 5, 3) := by decide +kernel
theorem d_L_law_366 : decode b_L_law 366 = .ok (.iconst 0, 1) := by decide +kernel
theorem d_L_law_367 : decode b_L_law 367 = .ok (.ireturn, 1) := by decide +kernel
theorem d_L_law_368 : decode b_L_law 368 = .ok (.goto 403, 3) := by decide +kernel
theorem d_L_law_371 : decode b_L_law 371 = .ok (.aload_n 1, 1) := by decide +kernel
theorem d_L_law_372 : decode b_L_law 372 = .ok (.aload_n 0, 1) := by decide +kernel
theorem d_L_law_373 : decode b_L_law 373 = .ok (.iload 4, 2) := by decide +kernel
theorem d_L_law_375 : decode b_L_law 375 = .ok (.iconst 1, 1) := by decide +kernel
theorem d_L_law_376 : decode b_L_law 376 = .ok (.iadd, 1) := by decide +kernel
theorem d_L_law_377 : decode b_L_law 377 = .ok (.iaload, 1) := by decide +kernel
theorem d_L_law_378 : decode b_L_law 378 = .ok (.aload_n 0, 1) := by decide +kernel
theorem d_L_law_379 : decode b_L_law 379 = .ok (.iload 4, 2) := by decide +kernel
theorem d_L_law_381 : decode b_L_law 381 = .ok (.iconst 2, 1) := by decide +kernel
theorem d_L_law_382 : decode b_L_law 382 = .ok (.iadd, 1) := by decide +kernel
theorem d_L_law_383 : decode b_L_law 383 = .ok (.iaload, 1) := by decide +kernel
theorem d_L_law_384 : decode b_L_law 384 = .ok (.aload_n 0, 1) := by decide +kernel
theorem d_L_law_385 : decode b_L_law 385 = .ok (.iload 4, 2) := by decide +kernel
theorem d_L_law_387 : decode b_L_law 387 = .ok (.iconst 3, 1) := by decide +kernel
theorem d_L_law_388 : decode b_L_law 388 = .ok (.iadd, 1) := by decide +kernel
theorem d_L_law_389 : decode b_L_law 389 = .ok (.iaload, 1) := by decide +kernel
theorem d_L_law_390 : decode b_L_law 390 = .ok (.aload_n 0, 1) := by decide +kernel
theorem d_L_law_391 : decode b_L_law 391 = .ok (.iload 4, 2) := by decide +kernel
theorem d_L_law_393 : decode b_L_law 393 = .ok (.iconst 4, 1) := by decide +kernel
theorem d_L_law_394 : decode b_L_law 394 = .ok (.iadd, 1) := by decide +kernel
theorem d_L_law_395 : decode b_L_law 395 = .ok (.iaload, 1) := by decide +kernel
theorem d_L_law_396 : decode b_L_law 396 = .ok (.invokestatic 59, 3) := by decide +kernel
theorem d_L_law_399 : decode b_L_law 399 = .ok (.istore 5, 2) := by decide +kernel
theorem d_L_law_401 : decode b_L_law 401 = .ok (.aload_n 2, 1) := by decide +kernel
theorem d_L_law_402 : decode b_L_law 402 = .ok (.aload_n 0, 1) := by decide +kernel
theorem d_L_law_403 : decode b_L_law 403 = .ok (.iload 4, 2) := by decide +kernel
theorem d_L_law_405 : decode b_L_law 405 = .ok (.iconst 1, 1) := by decide +kernel
theorem d_L_law_406 : decode b_L_law 406 = .ok (.iadd, 1) := by decide +kernel
theorem d_L_law_407 : decode b_L_law 407 = .ok (.iaload, 1) := by decide +kernel
theorem d_L_law_408 : decode b_L_law 408 = .ok (.aload_n 0, 1) := by decide +kernel
theorem d_L_law_409 : decode b_L_law 409 = .ok (.iload 4, 2) := by decide +kernel
theorem d_L_law_411 : decode b_L_law 411 = .ok (.iconst 2, 1) := by decide +kernel
theorem d_L_law_412 : decode b_L_law 412 = .ok (.iadd, 1) := by decide +kernel
theorem d_L_law_413 : decode b_L_law 413 = .ok (.iaload, 1) := by decide +kernel
theorem d_L_law_414 : decode b_L_law 414 = .ok (.aload_n 0, 1) := by decide +kernel
theorem d_L_law_415 : decode b_L_law 415 = .ok (.iload 4, 2) := by decide +kernel
theorem d_L_law_417 : decode b_L_law 417 = .ok (.iconst 3, 1) := by decide +kernel
theorem d_L_law_418 : decode b_L_law 418 = .ok (.iadd, 1) := by decide +kernel
theorem d_L_law_419 : decode b_L_law 419 = .ok (.iaload, 1) := by decide +kernel
theorem d_L_law_420 : decode b_L_law 420 = .ok (.aload_n 0, 1) := by decide +kernel
theorem d_L_law_421 : decode b_L_law 421 = .ok (.iload 4, 2) := by decide +kernel
theorem d_L_law_423 : decode b_L_law 423 = .ok (.iconst 4, 1) := by decide +kernel
theorem d_L_law_424 : decode b_L_law 424 = .ok (.iadd, 1) := by decide +kernel
theorem d_L_law_425 : decode b_L_law 425 = .ok (.iaload, 1) := by decide +kernel
theorem d_L_law_426 : decode b_L_law 426 = .ok (.invokevirtual 62, 3) := by decide +kernel
theorem d_L_law_429 : decode b_L_law 429 = .ok (.aload_n 2, 1) := by decide +kernel
theorem d_L_law_430 : decode b_L_law 430 = .ok (.invokevirtual 51, 3) := by decide +kernel
theorem d_L_law_433 : decode b_L_law 433 = .ok (.iload 5, 2) := by decide +kernel
theorem d_L_law_435 : decode b_L_law 435 = .ok (.if_icmp .eq 5, 3) := by decide +kernel
theorem d_L_law_438 : decode b_L_law 438 = .ok (.iconst 0, 1) := by decide +kernel
theorem d_L_law_439 : decode b_L_law 439 = .ok (.ireturn, 1) := by decide +kernel
theorem d_L_law_440 : decode b_L_law 440 = .ok (.goto 331, 3) := by decide +kernel
theorem d_L_law_443 : decode b_L_law 443 = .ok (.aload_n 1, 1) := by decide +kernel
theorem d_L_law_444 : decode b_L_law 444 = .ok (.aload_n 0, 1) := by decide +kernel
theorem d_L_law_445 : decode b_L_law 445 = .ok (.iload 4, 2) := by decide +kernel
theorem d_L_law_447 : decode b_L_law 447 = .ok (.iconst 1, 1) := by decide +kernel
theorem d_L_law_448 : decode b_L_law 448 = .ok (.iadd, 1) := by decide +kernel
theorem d_L_law_449 : decode b_L_law 449 = .ok (.iaload, 1) := by decide +kernel
theorem d_L_law_450 : decode b_L_law 450 = .ok (.aload_n 0, 1) := by decide +kernel
theorem d_L_law_451 : decode b_L_law 451 = .ok (.iload 4, 2) := by decide +kernel
theorem d_L_law_453 : decode b_L_law 453 = .ok (.iconst 2, 1) := by decide +kernel
theorem d_L_law_454 : decode b_L_law 454 = .ok (.iadd, 1) := by decide +kernel
theorem d_L_law_455 : decode b_L_law 455 = .ok (.iaload, 1) := by decide +kernel
theorem d_L_law_456 : decode b_L_law 456 = .ok (.aload_n 0, 1) := by decide +kernel
theorem d_L_law_457 : decode b_L_law 457 = .ok (.iload 4, 2) := by decide +kernel
theorem d_L_law_459 : decode b_L_law 459 = .ok (.iconst 3, 1) := by decide +kernel
theorem d_L_law_460 : decode b_L_law 460 = .ok (.iadd, 1) := by decide +kernel
theorem d_L_law_461 : decode b_L_law 461 = .ok (.iaload, 1) := by decide +kernel
theorem d_L_law_462 : decode b_L_law 462 = .ok (.aload_n 0, 1) := by decide +kernel
theorem d_L_law_463 : decode b_L_law 463 = .ok (.iload 4, 2) := by decide +kernel
theorem d_L_law_465 : decode b_L_law 465 = .ok (.iconst 4, 1) := by decide +kernel
theorem d_L_law_466 : decode b_L_law 466 = .ok (.iadd, 1) := by decide +kernel
theorem d_L_law_467 : decode b_L_law 467 = .ok (.iaload, 1) := by decide +kernel
theorem d_L_law_468 : decode b_L_law 468 = .ok (.aload_n 0, 1) := by decide +kernel
theorem d_L_law_469 : decode b_L_law 469 = .ok (.iload 4, 2) := by decide +kernel
theorem d_L_law_471 : decode b_L_law 471 = .ok (.iconst 5, 1) := by decide +kernel
theorem d_L_law_472 : decode b_L_law 472 = .ok (.iadd, 1) := by decide +kernel
theorem d_L_law_473 : decode b_L_law 473 = .ok (.iaload, 1) := by decide +kernel
theorem d_L_law_474 : decode b_L_law 474 = .ok (.ifCond .eq 7, 3) := by decide +kernel
theorem d_L_law_477 : decode b_L_law 477 = .ok (.iconst 1, 1) := by decide +kernel
theorem d_L_law_478 : decode b_L_law 478 = .ok (.goto 4, 3) := by decide +kernel
theorem d_L_law_481 : decode b_L_law 481 = .ok (.iconst 0, 1) := by decide +kernel
theorem d_L_law_482 : decode b_L_law 482 = .ok (.invokestatic 63, 3) := by decide +kernel
theorem d_L_law_485 : decode b_L_law 485 = .ok (.istore 5, 2) := by decide +kernel
theorem d_L_law_487 : decode b_L_law 487 = .ok (.aload_n 2, 1) := by decide +kernel
theorem d_L_law_488 : decode b_L_law 488 = .ok (.aload_n 0, 1) := by decide +kernel
theorem d_L_law_489 : decode b_L_law 489 = .ok (.iload 4, 2) := by decide +kernel
theorem d_L_law_491 : decode b_L_law 491 = .ok (.iconst 1, 1) := by decide +kernel
theorem d_L_law_492 : decode b_L_law 492 = .ok (.iadd, 1) := by decide +kernel
theorem d_L_law_493 : decode b_L_law 493 = .ok (.iaload, 1) := by decide +kernel
theorem d_L_law_494 : decode b_L_law 494 = .ok (.aload_n 0, 1) := by decide +kernel
theorem d_L_law_495 : decode b_L_law 495 = .ok (.iload 4, 2) := by decide +kernel
theorem d_L_law_497 : decode b_L_law 497 = .ok (.iconst 2, 1) := by decide +kernel
theorem d_L_law_498 : decode b_L_law 498 = .ok (.iadd, 1) := by decide +kernel
theorem d_L_law_499 : decode b_L_law 499 = .ok (.iaload, 1) := by decide +kernel
theorem d_L_law_500 : decode b_L_law 500 = .ok (.aload_n 0, 1) := by decide +kernel
theorem d_L_law_501 : decode b_L_law 501 = .ok (.iload 4, 2) := by decide +kernel
theorem d_L_law_503 : decode b_L_law 503 = .ok (.iconst 3, 1) := by decide +kernel
theorem d_L_law_504 : decode b_L_law 504 = .ok (.iadd, 1) := by decide +kernel
theorem d_L_law_505 : decode b_L_law 505 = .ok (.iaload, 1) := by decide +kernel
theorem d_L_law_506 : decode b_L_law 506 = .ok (.aload_n 0, 1) := by decide +kernel
theorem d_L_law_507 : decode b_L_law 507 = .ok (.iload 4, 2) := by decide +kernel
theorem d_L_law_509 : decode b_L_law 509 = .ok (.iconst 4, 1) := by decide +kernel
theorem d_L_law_510 : decode b_L_law 510 = .ok (.iadd, 1) := by decide +kernel
theorem d_L_law_511 : decode b_L_law 511 = .ok (.iaload, 1) := by decide +kernel
theorem d_L_law_512 : decode b_L_law 512 = .ok (.aload_n 0, 1) := by decide +kernel
theorem d_L_law_513 : decode b_L_law 513 = .ok (.iload 4, 2) := by decide +kernel
theorem d_L_law_515 : decode b_L_law 515 = .ok (.iconst 5, 1) := by decide +kernel
theorem d_L_law_516 : decode b_L_law 516 = .ok (.iadd, 1) := by decide +kernel
theorem d_L_law_517 : decode b_L_law 517 = .ok (.iaload, 1) := by decide +kernel
theorem d_L_law_518 : decode b_L_law 518 = .ok (.ifCond .eq 7, 3) := by decide +kernel
theorem d_L_law_521 : decode b_L_law 521 = .ok (.iconst 1, 1) := by decide +kernel
theorem d_L_law_522 : decode b_L_law 522 = .ok (.goto 4, 3) := by decide +kernel
theorem d_L_law_525 : decode b_L_law 525 = .ok (.iconst 0, 1) := by decide +kernel
theorem d_L_law_526 : decode b_L_law 526 = .ok (.invokevirtual 66, 3) := by decide +kernel
theorem d_L_law_529 : decode b_L_law 529 = .ok (.aload_n 2, 1) := by decide +kernel
theorem d_L_law_530 : decode b_L_law 530 = .ok (.invokevirtual 51, 3) := by decide +kernel
theorem d_L_law_533 : decode b_L_law 533 = .ok (.iload 5, 2) := by decide +kernel
theorem d_L_law_535 : decode b_L_law 535 = .ok (.if_icmp .eq 5, 3) := by decide +kernel
theorem d_L_law_538 : decode b_L_law 538 = .ok (.iconst 0, 1) := by decide +kernel
theorem d_L_law_539 : decode b_L_law 539 = .ok (.ireturn, 1) := by decide +kernel
theorem d_L_law_540 : decode b_L_law 540 = .ok (.goto 231, 3) := by decide +kernel
theorem d_L_law_543 : decode b_L_law 543 = .ok (.aload_n 1, 1) := by decide +kernel
theorem d_L_law_544 : decode b_L_law 544 = .ok (.aload_n 0, 1) := by decide +kernel
theorem d_L_law_545 : decode b_L_law 545 = .ok (.iload 4, 2) := by decide +kernel
theorem d_L_law_547 : decode b_L_law 547 = .ok (.iconst 1, 1) := by decide +kernel
theorem d_L_law_548 : decode b_L_law 548 = .ok (.iadd, 1) := by decide +kernel
theorem d_L_law_549 : decode b_L_law 549 = .ok (.iaload, 1) := by decide +kernel
theorem d_L_law_550 : decode b_L_law 550 = .ok (.aload_n 0, 1) := by decide +kernel
theorem d_L_law_551 : decode b_L_law 551 = .ok (.iload 4, 2) := by decide +kernel
theorem d_L_law_553 : decode b_L_law 553 = .ok (.iconst 2, 1) := by decide +kernel
theorem d_L_law_554 : decode b_L_law 554 = .ok (.iadd, 1) := by decide +kernel
theorem d_L_law_555 : decode b_L_law 555 = .ok (.iaload, 1) := by decide +kernel
theorem d_L_law_556 : decode b_L_law 556 = .ok (.aload_n 0, 1) := by decide +kernel
theorem d_L_law_557 : decode b_L_law 557 = .ok (.iload 4, 2) := by decide +kernel
theorem d_L_law_559 : decode b_L_law 559 = .ok (.iconst 3, 1) := by decide +kernel
theorem d_L_law_560 : decode b_L_law 560 = .ok (.iadd, 1) := by decide +kernel
theorem d_L_law_561 : decode b_L_law 561 = .ok (.iaload, 1) := by decide +kernel
theorem d_L_law_562 : decode b_L_law 562 = .ok (.ifCond .eq 7, 3) := by decide +kernel
theorem d_L_law_565 : decode b_L_law 565 = .ok (.iconst 1, 1) := by decide +kernel
theorem d_L_law_566 : decode b_L_law 566 = .ok (.goto 4, 3) := by decide +kernel
theorem d_L_law_569 : decode b_L_law 569 = .ok (.iconst 0, 1) := by decide +kernel
theorem d_L_law_570 : decode b_L_law 570 = .ok (.invokestatic 67, 3) := by decide +kernel
theorem d_L_law_573 : decode b_L_law 573 = .ok (.istore 5, 2) := by decide +kernel
theorem d_L_law_575 : decode b_L_law 575 = .ok (.aload_n 2, 1) := by decide +kernel
theorem d_L_law_576 : decode b_L_law 576 = .ok (.aload_n 0, 1) := by decide +kernel
theorem d_L_law_577 : decode b_L_law 577 = .ok (.iload 4, 2) := by decide +kernel
theorem d_L_law_579 : decode b_L_law 579 = .ok (.iconst 1, 1) := by decide +kernel
theorem d_L_law_580 : decode b_L_law 580 = .ok (.iadd, 1) := by decide +kernel
theorem d_L_law_581 : decode b_L_law 581 = .ok (.iaload, 1) := by decide +kernel
theorem d_L_law_582 : decode b_L_law 582 = .ok (.aload_n 0, 1) := by decide +kernel
theorem d_L_law_583 : decode b_L_law 583 = .ok (.iload 4, 2) := by decide +kernel
theorem d_L_law_585 : decode b_L_law 585 = .ok (.iconst 2, 1) := by decide +kernel
theorem d_L_law_586 : decode b_L_law 586 = .ok (.iadd, 1) := by decide +kernel
theorem d_L_law_587 : decode b_L_law 587 = .ok (.iaload, 1) := by decide +kernel
theorem d_L_law_588 : decode b_L_law 588 = .ok (.aload_n 0, 1) := by decide +kernel
theorem d_L_law_589 : decode b_L_law 589 = .ok (.iload 4, 2) := by decide +kernel
theorem d_L_law_591 : decode b_L_law 591 = .ok (.iconst 3, 1) := by decide +kernel
theorem d_L_law_592 : decode b_L_law 592 = .ok (.iadd, 1) := by decide +kernel
theorem d_L_law_593 : decode b_L_law 593 = .ok (.iaload, 1) := by decide +kernel
theorem d_L_law_594 : decode b_L_law 594 = .ok (.ifCond .eq 7, 3) := by decide +kernel
theorem d_L_law_597 : decode b_L_law 597 = .ok (.iconst 1, 1) := by decide +kernel
theorem d_L_law_598 : decode b_L_law 598 = .ok (.goto 4, 3) := by decide +kernel
theorem d_L_law_601 : decode b_L_law 601 = .ok (.iconst 0, 1) := by decide +kernel
theorem d_L_law_602 : decode b_L_law 602 = .ok (.invokevirtual 70, 3) := by decide +kernel
theorem d_L_law_605 : decode b_L_law 605 = .ok (.aload_n 2, 1) := by decide +kernel
theorem d_L_law_606 : decode b_L_law 606 = .ok (.invokevirtual 51, 3) := by decide +kernel
theorem d_L_law_609 : decode b_L_law 609 = .ok (.iload 5, 2) := by decide +kernel
theorem d_L_law_611 : decode b_L_law 611 = .ok (.if_icmp .eq 5, 3) := by decide +kernel
theorem d_L_law_614 : decode b_L_law 614 = .ok (.iconst 0, 1) := by decide +kernel
theorem d_L_law_615 : decode b_L_law 615 = .ok (.ireturn, 1) := by decide +kernel
theorem d_L_law_616 : decode b_L_law 616 = .ok (.goto 155, 3) := by decide +kernel
theorem d_L_law_619 : decode b_L_law 619 = .ok (.aload_n 1, 1) := by decide +kernel
theorem d_L_law_620 : decode b_L_law 620 = .ok (.aload_n 0, 1) := by decide +kernel
theorem d_L_law_621 : decode b_L_law 621 = .ok (.iload 4, 2) := by decide +kernel
theorem d_L_law_623 : decode b_L_law 623 = .ok (.iconst 1, 1) := by decide +kernel
theorem d_L_law_624 : decode b_L_law 624 = .ok (.iadd, 1) := by decide +kernel
theorem d_L_law_625 : decode b_L_law 625 = .ok (.iaload, 1) := by decide +kernel
theorem d_L_law_626 : decode b_L_law 626 = .ok (.aload_n 0, 1) := by decide +kernel
theorem d_L_law_627 : decode b_L_law 627 = .ok (.iload 4, 2) := by decide +kernel
theorem d_L_law_629 : decode b_L_law 629 = .ok (.iconst 2, 1) := by decide +kernel
theorem d_L_law_630 : decode b_L_law 630 = .ok (.iadd, 1) := by decide +kernel
theorem d_L_law_631 : decode b_L_law 631 = .ok (.iaload, 1) := by decide +kernel
theorem d_L_law_632 : decode b_L_law 632 = .ok (.aload_n 0, 1) := by decide +kernel
theorem d_L_law_633 : decode b_L_law 633 = .ok (.iload 4, 2) := by decide +kernel
theorem d_L_law_635 : decode b_L_law 635 = .ok (.iconst 3, 1) := by decide +kernel
theorem d_L_law_636 : decode b_L_law 636 = .ok (.iadd, 1) := by decide +kernel
theorem d_L_law_637 : decode b_L_law 637 = .ok (.iaload, 1) := by decide +kernel
theorem d_L_law_638 : decode b_L_law 638 = .ok (.ifCond .eq 7, 3) := by decide +kernel
theorem d_L_law_641 : decode b_L_law 641 = .ok (.iconst 1, 1) := by decide +kernel
theorem d_L_law_642 : decode b_L_law 642 = .ok (.goto 4, 3) := by decide +kernel
theorem d_L_law_645 : decode b_L_law 645 = .ok (.iconst 0, 1) := by decide +kernel
theorem d_L_law_646 : decode b_L_law 646 = .ok (.aload_n 3, 1) := by decide +kernel
theorem d_L_law_647 : decode b_L_law 647 = .ok (.invokestatic 71, 3) := by decide +kernel
theorem d_L_law_650 : decode b_L_law 650 = .ok (.istore 5, 2) := by decide +kernel
theorem d_L_law_652 : decode b_L_law 652 = .ok (.aload_n 2, 1) := by decide +kernel
theorem d_L_law_653 : decode b_L_law 653 = .ok (.aload_n 0, 1) := by decide +kernel
theorem d_L_law_654 : decode b_L_law 654 = .ok (.iload 4, 2) := by decide +kernel
theorem d_L_law_656 : decode b_L_law 656 = .ok (.iconst 1, 1) := by decide +kernel
theorem d_L_law_657 : decode b_L_law 657 = .ok (.iadd, 1) := by decide +kernel
theorem d_L_law_658 : decode b_L_law 658 = .ok (.iaload, 1) := by decide +kernel
theorem d_L_law_659 : decode b_L_law 659 = .ok (.aload_n 0, 1) := by decide +kernel
theorem d_L_law_660 : decode b_L_law 660 = .ok (.iload 4, 2) := by decide +kernel
theorem d_L_law_662 : decode b_L_law 662 = .ok (.iconst 2, 1) := by decide +kernel
theorem d_L_law_663 : decode b_L_law 663 = .ok (.iadd, 1) := by decide +kernel
theorem d_L_law_664 : decode b_L_law 664 = .ok (.iaload, 1) := by decide +kernel
theorem d_L_law_665 : decode b_L_law 665 = .ok (.aload_n 0, 1) := by decide +kernel
theorem d_L_law_666 : decode b_L_law 666 = .ok (.iload 4, 2) := by decide +kernel
theorem d_L_law_668 : decode b_L_law 668 = .ok (.iconst 3, 1) := by decide +kernel
theorem d_L_law_669 : decode b_L_law 669 = .ok (.iadd, 1) := by decide +kernel
theorem d_L_law_670 : decode b_L_law 670 = .ok (.iaload, 1) := by decide +kernel
theorem d_L_law_671 : decode b_L_law 671 = .ok (.ifCond .eq 7, 3) := by decide +kernel
theorem d_L_law_674 : decode b_L_law 674 = .ok (.iconst 1, 1) := by decide +kernel
theorem d_L_law_675 : decode b_L_law 675 = .ok (.goto 4, 3) := by decide +kernel
theorem d_L_law_678 : decode b_L_law 678 = .ok (.iconst 0, 1) := by decide +kernel
theorem d_L_law_679 : decode b_L_law 679 = .ok (.invokevirtual 74, 3) := by decide +kernel
theorem d_L_law_682 : decode b_L_law 682 = .ok (.istore 6, 2) := by decide +kernel
theorem d_L_law_684 : decode b_L_law 684 = .ok (.aload_n 2, 1) := by decide +kernel
theorem d_L_law_685 : decode b_L_law 685 = .ok (.invokevirtual 51, 3) := by decide +kernel
theorem d_L_law_688 : decode b_L_law 688 = .ok (.iload 5, 2) := by decide +kernel
theorem d_L_law_690 : decode b_L_law 690 = .ok (.if_icmp .eq 5, 3) := by decide +kernel
theorem d_L_law_693 : decode b_L_law 693 = .ok (.iconst 0, 1) := by decide +kernel
theorem d_L_law_694 : decode b_L_law 694 = .ok (.ireturn, 1) := by decide +kernel
theorem d_L_law_695 : decode b_L_law 695 = .ok (.iload 5, 2) := by decide +kernel
theorem d_L_law_697 : decode b_L_law 697 = .ok (.ifCond .ne 15, 3) := by decide +kernel
theorem d_L_law_700 : decode b_L_law 700 = .ok (.aload_n 3, 1) := by decide +kernel
theorem d_L_law_701 : decode b_L_law 701 = .ok (.iconst 0, 1) := by decide +kernel
theorem d_L_law_702 : decode b_L_law 702 = .ok (.laload, 1) := by decide +kernel
theorem d_L_law_703 : decode b_L_law 703 = .ok (.iload 6, 2) := by decide +kernel
theorem d_L_law_705 : decode b_L_law 705 = .ok (.i2l, 1) := by decide +kernel
theorem d_L_law_706 : decode b_L_law 706 = .ok (.lcmp, 1) := by decide +kernel
theorem d_L_law_707 : decode b_L_law 707 = .ok (.ifCond .eq 5, 3) := by decide +kernel
theorem d_L_law_710 : decode b_L_law 710 = .ok (.iconst 0, 1) := by decide +kernel
theorem d_L_law_711 : decode b_L_law 711 = .ok (.ireturn, 1) := by decide +kernel
theorem d_L_law_712 : decode b_L_law 712 = .ok (.goto 59, 3) := by decide +kernel
theorem d_L_law_715 : decode b_L_law 715 = .ok (.aload_n 1, 1) := by decide +kernel
theorem d_L_law_716 : decode b_L_law 716 = .ok (.aload_n 0, 1) := by decide +kernel
theorem d_L_law_717 : decode b_L_law 717 = .ok (.iload 4, 2) := by decide +kernel
theorem d_L_law_719 : decode b_L_law 719 = .ok (.iconst 1, 1) := by decide +kernel
theorem d_L_law_720 : decode b_L_law 720 = .ok (.iadd, 1) := by decide +kernel
theorem d_L_law_721 : decode b_L_law 721 = .ok (.iaload, 1) := by decide +kernel
theorem d_L_law_722 : decode b_L_law 722 = .ok (.aload_n 3, 1) := by decide +kernel
theorem d_L_law_723 : decode b_L_law 723 = .ok (.invokestatic 75, 3) := by decide +kernel
theorem d_L_law_726 : decode b_L_law 726 = .ok (.istore 5, 2) := by decide +kernel
theorem d_L_law_728 : decode b_L_law 728 = .ok (.aload_n 2, 1) := by decide +kernel
theorem d_L_law_729 : decode b_L_law 729 = .ok (.aload_n 0, 1) := by decide +kernel
theorem d_L_law_730 : decode b_L_law 730 = .ok (.iload 4, 2) := by decide +kernel
theorem d_L_law_732 : decode b_L_law 732 = .ok (.iconst 1, 1) := by decide +kernel
theorem d_L_law_733 : decode b_L_law 733 = .ok (.iadd, 1) := by decide +kernel
theorem d_L_law_734 : decode b_L_law 734 = .ok (.iaload, 1) := by decide +kernel
theorem d_L_law_735 : decode b_L_law 735 = .ok (.invokevirtual 78, 3) := by decide +kernel
theorem d_L_law_738 : decode b_L_law 738 = .ok (.istore 6, 2) := by decide +kernel
theorem d_L_law_740 : decode b_L_law 740 = .ok (.aload_n 2, 1) := by decide +kernel
theorem d_L_law_741 : decode b_L_law 741 = .ok (.invokevirtual 51, 3) := by decide +kernel
theorem d_L_law_744 : decode b_L_law 744 = .ok (.iload 5, 2) := by decide +kernel
theorem d_L_law_746 : decode b_L_law 746 = .ok (.if_icmp .eq 5, 3) := by decide +kernel
theorem d_L_law_749 : decode b_L_law 749 = .ok (.iconst 0, 1) := by decide +kernel
theorem d_L_law_750 : decode b_L_law 750 = .ok (.ireturn, 1) := by decide +kernel
theorem d_L_law_751 : decode b_L_law 751 = .ok (.iload 5, 2) := by decide +kernel
theorem d_L_law_753 : decode b_L_law 753 = .ok (.ifCond .ne 15, 3) := by decide +kernel
theorem d_L_law_756 : decode b_L_law 756 = .ok (.aload_n 3, 1) := by decide +kernel
theorem d_L_law_757 : decode b_L_law 757 = .ok (.iconst 0, 1) := by decide +kernel
theorem d_L_law_758 : decode b_L_law 758 = .ok (.laload, 1) := by decide +kernel
theorem d_L_law_759 : decode b_L_law 759 = .ok (.iload 6, 2) := by decide +kernel
theorem d_L_law_761 : decode b_L_law 761 = .ok (.i2l, 1) := by decide +kernel
theorem d_L_law_762 : decode b_L_law 762 = .ok (.lcmp, 1) := by decide +kernel
theorem d_L_law_763 : decode b_L_law 763 = .ok (.ifCond .eq 5, 3) := by decide +kernel
theorem d_L_law_766 : decode b_L_law 766 = .ok (.iconst 0, 1) := by decide +kernel
theorem d_L_law_767 : decode b_L_law 767 = .ok (.ireturn, 1) := by decide +kernel
theorem d_L_law_768 : decode b_L_law 768 = .ok (.goto 3, 3) := by decide +kernel
theorem d_L_law_771 : decode b_L_law 771 = .ok (.iinc 4 10, 3) := by decide +kernel
theorem d_L_law_774 : decode b_L_law 774 = .ok (.goto (-751), 3) := by decide +kernel
theorem d_L_law_777 : decode b_L_law 777 = .ok (.iconst 1, 1) := by decide +kernel
theorem d_L_law_778 : decode b_L_law 778 = .ok (.ireturn, 1) := by decide +kernel

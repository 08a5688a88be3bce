theorem dX8_thrown_0 : decode cX8_thrown 0 = .ok (.aload_n 0, 1) := by decide +kernel
theorem dX8_thrown_1 : decode cX8_thrown 1 = .ok (.getfield 172, 3) := by decide +kernel
theorem dX8_thrown_4 : decode cX8_thrown 4 = .ok (.ireturn, 1) := by decide +kernel
theorem dX8_feed_0 : decode cX8_feed 0 = .ok (.aload_n 0, 1) := by decide +kernel
theorem dX8_feed_1 : decode cX8_feed 1 = .ok (.iconst 0, 1) := by decide +kernel
theorem dX8_feed_2 : decode cX8_feed 2 = .ok (.putfield 172, 3) := by decide +kernel
theorem dX8_feed_5 : decode cX8_feed 5 = .ok (.aload_n 0, 1) := by decide +kernel
theorem dX8_feed_6 : decode cX8_feed 6 = .ok (.getfield 175, 3) := by decide +kernel
theorem dX8_feed_9 : decode cX8_feed 9 = .ok (.bipush 20, 2) := by decide +kernel
theorem dX8_feed_11 : decode cX8_feed 11 = .ok (.iadd, 1) := by decide +kernel
theorem dX8_feed_12 : decode cX8_feed 12 = .ok (.sipush 700, 3) := by decide +kernel
theorem dX8_feed_15 : decode cX8_feed 15 = .ok (.if_icmp .le 5, 3) := by decide +kernel
theorem dX8_feed_18 : decode cX8_feed 18 = .ok (.iconst (-1), 1) := by decide +kernel
theorem dX8_feed_19 : decode cX8_feed 19 = .ok (.ireturn, 1) := by decide +kernel
theorem dX8_feed_20 : decode cX8_feed 20 = .ok (.iconst 0, 1) := by decide +kernel
theorem dX8_feed_21 : decode cX8_feed 21 = .ok (.istore 6, 2) := by decide +kernel
theorem dX8_feed_23 : decode cX8_feed 23 = .ok (.iload 6, 2) := by decide +kernel
theorem dX8_feed_25 : decode cX8_feed 25 = .ok (.bipush 20, 2) := by decide +kernel
theorem dX8_feed_27 : decode cX8_feed 27 = .ok (.if_icmp .ge 86, 3) := by decide +kernel
theorem dX8_feed_30 : decode cX8_feed 30 = .ok (.iload 6, 2) := by decide +kernel
theorem dX8_feed_32 : decode cX8_feed 32 = .ok (.iconst 4, 1) := by decide +kernel
theorem dX8_feed_33 : decode cX8_feed 33 = .ok (.if_icmp .ge 7, 3) := by decide +kernel
theorem dX8_feed_36 : decode cX8_feed 36 = .ok (.iload_n 1, 1) := by decide +kernel
theorem dX8_feed_37 : decode cX8_feed 37 = .ok (.goto 39, 3) := by decide +kernel
theorem dX8_feed_40 : decode cX8_feed 40 = .ok (.iload 6, 2) := by decide +kernel
theorem dX8_feed_42 : decode cX8_feed 42 = .ok (.bipush 8, 2) := by decide +kernel
theorem dX8_feed_44 : decode cX8_feed 44 = .ok (.if_icmp .ge 7, 3) := by decide +kernel
theorem dX8_feed_47 : decode cX8_feed 47 = .ok (.iload_n 2, 1) := by decide +kernel
theorem dX8_feed_48 : decode cX8_feed 48 = .ok (.goto 28, 3) := by decide +kernel
theorem dX8_feed_51 : decode cX8_feed 51 = .ok (.iload 6, 2) := by decide +kernel
theorem dX8_feed_53 : decode cX8_feed 53 = .ok (.bipush 12, 2) := by decide +kernel
theorem dX8_feed_55 : decode cX8_feed 55 = .ok (.if_icmp .ge 7, 3) := by decide +kernel
theorem dX8_feed_58 : decode cX8_feed 58 = .ok (.iload_n 3, 1) := by decide +kernel
theorem dX8_feed_59 : decode cX8_feed 59 = .ok (.goto 17, 3) := by decide +kernel
theorem dX8_feed_62 : decode cX8_feed 62 = .ok (.iload 6, 2) := by decide +kernel
theorem dX8_feed_64 : decode cX8_feed 64 = .ok (.bipush 16, 2) := by decide +kernel
theorem dX8_feed_66 : decode cX8_feed 66 = .ok (.if_icmp .ge 8, 3) := by decide +kernel
theorem dX8_feed_69 : decode cX8_feed 69 = .ok (.iload 4, 2) := by decide +kernel
theorem dX8_feed_71 : decode cX8_feed 71 = .ok (.goto 5, 3) := by decide +kernel
theorem dX8_feed_74 : decode cX8_feed 74 = .ok (.iload 5, 2) := by decide +kernel
theorem dX8_feed_76 : decode cX8_feed 76 = .ok (.istore 7, 2) := by decide +kernel
theorem dX8_feed_78 : decode cX8_feed 78 = .ok (.aload_n 0, 1) := by decide +kernel
theorem dX8_feed_79 : decode cX8_feed 79 = .ok (.getfield 7, 3) := by decide +kernel
theorem dX8_feed_82 : decode cX8_feed 82 = .ok (.aload_n 0, 1) := by decide +kernel
theorem dX8_feed_83 : decode cX8_feed 83 = .ok (.getfield 175, 3) := by decide +kernel
theorem dX8_feed_86 : decode cX8_feed 86 = .ok (.iload 6, 2) := by decide +kernel
theorem dX8_feed_88 : decode cX8_feed 88 = .ok (.iadd, 1) := by decide +kernel
theorem dX8_feed_89 : decode cX8_feed 89 = .ok (.iload 7, 2) := by decide +kernel
theorem dX8_feed_91 : decode cX8_feed 91 = .ok (.bipush 24, 2) := by decide +kernel
theorem dX8_feed_93 : decode cX8_feed 93 = .ok (.bipush 8, 2) := by decide +kernel
theorem dX8_feed_95 : decode cX8_feed 95 = .ok (.iload 6, 2) := by decide +kernel
theorem dX8_feed_97 : decode cX8_feed 97 = .ok (.iconst 4, 1) := by decide +kernel
theorem dX8_feed_98 : decode cX8_feed 98 = .ok (.irem, 1) := by decide +kernel
theorem dX8_feed_99 : decode cX8_feed 99 = .ok (.imul, 1) := by decide +kernel
theorem dX8_feed_100 : decode cX8_feed 100 = .ok (.isub, 1) := by decide +kernel
theorem dX8_feed_101 : decode cX8_feed 101 = .ok (.ishr, 1) := by decide +kernel
theorem dX8_feed_102 : decode cX8_feed 102 = .ok (.sipush 255, 3) := by decide +kernel
theorem dX8_feed_105 : decode cX8_feed 105 = .ok (.iand, 1) := by decide +kernel
theorem dX8_feed_106 : decode cX8_feed 106 = .ok (.iastore, 1) := by decide +kernel
theorem dX8_feed_107 : decode cX8_feed 107 = .ok (.iinc 6 1, 3) := by decide +kernel
theorem dX8_feed_110 : decode cX8_feed 110 = .ok (.goto (-87), 3) := by decide +kernel
theorem dX8_feed_113 : decode cX8_feed 113 = .ok (.aload_n 0, 1) := by decide +kernel
theorem dX8_feed_114 : decode cX8_feed 114 = .ok (.dup, 1) := by decide +kernel
theorem dX8_feed_115 : decode cX8_feed 115 = .ok (.getfield 175, 3) := by decide +kernel
theorem dX8_feed_118 : decode cX8_feed 118 = .ok (.bipush 20, 2) := by decide +kernel
theorem dX8_feed_120 : decode cX8_feed 120 = .ok (.iadd, 1) := by decide +kernel
theorem dX8_feed_121 : decode cX8_feed 121 = .ok (.putfield 175, 3) := by decide +kernel
theorem dX8_feed_124 : decode cX8_feed 124 = .ok (.aload_n 0, 1) := by decide +kernel
theorem dX8_feed_125 : decode cX8_feed 125 = .ok (.getfield 175, 3) := by decide +kernel
theorem dX8_feed_128 : decode cX8_feed 128 = .ok (.ireturn, 1) := by decide +kernel
theorem dX8_isIn_0 : decode cX8_isIn 0 = .ok (.iload_n 0, 1) := by decide +kernel
theorem dX8_isIn_1 : decode cX8_isIn 1 = .ok (.iload_n 1, 1) := by decide +kernel
theorem dX8_isIn_2 : decode cX8_isIn 2 = .ok (.if_icmp .lt 12, 3) := by decide +kernel
theorem dX8_isIn_5 : decode cX8_isIn 5 = .ok (.iload_n 0, 1) := by decide +kernel
theorem dX8_isIn_6 : decode cX8_isIn 6 = .ok (.iload_n 2, 1) := by decide +kernel
theorem dX8_isIn_7 : decode cX8_isIn 7 = .ok (.if_icmp .gt 7, 3) := by decide +kernel
theorem dX8_isIn_10 : decode cX8_isIn 10 = .ok (.iconst 1, 1) := by decide +kernel
theorem dX8_isIn_11 : decode cX8_isIn 11 = .ok (.goto 4, 3) := by decide +kernel
theorem dX8_isIn_14 : decode cX8_isIn 14 = .ok (.iconst 0, 1) := by decide +kernel
theorem dX8_isIn_15 : decode cX8_isIn 15 = .ok (.ireturn, 1) := by decide +kernel
theorem dX8_token_0 : decode cX8_token 0 = .ok (.aload_n 0, 1) := by decide +kernel
theorem dX8_token_1 : decode cX8_token 1 = .ok (.getfield 187, 3) := by decide +kernel
theorem dX8_token_4 : decode cX8_token 4 = .ok (.aload_n 0, 1) := by decide +kernel
theorem dX8_token_5 : decode cX8_token 5 = .ok (.getfield 184, 3) := by decide +kernel
theorem dX8_token_8 : decode cX8_token 8 = .ok (.if_icmp .ge 44, 3) := by decide +kernel
theorem dX8_token_11 : decode cX8_token 11 = .ok (.aload_n 0, 1) := by decide +kernel
theorem dX8_token_12 : decode cX8_token 12 = .ok (.getfield 7, 3) := by decide +kernel
theorem dX8_token_15 : decode cX8_token 15 = .ok (.aload_n 0, 1) := by decide +kernel
theorem dX8_token_16 : decode cX8_token 16 = .ok (.getfield 187, 3) := by decide +kernel
theorem dX8_token_19 : decode cX8_token 19 = .ok (.iaload, 1) := by decide +kernel
theorem dX8_token_20 : decode cX8_token 20 = .ok (.bipush 10, 2) := by decide +kernel
theorem dX8_token_22 : decode cX8_token 22 = .ok (.if_icmp .eq 17, 3) := by decide +kernel
theorem dX8_token_25 : decode cX8_token 25 = .ok (.aload_n 0, 1) := by decide +kernel
theorem dX8_token_26 : decode cX8_token 26 = .ok (.getfield 7, 3) := by decide +kernel
theorem dX8_token_29 : decode cX8_token 29 = .ok (.aload_n 0, 1) := by decide +kernel
theorem dX8_token_30 : decode cX8_token 30 = .ok (.getfield 187, 3) := by decide +kernel
theorem dX8_token_33 : decode cX8_token 33 = .ok (.iaload, 1) := by decide +kernel
theorem dX8_token_34 : decode cX8_token 34 = .ok (.bipush 32, 2) := by decide +kernel
theorem dX8_token_36 : decode cX8_token 36 = .ok (.if_icmp .ne 16, 3) := by decide +kernel
theorem dX8_token_39 : decode cX8_token 39 = .ok (.aload_n 0, 1) := by decide +kernel
theorem dX8_token_40 : decode cX8_token 40 = .ok (.dup, 1) := by decide +kernel
theorem dX8_token_41 : decode cX8_token 41 = .ok (.getfield 187, 3) := by decide +kernel
theorem dX8_token_44 : decode cX8_token 44 = .ok (.iconst 1, 1) := by decide +kernel
theorem dX8_token_45 : decode cX8_token 45 = .ok (.iadd, 1) := by decide +kernel
theorem dX8_token_46 : decode cX8_token 46 = .ok (.putfield 187, 3) := by decide +kernel
theorem dX8_token_49 : decode cX8_token 49 = .ok (.goto (-49), 3) := by decide +kernel
theorem dX8_token_52 : decode cX8_token 52 = .ok (.aload_n 0, 1) := by decide +kernel
theorem dX8_token_53 : decode cX8_token 53 = .ok (.aload_n 0, 1) := by decide +kernel
theorem dX8_token_54 : decode cX8_token 54 = .ok (.getfield 187, 3) := by decide +kernel
theorem dX8_token_57 : decode cX8_token 57 = .ok (.putfield 181, 3) := by decide +kernel
theorem dX8_token_60 : decode cX8_token 60 = .ok (.aload_n 0, 1) := by decide +kernel
theorem dX8_token_61 : decode cX8_token 61 = .ok (.getfield 187, 3) := by decide +kernel
theorem dX8_token_64 : decode cX8_token 64 = .ok (.aload_n 0, 1) := by decide +kernel
theorem dX8_token_65 : decode cX8_token 65 = .ok (.getfield 184, 3) := by decide +kernel
theorem dX8_token_68 : decode cX8_token 68 = .ok (.if_icmp .ne 11, 3) := by decide +kernel
theorem dX8_token_71 : decode cX8_token 71 = .ok (.aload_n 0, 1) := by decide +kernel
theorem dX8_token_72 : decode cX8_token 72 = .ok (.iconst 0, 1) := by decide +kernel
theorem dX8_token_73 : decode cX8_token 73 = .ok (.putfield 190, 3) := by decide +kernel
theorem dX8_token_76 : decode cX8_token 76 = .ok (.goto 205, 3) := by decide +kernel
theorem dX8_token_79 : decode cX8_token 79 = .ok (.aload_n 0, 1) := by decide +kernel
theorem dX8_token_80 : decode cX8_token 80 = .ok (.aload_n 0, 1) := by decide +kernel
theorem dX8_token_81 : decode cX8_token 81 = .ok (.getfield 187, 3) := by decide +kernel
theorem dX8_token_84 : decode cX8_token 84 = .ok (.invokevirtual 193, 3) := by decide +kernel
theorem dX8_token_87 : decode cX8_token 87 = .ok (.ifCond .eq 105, 3) := by decide +kernel
theorem dX8_token_90 : decode cX8_token 90 = .ok (.aload_n 0, 1) := by decide +kernel
theorem dX8_token_91 : decode cX8_token 91 = .ok (.aload_n 0, 1) := by decide +kernel
theorem dX8_token_92 : decode cX8_token 92 = .ok (.getfield 187, 3) := by decide +kernel
theorem dX8_token_95 : decode cX8_token 95 = .ok (.invokevirtual 193, 3) := by decide +kernel
theorem dX8_token_98 : decode cX8_token 98 = .ok (.ifCond .eq 16, 3) := by decide +kernel
theorem dX8_token_101 : decode cX8_token 101 = .ok (.aload_n 0, 1) := by decide +kernel
theorem dX8_token_102 : decode cX8_token 102 = .ok (.dup, 1) := by decide +kernel
theorem dX8_token_103 : decode cX8_token 103 = .ok (.getfield 187, 3) := by decide +kernel
theorem dX8_token_106 : decode cX8_token 106 = .ok (.iconst 1, 1) := by decide +kernel
theorem dX8_token_107 : decode cX8_token 107 = .ok (.iadd, 1) := by decide +kernel
theorem dX8_token_108 : decode cX8_token 108 = .ok (.putfield 187, 3) := by decide +kernel
theorem dX8_token_111 : decode cX8_token 111 = .ok (.goto (-21), 3) := by decide +kernel
theorem dX8_token_114 : decode cX8_token 114 = .ok (.aload_n 0, 1) := by decide +kernel
theorem dX8_token_115 : decode cX8_token 115 = .ok (.aload_n 0, 1) := by decide +kernel
theorem dX8_token_116 : decode cX8_token 116 = .ok (.aload_n 0, 1) := by decide +kernel
theorem dX8_token_117 : decode cX8_token 117 = .ok (.getfield 181, 3) := by decide +kernel
theorem dX8_token_120 : decode cX8_token 120 = .ok (.aload_n 0, 1) := by decide +kernel
theorem dX8_token_121 : decode cX8_token 121 = .ok (.getfield 187, 3) := by decide +kernel
theorem dX8_token_124 : decode cX8_token 124 = .ok (.invokevirtual 197, 3) := by decide +kernel
theorem dX8_token_127 : decode cX8_token 127 = .ok (.putfield 201, 3) := by decide +kernel
theorem dX8_token_130 : decode cX8_token 130 = .ok (.aload_n 0, 1) := by decide +kernel
theorem dX8_token_131 : decode cX8_token 131 = .ok (.aload_n 0, 1) := by decide +kernel
theorem dX8_token_132 : decode cX8_token 132 = .ok (.getfield 201, 3) := by decide +kernel
theorem dX8_token_135 : decode cX8_token 135 = .ok (.ifCond .lt 7, 3) := by decide +kernel
theorem dX8_token_138 : decode cX8_token 138 = .ok (.iconst 1, 1) := by decide +kernel
theorem dX8_token_139 : decode cX8_token 139 = .ok (.goto 23, 3) := by decide +kernel
theorem dX8_token_142 : decode cX8_token 142 = .ok (.aload_n 0, 1) := by decide +kernel
theorem dX8_token_143 : decode cX8_token 143 = .ok (.getfield 187, 3) := by decide +kernel
theorem dX8_token_146 : decode cX8_token 146 = .ok (.aload_n 0, 1) := by decide +kernel
theorem dX8_token_147 : decode cX8_token 147 = .ok (.getfield 181, 3) := by decide +kernel
theorem dX8_token_150 : decode cX8_token 150 = .ok (.isub, 1) := by decide +kernel
theorem dX8_token_151 : decode cX8_token 151 = .ok (.bipush 6, 2) := by decide +kernel
theorem dX8_token_153 : decode cX8_token 153 = .ok (.if_icmp .le 8, 3) := by decide +kernel
theorem dX8_token_156 : decode cX8_token 156 = .ok (.bipush 6, 2) := by decide +kernel
theorem dX8_token_158 : decode cX8_token 158 = .ok (.goto 4, 3) := by decide +kernel
theorem dX8_token_161 : decode cX8_token 161 = .ok (.iconst 2, 1) := by decide +kernel
theorem dX8_token_162 : decode cX8_token 162 = .ok (.putfield 190, 3) := by decide +kernel
theorem dX8_token_165 : decode cX8_token 165 = .ok (.aload_n 0, 1) := by decide +kernel
theorem dX8_token_166 : decode cX8_token 166 = .ok (.getfield 190, 3) := by decide +kernel
theorem dX8_token_169 : decode cX8_token 169 = .ok (.iconst 2, 1) := by decide +kernel
theorem dX8_token_170 : decode cX8_token 170 = .ok (.if_icmp .ne 111, 3) := by decide +kernel
theorem dX8_token_173 : decode cX8_token 173 = .ok (.aload_n 0, 1) := by decide +kernel
theorem dX8_token_174 : decode cX8_token 174 = .ok (.aload_n 0, 1) := by decide +kernel
theorem dX8_token_175 : decode cX8_token 175 = .ok (.aload_n 0, 1) := by decide +kernel
theorem dX8_token_176 : decode cX8_token 176 = .ok (.getfield 181, 3) := by decide +kernel
theorem dX8_token_179 : decode cX8_token 179 = .ok (.aload_n 0, 1) := by decide +kernel
theorem dX8_token_180 : decode cX8_token 180 = .ok (.getfield 187, 3) := by decide +kernel
theorem dX8_token_183 : decode cX8_token 183 = .ok (.invokevirtual 204, 3) := by decide +kernel
theorem dX8_token_186 : decode cX8_token 186 = .ok (.putfield 201, 3) := by decide +kernel
theorem dX8_token_189 : decode cX8_token 189 = .ok (.goto 92, 3) := by decide +kernel
theorem dX8_token_192 : decode cX8_token 192 = .ok (.aload_n 0, 1) := by decide +kernel
theorem dX8_token_193 : decode cX8_token 193 = .ok (.aload_n 0, 1) := by decide +kernel
theorem dX8_token_194 : decode cX8_token 194 = .ok (.getfield 187, 3) := by decide +kernel
theorem dX8_token_197 : decode cX8_token 197 = .ok (.invokevirtual 207, 3) := by decide +kernel
theorem dX8_token_200 : decode cX8_token 200 = .ok (.ifCond .eq 77, 3) := by decide +kernel
theorem dX8_token_203 : decode cX8_token 203 = .ok (.aload_n 0, 1) := by decide +kernel
theorem dX8_token_204 : decode cX8_token 204 = .ok (.iconst 3, 1) := by decide +kernel
theorem dX8_token_205 : decode cX8_token 205 = .ok (.putfield 190, 3) := by decide +kernel
theorem dX8_token_208 : decode cX8_token 208 = .ok (.aload_n 0, 1) := by decide +kernel
theorem dX8_token_209 : decode cX8_token 209 = .ok (.iconst 0, 1) := by decide +kernel
theorem dX8_token_210 : decode cX8_token 210 = .ok (.putfield 201, 3) := by decide +kernel
theorem dX8_token_213 : decode cX8_token 213 = .ok (.aload_n 0, 1) := by decide +kernel
theorem dX8_token_214 : decode cX8_token 214 = .ok (.aload_n 0, 1) := by decide +kernel
theorem dX8_token_215 : decode cX8_token 215 = .ok (.getfield 187, 3) := by decide +kernel
theorem dX8_token_218 : decode cX8_token 218 = .ok (.invokevirtual 207, 3) := by decide +kernel
theorem dX8_token_221 : decode cX8_token 221 = .ok (.ifCond .eq 60, 3) := by decide +kernel
theorem dX8_token_224 : decode cX8_token 224 = .ok (.aload_n 0, 1) := by decide +kernel
theorem dX8_token_225 : decode cX8_token 225 = .ok (.aload_n 0, 1) := by decide +kernel
theorem dX8_token_226 : decode cX8_token 226 = .ok (.getfield 201, 3) := by decide +kernel
theorem dX8_token_229 : decode cX8_token 229 = .ok (.ldc 210, 2) := by decide +kernel
theorem dX8_token_231 : decode cX8_token 231 = .ok (.if_icmp .le 10, 3) := by decide +kernel
theorem dX8_token_234 : decode cX8_token 234 = .ok (.aload_n 0, 1) := by decide +kernel
theorem dX8_token_235 : decode cX8_token 235 = .ok (.getfield 201, 3) := by decide +kernel
theorem dX8_token_238 : decode cX8_token 238 = .ok (.goto 23, 3) := by decide +kernel
theorem dX8_token_241 : decode cX8_token 241 = .ok (.bipush 10, 2) := by decide +kernel
theorem dX8_token_243 : decode cX8_token 243 = .ok (.aload_n 0, 1) := by decide +kernel
theorem dX8_token_244 : decode cX8_token 244 = .ok (.getfield 201, 3) := by decide +kernel
theorem dX8_token_247 : decode cX8_token 247 = .ok (.imul, 1) := by decide +kernel
theorem dX8_token_248 : decode cX8_token 248 = .ok (.aload_n 0, 1) := by decide +kernel
theorem dX8_token_249 : decode cX8_token 249 = .ok (.getfield 7, 3) := by decide +kernel
theorem dX8_token_252 : decode cX8_token 252 = .ok (.aload_n 0, 1) := by decide +kernel
theorem dX8_token_253 : decode cX8_token 253 = .ok (.getfield 187, 3) := by decide +kernel
theorem dX8_token_256 : decode cX8_token 256 = .ok (.iaload, 1) := by decide +kernel
theorem dX8_token_257 : decode cX8_token 257 = .ok (.iadd, 1) := by decide +kernel
theorem dX8_token_258 : decode cX8_token 258 = .ok (.bipush 48, 2) := by decide +kernel
theorem dX8_token_260 : decode cX8_token 260 = .ok (.isub, 1) := by decide +kernel
theorem dX8_token_261 : decode cX8_token 261 = .ok (.putfield 201, 3) := by decide +kernel
theorem dX8_token_264 : decode cX8_token 264 = .ok (.aload_n 0, 1) := by decide +kernel
theorem dX8_token_265 : decode cX8_token 265 = .ok (.dup, 1) := by decide +kernel
theorem dX8_token_266 : decode cX8_token 266 = .ok (.getfield 187, 3) := by decide +kernel
theorem dX8_token_269 : decode cX8_token 269 = .ok (.iconst 1, 1) := by decide +kernel
theorem dX8_token_270 : decode cX8_token 270 = .ok (.iadd, 1) := by decide +kernel
theorem dX8_token_271 : decode cX8_token 271 = .ok (.putfield 187, 3) := by decide +kernel
theorem dX8_token_274 : decode cX8_token 274 = .ok (.goto (-61), 3) := by decide +kernel
theorem dX8_token_277 : decode cX8_token 277 = .ok (.aload_n 0, 1) := by decide +kernel
theorem dX8_token_278 : decode cX8_token 278 = .ok (.invokevirtual 211, 3) := by decide +kernel
theorem dX8_token_281 : decode cX8_token 281 = .ok (.return_, 1) := by decide +kernel
theorem dX8_plain_0 : decode cX8_plain 0 = .ok (.aload_n 0, 1) := by decide +kernel
theorem dX8_plain_1 : decode cX8_plain 1 = .ok (.iconst 0, 1) := by decide +kernel
theorem dX8_plain_2 : decode cX8_plain 2 = .ok (.putfield 234, 3) := by decide +kernel
theorem dX8_plain_5 : decode cX8_plain 5 = .ok (.aload_n 0, 1) := by decide +kernel
theorem dX8_plain_6 : decode cX8_plain 6 = .ok (.iconst 0, 1) := by decide +kernel
theorem dX8_plain_7 : decode cX8_plain 7 = .ok (.putfield 237, 3) := by decide +kernel
theorem dX8_plain_10 : decode cX8_plain 10 = .ok (.aload_n 0, 1) := by decide +kernel
theorem dX8_plain_11 : decode cX8_plain 11 = .ok (.iconst 0, 1) := by decide +kernel
theorem dX8_plain_12 : decode cX8_plain 12 = .ok (.putfield 240, 3) := by decide +kernel
theorem dX8_plain_15 : decode cX8_plain 15 = .ok (.aload_n 0, 1) := by decide +kernel
theorem dX8_plain_16 : decode cX8_plain 16 = .ok (.iconst 0, 1) := by decide +kernel
theorem dX8_plain_17 : decode cX8_plain 17 = .ok (.putfield 243, 3) := by decide +kernel
theorem dX8_plain_20 : decode cX8_plain 20 = .ok (.aload_n 0, 1) := by decide +kernel
theorem dX8_plain_21 : decode cX8_plain 21 = .ok (.iconst 0, 1) := by decide +kernel
theorem dX8_plain_22 : decode cX8_plain 22 = .ok (.putfield 246, 3) := by decide +kernel
theorem dX8_plain_25 : decode cX8_plain 25 = .ok (.aload_n 0, 1) := by decide +kernel
theorem dX8_plain_26 : decode cX8_plain 26 = .ok (.iconst 0, 1) := by decide +kernel
theorem dX8_plain_27 : decode cX8_plain 27 = .ok (.putfield 249, 3) := by decide +kernel
theorem dX8_plain_30 : decode cX8_plain 30 = .ok (.iconst 0, 1) := by decide +kernel
theorem dX8_plain_31 : decode cX8_plain 31 = .ok (.istore_n 1, 1) := by decide +kernel
theorem dX8_plain_32 : decode cX8_plain 32 = .ok (.iload_n 1, 1) := by decide +kernel
theorem dX8_plain_33 : decode cX8_plain 33 = .ok (.iconst 3, 1) := by decide +kernel
theorem dX8_plain_34 : decode cX8_plain 34 = .ok (.if_icmp .ge 34, 3) := by decide +kernel
theorem dX8_plain_37 : decode cX8_plain 37 = .ok (.aload_n 0, 1) := by decide +kernel
theorem dX8_plain_38 : decode cX8_plain 38 = .ok (.getfield 20, 3) := by decide +kernel
theorem dX8_plain_41 : decode cX8_plain 41 = .ok (.iload_n 1, 1) := by decide +kernel
theorem dX8_plain_42 : decode cX8_plain 42 = .ok (.iconst 0, 1) := by decide +kernel
theorem dX8_plain_43 : decode cX8_plain 43 = .ok (.bastore, 1) := by decide +kernel
theorem dX8_plain_44 : decode cX8_plain 44 = .ok (.aload_n 0, 1) := by decide +kernel
theorem dX8_plain_45 : decode cX8_plain 45 = .ok (.getfield 24, 3) := by decide +kernel
theorem dX8_plain_48 : decode cX8_plain 48 = .ok (.iconst 3, 1) := by decide +kernel
theorem dX8_plain_49 : decode cX8_plain 49 = .ok (.iload_n 1, 1) := by decide +kernel
theorem dX8_plain_50 : decode cX8_plain 50 = .ok (.iadd, 1) := by decide +kernel
theorem dX8_plain_51 : decode cX8_plain 51 = .ok (.iconst 0, 1) := by decide +kernel
theorem dX8_plain_52 : decode cX8_plain 52 = .ok (.iastore, 1) := by decide +kernel
theorem dX8_plain_53 : decode cX8_plain 53 = .ok (.aload_n 0, 1) := by decide +kernel
theorem dX8_plain_54 : decode cX8_plain 54 = .ok (.getfield 63, 3) := by decide +kernel
theorem dX8_plain_57 : decode cX8_plain 57 = .ok (.iconst 3, 1) := by decide +kernel
theorem dX8_plain_58 : decode cX8_plain 58 = .ok (.iload_n 1, 1) := by decide +kernel
theorem dX8_plain_59 : decode cX8_plain 59 = .ok (.iadd, 1) := by decide +kernel
theorem dX8_plain_60 : decode cX8_plain 60 = .ok (.iconst 0, 1) := by decide +kernel
theorem dX8_plain_61 : decode cX8_plain 61 = .ok (.bastore, 1) := by decide +kernel
theorem dX8_plain_62 : decode cX8_plain 62 = .ok (.iinc 1 1, 3) := by decide +kernel
theorem dX8_plain_65 : decode cX8_plain 65 = .ok (.goto (-33), 3) := by decide +kernel
theorem dX8_plain_68 : decode cX8_plain 68 = .ok (.iconst 0, 1) := by decide +kernel
theorem dX8_plain_69 : decode cX8_plain 69 = .ok (.istore_n 1, 1) := by decide +kernel
theorem dX8_plain_70 : decode cX8_plain 70 = .ok (.iload_n 1, 1) := by decide +kernel
theorem dX8_plain_71 : decode cX8_plain 71 = .ok (.bipush 21, 2) := by decide +kernel
theorem dX8_plain_73 : decode cX8_plain 73 = .ok (.if_icmp .ge 27, 3) := by decide +kernel
theorem dX8_plain_76 : decode cX8_plain 76 = .ok (.aload_n 0, 1) := by decide +kernel
theorem dX8_plain_77 : decode cX8_plain 77 = .ok (.getfield 57, 3) := by decide +kernel
theorem dX8_plain_80 : decode cX8_plain 80 = .ok (.bipush 21, 2) := by decide +kernel
theorem dX8_plain_82 : decode cX8_plain 82 = .ok (.iload_n 1, 1) := by decide +kernel
theorem dX8_plain_83 : decode cX8_plain 83 = .ok (.iadd, 1) := by decide +kernel
theorem dX8_plain_84 : decode cX8_plain 84 = .ok (.bipush 60, 2) := by decide +kernel
theorem dX8_plain_86 : decode cX8_plain 86 = .ok (.iastore, 1) := by decide +kernel
theorem dX8_plain_87 : decode cX8_plain 87 = .ok (.aload_n 0, 1) := by decide +kernel
theorem dX8_plain_88 : decode cX8_plain 88 = .ok (.getfield 60, 3) := by decide +kernel
theorem dX8_plain_91 : decode cX8_plain 91 = .ok (.iload_n 1, 1) := by decide +kernel
theorem dX8_plain_92 : decode cX8_plain 92 = .ok (.iconst 0, 1) := by decide +kernel
theorem dX8_plain_93 : decode cX8_plain 93 = .ok (.bastore, 1) := by decide +kernel
theorem dX8_plain_94 : decode cX8_plain 94 = .ok (.iinc 1 1, 3) := by decide +kernel
theorem dX8_plain_97 : decode cX8_plain 97 = .ok (.goto (-27), 3) := by decide +kernel
theorem dX8_plain_100 : decode cX8_plain 100 = .ok (.return_, 1) := by decide +kernel
theorem dX8_copies_0 : decode cX8_copies 0 = .ok (.iconst 0, 1) := by decide +kernel
theorem dX8_copies_1 : decode cX8_copies 1 = .ok (.istore_n 2, 1) := by decide +kernel
theorem dX8_copies_2 : decode cX8_copies 2 = .ok (.iload_n 2, 1) := by decide +kernel
theorem dX8_copies_3 : decode cX8_copies 3 = .ok (.iload_n 1, 1) := by decide +kernel
theorem dX8_copies_4 : decode cX8_copies 4 = .ok (.if_icmp .ge 17, 3) := by decide +kernel
theorem dX8_copies_7 : decode cX8_copies 7 = .ok (.aload_n 0, 1) := by decide +kernel
theorem dX8_copies_8 : decode cX8_copies 8 = .ok (.iload_n 2, 1) := by decide +kernel
theorem dX8_copies_9 : decode cX8_copies 9 = .ok (.aload_n 0, 1) := by decide +kernel
theorem dX8_copies_10 : decode cX8_copies 10 = .ok (.iload_n 1, 1) := by decide +kernel
theorem dX8_copies_11 : decode cX8_copies 11 = .ok (.iload_n 2, 1) := by decide +kernel
theorem dX8_copies_12 : decode cX8_copies 12 = .ok (.iadd, 1) := by decide +kernel
theorem dX8_copies_13 : decode cX8_copies 13 = .ok (.iaload, 1) := by decide +kernel
theorem dX8_copies_14 : decode cX8_copies 14 = .ok (.iastore, 1) := by decide +kernel
theorem dX8_copies_15 : decode cX8_copies 15 = .ok (.iinc 2 1, 3) := by decide +kernel
theorem dX8_copies_18 : decode cX8_copies 18 = .ok (.goto (-16), 3) := by decide +kernel
theorem dX8_copies_21 : decode cX8_copies 21 = .ok (.return_, 1) := by decide +kernel
theorem dX8_keepText_0 : decode cX8_keepText 0 = .ok (.aload_n 0, 1) := by decide +kernel
theorem dX8_keepText_1 : decode cX8_keepText 1 = .ok (.aload_n 0, 1) := by decide +kernel
theorem dX8_keepText_2 : decode cX8_keepText 2 = .ok (.getfield 234, 3) := by decide +kernel
theorem dX8_keepText_5 : decode cX8_keepText 5 = .ok (.putfield 252, 3) := by decide +kernel
theorem dX8_keepText_8 : decode cX8_keepText 8 = .ok (.aload_n 0, 1) := by decide +kernel
theorem dX8_keepText_9 : decode cX8_keepText 9 = .ok (.aload_n 0, 1) := by decide +kernel
theorem dX8_keepText_10 : decode cX8_keepText 10 = .ok (.getfield 237, 3) := by decide +kernel
theorem dX8_keepText_13 : decode cX8_keepText 13 = .ok (.putfield 255, 3) := by decide +kernel
theorem dX8_keepText_16 : decode cX8_keepText 16 = .ok (.aload_n 0, 1) := by decide +kernel
theorem dX8_keepText_17 : decode cX8_keepText 17 = .ok (.aload_n 0, 1) := by decide +kernel
theorem dX8_keepText_18 : decode cX8_keepText 18 = .ok (.getfield 240, 3) := by decide +kernel
theorem dX8_keepText_21 : decode cX8_keepText 21 = .ok (.putfield 258, 3) := by decide +kernel
theorem dX8_keepText_24 : decode cX8_keepText 24 = .ok (.aload_n 0, 1) := by decide +kernel
theorem dX8_keepText_25 : decode cX8_keepText 25 = .ok (.aload_n 0, 1) := by decide +kernel
theorem dX8_keepText_26 : decode cX8_keepText 26 = .ok (.getfield 243, 3) := by decide +kernel
theorem dX8_keepText_29 : decode cX8_keepText 29 = .ok (.putfield 261, 3) := by decide +kernel
theorem dX8_keepText_32 : decode cX8_keepText 32 = .ok (.aload_n 0, 1) := by decide +kernel
theorem dX8_keepText_33 : decode cX8_keepText 33 = .ok (.getfield 24, 3) := by decide +kernel
theorem dX8_keepText_36 : decode cX8_keepText 36 = .ok (.iconst 3, 1) := by decide +kernel
theorem dX8_keepText_37 : decode cX8_keepText 37 = .ok (.invokestatic 264, 3) := by decide +kernel
theorem dX8_keepText_40 : decode cX8_keepText 40 = .ok (.aload_n 0, 1) := by decide +kernel
theorem dX8_keepText_41 : decode cX8_keepText 41 = .ok (.getfield 27, 3) := by decide +kernel
theorem dX8_keepText_44 : decode cX8_keepText 44 = .ok (.iconst 5, 1) := by decide +kernel
theorem dX8_keepText_45 : decode cX8_keepText 45 = .ok (.invokestatic 264, 3) := by decide +kernel
theorem dX8_keepText_48 : decode cX8_keepText 48 = .ok (.aload_n 0, 1) := by decide +kernel
theorem dX8_keepText_49 : decode cX8_keepText 49 = .ok (.getfield 30, 3) := by decide +kernel
theorem dX8_keepText_52 : decode cX8_keepText 52 = .ok (.iconst 5, 1) := by decide +kernel
theorem dX8_keepText_53 : decode cX8_keepText 53 = .ok (.invokestatic 264, 3) := by decide +kernel
theorem dX8_keepText_56 : decode cX8_keepText 56 = .ok (.aload_n 0, 1) := by decide +kernel
theorem dX8_keepText_57 : decode cX8_keepText 57 = .ok (.getfield 33, 3) := by decide +kernel
theorem dX8_keepText_60 : decode cX8_keepText 60 = .ok (.bipush 6, 2) := by decide +kernel
theorem dX8_keepText_62 : decode cX8_keepText 62 = .ok (.invokestatic 264, 3) := by decide +kernel
theorem dX8_keepText_65 : decode cX8_keepText 65 = .ok (.aload_n 0, 1) := by decide +kernel
theorem dX8_keepText_66 : decode cX8_keepText 66 = .ok (.getfield 36, 3) := by decide +kernel
theorem dX8_keepText_69 : decode cX8_keepText 69 = .ok (.bipush 6, 2) := by decide +kernel
theorem dX8_keepText_71 : decode cX8_keepText 71 = .ok (.invokestatic 264, 3) := by decide +kernel
theorem dX8_keepText_74 : decode cX8_keepText 74 = .ok (.aload_n 0, 1) := by decide +kernel
theorem dX8_keepText_75 : decode cX8_keepText 75 = .ok (.getfield 39, 3) := by decide +kernel
theorem dX8_keepText_78 : decode cX8_keepText 78 = .ok (.bipush 6, 2) := by decide +kernel
theorem dX8_keepText_80 : decode cX8_keepText 80 = .ok (.invokestatic 264, 3) := by decide +kernel
theorem dX8_keepText_83 : decode cX8_keepText 83 = .ok (.aload_n 0, 1) := by decide +kernel
theorem dX8_keepText_84 : decode cX8_keepText 84 = .ok (.getfield 42, 3) := by decide +kernel
theorem dX8_keepText_87 : decode cX8_keepText 87 = .ok (.bipush 6, 2) := by decide +kernel
theorem dX8_keepText_89 : decode cX8_keepText 89 = .ok (.invokestatic 264, 3) := by decide +kernel
theorem dX8_keepText_92 : decode cX8_keepText 92 = .ok (.aload_n 0, 1) := by decide +kernel
theorem dX8_keepText_93 : decode cX8_keepText 93 = .ok (.getfield 45, 3) := by decide +kernel
theorem dX8_keepText_96 : decode cX8_keepText 96 = .ok (.bipush 10, 2) := by decide +kernel
theorem dX8_keepText_98 : decode cX8_keepText 98 = .ok (.invokestatic 264, 3) := by decide +kernel
theorem dX8_keepText_101 : decode cX8_keepText 101 = .ok (.aload_n 0, 1) := by decide +kernel
theorem dX8_keepText_102 : decode cX8_keepText 102 = .ok (.getfield 48, 3) := by decide +kernel
theorem dX8_keepText_105 : decode cX8_keepText 105 = .ok (.bipush 10, 2) := by decide +kernel
theorem dX8_keepText_107 : decode cX8_keepText 107 = .ok (.invokestatic 264, 3) := by decide +kernel
theorem dX8_keepText_110 : decode cX8_keepText 110 = .ok (.aload_n 0, 1) := by decide +kernel
theorem dX8_keepText_111 : decode cX8_keepText 111 = .ok (.getfield 51, 3) := by decide +kernel
theorem dX8_keepText_114 : decode cX8_keepText 114 = .ok (.bipush 10, 2) := by decide +kernel
theorem dX8_keepText_116 : decode cX8_keepText 116 = .ok (.invokestatic 264, 3) := by decide +kernel
theorem dX8_keepText_119 : decode cX8_keepText 119 = .ok (.aload_n 0, 1) := by decide +kernel
theorem dX8_keepText_120 : decode cX8_keepText 120 = .ok (.getfield 54, 3) := by decide +kernel
theorem dX8_keepText_123 : decode cX8_keepText 123 = .ok (.bipush 10, 2) := by decide +kernel
theorem dX8_keepText_125 : decode cX8_keepText 125 = .ok (.invokestatic 264, 3) := by decide +kernel
theorem dX8_keepText_128 : decode cX8_keepText 128 = .ok (.aload_n 0, 1) := by decide +kernel
theorem dX8_keepText_129 : decode cX8_keepText 129 = .ok (.getfield 57, 3) := by decide +kernel
theorem dX8_keepText_132 : decode cX8_keepText 132 = .ok (.bipush 21, 2) := by decide +kernel
theorem dX8_keepText_134 : decode cX8_keepText 134 = .ok (.invokestatic 264, 3) := by decide +kernel
theorem dX8_keepText_137 : decode cX8_keepText 137 = .ok (.iconst 0, 1) := by decide +kernel
theorem dX8_keepText_138 : decode cX8_keepText 138 = .ok (.istore_n 1, 1) := by decide +kernel
theorem dX8_keepText_139 : decode cX8_keepText 139 = .ok (.iload_n 1, 1) := by decide +kernel
theorem dX8_keepText_140 : decode cX8_keepText 140 = .ok (.iconst 3, 1) := by decide +kernel
theorem dX8_keepText_141 : decode cX8_keepText 141 = .ok (.if_icmp .ge 23, 3) := by decide +kernel
theorem dX8_keepText_144 : decode cX8_keepText 144 = .ok (.aload_n 0, 1) := by decide +kernel
theorem dX8_keepText_145 : decode cX8_keepText 145 = .ok (.getfield 63, 3) := by decide +kernel
theorem dX8_keepText_148 : decode cX8_keepText 148 = .ok (.iload_n 1, 1) := by decide +kernel
theorem dX8_keepText_149 : decode cX8_keepText 149 = .ok (.aload_n 0, 1) := by decide +kernel
theorem dX8_keepText_150 : decode cX8_keepText 150 = .ok (.getfield 63, 3) := by decide +kernel
theorem dX8_keepText_153 : decode cX8_keepText 153 = .ok (.iconst 3, 1) := by decide +kernel
theorem dX8_keepText_154 : decode cX8_keepText 154 = .ok (.iload_n 1, 1) := by decide +kernel
theorem dX8_keepText_155 : decode cX8_keepText 155 = .ok (.iadd, 1) := by decide +kernel
theorem dX8_keepText_156 : decode cX8_keepText 156 = .ok (.baload, 1) := by decide +kernel
theorem dX8_keepText_157 : decode cX8_keepText 157 = .ok (.bastore, 1) := by decide +kernel
theorem dX8_keepText_158 : decode cX8_keepText 158 = .ok (.iinc 1 1, 3) := by decide +kernel
theorem dX8_keepText_161 : decode cX8_keepText 161 = .ok (.goto (-22), 3) := by decide +kernel
theorem dX8_keepText_164 : decode cX8_keepText 164 = .ok (.aload_n 0, 1) := by decide +kernel
theorem dX8_keepText_165 : decode cX8_keepText 165 = .ok (.getfield 66, 3) := by decide +kernel
theorem dX8_keepText_168 : decode cX8_keepText 168 = .ok (.iconst 3, 1) := by decide +kernel
theorem dX8_keepText_169 : decode cX8_keepText 169 = .ok (.invokestatic 264, 3) := by decide +kernel
theorem dX8_keepText_172 : decode cX8_keepText 172 = .ok (.aload_n 0, 1) := by decide +kernel
theorem dX8_keepText_173 : decode cX8_keepText 173 = .ok (.getfield 69, 3) := by decide +kernel
theorem dX8_keepText_176 : decode cX8_keepText 176 = .ok (.iconst 3, 1) := by decide +kernel
theorem dX8_keepText_177 : decode cX8_keepText 177 = .ok (.invokestatic 264, 3) := by decide +kernel
theorem dX8_keepText_180 : decode cX8_keepText 180 = .ok (.aload_n 0, 1) := by decide +kernel
theorem dX8_keepText_181 : decode cX8_keepText 181 = .ok (.getfield 72, 3) := by decide +kernel
theorem dX8_keepText_184 : decode cX8_keepText 184 = .ok (.bipush 64, 2) := by decide +kernel
theorem dX8_keepText_186 : decode cX8_keepText 186 = .ok (.invokestatic 264, 3) := by decide +kernel
theorem dX8_keepText_189 : decode cX8_keepText 189 = .ok (.aload_n 0, 1) := by decide +kernel
theorem dX8_keepText_190 : decode cX8_keepText 190 = .ok (.getfield 75, 3) := by decide +kernel
theorem dX8_keepText_193 : decode cX8_keepText 193 = .ok (.bipush 64, 2) := by decide +kernel
theorem dX8_keepText_195 : decode cX8_keepText 195 = .ok (.invokestatic 264, 3) := by decide +kernel
theorem dX8_keepText_198 : decode cX8_keepText 198 = .ok (.aload_n 0, 1) := by decide +kernel
theorem dX8_keepText_199 : decode cX8_keepText 199 = .ok (.getfield 78, 3) := by decide +kernel
theorem dX8_keepText_202 : decode cX8_keepText 202 = .ok (.bipush 64, 2) := by decide +kernel
theorem dX8_keepText_204 : decode cX8_keepText 204 = .ok (.invokestatic 264, 3) := by decide +kernel
theorem dX8_keepText_207 : decode cX8_keepText 207 = .ok (.aload_n 0, 1) := by decide +kernel
theorem dX8_keepText_208 : decode cX8_keepText 208 = .ok (.invokevirtual 268, 3) := by decide +kernel
theorem dX8_keepText_211 : decode cX8_keepText 211 = .ok (.return_, 1) := by decide +kernel
theorem dX8_find_0 : decode cX8_find 0 = .ok (.iconst 0, 1) := by decide +kernel
theorem dX8_find_1 : decode cX8_find 1 = .ok (.istore 4, 2) := by decide +kernel
theorem dX8_find_3 : decode cX8_find 3 = .ok (.iload 4, 2) := by decide +kernel
theorem dX8_find_5 : decode cX8_find 5 = .ok (.iload_n 2, 1) := by decide +kernel
theorem dX8_find_6 : decode cX8_find 6 = .ok (.if_icmp .ge 22, 3) := by decide +kernel
theorem dX8_find_9 : decode cX8_find 9 = .ok (.aload_n 0, 1) := by decide +kernel
theorem dX8_find_10 : decode cX8_find 10 = .ok (.iload_n 1, 1) := by decide +kernel
theorem dX8_find_11 : decode cX8_find 11 = .ok (.iload 4, 2) := by decide +kernel
theorem dX8_find_13 : decode cX8_find 13 = .ok (.iadd, 1) := by decide +kernel
theorem dX8_find_14 : decode cX8_find 14 = .ok (.iaload, 1) := by decide +kernel
theorem dX8_find_15 : decode cX8_find 15 = .ok (.iload_n 3, 1) := by decide +kernel
theorem dX8_find_16 : decode cX8_find 16 = .ok (.if_icmp .ne 6, 3) := by decide +kernel
theorem dX8_find_19 : decode cX8_find 19 = .ok (.iload 4, 2) := by decide +kernel
theorem dX8_find_21 : decode cX8_find 21 = .ok (.ireturn, 1) := by decide +kernel
theorem dX8_find_22 : decode cX8_find 22 = .ok (.iinc 4 1, 3) := by decide +kernel
theorem dX8_find_25 : decode cX8_find 25 = .ok (.goto (-22), 3) := by decide +kernel
theorem dX8_find_28 : decode cX8_find 28 = .ok (.iconst (-1), 1) := by decide +kernel
theorem dX8_find_29 : decode cX8_find 29 = .ok (.ireturn, 1) := by decide +kernel
theorem dX8_text_0 : decode cX8_text 0 = .ok (.aload_n 0, 1) := by decide +kernel
theorem dX8_text_1 : decode cX8_text 1 = .ok (.iconst 0, 1) := by decide +kernel
theorem dX8_text_2 : decode cX8_text 2 = .ok (.putfield 172, 3) := by decide +kernel
theorem dX8_text_5 : decode cX8_text 5 = .ok (.iload_n 1, 1) := by decide +kernel
theorem dX8_text_6 : decode cX8_text 6 = .ok (.ifCond .lt 11, 3) := by decide +kernel
theorem dX8_text_9 : decode cX8_text 9 = .ok (.iload_n 1, 1) := by decide +kernel
theorem dX8_text_10 : decode cX8_text 10 = .ok (.aload_n 0, 1) := by decide +kernel
theorem dX8_text_11 : decode cX8_text 11 = .ok (.getfield 175, 3) := by decide +kernel
theorem dX8_text_14 : decode cX8_text 14 = .ok (.if_icmp .le 6, 3) := by decide +kernel
theorem dX8_text_17 : decode cX8_text 17 = .ok (.bipush (-2), 2) := by decide +kernel
theorem dX8_text_19 : decode cX8_text 19 = .ok (.ireturn, 1) := by decide +kernel
theorem dX8_text_20 : decode cX8_text 20 = .ok (.aload_n 0, 1) := by decide +kernel
theorem dX8_text_21 : decode cX8_text 21 = .ok (.iload_n 1, 1) := by decide +kernel
theorem dX8_text_22 : decode cX8_text 22 = .ok (.putfield 184, 3) := by decide +kernel
theorem dX8_text_25 : decode cX8_text 25 = .ok (.aload_n 0, 1) := by decide +kernel
theorem dX8_text_26 : decode cX8_text 26 = .ok (.iconst 0, 1) := by decide +kernel
theorem dX8_text_27 : decode cX8_text 27 = .ok (.putfield 175, 3) := by decide +kernel
theorem dX8_text_30 : decode cX8_text 30 = .ok (.aload_n 0, 1) := by decide +kernel
theorem dX8_text_31 : decode cX8_text 31 = .ok (.iconst 0, 1) := by decide +kernel
theorem dX8_text_32 : decode cX8_text 32 = .ok (.putfield 178, 3) := by decide +kernel
theorem dX8_text_35 : decode cX8_text 35 = .ok (.aload_n 0, 1) := by decide +kernel
theorem dX8_text_36 : decode cX8_text 36 = .ok (.iconst (-1), 1) := by decide +kernel
theorem dX8_text_37 : decode cX8_text 37 = .ok (.putfield 16, 3) := by decide +kernel
theorem dX8_text_40 : decode cX8_text 40 = .ok (.aload_n 0, 1) := by decide +kernel
theorem dX8_text_41 : decode cX8_text 41 = .ok (.iconst 0, 1) := by decide +kernel
theorem dX8_text_42 : decode cX8_text 42 = .ok (.putfield 187, 3) := by decide +kernel
theorem dX8_text_45 : decode cX8_text 45 = .ok (.aload_n 0, 1) := by decide +kernel
theorem dX8_text_46 : decode cX8_text 46 = .ok (.invokevirtual 166, 3) := by decide +kernel
theorem dX8_text_49 : decode cX8_text 49 = .ok (.aload_n 0, 1) := by decide +kernel
theorem dX8_text_50 : decode cX8_text 50 = .ok (.invokevirtual 224, 3) := by decide +kernel
theorem dX8_text_53 : decode cX8_text 53 = .ok (.iconst 0, 1) := by decide +kernel
theorem dX8_text_54 : decode cX8_text 54 = .ok (.istore_n 2, 1) := by decide +kernel
theorem dX8_text_55 : decode cX8_text 55 = .ok (.aload_n 0, 1) := by decide +kernel
theorem dX8_text_56 : decode cX8_text 56 = .ok (.getfield 190, 3) := by decide +kernel
theorem dX8_text_59 : decode cX8_text 59 = .ok (.ifCond .eq 18, 3) := by decide +kernel
theorem dX8_text_62 : decode cX8_text 62 = .ok (.aload_n 0, 1) := by decide +kernel
theorem dX8_text_63 : decode cX8_text 63 = .ok (.invokevirtual 294, 3) := by decide +kernel
theorem dX8_text_66 : decode cX8_text 66 = .ok (.ifCond .ne 5, 3) := by decide +kernel
theorem dX8_text_69 : decode cX8_text 69 = .ok (.iconst (-1), 1) := by decide +kernel
theorem dX8_text_70 : decode cX8_text 70 = .ok (.ireturn, 1) := by decide +kernel
theorem dX8_text_71 : decode cX8_text 71 = .ok (.iinc 2 1, 3) := by decide +kernel
theorem dX8_text_74 : decode cX8_text 74 = .ok (.goto (-19), 3) := by decide +kernel
theorem dX8_text_77 : decode cX8_text 77 = .ok (.aload_n 0, 1) := by decide +kernel
theorem dX8_text_78 : decode cX8_text 78 = .ok (.invokevirtual 169, 3) := by decide +kernel
theorem dX8_text_81 : decode cX8_text 81 = .ok (.iload_n 2, 1) := by decide +kernel
theorem dX8_text_82 : decode cX8_text 82 = .ok (.ireturn, 1) := by decide +kernel
theorem dX8_fault_0 : decode cX8_fault 0 = .ok (.aload_n 0, 1) := by decide +kernel
theorem dX8_fault_1 : decode cX8_fault 1 = .ok (.iconst 0, 1) := by decide +kernel
theorem dX8_fault_2 : decode cX8_fault 2 = .ok (.putfield 172, 3) := by decide +kernel
theorem dX8_fault_5 : decode cX8_fault 5 = .ok (.iload_n 1, 1) := by decide +kernel
theorem dX8_fault_6 : decode cX8_fault 6 = .ok (.ifCond .ne 10, 3) := by decide +kernel
theorem dX8_fault_9 : decode cX8_fault 9 = .ok (.aload_n 0, 1) := by decide +kernel
theorem dX8_fault_10 : decode cX8_fault 10 = .ok (.getfield 178, 3) := by decide +kernel
theorem dX8_fault_13 : decode cX8_fault 13 = .ok (.goto 16, 3) := by decide +kernel
theorem dX8_fault_16 : decode cX8_fault 16 = .ok (.iload_n 1, 1) := by decide +kernel
theorem dX8_fault_17 : decode cX8_fault 17 = .ok (.iconst 1, 1) := by decide +kernel
theorem dX8_fault_18 : decode cX8_fault 18 = .ok (.if_icmp .ne 10, 3) := by decide +kernel
theorem dX8_fault_21 : decode cX8_fault 21 = .ok (.aload_n 0, 1) := by decide +kernel
theorem dX8_fault_22 : decode cX8_fault 22 = .ok (.getfield 16, 3) := by decide +kernel
theorem dX8_fault_25 : decode cX8_fault 25 = .ok (.goto 4, 3) := by decide +kernel
theorem dX8_fault_28 : decode cX8_fault 28 = .ok (.iconst (-1), 1) := by decide +kernel
theorem dX8_fault_29 : decode cX8_fault 29 = .ok (.ireturn, 1) := by decide +kernel
theorem dX8_named_0 : decode cX8_named 0 = .ok (.aload_n 0, 1) := by decide +kernel
theorem dX8_named_1 : decode cX8_named 1 = .ok (.iconst 0, 1) := by decide +kernel
theorem dX8_named_2 : decode cX8_named 2 = .ok (.putfield 172, 3) := by decide +kernel
theorem dX8_named_5 : decode cX8_named 5 = .ok (.aload_n 0, 1) := by decide +kernel
theorem dX8_named_6 : decode cX8_named 6 = .ok (.getfield 33, 3) := by decide +kernel
theorem dX8_named_9 : decode cX8_named 9 = .ok (.iconst 0, 1) := by decide +kernel
theorem dX8_named_10 : decode cX8_named 10 = .ok (.aload_n 0, 1) := by decide +kernel
theorem dX8_named_11 : decode cX8_named 11 = .ok (.getfield 255, 3) := by decide +kernel
theorem dX8_named_14 : decode cX8_named 14 = .ok (.iload_n 1, 1) := by decide +kernel
theorem dX8_named_15 : decode cX8_named 15 = .ok (.invokestatic 271, 3) := by decide +kernel
theorem dX8_named_18 : decode cX8_named 18 = .ok (.ireturn, 1) := by decide +kernel
theorem dX8_begin_0 : decode cX8_begin 0 = .ok (.aload_n 0, 1) := by decide +kernel
theorem dX8_begin_1 : decode cX8_begin 1 = .ok (.iconst 0, 1) := by decide +kernel
theorem dX8_begin_2 : decode cX8_begin 2 = .ok (.invokevirtual 366, 3) := by decide +kernel
theorem dX8_begin_5 : decode cX8_begin 5 = .ok (.aload_n 0, 1) := by decide +kernel
theorem dX8_begin_6 : decode cX8_begin 6 = .ok (.aload_n 0, 1) := by decide +kernel
theorem dX8_begin_7 : decode cX8_begin 7 = .ok (.getfield 24, 3) := by decide +kernel
theorem dX8_begin_10 : decode cX8_begin 10 = .ok (.iconst 2, 1) := by decide +kernel
theorem dX8_begin_11 : decode cX8_begin 11 = .ok (.iaload, 1) := by decide +kernel
theorem dX8_begin_12 : decode cX8_begin 12 = .ok (.i2l, 1) := by decide +kernel
theorem dX8_begin_13 : decode cX8_begin 13 = .ok (.putfield 369, 3) := by decide +kernel
theorem dX8_begin_16 : decode cX8_begin 16 = .ok (.aload_n 0, 1) := by decide +kernel
theorem dX8_begin_17 : decode cX8_begin 17 = .ok (.invokevirtual 373, 3) := by decide +kernel
theorem dX8_begin_20 : decode cX8_begin 20 = .ok (.aload_n 0, 1) := by decide +kernel
theorem dX8_begin_21 : decode cX8_begin 21 = .ok (.iconst 0, 1) := by decide +kernel
theorem dX8_begin_22 : decode cX8_begin 22 = .ok (.putfield 376, 3) := by decide +kernel
theorem dX8_begin_25 : decode cX8_begin 25 = .ok (.aload_n 0, 1) := by decide +kernel
theorem dX8_begin_26 : decode cX8_begin 26 = .ok (.iconst (-1), 1) := by decide +kernel
theorem dX8_begin_27 : decode cX8_begin 27 = .ok (.putfield 145, 3) := by decide +kernel
theorem dX8_begin_30 : decode cX8_begin 30 = .ok (.aload_n 0, 1) := by decide +kernel
theorem dX8_begin_31 : decode cX8_begin 31 = .ok (.iconst 0, 1) := by decide +kernel
theorem dX8_begin_32 : decode cX8_begin 32 = .ok (.putfield 379, 3) := by decide +kernel
theorem dX8_begin_35 : decode cX8_begin 35 = .ok (.aload_n 0, 1) := by decide +kernel
theorem dX8_begin_36 : decode cX8_begin 36 = .ok (.iconst 0, 1) := by decide +kernel
theorem dX8_begin_37 : decode cX8_begin 37 = .ok (.putfield 382, 3) := by decide +kernel
theorem dX8_begin_40 : decode cX8_begin 40 = .ok (.return_, 1) := by decide +kernel
theorem dX8_atFirst_0 : decode cX8_atFirst 0 = .ok (.iconst 0, 1) := by decide +kernel
theorem dX8_atFirst_1 : decode cX8_atFirst 1 = .ok (.istore_n 2, 1) := by decide +kernel
theorem dX8_atFirst_2 : decode cX8_atFirst 2 = .ok (.iload_n 2, 1) := by decide +kernel
theorem dX8_atFirst_3 : decode cX8_atFirst 3 = .ok (.bipush 10, 2) := by decide +kernel
theorem dX8_atFirst_5 : decode cX8_atFirst 5 = .ok (.if_icmp .ge 33, 3) := by decide +kernel
theorem dX8_atFirst_8 : decode cX8_atFirst 8 = .ok (.aload_n 0, 1) := by decide +kernel
theorem dX8_atFirst_9 : decode cX8_atFirst 9 = .ok (.getfield 94, 3) := by decide +kernel
theorem dX8_atFirst_12 : decode cX8_atFirst 12 = .ok (.bipush 10, 2) := by decide +kernel
theorem dX8_atFirst_14 : decode cX8_atFirst 14 = .ok (.iload_n 1, 1) := by decide +kernel
theorem dX8_atFirst_15 : decode cX8_atFirst 15 = .ok (.imul, 1) := by decide +kernel
theorem dX8_atFirst_16 : decode cX8_atFirst 16 = .ok (.iload_n 2, 1) := by decide +kernel
theorem dX8_atFirst_17 : decode cX8_atFirst 17 = .ok (.iadd, 1) := by decide +kernel
theorem dX8_atFirst_18 : decode cX8_atFirst 18 = .ok (.iconst 0, 1) := by decide +kernel
theorem dX8_atFirst_19 : decode cX8_atFirst 19 = .ok (.iastore, 1) := by decide +kernel
theorem dX8_atFirst_20 : decode cX8_atFirst 20 = .ok (.aload_n 0, 1) := by decide +kernel
theorem dX8_atFirst_21 : decode cX8_atFirst 21 = .ok (.getfield 97, 3) := by decide +kernel
theorem dX8_atFirst_24 : decode cX8_atFirst 24 = .ok (.bipush 10, 2) := by decide +kernel
theorem dX8_atFirst_26 : decode cX8_atFirst 26 = .ok (.iload_n 1, 1) := by decide +kernel
theorem dX8_atFirst_27 : decode cX8_atFirst 27 = .ok (.imul, 1) := by decide +kernel
theorem dX8_atFirst_28 : decode cX8_atFirst 28 = .ok (.iload_n 2, 1) := by decide +kernel
theorem dX8_atFirst_29 : decode cX8_atFirst 29 = .ok (.iadd, 1) := by decide +kernel
theorem dX8_atFirst_30 : decode cX8_atFirst 30 = .ok (.iconst (-1), 1) := by decide +kernel
theorem dX8_atFirst_31 : decode cX8_atFirst 31 = .ok (.iastore, 1) := by decide +kernel
theorem dX8_atFirst_32 : decode cX8_atFirst 32 = .ok (.iinc 2 1, 3) := by decide +kernel
theorem dX8_atFirst_35 : decode cX8_atFirst 35 = .ok (.goto (-33), 3) := by decide +kernel
theorem dX8_atFirst_38 : decode cX8_atFirst 38 = .ok (.iconst 0, 1) := by decide +kernel
theorem dX8_atFirst_39 : decode cX8_atFirst 39 = .ok (.istore_n 2, 1) := by decide +kernel
theorem dX8_atFirst_40 : decode cX8_atFirst 40 = .ok (.iload_n 2, 1) := by decide +kernel
theorem dX8_atFirst_41 : decode cX8_atFirst 41 = .ok (.iconst 5, 1) := by decide +kernel
theorem dX8_atFirst_42 : decode cX8_atFirst 42 = .ok (.if_icmp .ge 20, 3) := by decide +kernel
theorem dX8_atFirst_45 : decode cX8_atFirst 45 = .ok (.aload_n 0, 1) := by decide +kernel
theorem dX8_atFirst_46 : decode cX8_atFirst 46 = .ok (.getfield 103, 3) := by decide +kernel
theorem dX8_atFirst_49 : decode cX8_atFirst 49 = .ok (.iconst 5, 1) := by decide +kernel
theorem dX8_atFirst_50 : decode cX8_atFirst 50 = .ok (.iload_n 1, 1) := by decide +kernel
theorem dX8_atFirst_51 : decode cX8_atFirst 51 = .ok (.imul, 1) := by decide +kernel
theorem dX8_atFirst_52 : decode cX8_atFirst 52 = .ok (.iload_n 2, 1) := by decide +kernel
theorem dX8_atFirst_53 : decode cX8_atFirst 53 = .ok (.iadd, 1) := by decide +kernel
theorem dX8_atFirst_54 : decode cX8_atFirst 54 = .ok (.iconst 0, 1) := by decide +kernel
theorem dX8_atFirst_55 : decode cX8_atFirst 55 = .ok (.iastore, 1) := by decide +kernel
theorem dX8_atFirst_56 : decode cX8_atFirst 56 = .ok (.iinc 2 1, 3) := by decide +kernel
theorem dX8_atFirst_59 : decode cX8_atFirst 59 = .ok (.goto (-19), 3) := by decide +kernel
theorem dX8_atFirst_62 : decode cX8_atFirst 62 = .ok (.iconst 0, 1) := by decide +kernel
theorem dX8_atFirst_63 : decode cX8_atFirst 63 = .ok (.istore_n 2, 1) := by decide +kernel
theorem dX8_atFirst_64 : decode cX8_atFirst 64 = .ok (.iload_n 2, 1) := by decide +kernel
theorem dX8_atFirst_65 : decode cX8_atFirst 65 = .ok (.bipush 6, 2) := by decide +kernel
theorem dX8_atFirst_67 : decode cX8_atFirst 67 = .ok (.if_icmp .ge 67, 3) := by decide +kernel
theorem dX8_atFirst_70 : decode cX8_atFirst 70 = .ok (.aload_n 0, 1) := by decide +kernel
theorem dX8_atFirst_71 : decode cX8_atFirst 71 = .ok (.getfield 106, 3) := by decide +kernel
theorem dX8_atFirst_74 : decode cX8_atFirst 74 = .ok (.bipush 6, 2) := by decide +kernel
theorem dX8_atFirst_76 : decode cX8_atFirst 76 = .ok (.iload_n 1, 1) := by decide +kernel
theorem dX8_atFirst_77 : decode cX8_atFirst 77 = .ok (.imul, 1) := by decide +kernel
theorem dX8_atFirst_78 : decode cX8_atFirst 78 = .ok (.iload_n 2, 1) := by decide +kernel
theorem dX8_atFirst_79 : decode cX8_atFirst 79 = .ok (.iadd, 1) := by decide +kernel
theorem dX8_atFirst_80 : decode cX8_atFirst 80 = .ok (.aload_n 0, 1) := by decide +kernel
theorem dX8_atFirst_81 : decode cX8_atFirst 81 = .ok (.getfield 36, 3) := by decide +kernel
theorem dX8_atFirst_84 : decode cX8_atFirst 84 = .ok (.iload_n 2, 1) := by decide +kernel
theorem dX8_atFirst_85 : decode cX8_atFirst 85 = .ok (.iaload, 1) := by decide +kernel
theorem dX8_atFirst_86 : decode cX8_atFirst 86 = .ok (.iastore, 1) := by decide +kernel
theorem dX8_atFirst_87 : decode cX8_atFirst 87 = .ok (.aload_n 0, 1) := by decide +kernel
theorem dX8_atFirst_88 : decode cX8_atFirst 88 = .ok (.getfield 109, 3) := by decide +kernel
theorem dX8_atFirst_91 : decode cX8_atFirst 91 = .ok (.bipush 6, 2) := by decide +kernel
theorem dX8_atFirst_93 : decode cX8_atFirst 93 = .ok (.iload_n 1, 1) := by decide +kernel
theorem dX8_atFirst_94 : decode cX8_atFirst 94 = .ok (.imul, 1) := by decide +kernel
theorem dX8_atFirst_95 : decode cX8_atFirst 95 = .ok (.iload_n 2, 1) := by decide +kernel
theorem dX8_atFirst_96 : decode cX8_atFirst 96 = .ok (.iadd, 1) := by decide +kernel
theorem dX8_atFirst_97 : decode cX8_atFirst 97 = .ok (.aload_n 0, 1) := by decide +kernel
theorem dX8_atFirst_98 : decode cX8_atFirst 98 = .ok (.getfield 42, 3) := by decide +kernel
theorem dX8_atFirst_101 : decode cX8_atFirst 101 = .ok (.iload_n 2, 1) := by decide +kernel
theorem dX8_atFirst_102 : decode cX8_atFirst 102 = .ok (.iaload, 1) := by decide +kernel
theorem dX8_atFirst_103 : decode cX8_atFirst 103 = .ok (.iastore, 1) := by decide +kernel
theorem dX8_atFirst_104 : decode cX8_atFirst 104 = .ok (.aload_n 0, 1) := by decide +kernel
theorem dX8_atFirst_105 : decode cX8_atFirst 105 = .ok (.getfield 112, 3) := by decide +kernel
theorem dX8_atFirst_108 : decode cX8_atFirst 108 = .ok (.bipush 6, 2) := by decide +kernel
theorem dX8_atFirst_110 : decode cX8_atFirst 110 = .ok (.iload_n 1, 1) := by decide +kernel
theorem dX8_atFirst_111 : decode cX8_atFirst 111 = .ok (.imul, 1) := by decide +kernel
theorem dX8_atFirst_112 : decode cX8_atFirst 112 = .ok (.iload_n 2, 1) := by decide +kernel
theorem dX8_atFirst_113 : decode cX8_atFirst 113 = .ok (.iadd, 1) := by decide +kernel
theorem dX8_atFirst_114 : decode cX8_atFirst 114 = .ok (.iconst 0, 1) := by decide +kernel
theorem dX8_atFirst_115 : decode cX8_atFirst 115 = .ok (.iastore, 1) := by decide +kernel
theorem dX8_atFirst_116 : decode cX8_atFirst 116 = .ok (.aload_n 0, 1) := by decide +kernel
theorem dX8_atFirst_117 : decode cX8_atFirst 117 = .ok (.getfield 115, 3) := by decide +kernel
theorem dX8_atFirst_120 : decode cX8_atFirst 120 = .ok (.bipush 6, 2) := by decide +kernel
theorem dX8_atFirst_122 : decode cX8_atFirst 122 = .ok (.iload_n 1, 1) := by decide +kernel
theorem dX8_atFirst_123 : decode cX8_atFirst 123 = .ok (.imul, 1) := by decide +kernel
theorem dX8_atFirst_124 : decode cX8_atFirst 124 = .ok (.iload_n 2, 1) := by decide +kernel
theorem dX8_atFirst_125 : decode cX8_atFirst 125 = .ok (.iadd, 1) := by decide +kernel
theorem dX8_atFirst_126 : decode cX8_atFirst 126 = .ok (.iconst 0, 1) := by decide +kernel
theorem dX8_atFirst_127 : decode cX8_atFirst 127 = .ok (.iastore, 1) := by decide +kernel
theorem dX8_atFirst_128 : decode cX8_atFirst 128 = .ok (.iinc 2 1, 3) := by decide +kernel
theorem dX8_atFirst_131 : decode cX8_atFirst 131 = .ok (.goto (-67), 3) := by decide +kernel
theorem dX8_atFirst_134 : decode cX8_atFirst 134 = .ok (.aload_n 0, 1) := by decide +kernel
theorem dX8_atFirst_135 : decode cX8_atFirst 135 = .ok (.getfield 118, 3) := by decide +kernel
theorem dX8_atFirst_138 : decode cX8_atFirst 138 = .ok (.iload_n 1, 1) := by decide +kernel
theorem dX8_atFirst_139 : decode cX8_atFirst 139 = .ok (.iconst 0, 1) := by decide +kernel
theorem dX8_atFirst_140 : decode cX8_atFirst 140 = .ok (.iastore, 1) := by decide +kernel
theorem dX8_atFirst_141 : decode cX8_atFirst 141 = .ok (.aload_n 0, 1) := by decide +kernel
theorem dX8_atFirst_142 : decode cX8_atFirst 142 = .ok (.getfield 121, 3) := by decide +kernel
theorem dX8_atFirst_145 : decode cX8_atFirst 145 = .ok (.iload_n 1, 1) := by decide +kernel
theorem dX8_atFirst_146 : decode cX8_atFirst 146 = .ok (.iconst 0, 1) := by decide +kernel
theorem dX8_atFirst_147 : decode cX8_atFirst 147 = .ok (.iastore, 1) := by decide +kernel
theorem dX8_atFirst_148 : decode cX8_atFirst 148 = .ok (.aload_n 0, 1) := by decide +kernel
theorem dX8_atFirst_149 : decode cX8_atFirst 149 = .ok (.getfield 124, 3) := by decide +kernel
theorem dX8_atFirst_152 : decode cX8_atFirst 152 = .ok (.iload_n 1, 1) := by decide +kernel
theorem dX8_atFirst_153 : decode cX8_atFirst 153 = .ok (.iconst 0, 1) := by decide +kernel
theorem dX8_atFirst_154 : decode cX8_atFirst 154 = .ok (.iastore, 1) := by decide +kernel
theorem dX8_atFirst_155 : decode cX8_atFirst 155 = .ok (.return_, 1) := by decide +kernel
theorem dX8_plainTried_0 : decode cX8_plainTried 0 = .ok (.aload_n 0, 1) := by decide +kernel
theorem dX8_plainTried_1 : decode cX8_plainTried 1 = .ok (.aload_n 0, 1) := by decide +kernel
theorem dX8_plainTried_2 : decode cX8_plainTried 2 = .ok (.getfield 24, 3) := by decide +kernel
theorem dX8_plainTried_5 : decode cX8_plainTried 5 = .ok (.iconst 0, 1) := by decide +kernel
theorem dX8_plainTried_6 : decode cX8_plainTried 6 = .ok (.iaload, 1) := by decide +kernel
theorem dX8_plainTried_7 : decode cX8_plainTried 7 = .ok (.putfield 385, 3) := by decide +kernel
theorem dX8_plainTried_10 : decode cX8_plainTried 10 = .ok (.aload_n 0, 1) := by decide +kernel
theorem dX8_plainTried_11 : decode cX8_plainTried 11 = .ok (.iconst 0, 1) := by decide +kernel
theorem dX8_plainTried_12 : decode cX8_plainTried 12 = .ok (.putfield 388, 3) := by decide +kernel
theorem dX8_plainTried_15 : decode cX8_plainTried 15 = .ok (.aload_n 0, 1) := by decide +kernel
theorem dX8_plainTried_16 : decode cX8_plainTried 16 = .ok (.iconst 0, 1) := by decide +kernel
theorem dX8_plainTried_17 : decode cX8_plainTried 17 = .ok (.putfield 391, 3) := by decide +kernel
theorem dX8_plainTried_20 : decode cX8_plainTried 20 = .ok (.aload_n 0, 1) := by decide +kernel
theorem dX8_plainTried_21 : decode cX8_plainTried 21 = .ok (.iconst 0, 1) := by decide +kernel
theorem dX8_plainTried_22 : decode cX8_plainTried 22 = .ok (.putfield 394, 3) := by decide +kernel
theorem dX8_plainTried_25 : decode cX8_plainTried 25 = .ok (.aload_n 0, 1) := by decide +kernel
theorem dX8_plainTried_26 : decode cX8_plainTried 26 = .ok (.iconst 0, 1) := by decide +kernel
theorem dX8_plainTried_27 : decode cX8_plainTried 27 = .ok (.putfield 397, 3) := by decide +kernel
theorem dX8_plainTried_30 : decode cX8_plainTried 30 = .ok (.aload_n 0, 1) := by decide +kernel
theorem dX8_plainTried_31 : decode cX8_plainTried 31 = .ok (.iconst 0, 1) := by decide +kernel
theorem dX8_plainTried_32 : decode cX8_plainTried 32 = .ok (.putfield 400, 3) := by decide +kernel
theorem dX8_plainTried_35 : decode cX8_plainTried 35 = .ok (.aload_n 0, 1) := by decide +kernel
theorem dX8_plainTried_36 : decode cX8_plainTried 36 = .ok (.iconst 0, 1) := by decide +kernel
theorem dX8_plainTried_37 : decode cX8_plainTried 37 = .ok (.putfield 403, 3) := by decide +kernel
theorem dX8_plainTried_40 : decode cX8_plainTried 40 = .ok (.iconst 0, 1) := by decide +kernel
theorem dX8_plainTried_41 : decode cX8_plainTried 41 = .ok (.istore_n 1, 1) := by decide +kernel
theorem dX8_plainTried_42 : decode cX8_plainTried 42 = .ok (.iload_n 1, 1) := by decide +kernel
theorem dX8_plainTried_43 : decode cX8_plainTried 43 = .ok (.bipush 10, 2) := by decide +kernel
theorem dX8_plainTried_45 : decode cX8_plainTried 45 = .ok (.if_icmp .ge 16, 3) := by decide +kernel
theorem dX8_plainTried_48 : decode cX8_plainTried 48 = .ok (.aload_n 0, 1) := by decide +kernel
theorem dX8_plainTried_49 : decode cX8_plainTried 49 = .ok (.getfield 127, 3) := by decide +kernel
theorem dX8_plainTried_52 : decode cX8_plainTried 52 = .ok (.iload_n 1, 1) := by decide +kernel
theorem dX8_plainTried_53 : decode cX8_plainTried 53 = .ok (.iconst (-1), 1) := by decide +kernel
theorem dX8_plainTried_54 : decode cX8_plainTried 54 = .ok (.iastore, 1) := by decide +kernel
theorem dX8_plainTried_55 : decode cX8_plainTried 55 = .ok (.iinc 1 1, 3) := by decide +kernel
theorem dX8_plainTried_58 : decode cX8_plainTried 58 = .ok (.goto (-16), 3) := by decide +kernel
theorem dX8_plainTried_61 : decode cX8_plainTried 61 = .ok (.return_, 1) := by decide +kernel
theorem dX8_layTried_0 : decode cX8_layTried 0 = .ok (.iconst 0, 1) := by decide +kernel
theorem dX8_layTried_1 : decode cX8_layTried 1 = .ok (.istore_n 1, 1) := by decide +kernel
theorem dX8_layTried_2 : decode cX8_layTried 2 = .ok (.iload_n 1, 1) := by decide +kernel
theorem dX8_layTried_3 : decode cX8_layTried 3 = .ok (.bipush 10, 2) := by decide +kernel
theorem dX8_layTried_5 : decode cX8_layTried 5 = .ok (.if_icmp .ge 39, 3) := by decide +kernel
theorem dX8_layTried_8 : decode cX8_layTried 8 = .ok (.aload_n 0, 1) := by decide +kernel
theorem dX8_layTried_9 : decode cX8_layTried 9 = .ok (.getfield 94, 3) := by decide +kernel
theorem dX8_layTried_12 : decode cX8_layTried 12 = .ok (.bipush 10, 2) := by decide +kernel
theorem dX8_layTried_14 : decode cX8_layTried 14 = .ok (.iload_n 1, 1) := by decide +kernel
theorem dX8_layTried_15 : decode cX8_layTried 15 = .ok (.iadd, 1) := by decide +kernel
theorem dX8_layTried_16 : decode cX8_layTried 16 = .ok (.aload_n 0, 1) := by decide +kernel
theorem dX8_layTried_17 : decode cX8_layTried 17 = .ok (.getfield 94, 3) := by decide +kernel
theorem dX8_layTried_20 : decode cX8_layTried 20 = .ok (.iload_n 1, 1) := by decide +kernel
theorem dX8_layTried_21 : decode cX8_layTried 21 = .ok (.iaload, 1) := by decide +kernel
theorem dX8_layTried_22 : decode cX8_layTried 22 = .ok (.iastore, 1) := by decide +kernel
theorem dX8_layTried_23 : decode cX8_layTried 23 = .ok (.aload_n 0, 1) := by decide +kernel
theorem dX8_layTried_24 : decode cX8_layTried 24 = .ok (.getfield 97, 3) := by decide +kernel
theorem dX8_layTried_27 : decode cX8_layTried 27 = .ok (.bipush 10, 2) := by decide +kernel
theorem dX8_layTried_29 : decode cX8_layTried 29 = .ok (.iload_n 1, 1) := by decide +kernel
theorem dX8_layTried_30 : decode cX8_layTried 30 = .ok (.iadd, 1) := by decide +kernel
theorem dX8_layTried_31 : decode cX8_layTried 31 = .ok (.aload_n 0, 1) := by decide +kernel
theorem dX8_layTried_32 : decode cX8_layTried 32 = .ok (.getfield 97, 3) := by decide +kernel
theorem dX8_layTried_35 : decode cX8_layTried 35 = .ok (.iload_n 1, 1) := by decide +kernel
theorem dX8_layTried_36 : decode cX8_layTried 36 = .ok (.iaload, 1) := by decide +kernel
theorem dX8_layTried_37 : decode cX8_layTried 37 = .ok (.iastore, 1) := by decide +kernel
theorem dX8_layTried_38 : decode cX8_layTried 38 = .ok (.iinc 1 1, 3) := by decide +kernel
theorem dX8_layTried_41 : decode cX8_layTried 41 = .ok (.goto (-39), 3) := by decide +kernel
theorem dX8_layTried_44 : decode cX8_layTried 44 = .ok (.iconst 0, 1) := by decide +kernel
theorem dX8_layTried_45 : decode cX8_layTried 45 = .ok (.istore_n 1, 1) := by decide +kernel
theorem dX8_layTried_46 : decode cX8_layTried 46 = .ok (.iload_n 1, 1) := by decide +kernel
theorem dX8_layTried_47 : decode cX8_layTried 47 = .ok (.bipush 50, 2) := by decide +kernel
theorem dX8_layTried_49 : decode cX8_layTried 49 = .ok (.if_icmp .ge 24, 3) := by decide +kernel
theorem dX8_layTried_52 : decode cX8_layTried 52 = .ok (.aload_n 0, 1) := by decide +kernel
theorem dX8_layTried_53 : decode cX8_layTried 53 = .ok (.getfield 100, 3) := by decide +kernel
theorem dX8_layTried_56 : decode cX8_layTried 56 = .ok (.bipush 50, 2) := by decide +kernel
theorem dX8_layTried_58 : decode cX8_layTried 58 = .ok (.iload_n 1, 1) := by decide +kernel
theorem dX8_layTried_59 : decode cX8_layTried 59 = .ok (.iadd, 1) := by decide +kernel
theorem dX8_layTried_60 : decode cX8_layTried 60 = .ok (.aload_n 0, 1) := by decide +kernel
theorem dX8_layTried_61 : decode cX8_layTried 61 = .ok (.getfield 100, 3) := by decide +kernel
theorem dX8_layTried_64 : decode cX8_layTried 64 = .ok (.iload_n 1, 1) := by decide +kernel
theorem dX8_layTried_65 : decode cX8_layTried 65 = .ok (.iaload, 1) := by decide +kernel
theorem dX8_layTried_66 : decode cX8_layTried 66 = .ok (.iastore, 1) := by decide +kernel
theorem dX8_layTried_67 : decode cX8_layTried 67 = .ok (.iinc 1 1, 3) := by decide +kernel
theorem dX8_layTried_70 : decode cX8_layTried 70 = .ok (.goto (-24), 3) := by decide +kernel
theorem dX8_layTried_73 : decode cX8_layTried 73 = .ok (.iconst 0, 1) := by decide +kernel
theorem dX8_layTried_74 : decode cX8_layTried 74 = .ok (.istore_n 1, 1) := by decide +kernel
theorem dX8_layTried_75 : decode cX8_layTried 75 = .ok (.iload_n 1, 1) := by decide +kernel
theorem dX8_layTried_76 : decode cX8_layTried 76 = .ok (.iconst 5, 1) := by decide +kernel
theorem dX8_layTried_77 : decode cX8_layTried 77 = .ok (.if_icmp .ge 23, 3) := by decide +kernel
theorem dX8_layTried_80 : decode cX8_layTried 80 = .ok (.aload_n 0, 1) := by decide +kernel
theorem dX8_layTried_81 : decode cX8_layTried 81 = .ok (.getfield 103, 3) := by decide +kernel
theorem dX8_layTried_84 : decode cX8_layTried 84 = .ok (.iconst 5, 1) := by decide +kernel
theorem dX8_layTried_85 : decode cX8_layTried 85 = .ok (.iload_n 1, 1) := by decide +kernel
theorem dX8_layTried_86 : decode cX8_layTried 86 = .ok (.iadd, 1) := by decide +kernel
theorem dX8_layTried_87 : decode cX8_layTried 87 = .ok (.aload_n 0, 1) := by decide +kernel
theorem dX8_layTried_88 : decode cX8_layTried 88 = .ok (.getfield 103, 3) := by decide +kernel
theorem dX8_layTried_91 : decode cX8_layTried 91 = .ok (.iload_n 1, 1) := by decide +kernel
theorem dX8_layTried_92 : decode cX8_layTried 92 = .ok (.iaload, 1) := by decide +kernel
theorem dX8_layTried_93 : decode cX8_layTried 93 = .ok (.iastore, 1) := by decide +kernel
theorem dX8_layTried_94 : decode cX8_layTried 94 = .ok (.iinc 1 1, 3) := by decide +kernel
theorem dX8_layTried_97 : decode cX8_layTried 97 = .ok (.goto (-22), 3) := by decide +kernel
theorem dX8_layTried_100 : decode cX8_layTried 100 = .ok (.iconst 0, 1) := by decide +kernel
theorem dX8_layTried_101 : decode cX8_layTried 101 = .ok (.istore_n 1, 1) := by decide +kernel
theorem dX8_layTried_102 : decode cX8_layTried 102 = .ok (.iload_n 1, 1) := by decide +kernel
theorem dX8_layTried_103 : decode cX8_layTried 103 = .ok (.bipush 6, 2) := by decide +kernel
theorem dX8_layTried_105 : decode cX8_layTried 105 = .ok (.if_icmp .ge 69, 3) := by decide +kernel
theorem dX8_layTried_108 : decode cX8_layTried 108 = .ok (.aload_n 0, 1) := by decide +kernel
theorem dX8_layTried_109 : decode cX8_layTried 109 = .ok (.getfield 106, 3) := by decide +kernel
theorem dX8_layTried_112 : decode cX8_layTried 112 = .ok (.bipush 6, 2) := by decide +kernel
theorem dX8_layTried_114 : decode cX8_layTried 114 = .ok (.iload_n 1, 1) := by decide +kernel
theorem dX8_layTried_115 : decode cX8_layTried 115 = .ok (.iadd, 1) := by decide +kernel
theorem dX8_layTried_116 : decode cX8_layTried 116 = .ok (.aload_n 0, 1) := by decide +kernel
theorem dX8_layTried_117 : decode cX8_layTried 117 = .ok (.getfield 106, 3) := by decide +kernel
theorem dX8_layTried_120 : decode cX8_layTried 120 = .ok (.iload_n 1, 1) := by decide +kernel
theorem dX8_layTried_121 : decode cX8_layTried 121 = .ok (.iaload, 1) := by decide +kernel
theorem dX8_layTried_122 : decode cX8_layTried 122 = .ok (.iastore, 1) := by decide +kernel
theorem dX8_layTried_123 : decode cX8_layTried 123 = .ok (.aload_n 0, 1) := by decide +kernel
theorem dX8_layTried_124 : decode cX8_layTried 124 = .ok (.getfield 109, 3) := by decide +kernel
theorem dX8_layTried_127 : decode cX8_layTried 127 = .ok (.bipush 6, 2) := by decide +kernel
theorem dX8_layTried_129 : decode cX8_layTried 129 = .ok (.iload_n 1, 1) := by decide +kernel
theorem dX8_layTried_130 : decode cX8_layTried 130 = .ok (.iadd, 1) := by decide +kernel
theorem dX8_layTried_131 : decode cX8_layTried 131 = .ok (.aload_n 0, 1) := by decide +kernel
theorem dX8_layTried_132 : decode cX8_layTried 132 = .ok (.getfield 109, 3) := by decide +kernel
theorem dX8_layTried_135 : decode cX8_layTried 135 = .ok (.iload_n 1, 1) := by decide +kernel
theorem dX8_layTried_136 : decode cX8_layTried 136 = .ok (.iaload, 1) := by decide +kernel
theorem dX8_layTried_137 : decode cX8_layTried 137 = .ok (.iastore, 1) := by decide +kernel
theorem dX8_layTried_138 : decode cX8_layTried 138 = .ok (.aload_n 0, 1) := by decide +kernel
theorem dX8_layTried_139 : decode cX8_layTried 139 = .ok (.getfield 112, 3) := by decide +kernel
theorem dX8_layTried_142 : decode cX8_layTried 142 = .ok (.bipush 6, 2) := by decide +kernel
theorem dX8_layTried_144 : decode cX8_layTried 144 = .ok (.iload_n 1, 1) := by decide +kernel
theorem dX8_layTried_145 : decode cX8_layTried 145 = .ok (.iadd, 1) := by decide +kernel
theorem dX8_layTried_146 : decode cX8_layTried 146 = .ok (.aload_n 0, 1) := by decide +kernel
theorem dX8_layTried_147 : decode cX8_layTried 147 = .ok (.getfield 112, 3) := by decide +kernel
theorem dX8_layTried_150 : decode cX8_layTried 150 = .ok (.iload_n 1, 1) := by decide +kernel
theorem dX8_layTried_151 : decode cX8_layTried 151 = .ok (.iaload, 1) := by decide +kernel
theorem dX8_layTried_152 : decode cX8_layTried 152 = .ok (.iastore, 1) := by decide +kernel
theorem dX8_layTried_153 : decode cX8_layTried 153 = .ok (.aload_n 0, 1) := by decide +kernel
theorem dX8_layTried_154 : decode cX8_layTried 154 = .ok (.getfield 115, 3) := by decide +kernel
theorem dX8_layTried_157 : decode cX8_layTried 157 = .ok (.bipush 6, 2) := by decide +kernel
theorem dX8_layTried_159 : decode cX8_layTried 159 = .ok (.iload_n 1, 1) := by decide +kernel
theorem dX8_layTried_160 : decode cX8_layTried 160 = .ok (.iadd, 1) := by decide +kernel
theorem dX8_layTried_161 : decode cX8_layTried 161 = .ok (.aload_n 0, 1) := by decide +kernel
theorem dX8_layTried_162 : decode cX8_layTried 162 = .ok (.getfield 115, 3) := by decide +kernel
theorem dX8_layTried_165 : decode cX8_layTried 165 = .ok (.iload_n 1, 1) := by decide +kernel
theorem dX8_layTried_166 : decode cX8_layTried 166 = .ok (.iaload, 1) := by decide +kernel
theorem dX8_layTried_167 : decode cX8_layTried 167 = .ok (.iastore, 1) := by decide +kernel
theorem dX8_layTried_168 : decode cX8_layTried 168 = .ok (.iinc 1 1, 3) := by decide +kernel
theorem dX8_layTried_171 : decode cX8_layTried 171 = .ok (.goto (-69), 3) := by decide +kernel
theorem dX8_layTried_174 : decode cX8_layTried 174 = .ok (.aload_n 0, 1) := by decide +kernel
theorem dX8_layTried_175 : decode cX8_layTried 175 = .ok (.getfield 118, 3) := by decide +kernel
theorem dX8_layTried_178 : decode cX8_layTried 178 = .ok (.iconst 1, 1) := by decide +kernel
theorem dX8_layTried_179 : decode cX8_layTried 179 = .ok (.aload_n 0, 1) := by decide +kernel
theorem dX8_layTried_180 : decode cX8_layTried 180 = .ok (.getfield 118, 3) := by decide +kernel
theorem dX8_layTried_183 : decode cX8_layTried 183 = .ok (.iconst 0, 1) := by decide +kernel
theorem dX8_layTried_184 : decode cX8_layTried 184 = .ok (.iaload, 1) := by decide +kernel
theorem dX8_layTried_185 : decode cX8_layTried 185 = .ok (.iastore, 1) := by decide +kernel
theorem dX8_layTried_186 : decode cX8_layTried 186 = .ok (.aload_n 0, 1) := by decide +kernel
theorem dX8_layTried_187 : decode cX8_layTried 187 = .ok (.getfield 121, 3) := by decide +kernel
theorem dX8_layTried_190 : decode cX8_layTried 190 = .ok (.iconst 1, 1) := by decide +kernel
theorem dX8_layTried_191 : decode cX8_layTried 191 = .ok (.aload_n 0, 1) := by decide +kernel
theorem dX8_layTried_192 : decode cX8_layTried 192 = .ok (.getfield 121, 3) := by decide +kernel
theorem dX8_layTried_195 : decode cX8_layTried 195 = .ok (.iconst 0, 1) := by decide +kernel
theorem dX8_layTried_196 : decode cX8_layTried 196 = .ok (.iaload, 1) := by decide +kernel
theorem dX8_layTried_197 : decode cX8_layTried 197 = .ok (.iastore, 1) := by decide +kernel
theorem dX8_layTried_198 : decode cX8_layTried 198 = .ok (.aload_n 0, 1) := by decide +kernel
theorem dX8_layTried_199 : decode cX8_layTried 199 = .ok (.getfield 124, 3) := by decide +kernel
theorem dX8_layTried_202 : decode cX8_layTried 202 = .ok (.iconst 1, 1) := by decide +kernel
theorem dX8_layTried_203 : decode cX8_layTried 203 = .ok (.iconst 0, 1) := by decide +kernel
theorem dX8_layTried_204 : decode cX8_layTried 204 = .ok (.iastore, 1) := by decide +kernel
theorem dX8_layTried_205 : decode cX8_layTried 205 = .ok (.aload_n 0, 1) := by decide +kernel
theorem dX8_layTried_206 : decode cX8_layTried 206 = .ok (.invokevirtual 373, 3) := by decide +kernel
theorem dX8_layTried_209 : decode cX8_layTried 209 = .ok (.return_, 1) := by decide +kernel
theorem dX8_isPlace_0 : decode cX8_isPlace 0 = .ok (.iload_n 1, 1) := by decide +kernel
theorem dX8_isPlace_1 : decode cX8_isPlace 1 = .ok (.ifCond .lt 15, 3) := by decide +kernel
theorem dX8_isPlace_4 : decode cX8_isPlace 4 = .ok (.iload_n 1, 1) := by decide +kernel
theorem dX8_isPlace_5 : decode cX8_isPlace 5 = .ok (.aload_n 0, 1) := by decide +kernel
theorem dX8_isPlace_6 : decode cX8_isPlace 6 = .ok (.getfield 252, 3) := by decide +kernel
theorem dX8_isPlace_9 : decode cX8_isPlace 9 = .ok (.if_icmp .ge 7, 3) := by decide +kernel
theorem dX8_isPlace_12 : decode cX8_isPlace 12 = .ok (.iconst 1, 1) := by decide +kernel
theorem dX8_isPlace_13 : decode cX8_isPlace 13 = .ok (.goto 4, 3) := by decide +kernel
theorem dX8_isPlace_16 : decode cX8_isPlace 16 = .ok (.iconst 0, 1) := by decide +kernel
theorem dX8_isPlace_17 : decode cX8_isPlace 17 = .ok (.ireturn, 1) := by decide +kernel
theorem dX8_isPerson_0 : decode cX8_isPerson 0 = .ok (.iload_n 1, 1) := by decide +kernel
theorem dX8_isPerson_1 : decode cX8_isPerson 1 = .ok (.ifCond .lt 15, 3) := by decide +kernel
theorem dX8_isPerson_4 : decode cX8_isPerson 4 = .ok (.iload_n 1, 1) := by decide +kernel
theorem dX8_isPerson_5 : decode cX8_isPerson 5 = .ok (.aload_n 0, 1) := by decide +kernel
theorem dX8_isPerson_6 : decode cX8_isPerson 6 = .ok (.getfield 255, 3) := by decide +kernel
theorem dX8_isPerson_9 : decode cX8_isPerson 9 = .ok (.if_icmp .ge 7, 3) := by decide +kernel
theorem dX8_isPerson_12 : decode cX8_isPerson 12 = .ok (.iconst 1, 1) := by decide +kernel
theorem dX8_isPerson_13 : decode cX8_isPerson 13 = .ok (.goto 4, 3) := by decide +kernel
theorem dX8_isPerson_16 : decode cX8_isPerson 16 = .ok (.iconst 0, 1) := by decide +kernel
theorem dX8_isPerson_17 : decode cX8_isPerson 17 = .ok (.ireturn, 1) := by decide +kernel
theorem dX8_isPiece_0 : decode cX8_isPiece 0 = .ok (.iload_n 1, 1) := by decide +kernel
theorem dX8_isPiece_1 : decode cX8_isPiece 1 = .ok (.ifCond .lt 15, 3) := by decide +kernel
theorem dX8_isPiece_4 : decode cX8_isPiece 4 = .ok (.iload_n 1, 1) := by decide +kernel
theorem dX8_isPiece_5 : decode cX8_isPiece 5 = .ok (.aload_n 0, 1) := by decide +kernel
theorem dX8_isPiece_6 : decode cX8_isPiece 6 = .ok (.getfield 258, 3) := by decide +kernel
theorem dX8_isPiece_9 : decode cX8_isPiece 9 = .ok (.if_icmp .ge 7, 3) := by decide +kernel
theorem dX8_isPiece_12 : decode cX8_isPiece 12 = .ok (.iconst 1, 1) := by decide +kernel
theorem dX8_isPiece_13 : decode cX8_isPiece 13 = .ok (.goto 4, 3) := by decide +kernel
theorem dX8_isPiece_16 : decode cX8_isPiece 16 = .ok (.iconst 0, 1) := by decide +kernel
theorem dX8_isPiece_17 : decode cX8_isPiece 17 = .ok (.ireturn, 1) := by decide +kernel
theorem dX8_outs_0 : decode cX8_outs 0 = .ok (.iconst 1, 1) := by decide +kernel
theorem dX8_outs_1 : decode cX8_outs 1 = .ok (.istore_n 2, 1) := by decide +kernel
theorem dX8_outs_2 : decode cX8_outs 2 = .ok (.aload_n 0, 1) := by decide +kernel
theorem dX8_outs_3 : decode cX8_outs 3 = .ok (.iconst 0, 1) := by decide +kernel
theorem dX8_outs_4 : decode cX8_outs 4 = .ok (.putfield 438, 3) := by decide +kernel
theorem dX8_outs_7 : decode cX8_outs 7 = .ok (.iconst 0, 1) := by decide +kernel
theorem dX8_outs_8 : decode cX8_outs 8 = .ok (.istore_n 3, 1) := by decide +kernel
theorem dX8_outs_9 : decode cX8_outs 9 = .ok (.iload_n 3, 1) := by decide +kernel
theorem dX8_outs_10 : decode cX8_outs 10 = .ok (.aload_n 0, 1) := by decide +kernel
theorem dX8_outs_11 : decode cX8_outs 11 = .ok (.getfield 255, 3) := by decide +kernel
theorem dX8_outs_14 : decode cX8_outs 14 = .ok (.if_icmp .ge 195, 3) := by decide +kernel
theorem dX8_outs_17 : decode cX8_outs 17 = .ok (.aload_n 0, 1) := by decide +kernel
theorem dX8_outs_18 : decode cX8_outs 18 = .ok (.iload_n 1, 1) := by decide +kernel
theorem dX8_outs_19 : decode cX8_outs 19 = .ok (.iload_n 3, 1) := by decide +kernel
theorem dX8_outs_20 : decode cX8_outs 20 = .ok (.invokevirtual 441, 3) := by decide +kernel
theorem dX8_outs_23 : decode cX8_outs 23 = .ok (.ifCond .ne 6, 3) := by decide +kernel
theorem dX8_outs_26 : decode cX8_outs 26 = .ok (.goto 177, 3) := by decide +kernel
theorem dX8_outs_29 : decode cX8_outs 29 = .ok (.iconst 0, 1) := by decide +kernel
theorem dX8_outs_30 : decode cX8_outs 30 = .ok (.istore 4, 2) := by decide +kernel
theorem dX8_outs_32 : decode cX8_outs 32 = .ok (.iload 4, 2) := by decide +kernel
theorem dX8_outs_34 : decode cX8_outs 34 = .ok (.aload_n 0, 1) := by decide +kernel
theorem dX8_outs_35 : decode cX8_outs 35 = .ok (.getfield 258, 3) := by decide +kernel
theorem dX8_outs_38 : decode cX8_outs 38 = .ok (.if_icmp .ge 144, 3) := by decide +kernel
theorem dX8_outs_41 : decode cX8_outs 41 = .ok (.aload_n 0, 1) := by decide +kernel
theorem dX8_outs_42 : decode cX8_outs 42 = .ok (.getfield 45, 3) := by decide +kernel
theorem dX8_outs_45 : decode cX8_outs 45 = .ok (.iload 4, 2) := by decide +kernel
theorem dX8_outs_47 : decode cX8_outs 47 = .ok (.iaload, 1) := by decide +kernel
theorem dX8_outs_48 : decode cX8_outs 48 = .ok (.iload_n 3, 1) := by decide +kernel
theorem dX8_outs_49 : decode cX8_outs 49 = .ok (.if_icmp .ne 127, 3) := by decide +kernel
theorem dX8_outs_52 : decode cX8_outs 52 = .ok (.aload_n 0, 1) := by decide +kernel
theorem dX8_outs_53 : decode cX8_outs 53 = .ok (.getfield 94, 3) := by decide +kernel
theorem dX8_outs_56 : decode cX8_outs 56 = .ok (.bipush 10, 2) := by decide +kernel
theorem dX8_outs_58 : decode cX8_outs 58 = .ok (.iload_n 1, 1) := by decide +kernel
theorem dX8_outs_59 : decode cX8_outs 59 = .ok (.imul, 1) := by decide +kernel
theorem dX8_outs_60 : decode cX8_outs 60 = .ok (.iload 4, 2) := by decide +kernel
theorem dX8_outs_62 : decode cX8_outs 62 = .ok (.iadd, 1) := by decide +kernel
theorem dX8_outs_63 : decode cX8_outs 63 = .ok (.iaload, 1) := by decide +kernel
theorem dX8_outs_64 : decode cX8_outs 64 = .ok (.iconst 1, 1) := by decide +kernel
theorem dX8_outs_65 : decode cX8_outs 65 = .ok (.if_icmp .eq 6, 3) := by decide +kernel
theorem dX8_outs_68 : decode cX8_outs 68 = .ok (.goto 108, 3) := by decide +kernel
theorem dX8_outs_71 : decode cX8_outs 71 = .ok (.aload_n 0, 1) := by decide +kernel
theorem dX8_outs_72 : decode cX8_outs 72 = .ok (.iload_n 1, 1) := by decide +kernel
theorem dX8_outs_73 : decode cX8_outs 73 = .ok (.iload 4, 2) := by decide +kernel
theorem dX8_outs_75 : decode cX8_outs 75 = .ok (.invokevirtual 444, 3) := by decide +kernel
theorem dX8_outs_78 : decode cX8_outs 78 = .ok (.istore 5, 2) := by decide +kernel
theorem dX8_outs_80 : decode cX8_outs 80 = .ok (.iload_n 2, 1) := by decide +kernel
theorem dX8_outs_81 : decode cX8_outs 81 = .ok (.ifCond .eq 35, 3) := by decide +kernel
theorem dX8_outs_84 : decode cX8_outs 84 = .ok (.aload_n 0, 1) := by decide +kernel
theorem dX8_outs_85 : decode cX8_outs 85 = .ok (.getfield 403, 3) := by decide +kernel
theorem dX8_outs_88 : decode cX8_outs 88 = .ok (.ifCond .ne 24, 3) := by decide +kernel
theorem dX8_outs_91 : decode cX8_outs 91 = .ok (.aload_n 0, 1) := by decide +kernel
theorem dX8_outs_92 : decode cX8_outs 92 = .ok (.getfield 438, 3) := by decide +kernel
theorem dX8_outs_95 : decode cX8_outs 95 = .ok (.iload 5, 2) := by decide +kernel
theorem dX8_outs_97 : decode cX8_outs 97 = .ok (.iadd, 1) := by decide +kernel
theorem dX8_outs_98 : decode cX8_outs 98 = .ok (.aload_n 0, 1) := by decide +kernel
theorem dX8_outs_99 : decode cX8_outs 99 = .ok (.getfield 57, 3) := by decide +kernel
theorem dX8_outs_102 : decode cX8_outs 102 = .ok (.aload_n 0, 1) := by decide +kernel
theorem dX8_outs_103 : decode cX8_outs 103 = .ok (.getfield 121, 3) := by decide +kernel
theorem dX8_outs_106 : decode cX8_outs 106 = .ok (.iload_n 1, 1) := by decide +kernel
theorem dX8_outs_107 : decode cX8_outs 107 = .ok (.iaload, 1) := by decide +kernel
theorem dX8_outs_108 : decode cX8_outs 108 = .ok (.iaload, 1) := by decide +kernel
theorem dX8_outs_109 : decode cX8_outs 109 = .ok (.if_icmp .gt 7, 3) := by decide +kernel
theorem dX8_outs_112 : decode cX8_outs 112 = .ok (.iconst 1, 1) := by decide +kernel
theorem dX8_outs_113 : decode cX8_outs 113 = .ok (.goto 4, 3) := by decide +kernel
theorem dX8_outs_116 : decode cX8_outs 116 = .ok (.iconst 0, 1) := by decide +kernel
theorem dX8_outs_117 : decode cX8_outs 117 = .ok (.istore_n 2, 1) := by decide +kernel
theorem dX8_outs_118 : decode cX8_outs 118 = .ok (.iload_n 2, 1) := by decide +kernel
theorem dX8_outs_119 : decode cX8_outs 119 = .ok (.ifCond .ne 6, 3) := by decide +kernel
theorem dX8_outs_122 : decode cX8_outs 122 = .ok (.goto 54, 3) := by decide +kernel
theorem dX8_outs_125 : decode cX8_outs 125 = .ok (.aload_n 0, 1) := by decide +kernel
theorem dX8_outs_126 : decode cX8_outs 126 = .ok (.dup, 1) := by decide +kernel
theorem dX8_outs_127 : decode cX8_outs 127 = .ok (.getfield 438, 3) := by decide +kernel
theorem dX8_outs_130 : decode cX8_outs 130 = .ok (.iload 5, 2) := by decide +kernel
theorem dX8_outs_132 : decode cX8_outs 132 = .ok (.iadd, 1) := by decide +kernel
theorem dX8_outs_133 : decode cX8_outs 133 = .ok (.putfield 438, 3) := by decide +kernel
theorem dX8_outs_136 : decode cX8_outs 136 = .ok (.aload_n 0, 1) := by decide +kernel
theorem dX8_outs_137 : decode cX8_outs 137 = .ok (.getfield 115, 3) := by decide +kernel
theorem dX8_outs_140 : decode cX8_outs 140 = .ok (.bipush 6, 2) := by decide +kernel
theorem dX8_outs_142 : decode cX8_outs 142 = .ok (.iload_n 1, 1) := by decide +kernel
theorem dX8_outs_143 : decode cX8_outs 143 = .ok (.imul, 1) := by decide +kernel
theorem dX8_outs_144 : decode cX8_outs 144 = .ok (.iload_n 3, 1) := by decide +kernel
theorem dX8_outs_145 : decode cX8_outs 145 = .ok (.iadd, 1) := by decide +kernel
theorem dX8_outs_146 : decode cX8_outs 146 = .ok (.dup2, 1) := by decide +kernel
theorem dX8_outs_147 : decode cX8_outs 147 = .ok (.iaload, 1) := by decide +kernel
theorem dX8_outs_148 : decode cX8_outs 148 = .ok (.iload 5, 2) := by decide +kernel
theorem dX8_outs_150 : decode cX8_outs 150 = .ok (.iadd, 1) := by decide +kernel
theorem dX8_outs_151 : decode cX8_outs 151 = .ok (.iastore, 1) := by decide +kernel
theorem dX8_outs_152 : decode cX8_outs 152 = .ok (.aload_n 0, 1) := by decide +kernel
theorem dX8_outs_153 : decode cX8_outs 153 = .ok (.getfield 118, 3) := by decide +kernel
theorem dX8_outs_156 : decode cX8_outs 156 = .ok (.iload_n 1, 1) := by decide +kernel
theorem dX8_outs_157 : decode cX8_outs 157 = .ok (.dup2, 1) := by decide +kernel
theorem dX8_outs_158 : decode cX8_outs 158 = .ok (.iaload, 1) := by decide +kernel
theorem dX8_outs_159 : decode cX8_outs 159 = .ok (.aload_n 0, 1) := by decide +kernel
theorem dX8_outs_160 : decode cX8_outs 160 = .ok (.iload_n 1, 1) := by decide +kernel
theorem dX8_outs_161 : decode cX8_outs 161 = .ok (.iload 4, 2) := by decide +kernel
theorem dX8_outs_163 : decode cX8_outs 163 = .ok (.invokevirtual 416, 3) := by decide +kernel
theorem dX8_outs_166 : decode cX8_outs 166 = .ok (.iadd, 1) := by decide +kernel
theorem dX8_outs_167 : decode cX8_outs 167 = .ok (.iastore, 1) := by decide +kernel
theorem dX8_outs_168 : decode cX8_outs 168 = .ok (.aload_n 0, 1) := by decide +kernel
theorem dX8_outs_169 : decode cX8_outs 169 = .ok (.iload_n 1, 1) := by decide +kernel
theorem dX8_outs_170 : decode cX8_outs 170 = .ok (.iload 4, 2) := by decide +kernel
theorem dX8_outs_172 : decode cX8_outs 172 = .ok (.iconst 2, 1) := by decide +kernel
theorem dX8_outs_173 : decode cX8_outs 173 = .ok (.invokevirtual 447, 3) := by decide +kernel
theorem dX8_outs_176 : decode cX8_outs 176 = .ok (.iinc 4 1, 3) := by decide +kernel
theorem dX8_outs_179 : decode cX8_outs 179 = .ok (.goto (-147), 3) := by decide +kernel
theorem dX8_outs_182 : decode cX8_outs 182 = .ok (.aload_n 0, 1) := by decide +kernel
theorem dX8_outs_183 : decode cX8_outs 183 = .ok (.iload_n 1, 1) := by decide +kernel
theorem dX8_outs_184 : decode cX8_outs 184 = .ok (.iload_n 3, 1) := by decide +kernel
theorem dX8_outs_185 : decode cX8_outs 185 = .ok (.invokevirtual 450, 3) := by decide +kernel
theorem dX8_outs_188 : decode cX8_outs 188 = .ok (.ifCond .ne 15, 3) := by decide +kernel
theorem dX8_outs_191 : decode cX8_outs 191 = .ok (.aload_n 0, 1) := by decide +kernel
theorem dX8_outs_192 : decode cX8_outs 192 = .ok (.getfield 112, 3) := by decide +kernel
theorem dX8_outs_195 : decode cX8_outs 195 = .ok (.bipush 6, 2) := by decide +kernel
theorem dX8_outs_197 : decode cX8_outs 197 = .ok (.iload_n 1, 1) := by decide +kernel
theorem dX8_outs_198 : decode cX8_outs 198 = .ok (.imul, 1) := by decide +kernel
theorem dX8_outs_199 : decode cX8_outs 199 = .ok (.iload_n 3, 1) := by decide +kernel
theorem dX8_outs_200 : decode cX8_outs 200 = .ok (.iadd, 1) := by decide +kernel
theorem dX8_outs_201 : decode cX8_outs 201 = .ok (.iconst 2, 1) := by decide +kernel
theorem dX8_outs_202 : decode cX8_outs 202 = .ok (.iastore, 1) := by decide +kernel
theorem dX8_outs_203 : decode cX8_outs 203 = .ok (.iinc 3 1, 3) := by decide +kernel
theorem dX8_outs_206 : decode cX8_outs 206 = .ok (.goto (-197), 3) := by decide +kernel
theorem dX8_outs_209 : decode cX8_outs 209 = .ok (.aload_n 0, 1) := by decide +kernel
theorem dX8_outs_210 : decode cX8_outs 210 = .ok (.getfield 121, 3) := by decide +kernel
theorem dX8_outs_213 : decode cX8_outs 213 = .ok (.iload_n 1, 1) := by decide +kernel
theorem dX8_outs_214 : decode cX8_outs 214 = .ok (.iaload, 1) := by decide +kernel
theorem dX8_outs_215 : decode cX8_outs 215 = .ok (.bipush 20, 2) := by decide +kernel
theorem dX8_outs_217 : decode cX8_outs 217 = .ok (.if_icmp .ge 4, 3) := by decide +kernel
theorem dX8_outs_220 : decode cX8_outs 220 = .ok (.return_, 1) := by decide +kernel
theorem dX8_outs_221 : decode cX8_outs 221 = .ok (.iconst 0, 1) := by decide +kernel
theorem dX8_outs_222 : decode cX8_outs 222 = .ok (.istore_n 3, 1) := by decide +kernel
theorem dX8_outs_223 : decode cX8_outs 223 = .ok (.iload_n 3, 1) := by decide +kernel
theorem dX8_outs_224 : decode cX8_outs 224 = .ok (.aload_n 0, 1) := by decide +kernel
theorem dX8_outs_225 : decode cX8_outs 225 = .ok (.getfield 258, 3) := by decide +kernel
theorem dX8_outs_228 : decode cX8_outs 228 = .ok (.if_icmp .ge 31, 3) := by decide +kernel
theorem dX8_outs_231 : decode cX8_outs 231 = .ok (.aload_n 0, 1) := by decide +kernel
theorem dX8_outs_232 : decode cX8_outs 232 = .ok (.getfield 94, 3) := by decide +kernel
theorem dX8_outs_235 : decode cX8_outs 235 = .ok (.bipush 10, 2) := by decide +kernel
theorem dX8_outs_237 : decode cX8_outs 237 = .ok (.iload_n 1, 1) := by decide +kernel
theorem dX8_outs_238 : decode cX8_outs 238 = .ok (.imul, 1) := by decide +kernel
theorem dX8_outs_239 : decode cX8_outs 239 = .ok (.iload_n 3, 1) := by decide +kernel
theorem dX8_outs_240 : decode cX8_outs 240 = .ok (.iadd, 1) := by decide +kernel
theorem dX8_outs_241 : decode cX8_outs 241 = .ok (.iaload, 1) := by decide +kernel
theorem dX8_outs_242 : decode cX8_outs 242 = .ok (.iconst 1, 1) := by decide +kernel
theorem dX8_outs_243 : decode cX8_outs 243 = .ok (.if_icmp .ne 10, 3) := by decide +kernel
theorem dX8_outs_246 : decode cX8_outs 246 = .ok (.aload_n 0, 1) := by decide +kernel
theorem dX8_outs_247 : decode cX8_outs 247 = .ok (.iload_n 1, 1) := by decide +kernel
theorem dX8_outs_248 : decode cX8_outs 248 = .ok (.iload_n 3, 1) := by decide +kernel
theorem dX8_outs_249 : decode cX8_outs 249 = .ok (.iconst 5, 1) := by decide +kernel
theorem dX8_outs_250 : decode cX8_outs 250 = .ok (.invokevirtual 447, 3) := by decide +kernel
theorem dX8_outs_253 : decode cX8_outs 253 = .ok (.iinc 3 1, 3) := by decide +kernel
theorem dX8_outs_256 : decode cX8_outs 256 = .ok (.goto (-33), 3) := by decide +kernel
theorem dX8_outs_259 : decode cX8_outs 259 = .ok (.iconst 0, 1) := by decide +kernel
theorem dX8_outs_260 : decode cX8_outs 260 = .ok (.istore_n 3, 1) := by decide +kernel
theorem dX8_outs_261 : decode cX8_outs 261 = .ok (.iload_n 3, 1) := by decide +kernel
theorem dX8_outs_262 : decode cX8_outs 262 = .ok (.aload_n 0, 1) := by decide +kernel
theorem dX8_outs_263 : decode cX8_outs 263 = .ok (.getfield 255, 3) := by decide +kernel
theorem dX8_outs_266 : decode cX8_outs 266 = .ok (.if_icmp .ge 36, 3) := by decide +kernel
theorem dX8_outs_269 : decode cX8_outs 269 = .ok (.aload_n 0, 1) := by decide +kernel
theorem dX8_outs_270 : decode cX8_outs 270 = .ok (.getfield 112, 3) := by decide +kernel
theorem dX8_outs_273 : decode cX8_outs 273 = .ok (.bipush 6, 2) := by decide +kernel
theorem dX8_outs_275 : decode cX8_outs 275 = .ok (.iload_n 1, 1) := by decide +kernel
theorem dX8_outs_276 : decode cX8_outs 276 = .ok (.imul, 1) := by decide +kernel
theorem dX8_outs_277 : decode cX8_outs 277 = .ok (.iload_n 3, 1) := by decide +kernel
theorem dX8_outs_278 : decode cX8_outs 278 = .ok (.iadd, 1) := by decide +kernel
theorem dX8_outs_279 : decode cX8_outs 279 = .ok (.iaload, 1) := by decide +kernel
theorem dX8_outs_280 : decode cX8_outs 280 = .ok (.iconst 1, 1) := by decide +kernel
theorem dX8_outs_281 : decode cX8_outs 281 = .ok (.if_icmp .ne 15, 3) := by decide +kernel
theorem dX8_outs_284 : decode cX8_outs 284 = .ok (.aload_n 0, 1) := by decide +kernel
theorem dX8_outs_285 : decode cX8_outs 285 = .ok (.getfield 112, 3) := by decide +kernel
theorem dX8_outs_288 : decode cX8_outs 288 = .ok (.bipush 6, 2) := by decide +kernel
theorem dX8_outs_290 : decode cX8_outs 290 = .ok (.iload_n 1, 1) := by decide +kernel
theorem dX8_outs_291 : decode cX8_outs 291 = .ok (.imul, 1) := by decide +kernel
theorem dX8_outs_292 : decode cX8_outs 292 = .ok (.iload_n 3, 1) := by decide +kernel
theorem dX8_outs_293 : decode cX8_outs 293 = .ok (.iadd, 1) := by decide +kernel
theorem dX8_outs_294 : decode cX8_outs 294 = .ok (.iconst 2, 1) := by decide +kernel
theorem dX8_outs_295 : decode cX8_outs 295 = .ok (.iastore, 1) := by decide +kernel
theorem dX8_outs_296 : decode cX8_outs 296 = .ok (.iinc 3 1, 3) := by decide +kernel
theorem dX8_outs_299 : decode cX8_outs 299 = .ok (.goto (-38), 3) := by decide +kernel
theorem dX8_outs_302 : decode cX8_outs 302 = .ok (.return_, 1) := by decide +kernel
theorem dX8_ins_0 : decode cX8_ins 0 = .ok (.iconst 0, 1) := by decide +kernel
theorem dX8_ins_1 : decode cX8_ins 1 = .ok (.istore_n 2, 1) := by decide +kernel
theorem dX8_ins_2 : decode cX8_ins 2 = .ok (.iload_n 2, 1) := by decide +kernel
theorem dX8_ins_3 : decode cX8_ins 3 = .ok (.aload_n 0, 1) := by decide +kernel
theorem dX8_ins_4 : decode cX8_ins 4 = .ok (.getfield 255, 3) := by decide +kernel
theorem dX8_ins_7 : decode cX8_ins 7 = .ok (.if_icmp .ge 137, 3) := by decide +kernel
theorem dX8_ins_10 : decode cX8_ins 10 = .ok (.aload_n 0, 1) := by decide +kernel
theorem dX8_ins_11 : decode cX8_ins 11 = .ok (.getfield 106, 3) := by decide +kernel
theorem dX8_ins_14 : decode cX8_ins 14 = .ok (.bipush 6, 2) := by decide +kernel
theorem dX8_ins_16 : decode cX8_ins 16 = .ok (.iload_n 1, 1) := by decide +kernel
theorem dX8_ins_17 : decode cX8_ins 17 = .ok (.imul, 1) := by decide +kernel
theorem dX8_ins_18 : decode cX8_ins 18 = .ok (.iload_n 2, 1) := by decide +kernel
theorem dX8_ins_19 : decode cX8_ins 19 = .ok (.iadd, 1) := by decide +kernel
theorem dX8_ins_20 : decode cX8_ins 20 = .ok (.iaload, 1) := by decide +kernel
theorem dX8_ins_21 : decode cX8_ins 21 = .ok (.aload_n 0, 1) := by decide +kernel
theorem dX8_ins_22 : decode cX8_ins 22 = .ok (.getfield 121, 3) := by decide +kernel
theorem dX8_ins_25 : decode cX8_ins 25 = .ok (.iload_n 1, 1) := by decide +kernel
theorem dX8_ins_26 : decode cX8_ins 26 = .ok (.iaload, 1) := by decide +kernel
theorem dX8_ins_27 : decode cX8_ins 27 = .ok (.if_icmp .ne 111, 3) := by decide +kernel
theorem dX8_ins_30 : decode cX8_ins 30 = .ok (.aload_n 0, 1) := by decide +kernel
theorem dX8_ins_31 : decode cX8_ins 31 = .ok (.getfield 112, 3) := by decide +kernel
theorem dX8_ins_34 : decode cX8_ins 34 = .ok (.bipush 6, 2) := by decide +kernel
theorem dX8_ins_36 : decode cX8_ins 36 = .ok (.iload_n 1, 1) := by decide +kernel
theorem dX8_ins_37 : decode cX8_ins 37 = .ok (.imul, 1) := by decide +kernel
theorem dX8_ins_38 : decode cX8_ins 38 = .ok (.iload_n 2, 1) := by decide +kernel
theorem dX8_ins_39 : decode cX8_ins 39 = .ok (.iadd, 1) := by decide +kernel
theorem dX8_ins_40 : decode cX8_ins 40 = .ok (.iaload, 1) := by decide +kernel
theorem dX8_ins_41 : decode cX8_ins 41 = .ok (.ifCond .eq 6, 3) := by decide +kernel
theorem dX8_ins_44 : decode cX8_ins 44 = .ok (.goto 94, 3) := by decide +kernel
theorem dX8_ins_47 : decode cX8_ins 47 = .ok (.aload_n 0, 1) := by decide +kernel
theorem dX8_ins_48 : decode cX8_ins 48 = .ok (.getfield 112, 3) := by decide +kernel
theorem dX8_ins_51 : decode cX8_ins 51 = .ok (.bipush 6, 2) := by decide +kernel
theorem dX8_ins_53 : decode cX8_ins 53 = .ok (.iload_n 1, 1) := by decide +kernel
theorem dX8_ins_54 : decode cX8_ins 54 = .ok (.imul, 1) := by decide +kernel
theorem dX8_ins_55 : decode cX8_ins 55 = .ok (.iload_n 2, 1) := by decide +kernel
theorem dX8_ins_56 : decode cX8_ins 56 = .ok (.iadd, 1) := by decide +kernel
theorem dX8_ins_57 : decode cX8_ins 57 = .ok (.iconst 1, 1) := by decide +kernel
theorem dX8_ins_58 : decode cX8_ins 58 = .ok (.iastore, 1) := by decide +kernel
theorem dX8_ins_59 : decode cX8_ins 59 = .ok (.iconst 0, 1) := by decide +kernel
theorem dX8_ins_60 : decode cX8_ins 60 = .ok (.istore_n 3, 1) := by decide +kernel
theorem dX8_ins_61 : decode cX8_ins 61 = .ok (.iload_n 3, 1) := by decide +kernel
theorem dX8_ins_62 : decode cX8_ins 62 = .ok (.aload_n 0, 1) := by decide +kernel
theorem dX8_ins_63 : decode cX8_ins 63 = .ok (.getfield 258, 3) := by decide +kernel
theorem dX8_ins_66 : decode cX8_ins 66 = .ok (.if_icmp .ge 72, 3) := by decide +kernel
theorem dX8_ins_69 : decode cX8_ins 69 = .ok (.aload_n 0, 1) := by decide +kernel
theorem dX8_ins_70 : decode cX8_ins 70 = .ok (.getfield 45, 3) := by decide +kernel
theorem dX8_ins_73 : decode cX8_ins 73 = .ok (.iload_n 3, 1) := by decide +kernel
theorem dX8_ins_74 : decode cX8_ins 74 = .ok (.iaload, 1) := by decide +kernel
theorem dX8_ins_75 : decode cX8_ins 75 = .ok (.iload_n 2, 1) := by decide +kernel
theorem dX8_ins_76 : decode cX8_ins 76 = .ok (.if_icmp .ne 56, 3) := by decide +kernel
theorem dX8_ins_79 : decode cX8_ins 79 = .ok (.aload_n 0, 1) := by decide +kernel
theorem dX8_ins_80 : decode cX8_ins 80 = .ok (.getfield 94, 3) := by decide +kernel
theorem dX8_ins_83 : decode cX8_ins 83 = .ok (.bipush 10, 2) := by decide +kernel
theorem dX8_ins_85 : decode cX8_ins 85 = .ok (.iload_n 1, 1) := by decide +kernel
theorem dX8_ins_86 : decode cX8_ins 86 = .ok (.imul, 1) := by decide +kernel
theorem dX8_ins_87 : decode cX8_ins 87 = .ok (.iload_n 3, 1) := by decide +kernel
theorem dX8_ins_88 : decode cX8_ins 88 = .ok (.iadd, 1) := by decide +kernel
theorem dX8_ins_89 : decode cX8_ins 89 = .ok (.iaload, 1) := by decide +kernel
theorem dX8_ins_90 : decode cX8_ins 90 = .ok (.ifCond .eq 6, 3) := by decide +kernel
theorem dX8_ins_93 : decode cX8_ins 93 = .ok (.goto 39, 3) := by decide +kernel
theorem dX8_ins_96 : decode cX8_ins 96 = .ok (.aload_n 0, 1) := by decide +kernel
theorem dX8_ins_97 : decode cX8_ins 97 = .ok (.iload_n 1, 1) := by decide +kernel
theorem dX8_ins_98 : decode cX8_ins 98 = .ok (.iload_n 3, 1) := by decide +kernel
theorem dX8_ins_99 : decode cX8_ins 99 = .ok (.invokevirtual 456, 3) := by decide +kernel
theorem dX8_ins_102 : decode cX8_ins 102 = .ok (.istore 4, 2) := by decide +kernel
theorem dX8_ins_104 : decode cX8_ins 104 = .ok (.iload 4, 2) := by decide +kernel
theorem dX8_ins_106 : decode cX8_ins 106 = .ok (.ifCond .ge 18, 3) := by decide +kernel
theorem dX8_ins_109 : decode cX8_ins 109 = .ok (.aload_n 0, 1) := by decide +kernel
theorem dX8_ins_110 : decode cX8_ins 110 = .ok (.getfield 94, 3) := by decide +kernel
theorem dX8_ins_113 : decode cX8_ins 113 = .ok (.bipush 10, 2) := by decide +kernel
theorem dX8_ins_115 : decode cX8_ins 115 = .ok (.iload_n 1, 1) := by decide +kernel
theorem dX8_ins_116 : decode cX8_ins 116 = .ok (.imul, 1) := by decide +kernel
theorem dX8_ins_117 : decode cX8_ins 117 = .ok (.iload_n 3, 1) := by decide +kernel
theorem dX8_ins_118 : decode cX8_ins 118 = .ok (.iadd, 1) := by decide +kernel
theorem dX8_ins_119 : decode cX8_ins 119 = .ok (.iconst 5, 1) := by decide +kernel
theorem dX8_ins_120 : decode cX8_ins 120 = .ok (.iastore, 1) := by decide +kernel
theorem dX8_ins_121 : decode cX8_ins 121 = .ok (.goto 11, 3) := by decide +kernel
theorem dX8_ins_124 : decode cX8_ins 124 = .ok (.aload_n 0, 1) := by decide +kernel
theorem dX8_ins_125 : decode cX8_ins 125 = .ok (.iload_n 1, 1) := by decide +kernel
theorem dX8_ins_126 : decode cX8_ins 126 = .ok (.iload 4, 2) := by decide +kernel
theorem dX8_ins_128 : decode cX8_ins 128 = .ok (.iload_n 3, 1) := by decide +kernel
theorem dX8_ins_129 : decode cX8_ins 129 = .ok (.invokevirtual 459, 3) := by decide +kernel
theorem dX8_ins_132 : decode cX8_ins 132 = .ok (.iinc 3 1, 3) := by decide +kernel
theorem dX8_ins_135 : decode cX8_ins 135 = .ok (.goto (-74), 3) := by decide +kernel
theorem dX8_ins_138 : decode cX8_ins 138 = .ok (.iinc 2 1, 3) := by decide +kernel
theorem dX8_ins_141 : decode cX8_ins 141 = .ok (.goto (-139), 3) := by decide +kernel
theorem dX8_ins_144 : decode cX8_ins 144 = .ok (.iconst 0, 1) := by decide +kernel
theorem dX8_ins_145 : decode cX8_ins 145 = .ok (.istore_n 2, 1) := by decide +kernel
theorem dX8_ins_146 : decode cX8_ins 146 = .ok (.iload_n 2, 1) := by decide +kernel
theorem dX8_ins_147 : decode cX8_ins 147 = .ok (.aload_n 0, 1) := by decide +kernel
theorem dX8_ins_148 : decode cX8_ins 148 = .ok (.getfield 252, 3) := by decide +kernel
theorem dX8_ins_151 : decode cX8_ins 151 = .ok (.if_icmp .ge 42, 3) := by decide +kernel
theorem dX8_ins_154 : decode cX8_ins 154 = .ok (.aload_n 0, 1) := by decide +kernel
theorem dX8_ins_155 : decode cX8_ins 155 = .ok (.getfield 124, 3) := by decide +kernel
theorem dX8_ins_158 : decode cX8_ins 158 = .ok (.iload_n 1, 1) := by decide +kernel
theorem dX8_ins_159 : decode cX8_ins 159 = .ok (.dup2, 1) := by decide +kernel
theorem dX8_ins_160 : decode cX8_ins 160 = .ok (.iaload, 1) := by decide +kernel
theorem dX8_ins_161 : decode cX8_ins 161 = .ok (.aload_n 0, 1) := by decide +kernel
theorem dX8_ins_162 : decode cX8_ins 162 = .ok (.getfield 27, 3) := by decide +kernel
theorem dX8_ins_165 : decode cX8_ins 165 = .ok (.iload_n 2, 1) := by decide +kernel
theorem dX8_ins_166 : decode cX8_ins 166 = .ok (.iaload, 1) := by decide +kernel
theorem dX8_ins_167 : decode cX8_ins 167 = .ok (.iconst 2, 1) := by decide +kernel
theorem dX8_ins_168 : decode cX8_ins 168 = .ok (.if_icmp .ne 16, 3) := by decide +kernel
theorem dX8_ins_171 : decode cX8_ins 171 = .ok (.aload_n 0, 1) := by decide +kernel
theorem dX8_ins_172 : decode cX8_ins 172 = .ok (.getfield 103, 3) := by decide +kernel
theorem dX8_ins_175 : decode cX8_ins 175 = .ok (.iconst 5, 1) := by decide +kernel
theorem dX8_ins_176 : decode cX8_ins 176 = .ok (.iload_n 1, 1) := by decide +kernel
theorem dX8_ins_177 : decode cX8_ins 177 = .ok (.imul, 1) := by decide +kernel
theorem dX8_ins_178 : decode cX8_ins 178 = .ok (.iload_n 2, 1) := by decide +kernel
theorem dX8_ins_179 : decode cX8_ins 179 = .ok (.iadd, 1) := by decide +kernel
theorem dX8_ins_180 : decode cX8_ins 180 = .ok (.iaload, 1) := by decide +kernel
theorem dX8_ins_181 : decode cX8_ins 181 = .ok (.goto 4, 3) := by decide +kernel
theorem dX8_ins_184 : decode cX8_ins 184 = .ok (.iconst 0, 1) := by decide +kernel
theorem dX8_ins_185 : decode cX8_ins 185 = .ok (.iadd, 1) := by decide +kernel
theorem dX8_ins_186 : decode cX8_ins 186 = .ok (.iastore, 1) := by decide +kernel
theorem dX8_ins_187 : decode cX8_ins 187 = .ok (.iinc 2 1, 3) := by decide +kernel
theorem dX8_ins_190 : decode cX8_ins 190 = .ok (.goto (-44), 3) := by decide +kernel
theorem dX8_ins_193 : decode cX8_ins 193 = .ok (.return_, 1) := by decide +kernel
theorem dX8_onTheWay_0 : decode cX8_onTheWay 0 = .ok (.iconst 0, 1) := by decide +kernel
theorem dX8_onTheWay_1 : decode cX8_onTheWay 1 = .ok (.istore_n 2, 1) := by decide +kernel
theorem dX8_onTheWay_2 : decode cX8_onTheWay 2 = .ok (.iload_n 2, 1) := by decide +kernel
theorem dX8_onTheWay_3 : decode cX8_onTheWay 3 = .ok (.aload_n 0, 1) := by decide +kernel
theorem dX8_onTheWay_4 : decode cX8_onTheWay 4 = .ok (.getfield 252, 3) := by decide +kernel
theorem dX8_onTheWay_7 : decode cX8_onTheWay 7 = .ok (.if_icmp .ge 81, 3) := by decide +kernel
theorem dX8_onTheWay_10 : decode cX8_onTheWay 10 = .ok (.aload_n 0, 1) := by decide +kernel
theorem dX8_onTheWay_11 : decode cX8_onTheWay 11 = .ok (.getfield 391, 3) := by decide +kernel
theorem dX8_onTheWay_14 : decode cX8_onTheWay 14 = .ok (.ifCond .ne 74, 3) := by decide +kernel
theorem dX8_onTheWay_17 : decode cX8_onTheWay 17 = .ok (.aload_n 0, 1) := by decide +kernel
theorem dX8_onTheWay_18 : decode cX8_onTheWay 18 = .ok (.getfield 27, 3) := by decide +kernel
theorem dX8_onTheWay_21 : decode cX8_onTheWay 21 = .ok (.iload_n 2, 1) := by decide +kernel
theorem dX8_onTheWay_22 : decode cX8_onTheWay 22 = .ok (.iaload, 1) := by decide +kernel
theorem dX8_onTheWay_23 : decode cX8_onTheWay 23 = .ok (.iconst 1, 1) := by decide +kernel
theorem dX8_onTheWay_24 : decode cX8_onTheWay 24 = .ok (.if_icmp .gt 58, 3) := by decide +kernel
theorem dX8_onTheWay_27 : decode cX8_onTheWay 27 = .ok (.aload_n 0, 1) := by decide +kernel
theorem dX8_onTheWay_28 : decode cX8_onTheWay 28 = .ok (.getfield 103, 3) := by decide +kernel
theorem dX8_onTheWay_31 : decode cX8_onTheWay 31 = .ok (.iconst 5, 1) := by decide +kernel
theorem dX8_onTheWay_32 : decode cX8_onTheWay 32 = .ok (.iload_n 1, 1) := by decide +kernel
theorem dX8_onTheWay_33 : decode cX8_onTheWay 33 = .ok (.imul, 1) := by decide +kernel
theorem dX8_onTheWay_34 : decode cX8_onTheWay 34 = .ok (.iload_n 2, 1) := by decide +kernel
theorem dX8_onTheWay_35 : decode cX8_onTheWay 35 = .ok (.iadd, 1) := by decide +kernel
theorem dX8_onTheWay_36 : decode cX8_onTheWay 36 = .ok (.iaload, 1) := by decide +kernel
theorem dX8_onTheWay_37 : decode cX8_onTheWay 37 = .ok (.ifCond .ne 6, 3) := by decide +kernel
theorem dX8_onTheWay_40 : decode cX8_onTheWay 40 = .ok (.goto 42, 3) := by decide +kernel
theorem dX8_onTheWay_43 : decode cX8_onTheWay 43 = .ok (.aload_n 0, 1) := by decide +kernel
theorem dX8_onTheWay_44 : decode cX8_onTheWay 44 = .ok (.iload_n 1, 1) := by decide +kernel
theorem dX8_onTheWay_45 : decode cX8_onTheWay 45 = .ok (.iload_n 2, 1) := by decide +kernel
theorem dX8_onTheWay_46 : decode cX8_onTheWay 46 = .ok (.aload_n 0, 1) := by decide +kernel
theorem dX8_onTheWay_47 : decode cX8_onTheWay 47 = .ok (.getfield 103, 3) := by decide +kernel
theorem dX8_onTheWay_50 : decode cX8_onTheWay 50 = .ok (.iconst 5, 1) := by decide +kernel
theorem dX8_onTheWay_51 : decode cX8_onTheWay 51 = .ok (.iload_n 1, 1) := by decide +kernel
theorem dX8_onTheWay_52 : decode cX8_onTheWay 52 = .ok (.imul, 1) := by decide +kernel
theorem dX8_onTheWay_53 : decode cX8_onTheWay 53 = .ok (.iload_n 2, 1) := by decide +kernel
theorem dX8_onTheWay_54 : decode cX8_onTheWay 54 = .ok (.iadd, 1) := by decide +kernel
theorem dX8_onTheWay_55 : decode cX8_onTheWay 55 = .ok (.iaload, 1) := by decide +kernel
theorem dX8_onTheWay_56 : decode cX8_onTheWay 56 = .ok (.iconst 1, 1) := by decide +kernel
theorem dX8_onTheWay_57 : decode cX8_onTheWay 57 = .ok (.isub, 1) := by decide +kernel
theorem dX8_onTheWay_58 : decode cX8_onTheWay 58 = .ok (.invokevirtual 406, 3) := by decide +kernel
theorem dX8_onTheWay_61 : decode cX8_onTheWay 61 = .ok (.istore_n 3, 1) := by decide +kernel
theorem dX8_onTheWay_62 : decode cX8_onTheWay 62 = .ok (.aload_n 0, 1) := by decide +kernel
theorem dX8_onTheWay_63 : decode cX8_onTheWay 63 = .ok (.aload_n 0, 1) := by decide +kernel
theorem dX8_onTheWay_64 : decode cX8_onTheWay 64 = .ok (.iload_n 1, 1) := by decide +kernel
theorem dX8_onTheWay_65 : decode cX8_onTheWay 65 = .ok (.iload_n 3, 1) := by decide +kernel
theorem dX8_onTheWay_66 : decode cX8_onTheWay 66 = .ok (.invokevirtual 473, 3) := by decide +kernel
theorem dX8_onTheWay_69 : decode cX8_onTheWay 69 = .ok (.invokevirtual 476, 3) := by decide +kernel
theorem dX8_onTheWay_72 : decode cX8_onTheWay 72 = .ok (.ifCond .eq 10, 3) := by decide +kernel
theorem dX8_onTheWay_75 : decode cX8_onTheWay 75 = .ok (.aload_n 0, 1) := by decide +kernel
theorem dX8_onTheWay_76 : decode cX8_onTheWay 76 = .ok (.iload_n 1, 1) := by decide +kernel
theorem dX8_onTheWay_77 : decode cX8_onTheWay 77 = .ok (.iload_n 3, 1) := by decide +kernel
theorem dX8_onTheWay_78 : decode cX8_onTheWay 78 = .ok (.iconst 3, 1) := by decide +kernel
theorem dX8_onTheWay_79 : decode cX8_onTheWay 79 = .ok (.invokevirtual 447, 3) := by decide +kernel
theorem dX8_onTheWay_82 : decode cX8_onTheWay 82 = .ok (.iinc 2 1, 3) := by decide +kernel
theorem dX8_onTheWay_85 : decode cX8_onTheWay 85 = .ok (.goto (-83), 3) := by decide +kernel
theorem dX8_onTheWay_88 : decode cX8_onTheWay 88 = .ok (.iconst 0, 1) := by decide +kernel
theorem dX8_onTheWay_89 : decode cX8_onTheWay 89 = .ok (.istore_n 2, 1) := by decide +kernel
theorem dX8_onTheWay_90 : decode cX8_onTheWay 90 = .ok (.iload_n 2, 1) := by decide +kernel
theorem dX8_onTheWay_91 : decode cX8_onTheWay 91 = .ok (.aload_n 0, 1) := by decide +kernel
theorem dX8_onTheWay_92 : decode cX8_onTheWay 92 = .ok (.getfield 258, 3) := by decide +kernel
theorem dX8_onTheWay_95 : decode cX8_onTheWay 95 = .ok (.if_icmp .ge 89, 3) := by decide +kernel
theorem dX8_onTheWay_98 : decode cX8_onTheWay 98 = .ok (.aload_n 0, 1) := by decide +kernel
theorem dX8_onTheWay_99 : decode cX8_onTheWay 99 = .ok (.getfield 394, 3) := by decide +kernel
theorem dX8_onTheWay_102 : decode cX8_onTheWay 102 = .ok (.ifCond .ne 82, 3) := by decide +kernel
theorem dX8_onTheWay_105 : decode cX8_onTheWay 105 = .ok (.aload_n 0, 1) := by decide +kernel
theorem dX8_onTheWay_106 : decode cX8_onTheWay 106 = .ok (.getfield 94, 3) := by decide +kernel
theorem dX8_onTheWay_109 : decode cX8_onTheWay 109 = .ok (.bipush 10, 2) := by decide +kernel
theorem dX8_onTheWay_111 : decode cX8_onTheWay 111 = .ok (.iload_n 1, 1) := by decide +kernel
theorem dX8_onTheWay_112 : decode cX8_onTheWay 112 = .ok (.imul, 1) := by decide +kernel
theorem dX8_onTheWay_113 : decode cX8_onTheWay 113 = .ok (.iload_n 2, 1) := by decide +kernel
theorem dX8_onTheWay_114 : decode cX8_onTheWay 114 = .ok (.iadd, 1) := by decide +kernel
theorem dX8_onTheWay_115 : decode cX8_onTheWay 115 = .ok (.iaload, 1) := by decide +kernel
theorem dX8_onTheWay_116 : decode cX8_onTheWay 116 = .ok (.iconst 1, 1) := by decide +kernel
theorem dX8_onTheWay_117 : decode cX8_onTheWay 117 = .ok (.if_icmp .ne 61, 3) := by decide +kernel
theorem dX8_onTheWay_120 : decode cX8_onTheWay 120 = .ok (.aload_n 0, 1) := by decide +kernel
theorem dX8_onTheWay_121 : decode cX8_onTheWay 121 = .ok (.getfield 27, 3) := by decide +kernel
theorem dX8_onTheWay_124 : decode cX8_onTheWay 124 = .ok (.aload_n 0, 1) := by decide +kernel
theorem dX8_onTheWay_125 : decode cX8_onTheWay 125 = .ok (.getfield 97, 3) := by decide +kernel
theorem dX8_onTheWay_128 : decode cX8_onTheWay 128 = .ok (.bipush 10, 2) := by decide +kernel
theorem dX8_onTheWay_130 : decode cX8_onTheWay 130 = .ok (.iload_n 1, 1) := by decide +kernel
theorem dX8_onTheWay_131 : decode cX8_onTheWay 131 = .ok (.imul, 1) := by decide +kernel
theorem dX8_onTheWay_132 : decode cX8_onTheWay 132 = .ok (.iload_n 2, 1) := by decide +kernel
theorem dX8_onTheWay_133 : decode cX8_onTheWay 133 = .ok (.iadd, 1) := by decide +kernel
theorem dX8_onTheWay_134 : decode cX8_onTheWay 134 = .ok (.iaload, 1) := by decide +kernel
theorem dX8_onTheWay_135 : decode cX8_onTheWay 135 = .ok (.iaload, 1) := by decide +kernel
theorem dX8_onTheWay_136 : decode cX8_onTheWay 136 = .ok (.iconst 4, 1) := by decide +kernel
theorem dX8_onTheWay_137 : decode cX8_onTheWay 137 = .ok (.if_icmp .eq 6, 3) := by decide +kernel
theorem dX8_onTheWay_140 : decode cX8_onTheWay 140 = .ok (.goto 38, 3) := by decide +kernel
theorem dX8_onTheWay_143 : decode cX8_onTheWay 143 = .ok (.aload_n 0, 1) := by decide +kernel
theorem dX8_onTheWay_144 : decode cX8_onTheWay 144 = .ok (.iload_n 1, 1) := by decide +kernel
theorem dX8_onTheWay_145 : decode cX8_onTheWay 145 = .ok (.iload_n 2, 1) := by decide +kernel
theorem dX8_onTheWay_146 : decode cX8_onTheWay 146 = .ok (.aload_n 0, 1) := by decide +kernel
theorem dX8_onTheWay_147 : decode cX8_onTheWay 147 = .ok (.getfield 45, 3) := by decide +kernel
theorem dX8_onTheWay_150 : decode cX8_onTheWay 150 = .ok (.iload_n 2, 1) := by decide +kernel
theorem dX8_onTheWay_151 : decode cX8_onTheWay 151 = .ok (.iaload, 1) := by decide +kernel
theorem dX8_onTheWay_152 : decode cX8_onTheWay 152 = .ok (.invokevirtual 429, 3) := by decide +kernel
theorem dX8_onTheWay_155 : decode cX8_onTheWay 155 = .ok (.aload_n 0, 1) := by decide +kernel
theorem dX8_onTheWay_156 : decode cX8_onTheWay 156 = .ok (.aload_n 0, 1) := by decide +kernel
theorem dX8_onTheWay_157 : decode cX8_onTheWay 157 = .ok (.iconst 2, 1) := by decide +kernel
theorem dX8_onTheWay_158 : decode cX8_onTheWay 158 = .ok (.bipush 10, 2) := by decide +kernel
theorem dX8_onTheWay_160 : decode cX8_onTheWay 160 = .ok (.bipush 100, 2) := by decide +kernel
theorem dX8_onTheWay_162 : decode cX8_onTheWay 162 = .ok (.invokevirtual 432, 3) := by decide +kernel
theorem dX8_onTheWay_165 : decode cX8_onTheWay 165 = .ok (.invokevirtual 476, 3) := by decide +kernel
theorem dX8_onTheWay_168 : decode cX8_onTheWay 168 = .ok (.ifCond .eq 10, 3) := by decide +kernel
theorem dX8_onTheWay_171 : decode cX8_onTheWay 171 = .ok (.aload_n 0, 1) := by decide +kernel
theorem dX8_onTheWay_172 : decode cX8_onTheWay 172 = .ok (.iload_n 1, 1) := by decide +kernel
theorem dX8_onTheWay_173 : decode cX8_onTheWay 173 = .ok (.iload_n 2, 1) := by decide +kernel
theorem dX8_onTheWay_174 : decode cX8_onTheWay 174 = .ok (.iconst 4, 1) := by decide +kernel
theorem dX8_onTheWay_175 : decode cX8_onTheWay 175 = .ok (.invokevirtual 447, 3) := by decide +kernel
theorem dX8_onTheWay_178 : decode cX8_onTheWay 178 = .ok (.iinc 2 1, 3) := by decide +kernel
theorem dX8_onTheWay_181 : decode cX8_onTheWay 181 = .ok (.goto (-91), 3) := by decide +kernel
theorem dX8_onTheWay_184 : decode cX8_onTheWay 184 = .ok (.return_, 1) := by decide +kernel
theorem dX8_goOn_0 : decode cX8_goOn 0 = .ok (.aload_n 0, 1) := by decide +kernel
theorem dX8_goOn_1 : decode cX8_goOn 1 = .ok (.iload_n 1, 1) := by decide +kernel
theorem dX8_goOn_2 : decode cX8_goOn 2 = .ok (.invokevirtual 479, 3) := by decide +kernel
theorem dX8_goOn_5 : decode cX8_goOn 5 = .ok (.aload_n 0, 1) := by decide +kernel
theorem dX8_goOn_6 : decode cX8_goOn 6 = .ok (.iload_n 1, 1) := by decide +kernel
theorem dX8_goOn_7 : decode cX8_goOn 7 = .ok (.invokevirtual 482, 3) := by decide +kernel
theorem dX8_goOn_10 : decode cX8_goOn 10 = .ok (.aload_n 0, 1) := by decide +kernel
theorem dX8_goOn_11 : decode cX8_goOn 11 = .ok (.getfield 121, 3) := by decide +kernel
theorem dX8_goOn_14 : decode cX8_goOn 14 = .ok (.iload_n 1, 1) := by decide +kernel
theorem dX8_goOn_15 : decode cX8_goOn 15 = .ok (.iaload, 1) := by decide +kernel
theorem dX8_goOn_16 : decode cX8_goOn 16 = .ok (.bipush 20, 2) := by decide +kernel
theorem dX8_goOn_18 : decode cX8_goOn 18 = .ok (.if_icmp .ge 8, 3) := by decide +kernel
theorem dX8_goOn_21 : decode cX8_goOn 21 = .ok (.aload_n 0, 1) := by decide +kernel
theorem dX8_goOn_22 : decode cX8_goOn 22 = .ok (.iload_n 1, 1) := by decide +kernel
theorem dX8_goOn_23 : decode cX8_goOn 23 = .ok (.invokevirtual 485, 3) := by decide +kernel
theorem dX8_goOn_26 : decode cX8_goOn 26 = .ok (.aload_n 0, 1) := by decide +kernel
theorem dX8_goOn_27 : decode cX8_goOn 27 = .ok (.getfield 121, 3) := by decide +kernel
theorem dX8_goOn_30 : decode cX8_goOn 30 = .ok (.iload_n 1, 1) := by decide +kernel
theorem dX8_goOn_31 : decode cX8_goOn 31 = .ok (.dup2, 1) := by decide +kernel
theorem dX8_goOn_32 : decode cX8_goOn 32 = .ok (.iaload, 1) := by decide +kernel
theorem dX8_goOn_33 : decode cX8_goOn 33 = .ok (.iconst 1, 1) := by decide +kernel
theorem dX8_goOn_34 : decode cX8_goOn 34 = .ok (.iadd, 1) := by decide +kernel
theorem dX8_goOn_35 : decode cX8_goOn 35 = .ok (.iastore, 1) := by decide +kernel
theorem dX8_goOn_36 : decode cX8_goOn 36 = .ok (.return_, 1) := by decide +kernel
theorem dX8_toEnd_0 : decode cX8_toEnd 0 = .ok (.aload_n 0, 1) := by decide +kernel
theorem dX8_toEnd_1 : decode cX8_toEnd 1 = .ok (.getfield 121, 3) := by decide +kernel
theorem dX8_toEnd_4 : decode cX8_toEnd 4 = .ok (.iconst 1, 1) := by decide +kernel
theorem dX8_toEnd_5 : decode cX8_toEnd 5 = .ok (.iaload, 1) := by decide +kernel
theorem dX8_toEnd_6 : decode cX8_toEnd 6 = .ok (.bipush 21, 2) := by decide +kernel
theorem dX8_toEnd_8 : decode cX8_toEnd 8 = .ok (.if_icmp .ge 11, 3) := by decide +kernel
theorem dX8_toEnd_11 : decode cX8_toEnd 11 = .ok (.aload_n 0, 1) := by decide +kernel
theorem dX8_toEnd_12 : decode cX8_toEnd 12 = .ok (.iconst 1, 1) := by decide +kernel
theorem dX8_toEnd_13 : decode cX8_toEnd 13 = .ok (.invokevirtual 488, 3) := by decide +kernel
theorem dX8_toEnd_16 : decode cX8_toEnd 16 = .ok (.goto (-16), 3) := by decide +kernel
theorem dX8_toEnd_19 : decode cX8_toEnd 19 = .ok (.return_, 1) := by decide +kernel
theorem dX8_fails_0 : decode cX8_fails 0 = .ok (.aload_n 0, 1) := by decide +kernel
theorem dX8_fails_1 : decode cX8_fails 1 = .ok (.iload_n 1, 1) := by decide +kernel
theorem dX8_fails_2 : decode cX8_fails 2 = .ok (.putfield 172, 3) := by decide +kernel
theorem dX8_fails_5 : decode cX8_fails 5 = .ok (.iconst 0, 1) := by decide +kernel
theorem dX8_fails_6 : decode cX8_fails 6 = .ok (.ireturn, 1) := by decide +kernel
theorem dX8_person_0 : decode cX8_person 0 = .ok (.aload_n 0, 1) := by decide +kernel
theorem dX8_person_1 : decode cX8_person 1 = .ok (.iconst 0, 1) := by decide +kernel
theorem dX8_person_2 : decode cX8_person 2 = .ok (.putfield 172, 3) := by decide +kernel
theorem dX8_person_5 : decode cX8_person 5 = .ok (.aload_n 0, 1) := by decide +kernel
theorem dX8_person_6 : decode cX8_person 6 = .ok (.iload_n 1, 1) := by decide +kernel
theorem dX8_person_7 : decode cX8_person 7 = .ok (.invokevirtual 491, 3) := by decide +kernel
theorem dX8_person_10 : decode cX8_person 10 = .ok (.ifCond .ne 9, 3) := by decide +kernel
theorem dX8_person_13 : decode cX8_person 13 = .ok (.aload_n 0, 1) := by decide +kernel
theorem dX8_person_14 : decode cX8_person 14 = .ok (.iconst 1, 1) := by decide +kernel
theorem dX8_person_15 : decode cX8_person 15 = .ok (.invokevirtual 494, 3) := by decide +kernel
theorem dX8_person_18 : decode cX8_person 18 = .ok (.ireturn, 1) := by decide +kernel
theorem dX8_person_19 : decode cX8_person 19 = .ok (.iload_n 2, 1) := by decide +kernel
theorem dX8_person_20 : decode cX8_person 20 = .ok (.tableswitch 71 0 4 #[36, 43, 50, 57, 64], 36) := by decide +kernel
theorem dX8_person_56 : decode cX8_person 56 = .ok (.aload_n 0, 1) := by decide +kernel
theorem dX8_person_57 : decode cX8_person 57 = .ok (.getfield 36, 3) := by decide +kernel
theorem dX8_person_60 : decode cX8_person 60 = .ok (.iload_n 1, 1) := by decide +kernel
theorem dX8_person_61 : decode cX8_person 61 = .ok (.iaload, 1) := by decide +kernel
theorem dX8_person_62 : decode cX8_person 62 = .ok (.ireturn, 1) := by decide +kernel
theorem dX8_person_63 : decode cX8_person 63 = .ok (.aload_n 0, 1) := by decide +kernel
theorem dX8_person_64 : decode cX8_person 64 = .ok (.getfield 39, 3) := by decide +kernel
theorem dX8_person_67 : decode cX8_person 67 = .ok (.iload_n 1, 1) := by decide +kernel
theorem dX8_person_68 : decode cX8_person 68 = .ok (.iaload, 1) := by decide +kernel
theorem dX8_person_69 : decode cX8_person 69 = .ok (.ireturn, 1) := by decide +kernel
theorem dX8_person_70 : decode cX8_person 70 = .ok (.aload_n 0, 1) := by decide +kernel
theorem dX8_person_71 : decode cX8_person 71 = .ok (.getfield 109, 3) := by decide +kernel
theorem dX8_person_74 : decode cX8_person 74 = .ok (.iload_n 1, 1) := by decide +kernel
theorem dX8_person_75 : decode cX8_person 75 = .ok (.iaload, 1) := by decide +kernel
theorem dX8_person_76 : decode cX8_person 76 = .ok (.ireturn, 1) := by decide +kernel
theorem dX8_person_77 : decode cX8_person 77 = .ok (.aload_n 0, 1) := by decide +kernel
theorem dX8_person_78 : decode cX8_person 78 = .ok (.getfield 112, 3) := by decide +kernel
theorem dX8_person_81 : decode cX8_person 81 = .ok (.iload_n 1, 1) := by decide +kernel
theorem dX8_person_82 : decode cX8_person 82 = .ok (.iaload, 1) := by decide +kernel
theorem dX8_person_83 : decode cX8_person 83 = .ok (.ireturn, 1) := by decide +kernel
theorem dX8_person_84 : decode cX8_person 84 = .ok (.aload_n 0, 1) := by decide +kernel
theorem dX8_person_85 : decode cX8_person 85 = .ok (.getfield 115, 3) := by decide +kernel
theorem dX8_person_88 : decode cX8_person 88 = .ok (.iload_n 1, 1) := by decide +kernel
theorem dX8_person_89 : decode cX8_person 89 = .ok (.iaload, 1) := by decide +kernel
theorem dX8_person_90 : decode cX8_person 90 = .ok (.ireturn, 1) := by decide +kernel
theorem dX8_person_91 : decode cX8_person 91 = .ok (.aload_n 0, 1) := by decide +kernel
theorem dX8_person_92 : decode cX8_person 92 = .ok (.iconst 2, 1) := by decide +kernel
theorem dX8_person_93 : decode cX8_person 93 = .ok (.invokevirtual 494, 3) := by decide +kernel
theorem dX8_person_96 : decode cX8_person 96 = .ok (.ireturn, 1) := by decide +kernel
theorem dX8_piece_0 : decode cX8_piece 0 = .ok (.aload_n 0, 1) := by decide +kernel
theorem dX8_piece_1 : decode cX8_piece 1 = .ok (.iconst 0, 1) := by decide +kernel
theorem dX8_piece_2 : decode cX8_piece 2 = .ok (.putfield 172, 3) := by decide +kernel
theorem dX8_piece_5 : decode cX8_piece 5 = .ok (.aload_n 0, 1) := by decide +kernel
theorem dX8_piece_6 : decode cX8_piece 6 = .ok (.iload_n 1, 1) := by decide +kernel
theorem dX8_piece_7 : decode cX8_piece 7 = .ok (.invokevirtual 497, 3) := by decide +kernel
theorem dX8_piece_10 : decode cX8_piece 10 = .ok (.ifCond .ne 5, 3) := by decide +kernel
theorem dX8_piece_13 : decode cX8_piece 13 = .ok (.iconst (-1), 1) := by decide +kernel
theorem dX8_piece_14 : decode cX8_piece 14 = .ok (.ireturn, 1) := by decide +kernel
theorem dX8_piece_15 : decode cX8_piece 15 = .ok (.iload_n 2, 1) := by decide +kernel
theorem dX8_piece_16 : decode cX8_piece 16 = .ok (.tableswitch 82 0 5 #[40, 47, 54, 61, 68, 75], 40) := by decide +kernel
theorem dX8_piece_56 : decode cX8_piece 56 = .ok (.aload_n 0, 1) := by decide +kernel
theorem dX8_piece_57 : decode cX8_piece 57 = .ok (.getfield 45, 3) := by decide +kernel
theorem dX8_piece_60 : decode cX8_piece 60 = .ok (.iload_n 1, 1) := by decide +kernel
theorem dX8_piece_61 : decode cX8_piece 61 = .ok (.iaload, 1) := by decide +kernel
theorem dX8_piece_62 : decode cX8_piece 62 = .ok (.ireturn, 1) := by decide +kernel
theorem dX8_piece_63 : decode cX8_piece 63 = .ok (.aload_n 0, 1) := by decide +kernel
theorem dX8_piece_64 : decode cX8_piece 64 = .ok (.getfield 48, 3) := by decide +kernel
theorem dX8_piece_67 : decode cX8_piece 67 = .ok (.iload_n 1, 1) := by decide +kernel
theorem dX8_piece_68 : decode cX8_piece 68 = .ok (.iaload, 1) := by decide +kernel
theorem dX8_piece_69 : decode cX8_piece 69 = .ok (.ireturn, 1) := by decide +kernel
theorem dX8_piece_70 : decode cX8_piece 70 = .ok (.aload_n 0, 1) := by decide +kernel
theorem dX8_piece_71 : decode cX8_piece 71 = .ok (.getfield 51, 3) := by decide +kernel
theorem dX8_piece_74 : decode cX8_piece 74 = .ok (.iload_n 1, 1) := by decide +kernel
theorem dX8_piece_75 : decode cX8_piece 75 = .ok (.iaload, 1) := by decide +kernel
theorem dX8_piece_76 : decode cX8_piece 76 = .ok (.ireturn, 1) := by decide +kernel
theorem dX8_piece_77 : decode cX8_piece 77 = .ok (.aload_n 0, 1) := by decide +kernel
theorem dX8_piece_78 : decode cX8_piece 78 = .ok (.getfield 94, 3) := by decide +kernel
theorem dX8_piece_81 : decode cX8_piece 81 = .ok (.iload_n 1, 1) := by decide +kernel
theorem dX8_piece_82 : decode cX8_piece 82 = .ok (.iaload, 1) := by decide +kernel
theorem dX8_piece_83 : decode cX8_piece 83 = .ok (.ireturn, 1) := by decide +kernel
theorem dX8_piece_84 : decode cX8_piece 84 = .ok (.aload_n 0, 1) := by decide +kernel
theorem dX8_piece_85 : decode cX8_piece 85 = .ok (.getfield 97, 3) := by decide +kernel
theorem dX8_piece_88 : decode cX8_piece 88 = .ok (.iload_n 1, 1) := by decide +kernel
theorem dX8_piece_89 : decode cX8_piece 89 = .ok (.iaload, 1) := by decide +kernel
theorem dX8_piece_90 : decode cX8_piece 90 = .ok (.ireturn, 1) := by decide +kernel
theorem dX8_piece_91 : decode cX8_piece 91 = .ok (.aload_n 0, 1) := by decide +kernel
theorem dX8_piece_92 : decode cX8_piece 92 = .ok (.iconst 0, 1) := by decide +kernel
theorem dX8_piece_93 : decode cX8_piece 93 = .ok (.iload_n 1, 1) := by decide +kernel
theorem dX8_piece_94 : decode cX8_piece 94 = .ok (.invokevirtual 416, 3) := by decide +kernel
theorem dX8_piece_97 : decode cX8_piece 97 = .ok (.ireturn, 1) := by decide +kernel
theorem dX8_piece_98 : decode cX8_piece 98 = .ok (.iconst (-1), 1) := by decide +kernel
theorem dX8_piece_99 : decode cX8_piece 99 = .ok (.ireturn, 1) := by decide +kernel
theorem dX8_place_0 : decode cX8_place 0 = .ok (.aload_n 0, 1) := by decide +kernel
theorem dX8_place_1 : decode cX8_place 1 = .ok (.iconst 0, 1) := by decide +kernel
theorem dX8_place_2 : decode cX8_place 2 = .ok (.putfield 172, 3) := by decide +kernel
theorem dX8_place_5 : decode cX8_place 5 = .ok (.aload_n 0, 1) := by decide +kernel
theorem dX8_place_6 : decode cX8_place 6 = .ok (.iload_n 1, 1) := by decide +kernel
theorem dX8_place_7 : decode cX8_place 7 = .ok (.invokevirtual 500, 3) := by decide +kernel
theorem dX8_place_10 : decode cX8_place 10 = .ok (.ifCond .ne 5, 3) := by decide +kernel
theorem dX8_place_13 : decode cX8_place 13 = .ok (.iconst (-1), 1) := by decide +kernel
theorem dX8_place_14 : decode cX8_place 14 = .ok (.ireturn, 1) := by decide +kernel
theorem dX8_place_15 : decode cX8_place 15 = .ok (.iload_n 2, 1) := by decide +kernel
theorem dX8_place_16 : decode cX8_place 16 = .ok (.tableswitch 92 0 4 #[36, 43, 50, 57, 64], 36) := by decide +kernel
theorem dX8_place_52 : decode cX8_place 52 = .ok (.aload_n 0, 1) := by decide +kernel
theorem dX8_place_53 : decode cX8_place 53 = .ok (.getfield 27, 3) := by decide +kernel
theorem dX8_place_56 : decode cX8_place 56 = .ok (.iload_n 1, 1) := by decide +kernel
theorem dX8_place_57 : decode cX8_place 57 = .ok (.iaload, 1) := by decide +kernel
theorem dX8_place_58 : decode cX8_place 58 = .ok (.ireturn, 1) := by decide +kernel
theorem dX8_place_59 : decode cX8_place 59 = .ok (.aload_n 0, 1) := by decide +kernel
theorem dX8_place_60 : decode cX8_place 60 = .ok (.getfield 30, 3) := by decide +kernel
theorem dX8_place_63 : decode cX8_place 63 = .ok (.iload_n 1, 1) := by decide +kernel
theorem dX8_place_64 : decode cX8_place 64 = .ok (.iaload, 1) := by decide +kernel
theorem dX8_place_65 : decode cX8_place 65 = .ok (.ireturn, 1) := by decide +kernel
theorem dX8_place_66 : decode cX8_place 66 = .ok (.aload_n 0, 1) := by decide +kernel
theorem dX8_place_67 : decode cX8_place 67 = .ok (.iconst 0, 1) := by decide +kernel
theorem dX8_place_68 : decode cX8_place 68 = .ok (.iload_n 1, 1) := by decide +kernel
theorem dX8_place_69 : decode cX8_place 69 = .ok (.invokevirtual 413, 3) := by decide +kernel
theorem dX8_place_72 : decode cX8_place 72 = .ok (.ireturn, 1) := by decide +kernel
theorem dX8_place_73 : decode cX8_place 73 = .ok (.aload_n 0, 1) := by decide +kernel
theorem dX8_place_74 : decode cX8_place 74 = .ok (.getfield 103, 3) := by decide +kernel
theorem dX8_place_77 : decode cX8_place 77 = .ok (.iload_n 1, 1) := by decide +kernel
theorem dX8_place_78 : decode cX8_place 78 = .ok (.iaload, 1) := by decide +kernel
theorem dX8_place_79 : decode cX8_place 79 = .ok (.ireturn, 1) := by decide +kernel
theorem dX8_place_80 : decode cX8_place 80 = .ok (.aload_n 0, 1) := by decide +kernel
theorem dX8_place_81 : decode cX8_place 81 = .ok (.getfield 103, 3) := by decide +kernel
theorem dX8_place_84 : decode cX8_place 84 = .ok (.iload_n 1, 1) := by decide +kernel
theorem dX8_place_85 : decode cX8_place 85 = .ok (.iaload, 1) := by decide +kernel
theorem dX8_place_86 : decode cX8_place 86 = .ok (.ifCond .ne 7, 3) := by decide +kernel
theorem dX8_place_89 : decode cX8_place 89 = .ok (.iconst (-1), 1) := by decide +kernel
theorem dX8_place_90 : decode cX8_place 90 = .ok (.goto 17, 3) := by decide +kernel
theorem dX8_place_93 : decode cX8_place 93 = .ok (.aload_n 0, 1) := by decide +kernel
theorem dX8_place_94 : decode cX8_place 94 = .ok (.iconst 0, 1) := by decide +kernel
theorem dX8_place_95 : decode cX8_place 95 = .ok (.iload_n 1, 1) := by decide +kernel
theorem dX8_place_96 : decode cX8_place 96 = .ok (.aload_n 0, 1) := by decide +kernel
theorem dX8_place_97 : decode cX8_place 97 = .ok (.getfield 103, 3) := by decide +kernel
theorem dX8_place_100 : decode cX8_place 100 = .ok (.iload_n 1, 1) := by decide +kernel
theorem dX8_place_101 : decode cX8_place 101 = .ok (.iaload, 1) := by decide +kernel
theorem dX8_place_102 : decode cX8_place 102 = .ok (.iconst 1, 1) := by decide +kernel
theorem dX8_place_103 : decode cX8_place 103 = .ok (.isub, 1) := by decide +kernel
theorem dX8_place_104 : decode cX8_place 104 = .ok (.invokevirtual 406, 3) := by decide +kernel
theorem dX8_place_107 : decode cX8_place 107 = .ok (.ireturn, 1) := by decide +kernel
theorem dX8_place_108 : decode cX8_place 108 = .ok (.iconst (-1), 1) := by decide +kernel
theorem dX8_place_109 : decode cX8_place 109 = .ok (.ireturn, 1) := by decide +kernel
theorem dX8_waits_0 : decode cX8_waits 0 = .ok (.aload_n 0, 1) := by decide +kernel
theorem dX8_waits_1 : decode cX8_waits 1 = .ok (.iconst 0, 1) := by decide +kernel
theorem dX8_waits_2 : decode cX8_waits 2 = .ok (.putfield 172, 3) := by decide +kernel
theorem dX8_waits_5 : decode cX8_waits 5 = .ok (.iload_n 1, 1) := by decide +kernel
theorem dX8_waits_6 : decode cX8_waits 6 = .ok (.iconst 0, 1) := by decide +kernel
theorem dX8_waits_7 : decode cX8_waits 7 = .ok (.bipush 20, 2) := by decide +kernel
theorem dX8_waits_9 : decode cX8_waits 9 = .ok (.invokestatic 217, 3) := by decide +kernel
theorem dX8_waits_12 : decode cX8_waits 12 = .ok (.ifCond .eq 12, 3) := by decide +kernel
theorem dX8_waits_15 : decode cX8_waits 15 = .ok (.aload_n 0, 1) := by decide +kernel
theorem dX8_waits_16 : decode cX8_waits 16 = .ok (.getfield 57, 3) := by decide +kernel
theorem dX8_waits_19 : decode cX8_waits 19 = .ok (.iload_n 1, 1) := by decide +kernel
theorem dX8_waits_20 : decode cX8_waits 20 = .ok (.iaload, 1) := by decide +kernel
theorem dX8_waits_21 : decode cX8_waits 21 = .ok (.goto 4, 3) := by decide +kernel
theorem dX8_waits_24 : decode cX8_waits 24 = .ok (.iconst (-1), 1) := by decide +kernel
theorem dX8_waits_25 : decode cX8_waits 25 = .ok (.ireturn, 1) := by decide +kernel
theorem dX8_law_0 : decode cX8_law 0 = .ok (.aload_n 0, 1) := by decide +kernel
theorem dX8_law_1 : decode cX8_law 1 = .ok (.iconst 0, 1) := by decide +kernel
theorem dX8_law_2 : decode cX8_law 2 = .ok (.putfield 172, 3) := by decide +kernel
theorem dX8_law_5 : decode cX8_law 5 = .ok (.iload_n 1, 1) := by decide +kernel
theorem dX8_law_6 : decode cX8_law 6 = .ok (.iconst 0, 1) := by decide +kernel
theorem dX8_law_7 : decode cX8_law 7 = .ok (.iconst 2, 1) := by decide +kernel
theorem dX8_law_8 : decode cX8_law 8 = .ok (.invokestatic 217, 3) := by decide +kernel
theorem dX8_law_11 : decode cX8_law 11 = .ok (.ifCond .eq 30, 3) := by decide +kernel
theorem dX8_law_14 : decode cX8_law 14 = .ok (.aload_n 0, 1) := by decide +kernel
theorem dX8_law_15 : decode cX8_law 15 = .ok (.getfield 63, 3) := by decide +kernel
theorem dX8_law_18 : decode cX8_law 18 = .ok (.iload_n 1, 1) := by decide +kernel
theorem dX8_law_19 : decode cX8_law 19 = .ok (.baload, 1) := by decide +kernel
theorem dX8_law_20 : decode cX8_law 20 = .ok (.ifCond .eq 21, 3) := by decide +kernel
theorem dX8_law_23 : decode cX8_law 23 = .ok (.aload_n 0, 1) := by decide +kernel
theorem dX8_law_24 : decode cX8_law 24 = .ok (.iload_n 2, 1) := by decide +kernel
theorem dX8_law_25 : decode cX8_law 25 = .ok (.invokevirtual 497, 3) := by decide +kernel
theorem dX8_law_28 : decode cX8_law 28 = .ok (.ifCond .eq 13, 3) := by decide +kernel
theorem dX8_law_31 : decode cX8_law 31 = .ok (.aload_n 0, 1) := by decide +kernel
theorem dX8_law_32 : decode cX8_law 32 = .ok (.getfield 94, 3) := by decide +kernel
theorem dX8_law_35 : decode cX8_law 35 = .ok (.iload_n 2, 1) := by decide +kernel
theorem dX8_law_36 : decode cX8_law 36 = .ok (.iaload, 1) := by decide +kernel
theorem dX8_law_37 : decode cX8_law 37 = .ok (.iconst 1, 1) := by decide +kernel
theorem dX8_law_38 : decode cX8_law 38 = .ok (.if_icmp .eq 7, 3) := by decide +kernel
theorem dX8_law_41 : decode cX8_law 41 = .ok (.ldc2_w 503, 3) := by decide +kernel
theorem dX8_law_44 : decode cX8_law 44 = .ok (.lreturn, 1) := by decide +kernel
theorem dX8_law_45 : decode cX8_law 45 = .ok (.aload_n 0, 1) := by decide +kernel
theorem dX8_law_46 : decode cX8_law 46 = .ok (.invokevirtual 373, 3) := by decide +kernel
theorem dX8_law_49 : decode cX8_law 49 = .ok (.aload_n 0, 1) := by decide +kernel
theorem dX8_law_50 : decode cX8_law 50 = .ok (.iconst 0, 1) := by decide +kernel
theorem dX8_law_51 : decode cX8_law 51 = .ok (.iload_n 2, 1) := by decide +kernel
theorem dX8_law_52 : decode cX8_law 52 = .ok (.aload_n 0, 1) := by decide +kernel
theorem dX8_law_53 : decode cX8_law 53 = .ok (.getfield 45, 3) := by decide +kernel
theorem dX8_law_56 : decode cX8_law 56 = .ok (.iload_n 2, 1) := by decide +kernel
theorem dX8_law_57 : decode cX8_law 57 = .ok (.iaload, 1) := by decide +kernel
theorem dX8_law_58 : decode cX8_law 58 = .ok (.invokevirtual 429, 3) := by decide +kernel
theorem dX8_law_61 : decode cX8_law 61 = .ok (.aload_n 0, 1) := by decide +kernel
theorem dX8_law_62 : decode cX8_law 62 = .ok (.iload_n 1, 1) := by decide +kernel
theorem dX8_law_63 : decode cX8_law 63 = .ok (.invokevirtual 426, 3) := by decide +kernel
theorem dX8_law_66 : decode cX8_law 66 = .ok (.lstore_n 3, 1) := by decide +kernel
theorem dX8_law_67 : decode cX8_law 67 = .ok (.aload_n 0, 1) := by decide +kernel
theorem dX8_law_68 : decode cX8_law 68 = .ok (.getfield 347, 3) := by decide +kernel
theorem dX8_law_71 : decode cX8_law 71 = .ok (.ifCond .eq 9, 3) := by decide +kernel
theorem dX8_law_74 : decode cX8_law 74 = .ok (.ldc2_w 503, 3) := by decide +kernel
theorem dX8_law_77 : decode cX8_law 77 = .ok (.goto 4, 3) := by decide +kernel
theorem dX8_law_80 : decode cX8_law 80 = .ok (.lload_n 3, 1) := by decide +kernel
theorem dX8_law_81 : decode cX8_law 81 = .ok (.lreturn, 1) := by decide +kernel
theorem dX8_move_0 : decode cX8_move 0 = .ok (.aload_n 0, 1) := by decide +kernel
theorem dX8_move_1 : decode cX8_move 1 = .ok (.iconst 0, 1) := by decide +kernel
theorem dX8_move_2 : decode cX8_move 2 = .ok (.putfield 172, 3) := by decide +kernel
theorem dX8_move_5 : decode cX8_move 5 = .ok (.aload_n 0, 1) := by decide +kernel
theorem dX8_move_6 : decode cX8_move 6 = .ok (.iload_n 1, 1) := by decide +kernel
theorem dX8_move_7 : decode cX8_move 7 = .ok (.invokevirtual 497, 3) := by decide +kernel
theorem dX8_move_10 : decode cX8_move 10 = .ok (.ifCond .eq 21, 3) := by decide +kernel
theorem dX8_move_13 : decode cX8_move 13 = .ok (.aload_n 0, 1) := by decide +kernel
theorem dX8_move_14 : decode cX8_move 14 = .ok (.iload_n 2, 1) := by decide +kernel
theorem dX8_move_15 : decode cX8_move 15 = .ok (.invokevirtual 500, 3) := by decide +kernel
theorem dX8_move_18 : decode cX8_move 18 = .ok (.ifCond .eq 13, 3) := by decide +kernel
theorem dX8_move_21 : decode cX8_move 21 = .ok (.aload_n 0, 1) := by decide +kernel
theorem dX8_move_22 : decode cX8_move 22 = .ok (.getfield 94, 3) := by decide +kernel
theorem dX8_move_25 : decode cX8_move 25 = .ok (.iload_n 1, 1) := by decide +kernel
theorem dX8_move_26 : decode cX8_move 26 = .ok (.iaload, 1) := by decide +kernel
theorem dX8_move_27 : decode cX8_move 27 = .ok (.iconst 1, 1) := by decide +kernel
theorem dX8_move_28 : decode cX8_move 28 = .ok (.if_icmp .eq 5, 3) := by decide +kernel
theorem dX8_move_31 : decode cX8_move 31 = .ok (.iconst 0, 1) := by decide +kernel
theorem dX8_move_32 : decode cX8_move 32 = .ok (.ireturn, 1) := by decide +kernel
theorem dX8_move_33 : decode cX8_move 33 = .ok (.aload_n 0, 1) := by decide +kernel
theorem dX8_move_34 : decode cX8_move 34 = .ok (.getfield 97, 3) := by decide +kernel
theorem dX8_move_37 : decode cX8_move 37 = .ok (.iload_n 1, 1) := by decide +kernel
theorem dX8_move_38 : decode cX8_move 38 = .ok (.iaload, 1) := by decide +kernel
theorem dX8_move_39 : decode cX8_move 39 = .ok (.iload_n 2, 1) := by decide +kernel
theorem dX8_move_40 : decode cX8_move 40 = .ok (.if_icmp .ne 15, 3) := by decide +kernel
theorem dX8_move_43 : decode cX8_move 43 = .ok (.aload_n 0, 1) := by decide +kernel
theorem dX8_move_44 : decode cX8_move 44 = .ok (.iconst 0, 1) := by decide +kernel
theorem dX8_move_45 : decode cX8_move 45 = .ok (.iload_n 1, 1) := by decide +kernel
theorem dX8_move_46 : decode cX8_move 46 = .ok (.invokevirtual 416, 3) := by decide +kernel
theorem dX8_move_49 : decode cX8_move 49 = .ok (.ifCond .ne 18, 3) := by decide +kernel
theorem dX8_move_52 : decode cX8_move 52 = .ok (.goto 13, 3) := by decide +kernel
theorem dX8_move_55 : decode cX8_move 55 = .ok (.aload_n 0, 1) := by decide +kernel
theorem dX8_move_56 : decode cX8_move 56 = .ok (.iconst 0, 1) := by decide +kernel
theorem dX8_move_57 : decode cX8_move 57 = .ok (.iload_n 2, 1) := by decide +kernel
theorem dX8_move_58 : decode cX8_move 58 = .ok (.iload_n 1, 1) := by decide +kernel
theorem dX8_move_59 : decode cX8_move 59 = .ok (.invokevirtual 453, 3) := by decide +kernel
theorem dX8_move_62 : decode cX8_move 62 = .ok (.ifCond .ne 5, 3) := by decide +kernel
theorem dX8_move_65 : decode cX8_move 65 = .ok (.iconst 0, 1) := by decide +kernel
theorem dX8_move_66 : decode cX8_move 66 = .ok (.ireturn, 1) := by decide +kernel
theorem dX8_move_67 : decode cX8_move 67 = .ok (.aload_n 0, 1) := by decide +kernel
theorem dX8_move_68 : decode cX8_move 68 = .ok (.invokevirtual 505, 3) := by decide +kernel
theorem dX8_move_71 : decode cX8_move 71 = .ok (.aload_n 0, 1) := by decide +kernel
theorem dX8_move_72 : decode cX8_move 72 = .ok (.iconst 0, 1) := by decide +kernel
theorem dX8_move_73 : decode cX8_move 73 = .ok (.iload_n 1, 1) := by decide +kernel
theorem dX8_move_74 : decode cX8_move 74 = .ok (.iconst 1, 1) := by decide +kernel
theorem dX8_move_75 : decode cX8_move 75 = .ok (.invokevirtual 447, 3) := by decide +kernel
theorem dX8_move_78 : decode cX8_move 78 = .ok (.aload_n 0, 1) := by decide +kernel
theorem dX8_move_79 : decode cX8_move 79 = .ok (.iconst 0, 1) := by decide +kernel
theorem dX8_move_80 : decode cX8_move 80 = .ok (.iload_n 2, 1) := by decide +kernel
theorem dX8_move_81 : decode cX8_move 81 = .ok (.iload_n 1, 1) := by decide +kernel
theorem dX8_move_82 : decode cX8_move 82 = .ok (.invokevirtual 459, 3) := by decide +kernel
theorem dX8_move_85 : decode cX8_move 85 = .ok (.iconst 1, 1) := by decide +kernel
theorem dX8_move_86 : decode cX8_move 86 = .ok (.ireturn, 1) := by decide +kernel
theorem dX8_turn_0 : decode cX8_turn 0 = .ok (.aload_n 0, 1) := by decide +kernel
theorem dX8_turn_1 : decode cX8_turn 1 = .ok (.iconst 0, 1) := by decide +kernel
theorem dX8_turn_2 : decode cX8_turn 2 = .ok (.putfield 172, 3) := by decide +kernel
theorem dX8_turn_5 : decode cX8_turn 5 = .ok (.aload_n 0, 1) := by decide +kernel
theorem dX8_turn_6 : decode cX8_turn 6 = .ok (.iload_n 1, 1) := by decide +kernel
theorem dX8_turn_7 : decode cX8_turn 7 = .ok (.invokevirtual 500, 3) := by decide +kernel
theorem dX8_turn_10 : decode cX8_turn 10 = .ok (.ifCond .ne 5, 3) := by decide +kernel
theorem dX8_turn_13 : decode cX8_turn 13 = .ok (.iconst (-1), 1) := by decide +kernel
theorem dX8_turn_14 : decode cX8_turn 14 = .ok (.ireturn, 1) := by decide +kernel
theorem dX8_turn_15 : decode cX8_turn 15 = .ok (.aload_n 0, 1) := by decide +kernel
theorem dX8_turn_16 : decode cX8_turn 16 = .ok (.invokevirtual 511, 3) := by decide +kernel
theorem dX8_turn_19 : decode cX8_turn 19 = .ok (.aload_n 0, 1) := by decide +kernel
theorem dX8_turn_20 : decode cX8_turn 20 = .ok (.iconst 1, 1) := by decide +kernel
theorem dX8_turn_21 : decode cX8_turn 21 = .ok (.iload_n 1, 1) := by decide +kernel
theorem dX8_turn_22 : decode cX8_turn 22 = .ok (.invokevirtual 514, 3) := by decide +kernel
theorem dX8_turn_25 : decode cX8_turn 25 = .ok (.ifCond .ne 5, 3) := by decide +kernel
theorem dX8_turn_28 : decode cX8_turn 28 = .ok (.iconst 0, 1) := by decide +kernel
theorem dX8_turn_29 : decode cX8_turn 29 = .ok (.ireturn, 1) := by decide +kernel
theorem dX8_turn_30 : decode cX8_turn 30 = .ok (.aload_n 0, 1) := by decide +kernel
theorem dX8_turn_31 : decode cX8_turn 31 = .ok (.invokevirtual 505, 3) := by decide +kernel
theorem dX8_turn_34 : decode cX8_turn 34 = .ok (.aload_n 0, 1) := by decide +kernel
theorem dX8_turn_35 : decode cX8_turn 35 = .ok (.iconst 0, 1) := by decide +kernel
theorem dX8_turn_36 : decode cX8_turn 36 = .ok (.iload_n 1, 1) := by decide +kernel
theorem dX8_turn_37 : decode cX8_turn 37 = .ok (.invokevirtual 514, 3) := by decide +kernel
theorem dX8_turn_40 : decode cX8_turn 40 = .ok (.ireturn, 1) := by decide +kernel
theorem dX8_help_0 : decode cX8_help 0 = .ok (.aload_n 0, 1) := by decide +kernel
theorem dX8_help_1 : decode cX8_help 1 = .ok (.iconst 0, 1) := by decide +kernel
theorem dX8_help_2 : decode cX8_help 2 = .ok (.putfield 172, 3) := by decide +kernel
theorem dX8_help_5 : decode cX8_help 5 = .ok (.aload_n 0, 1) := by decide +kernel
theorem dX8_help_6 : decode cX8_help 6 = .ok (.iload_n 1, 1) := by decide +kernel
theorem dX8_help_7 : decode cX8_help 7 = .ok (.invokevirtual 491, 3) := by decide +kernel
theorem dX8_help_10 : decode cX8_help 10 = .ok (.ifCond .eq 23, 3) := by decide +kernel
theorem dX8_help_13 : decode cX8_help 13 = .ok (.iload_n 2, 1) := by decide +kernel
theorem dX8_help_14 : decode cX8_help 14 = .ok (.iconst 1, 1) := by decide +kernel
theorem dX8_help_15 : decode cX8_help 15 = .ok (.bipush 99, 2) := by decide +kernel
theorem dX8_help_17 : decode cX8_help 17 = .ok (.invokestatic 217, 3) := by decide +kernel
theorem dX8_help_20 : decode cX8_help 20 = .ok (.ifCond .eq 13, 3) := by decide +kernel
theorem dX8_help_23 : decode cX8_help 23 = .ok (.aload_n 0, 1) := by decide +kernel
theorem dX8_help_24 : decode cX8_help 24 = .ok (.getfield 109, 3) := by decide +kernel
theorem dX8_help_27 : decode cX8_help 27 = .ok (.iload_n 1, 1) := by decide +kernel
theorem dX8_help_28 : decode cX8_help 28 = .ok (.iaload, 1) := by decide +kernel
theorem dX8_help_29 : decode cX8_help 29 = .ok (.iload_n 2, 1) := by decide +kernel
theorem dX8_help_30 : decode cX8_help 30 = .ok (.if_icmp .ne 5, 3) := by decide +kernel
theorem dX8_help_33 : decode cX8_help 33 = .ok (.iconst 0, 1) := by decide +kernel
theorem dX8_help_34 : decode cX8_help 34 = .ok (.ireturn, 1) := by decide +kernel
theorem dX8_help_35 : decode cX8_help 35 = .ok (.aload_n 0, 1) := by decide +kernel
theorem dX8_help_36 : decode cX8_help 36 = .ok (.invokevirtual 505, 3) := by decide +kernel
theorem dX8_help_39 : decode cX8_help 39 = .ok (.aload_n 0, 1) := by decide +kernel
theorem dX8_help_40 : decode cX8_help 40 = .ok (.getfield 109, 3) := by decide +kernel
theorem dX8_help_43 : decode cX8_help 43 = .ok (.iload_n 1, 1) := by decide +kernel
theorem dX8_help_44 : decode cX8_help 44 = .ok (.iload_n 2, 1) := by decide +kernel
theorem dX8_help_45 : decode cX8_help 45 = .ok (.iastore, 1) := by decide +kernel
theorem dX8_help_46 : decode cX8_help 46 = .ok (.iconst 1, 1) := by decide +kernel
theorem dX8_help_47 : decode cX8_help 47 = .ok (.ireturn, 1) := by decide +kernel
theorem dX8_go_0 : decode cX8_go 0 = .ok (.aload_n 0, 1) := by decide +kernel
theorem dX8_go_1 : decode cX8_go 1 = .ok (.iconst 0, 1) := by decide +kernel
theorem dX8_go_2 : decode cX8_go 2 = .ok (.putfield 172, 3) := by decide +kernel
theorem dX8_go_5 : decode cX8_go 5 = .ok (.iload_n 1, 1) := by decide +kernel
theorem dX8_go_6 : decode cX8_go 6 = .ok (.iconst 0, 1) := by decide +kernel
theorem dX8_go_7 : decode cX8_go 7 = .ok (.bipush 21, 2) := by decide +kernel
theorem dX8_go_9 : decode cX8_go 9 = .ok (.invokestatic 217, 3) := by decide +kernel
theorem dX8_go_12 : decode cX8_go 12 = .ok (.ifCond .eq 16, 3) := by decide +kernel
theorem dX8_go_15 : decode cX8_go 15 = .ok (.aload_n 0, 1) := by decide +kernel
theorem dX8_go_16 : decode cX8_go 16 = .ok (.getfield 121, 3) := by decide +kernel
theorem dX8_go_19 : decode cX8_go 19 = .ok (.iconst 0, 1) := by decide +kernel
theorem dX8_go_20 : decode cX8_go 20 = .ok (.iaload, 1) := by decide +kernel
theorem dX8_go_21 : decode cX8_go 21 = .ok (.iload_n 1, 1) := by decide +kernel
theorem dX8_go_22 : decode cX8_go 22 = .ok (.iadd, 1) := by decide +kernel
theorem dX8_go_23 : decode cX8_go 23 = .ok (.bipush 21, 2) := by decide +kernel
theorem dX8_go_25 : decode cX8_go 25 = .ok (.if_icmp .le 5, 3) := by decide +kernel
theorem dX8_go_28 : decode cX8_go 28 = .ok (.iconst (-1), 1) := by decide +kernel
theorem dX8_go_29 : decode cX8_go 29 = .ok (.ireturn, 1) := by decide +kernel
theorem dX8_go_30 : decode cX8_go 30 = .ok (.aload_n 0, 1) := by decide +kernel
theorem dX8_go_31 : decode cX8_go 31 = .ok (.invokevirtual 373, 3) := by decide +kernel
theorem dX8_go_34 : decode cX8_go 34 = .ok (.aload_n 0, 1) := by decide +kernel
theorem dX8_go_35 : decode cX8_go 35 = .ok (.iconst 1, 1) := by decide +kernel
theorem dX8_go_36 : decode cX8_go 36 = .ok (.putfield 388, 3) := by decide +kernel
theorem dX8_go_39 : decode cX8_go 39 = .ok (.iconst 0, 1) := by decide +kernel
theorem dX8_go_40 : decode cX8_go 40 = .ok (.istore_n 2, 1) := by decide +kernel
theorem dX8_go_41 : decode cX8_go 41 = .ok (.iload_n 2, 1) := by decide +kernel
theorem dX8_go_42 : decode cX8_go 42 = .ok (.iload_n 1, 1) := by decide +kernel
theorem dX8_go_43 : decode cX8_go 43 = .ok (.if_icmp .ge 14, 3) := by decide +kernel
theorem dX8_go_46 : decode cX8_go 46 = .ok (.aload_n 0, 1) := by decide +kernel
theorem dX8_go_47 : decode cX8_go 47 = .ok (.iconst 0, 1) := by decide +kernel
theorem dX8_go_48 : decode cX8_go 48 = .ok (.invokevirtual 488, 3) := by decide +kernel
theorem dX8_go_51 : decode cX8_go 51 = .ok (.iinc 2 1, 3) := by decide +kernel
theorem dX8_go_54 : decode cX8_go 54 = .ok (.goto (-13), 3) := by decide +kernel
theorem dX8_go_57 : decode cX8_go 57 = .ok (.aload_n 0, 1) := by decide +kernel
theorem dX8_go_58 : decode cX8_go 58 = .ok (.iconst 0, 1) := by decide +kernel
theorem dX8_go_59 : decode cX8_go 59 = .ok (.putfield 388, 3) := by decide +kernel
theorem dX8_go_62 : decode cX8_go 62 = .ok (.aload_n 0, 1) := by decide +kernel
theorem dX8_go_63 : decode cX8_go 63 = .ok (.iload_n 1, 1) := by decide +kernel
theorem dX8_go_64 : decode cX8_go 64 = .ok (.ifCond .le 7, 3) := by decide +kernel
theorem dX8_go_67 : decode cX8_go 67 = .ok (.iconst 0, 1) := by decide +kernel
theorem dX8_go_68 : decode cX8_go 68 = .ok (.goto 7, 3) := by decide +kernel
theorem dX8_go_71 : decode cX8_go 71 = .ok (.aload_n 0, 1) := by decide +kernel
theorem dX8_go_72 : decode cX8_go 72 = .ok (.getfield 379, 3) := by decide +kernel
theorem dX8_go_75 : decode cX8_go 75 = .ok (.putfield 379, 3) := by decide +kernel
theorem dX8_go_78 : decode cX8_go 78 = .ok (.aload_n 0, 1) := by decide +kernel
theorem dX8_go_79 : decode cX8_go 79 = .ok (.getfield 121, 3) := by decide +kernel
theorem dX8_go_82 : decode cX8_go 82 = .ok (.iconst 0, 1) := by decide +kernel
theorem dX8_go_83 : decode cX8_go 83 = .ok (.iaload, 1) := by decide +kernel
theorem dX8_go_84 : decode cX8_go 84 = .ok (.ireturn, 1) := by decide +kernel
theorem dX8_more_0 : decode cX8_more 0 = .ok (.aload_n 0, 1) := by decide +kernel
theorem dX8_more_1 : decode cX8_more 1 = .ok (.getfield 118, 3) := by decide +kernel
theorem dX8_more_4 : decode cX8_more 4 = .ok (.iconst 1, 1) := by decide +kernel
theorem dX8_more_5 : decode cX8_more 5 = .ok (.iaload, 1) := by decide +kernel
theorem dX8_more_6 : decode cX8_more 6 = .ok (.aload_n 0, 1) := by decide +kernel
theorem dX8_more_7 : decode cX8_more 7 = .ok (.getfield 118, 3) := by decide +kernel
theorem dX8_more_10 : decode cX8_more 10 = .ok (.iconst 0, 1) := by decide +kernel
theorem dX8_more_11 : decode cX8_more 11 = .ok (.iaload, 1) := by decide +kernel
theorem dX8_more_12 : decode cX8_more 12 = .ok (.isub, 1) := by decide +kernel
theorem dX8_more_13 : decode cX8_more 13 = .ok (.ireturn, 1) := by decide +kernel
theorem dX8_powerOf_0 : decode cX8_powerOf 0 = .ok (.iconst 1, 1) := by decide +kernel
theorem dX8_powerOf_1 : decode cX8_powerOf 1 = .ok (.istore_n 2, 1) := by decide +kernel
theorem dX8_powerOf_2 : decode cX8_powerOf 2 = .ok (.iconst 0, 1) := by decide +kernel
theorem dX8_powerOf_3 : decode cX8_powerOf 3 = .ok (.istore_n 3, 1) := by decide +kernel
theorem dX8_powerOf_4 : decode cX8_powerOf 4 = .ok (.iload_n 3, 1) := by decide +kernel
theorem dX8_powerOf_5 : decode cX8_powerOf 5 = .ok (.iload_n 1, 1) := by decide +kernel
theorem dX8_powerOf_6 : decode cX8_powerOf 6 = .ok (.if_icmp .ge 13, 3) := by decide +kernel
theorem dX8_powerOf_9 : decode cX8_powerOf 9 = .ok (.iload_n 2, 1) := by decide +kernel
theorem dX8_powerOf_10 : decode cX8_powerOf 10 = .ok (.iload_n 0, 1) := by decide +kernel
theorem dX8_powerOf_11 : decode cX8_powerOf 11 = .ok (.imul, 1) := by decide +kernel
theorem dX8_powerOf_12 : decode cX8_powerOf 12 = .ok (.istore_n 2, 1) := by decide +kernel
theorem dX8_powerOf_13 : decode cX8_powerOf 13 = .ok (.iinc 3 1, 3) := by decide +kernel
theorem dX8_powerOf_16 : decode cX8_powerOf 16 = .ok (.goto (-12), 3) := by decide +kernel
theorem dX8_powerOf_19 : decode cX8_powerOf 19 = .ok (.iload_n 2, 1) := by decide +kernel
theorem dX8_powerOf_20 : decode cX8_powerOf 20 = .ok (.ireturn, 1) := by decide +kernel
theorem dX8_least_0 : decode cX8_least 0 = .ok (.aload_n 0, 1) := by decide +kernel
theorem dX8_least_1 : decode cX8_least 1 = .ok (.iconst 0, 1) := by decide +kernel
theorem dX8_least_2 : decode cX8_least 2 = .ok (.putfield 172, 3) := by decide +kernel
theorem dX8_least_5 : decode cX8_least 5 = .ok (.iload_n 1, 1) := by decide +kernel
theorem dX8_least_6 : decode cX8_least 6 = .ok (.iconst 0, 1) := by decide +kernel
theorem dX8_least_7 : decode cX8_least 7 = .ok (.iconst 4, 1) := by decide +kernel
theorem dX8_least_8 : decode cX8_least 8 = .ok (.invokestatic 217, 3) := by decide +kernel
theorem dX8_least_11 : decode cX8_least 11 = .ok (.ifCond .eq 14, 3) := by decide +kernel
theorem dX8_least_14 : decode cX8_least 14 = .ok (.aload_n 0, 1) := by decide +kernel
theorem dX8_least_15 : decode cX8_least 15 = .ok (.getfield 121, 3) := by decide +kernel
theorem dX8_least_18 : decode cX8_least 18 = .ok (.iconst 0, 1) := by decide +kernel
theorem dX8_least_19 : decode cX8_least 19 = .ok (.iaload, 1) := by decide +kernel
theorem dX8_least_20 : decode cX8_least 20 = .ok (.bipush 21, 2) := by decide +kernel
theorem dX8_least_22 : decode cX8_least 22 = .ok (.if_icmp .lt 5, 3) := by decide +kernel
theorem dX8_least_25 : decode cX8_least 25 = .ok (.iconst (-1), 1) := by decide +kernel
theorem dX8_least_26 : decode cX8_least 26 = .ok (.ireturn, 1) := by decide +kernel
theorem dX8_least_27 : decode cX8_least 27 = .ok (.iconst 0, 1) := by decide +kernel
theorem dX8_least_28 : decode cX8_least 28 = .ok (.istore_n 2, 1) := by decide +kernel
theorem dX8_least_29 : decode cX8_least 29 = .ok (.iconst 0, 1) := by decide +kernel
theorem dX8_least_30 : decode cX8_least 30 = .ok (.istore_n 3, 1) := by decide +kernel
theorem dX8_least_31 : decode cX8_least 31 = .ok (.iload_n 3, 1) := by decide +kernel
theorem dX8_least_32 : decode cX8_least 32 = .ok (.aload_n 0, 1) := by decide +kernel
theorem dX8_least_33 : decode cX8_least 33 = .ok (.getfield 258, 3) := by decide +kernel
theorem dX8_least_36 : decode cX8_least 36 = .ok (.if_icmp .ge 38, 3) := by decide +kernel
theorem dX8_least_39 : decode cX8_least 39 = .ok (.aload_n 0, 1) := by decide +kernel
theorem dX8_least_40 : decode cX8_least 40 = .ok (.iload_n 3, 1) := by decide +kernel
theorem dX8_least_41 : decode cX8_least 41 = .ok (.invokevirtual 517, 3) := by decide +kernel
theorem dX8_least_44 : decode cX8_least 44 = .ok (.ifCond .ne 6, 3) := by decide +kernel
theorem dX8_least_47 : decode cX8_least 47 = .ok (.goto 21, 3) := by decide +kernel
theorem dX8_least_50 : decode cX8_least 50 = .ok (.iload_n 2, 1) := by decide +kernel
theorem dX8_least_51 : decode cX8_least 51 = .ok (.iconst 4, 1) := by decide +kernel
theorem dX8_least_52 : decode cX8_least 52 = .ok (.if_icmp .ne 6, 3) := by decide +kernel
theorem dX8_least_55 : decode cX8_least 55 = .ok (.bipush (-4), 2) := by decide +kernel
theorem dX8_least_57 : decode cX8_least 57 = .ok (.ireturn, 1) := by decide +kernel
theorem dX8_least_58 : decode cX8_least 58 = .ok (.aload_n 0, 1) := by decide +kernel
theorem dX8_least_59 : decode cX8_least 59 = .ok (.getfield 133, 3) := by decide +kernel
theorem dX8_least_62 : decode cX8_least 62 = .ok (.iload_n 2, 1) := by decide +kernel
theorem dX8_least_63 : decode cX8_least 63 = .ok (.iload_n 3, 1) := by decide +kernel
theorem dX8_least_64 : decode cX8_least 64 = .ok (.iastore, 1) := by decide +kernel
theorem dX8_least_65 : decode cX8_least 65 = .ok (.iinc 2 1, 3) := by decide +kernel
theorem dX8_least_68 : decode cX8_least 68 = .ok (.iinc 3 1, 3) := by decide +kernel
theorem dX8_least_71 : decode cX8_least 71 = .ok (.goto (-40), 3) := by decide +kernel
theorem dX8_least_74 : decode cX8_least 74 = .ok (.iconst (-1), 1) := by decide +kernel
theorem dX8_least_75 : decode cX8_least 75 = .ok (.istore_n 3, 1) := by decide +kernel
theorem dX8_least_76 : decode cX8_least 76 = .ok (.iconst 0, 1) := by decide +kernel
theorem dX8_least_77 : decode cX8_least 77 = .ok (.istore 4, 2) := by decide +kernel
theorem dX8_least_79 : decode cX8_least 79 = .ok (.iload 4, 2) := by decide +kernel
theorem dX8_least_81 : decode cX8_least 81 = .ok (.aload_n 0, 1) := by decide +kernel
theorem dX8_least_82 : decode cX8_least 82 = .ok (.getfield 252, 3) := by decide +kernel
theorem dX8_least_85 : decode cX8_least 85 = .ok (.iload_n 2, 1) := by decide +kernel
theorem dX8_least_86 : decode cX8_least 86 = .ok (.invokestatic 520, 3) := by decide +kernel
theorem dX8_least_89 : decode cX8_least 89 = .ok (.if_icmp .ge 190, 3) := by decide +kernel
theorem dX8_least_92 : decode cX8_least 92 = .ok (.aload_n 0, 1) := by decide +kernel
theorem dX8_least_93 : decode cX8_least 93 = .ok (.invokevirtual 511, 3) := by decide +kernel
theorem dX8_least_96 : decode cX8_least 96 = .ok (.iconst 0, 1) := by decide +kernel
theorem dX8_least_97 : decode cX8_least 97 = .ok (.istore 5, 2) := by decide +kernel
theorem dX8_least_99 : decode cX8_least 99 = .ok (.iload 5, 2) := by decide +kernel
theorem dX8_least_101 : decode cX8_least 101 = .ok (.iload_n 2, 1) := by decide +kernel
theorem dX8_least_102 : decode cX8_least 102 = .ok (.if_icmp .ge 42, 3) := by decide +kernel
theorem dX8_least_105 : decode cX8_least 105 = .ok (.aload_n 0, 1) := by decide +kernel
theorem dX8_least_106 : decode cX8_least 106 = .ok (.getfield 127, 3) := by decide +kernel
theorem dX8_least_109 : decode cX8_least 109 = .ok (.aload_n 0, 1) := by decide +kernel
theorem dX8_least_110 : decode cX8_least 110 = .ok (.getfield 133, 3) := by decide +kernel
theorem dX8_least_113 : decode cX8_least 113 = .ok (.iload 5, 2) := by decide +kernel
theorem dX8_least_115 : decode cX8_least 115 = .ok (.iaload, 1) := by decide +kernel
theorem dX8_least_116 : decode cX8_least 116 = .ok (.iload 4, 2) := by decide +kernel
theorem dX8_least_118 : decode cX8_least 118 = .ok (.aload_n 0, 1) := by decide +kernel
theorem dX8_least_119 : decode cX8_least 119 = .ok (.getfield 252, 3) := by decide +kernel
theorem dX8_least_122 : decode cX8_least 122 = .ok (.iload_n 2, 1) := by decide +kernel
theorem dX8_least_123 : decode cX8_least 123 = .ok (.iconst 1, 1) := by decide +kernel
theorem dX8_least_124 : decode cX8_least 124 = .ok (.isub, 1) := by decide +kernel
theorem dX8_least_125 : decode cX8_least 125 = .ok (.iload 5, 2) := by decide +kernel
theorem dX8_least_127 : decode cX8_least 127 = .ok (.isub, 1) := by decide +kernel
theorem dX8_least_128 : decode cX8_least 128 = .ok (.invokestatic 520, 3) := by decide +kernel
theorem dX8_least_131 : decode cX8_least 131 = .ok (.idiv, 1) := by decide +kernel
theorem dX8_least_132 : decode cX8_least 132 = .ok (.aload_n 0, 1) := by decide +kernel
theorem dX8_least_133 : decode cX8_least 133 = .ok (.getfield 252, 3) := by decide +kernel
theorem dX8_least_136 : decode cX8_least 136 = .ok (.irem, 1) := by decide +kernel
theorem dX8_least_137 : decode cX8_least 137 = .ok (.iastore, 1) := by decide +kernel
theorem dX8_least_138 : decode cX8_least 138 = .ok (.iinc 5 1, 3) := by decide +kernel
theorem dX8_least_141 : decode cX8_least 141 = .ok (.goto (-42), 3) := by decide +kernel
theorem dX8_least_144 : decode cX8_least 144 = .ok (.aload_n 0, 1) := by decide +kernel
theorem dX8_least_145 : decode cX8_least 145 = .ok (.iconst 1, 1) := by decide +kernel
theorem dX8_least_146 : decode cX8_least 146 = .ok (.invokevirtual 488, 3) := by decide +kernel
theorem dX8_least_149 : decode cX8_least 149 = .ok (.iconst 1, 1) := by decide +kernel
theorem dX8_least_150 : decode cX8_least 150 = .ok (.istore 5, 2) := by decide +kernel
theorem dX8_least_152 : decode cX8_least 152 = .ok (.iconst 0, 1) := by decide +kernel
theorem dX8_least_153 : decode cX8_least 153 = .ok (.istore 6, 2) := by decide +kernel
theorem dX8_least_155 : decode cX8_least 155 = .ok (.iload 6, 2) := by decide +kernel
theorem dX8_least_157 : decode cX8_least 157 = .ok (.iload_n 2, 1) := by decide +kernel
theorem dX8_least_158 : decode cX8_least 158 = .ok (.if_icmp .ge 40, 3) := by decide +kernel
theorem dX8_least_161 : decode cX8_least 161 = .ok (.iload 5, 2) := by decide +kernel
theorem dX8_least_163 : decode cX8_least 163 = .ok (.ifCond .eq 26, 3) := by decide +kernel
theorem dX8_least_166 : decode cX8_least 166 = .ok (.aload_n 0, 1) := by decide +kernel
theorem dX8_least_167 : decode cX8_least 167 = .ok (.getfield 94, 3) := by decide +kernel
theorem dX8_least_170 : decode cX8_least 170 = .ok (.bipush 10, 2) := by decide +kernel
theorem dX8_least_172 : decode cX8_least 172 = .ok (.aload_n 0, 1) := by decide +kernel
theorem dX8_least_173 : decode cX8_least 173 = .ok (.getfield 133, 3) := by decide +kernel
theorem dX8_least_176 : decode cX8_least 176 = .ok (.iload 6, 2) := by decide +kernel
theorem dX8_least_178 : decode cX8_least 178 = .ok (.iaload, 1) := by decide +kernel
theorem dX8_least_179 : decode cX8_least 179 = .ok (.iadd, 1) := by decide +kernel
theorem dX8_least_180 : decode cX8_least 180 = .ok (.iaload, 1) := by decide +kernel
theorem dX8_least_181 : decode cX8_least 181 = .ok (.iconst 5, 1) := by decide +kernel
theorem dX8_least_182 : decode cX8_least 182 = .ok (.if_icmp .eq 7, 3) := by decide +kernel
theorem dX8_least_185 : decode cX8_least 185 = .ok (.iconst 1, 1) := by decide +kernel
theorem dX8_least_186 : decode cX8_least 186 = .ok (.goto 4, 3) := by decide +kernel
theorem dX8_least_189 : decode cX8_least 189 = .ok (.iconst 0, 1) := by decide +kernel
theorem dX8_least_190 : decode cX8_least 190 = .ok (.istore 5, 2) := by decide +kernel
theorem dX8_least_192 : decode cX8_least 192 = .ok (.iinc 6 1, 3) := by decide +kernel
theorem dX8_least_195 : decode cX8_least 195 = .ok (.goto (-40), 3) := by decide +kernel
theorem dX8_least_198 : decode cX8_least 198 = .ok (.iload 5, 2) := by decide +kernel
theorem dX8_least_200 : decode cX8_least 200 = .ok (.ifCond .ne 6, 3) := by decide +kernel
theorem dX8_least_203 : decode cX8_least 203 = .ok (.goto 70, 3) := by decide +kernel
theorem dX8_least_206 : decode cX8_least 206 = .ok (.aload_n 0, 1) := by decide +kernel
theorem dX8_least_207 : decode cX8_least 207 = .ok (.invokevirtual 523, 3) := by decide +kernel
theorem dX8_least_210 : decode cX8_least 210 = .ok (.iload_n 3, 1) := by decide +kernel
theorem dX8_least_211 : decode cX8_least 211 = .ok (.ifCond .lt 14, 3) := by decide +kernel
theorem dX8_least_214 : decode cX8_least 214 = .ok (.aload_n 0, 1) := by decide +kernel
theorem dX8_least_215 : decode cX8_least 215 = .ok (.invokevirtual 526, 3) := by decide +kernel
theorem dX8_least_218 : decode cX8_least 218 = .ok (.iload_n 3, 1) := by decide +kernel
theorem dX8_least_219 : decode cX8_least 219 = .ok (.if_icmp .lt 6, 3) := by decide +kernel
theorem dX8_least_222 : decode cX8_least 222 = .ok (.goto 51, 3) := by decide +kernel
theorem dX8_least_225 : decode cX8_least 225 = .ok (.aload_n 0, 1) := by decide +kernel
theorem dX8_least_226 : decode cX8_least 226 = .ok (.invokevirtual 526, 3) := by decide +kernel
theorem dX8_least_229 : decode cX8_least 229 = .ok (.istore_n 3, 1) := by decide +kernel
theorem dX8_least_230 : decode cX8_least 230 = .ok (.iconst 0, 1) := by decide +kernel
theorem dX8_least_231 : decode cX8_least 231 = .ok (.istore 6, 2) := by decide +kernel
theorem dX8_least_233 : decode cX8_least 233 = .ok (.iload 6, 2) := by decide +kernel
theorem dX8_least_235 : decode cX8_least 235 = .ok (.iload_n 2, 1) := by decide +kernel
theorem dX8_least_236 : decode cX8_least 236 = .ok (.if_icmp .ge 37, 3) := by decide +kernel
theorem dX8_least_239 : decode cX8_least 239 = .ok (.aload_n 0, 1) := by decide +kernel
theorem dX8_least_240 : decode cX8_least 240 = .ok (.getfield 136, 3) := by decide +kernel
theorem dX8_least_243 : decode cX8_least 243 = .ok (.iload 6, 2) := by decide +kernel
theorem dX8_least_245 : decode cX8_least 245 = .ok (.iload 4, 2) := by decide +kernel
theorem dX8_least_247 : decode cX8_least 247 = .ok (.aload_n 0, 1) := by decide +kernel
theorem dX8_least_248 : decode cX8_least 248 = .ok (.getfield 252, 3) := by decide +kernel
theorem dX8_least_251 : decode cX8_least 251 = .ok (.iload_n 2, 1) := by decide +kernel
theorem dX8_least_252 : decode cX8_least 252 = .ok (.iconst 1, 1) := by decide +kernel
theorem dX8_least_253 : decode cX8_least 253 = .ok (.isub, 1) := by decide +kernel
theorem dX8_least_254 : decode cX8_least 254 = .ok (.iload 6, 2) := by decide +kernel
theorem dX8_least_256 : decode cX8_least 256 = .ok (.isub, 1) := by decide +kernel
theorem dX8_least_257 : decode cX8_least 257 = .ok (.invokestatic 520, 3) := by decide +kernel
theorem dX8_least_260 : decode cX8_least 260 = .ok (.idiv, 1) := by decide +kernel
theorem dX8_least_261 : decode cX8_least 261 = .ok (.aload_n 0, 1) := by decide +kernel
theorem dX8_least_262 : decode cX8_least 262 = .ok (.getfield 252, 3) := by decide +kernel
theorem dX8_least_265 : decode cX8_least 265 = .ok (.irem, 1) := by decide +kernel
theorem dX8_least_266 : decode cX8_least 266 = .ok (.iastore, 1) := by decide +kernel
theorem dX8_least_267 : decode cX8_least 267 = .ok (.iinc 6 1, 3) := by decide +kernel
theorem dX8_least_270 : decode cX8_least 270 = .ok (.goto (-37), 3) := by decide +kernel
theorem dX8_least_273 : decode cX8_least 273 = .ok (.iinc 4 1, 3) := by decide +kernel
theorem dX8_least_276 : decode cX8_least 276 = .ok (.goto (-197), 3) := by decide +kernel
theorem dX8_least_279 : decode cX8_least 279 = .ok (.iload_n 3, 1) := by decide +kernel
theorem dX8_least_280 : decode cX8_least 280 = .ok (.ifCond .ge 8, 3) := by decide +kernel
theorem dX8_least_283 : decode cX8_least 283 = .ok (.bipush (-3), 2) := by decide +kernel
theorem dX8_least_285 : decode cX8_least 285 = .ok (.goto 29, 3) := by decide +kernel
theorem dX8_least_288 : decode cX8_least 288 = .ok (.iload_n 1, 1) := by decide +kernel
theorem dX8_least_289 : decode cX8_least 289 = .ok (.ifCond .ne 7, 3) := by decide +kernel
theorem dX8_least_292 : decode cX8_least 292 = .ok (.iload_n 3, 1) := by decide +kernel
theorem dX8_least_293 : decode cX8_least 293 = .ok (.goto 21, 3) := by decide +kernel
theorem dX8_least_296 : decode cX8_least 296 = .ok (.iload_n 1, 1) := by decide +kernel
theorem dX8_least_297 : decode cX8_least 297 = .ok (.iload_n 2, 1) := by decide +kernel
theorem dX8_least_298 : decode cX8_least 298 = .ok (.if_icmp .le 8, 3) := by decide +kernel
theorem dX8_least_301 : decode cX8_least 301 = .ok (.bipush (-2), 2) := by decide +kernel
theorem dX8_least_303 : decode cX8_least 303 = .ok (.goto 11, 3) := by decide +kernel
theorem dX8_least_306 : decode cX8_least 306 = .ok (.aload_n 0, 1) := by decide +kernel
theorem dX8_least_307 : decode cX8_least 307 = .ok (.getfield 136, 3) := by decide +kernel
theorem dX8_least_310 : decode cX8_least 310 = .ok (.iload_n 1, 1) := by decide +kernel
theorem dX8_least_311 : decode cX8_least 311 = .ok (.iconst 1, 1) := by decide +kernel
theorem dX8_least_312 : decode cX8_least 312 = .ok (.isub, 1) := by decide +kernel
theorem dX8_least_313 : decode cX8_least 313 = .ok (.iaload, 1) := by decide +kernel
theorem dX8_least_314 : decode cX8_least 314 = .ok (.ireturn, 1) := by decide +kernel
theorem dX8_mine_0 : decode cX8_mine 0 = .ok (.aload_n 0, 1) := by decide +kernel
theorem dX8_mine_1 : decode cX8_mine 1 = .ok (.iconst 0, 1) := by decide +kernel
theorem dX8_mine_2 : decode cX8_mine 2 = .ok (.putfield 172, 3) := by decide +kernel
theorem dX8_mine_5 : decode cX8_mine 5 = .ok (.aload_n 0, 1) := by decide +kernel
theorem dX8_mine_6 : decode cX8_mine 6 = .ok (.iload_n 1, 1) := by decide +kernel
theorem dX8_mine_7 : decode cX8_mine 7 = .ok (.invokevirtual 497, 3) := by decide +kernel
theorem dX8_mine_10 : decode cX8_mine 10 = .ok (.ifCond .eq 31, 3) := by decide +kernel
theorem dX8_mine_13 : decode cX8_mine 13 = .ok (.iload_n 2, 1) := by decide +kernel
theorem dX8_mine_14 : decode cX8_mine 14 = .ok (.iconst 0, 1) := by decide +kernel
theorem dX8_mine_15 : decode cX8_mine 15 = .ok (.iconst 3, 1) := by decide +kernel
theorem dX8_mine_16 : decode cX8_mine 16 = .ok (.invokestatic 217, 3) := by decide +kernel
theorem dX8_mine_19 : decode cX8_mine 19 = .ok (.ifCond .eq 22, 3) := by decide +kernel
theorem dX8_mine_22 : decode cX8_mine 22 = .ok (.aload_n 0, 1) := by decide +kernel
theorem dX8_mine_23 : decode cX8_mine 23 = .ok (.getfield 121, 3) := by decide +kernel
theorem dX8_mine_26 : decode cX8_mine 26 = .ok (.iconst 0, 1) := by decide +kernel
theorem dX8_mine_27 : decode cX8_mine 27 = .ok (.iaload, 1) := by decide +kernel
theorem dX8_mine_28 : decode cX8_mine 28 = .ok (.bipush 21, 2) := by decide +kernel
theorem dX8_mine_30 : decode cX8_mine 30 = .ok (.if_icmp .ge 11, 3) := by decide +kernel
theorem dX8_mine_33 : decode cX8_mine 33 = .ok (.aload_n 0, 1) := by decide +kernel
theorem dX8_mine_34 : decode cX8_mine 34 = .ok (.iload_n 1, 1) := by decide +kernel
theorem dX8_mine_35 : decode cX8_mine 35 = .ok (.invokevirtual 517, 3) := by decide +kernel
theorem dX8_mine_38 : decode cX8_mine 38 = .ok (.ifCond .ne 5, 3) := by decide +kernel
theorem dX8_mine_41 : decode cX8_mine 41 = .ok (.iconst (-1), 1) := by decide +kernel
theorem dX8_mine_42 : decode cX8_mine 42 = .ok (.ireturn, 1) := by decide +kernel
theorem dX8_mine_43 : decode cX8_mine 43 = .ok (.bipush (-2), 2) := by decide +kernel
theorem dX8_mine_45 : decode cX8_mine 45 = .ok (.istore_n 3, 1) := by decide +kernel
theorem dX8_mine_46 : decode cX8_mine 46 = .ok (.bipush (-2), 2) := by decide +kernel
theorem dX8_mine_48 : decode cX8_mine 48 = .ok (.istore 4, 2) := by decide +kernel
theorem dX8_mine_50 : decode cX8_mine 50 = .ok (.iconst 0, 1) := by decide +kernel
theorem dX8_mine_51 : decode cX8_mine 51 = .ok (.istore 5, 2) := by decide +kernel
theorem dX8_mine_53 : decode cX8_mine 53 = .ok (.iload 5, 2) := by decide +kernel
theorem dX8_mine_55 : decode cX8_mine 55 = .ok (.aload_n 0, 1) := by decide +kernel
theorem dX8_mine_56 : decode cX8_mine 56 = .ok (.getfield 252, 3) := by decide +kernel
theorem dX8_mine_59 : decode cX8_mine 59 = .ok (.if_icmp .ge 107, 3) := by decide +kernel
theorem dX8_mine_62 : decode cX8_mine 62 = .ok (.aload_n 0, 1) := by decide +kernel
theorem dX8_mine_63 : decode cX8_mine 63 = .ok (.invokevirtual 511, 3) := by decide +kernel
theorem dX8_mine_66 : decode cX8_mine 66 = .ok (.aload_n 0, 1) := by decide +kernel
theorem dX8_mine_67 : decode cX8_mine 67 = .ok (.getfield 127, 3) := by decide +kernel
theorem dX8_mine_70 : decode cX8_mine 70 = .ok (.iload_n 1, 1) := by decide +kernel
theorem dX8_mine_71 : decode cX8_mine 71 = .ok (.iload 5, 2) := by decide +kernel
theorem dX8_mine_73 : decode cX8_mine 73 = .ok (.iastore, 1) := by decide +kernel
theorem dX8_mine_74 : decode cX8_mine 74 = .ok (.aload_n 0, 1) := by decide +kernel
theorem dX8_mine_75 : decode cX8_mine 75 = .ok (.iconst 1, 1) := by decide +kernel
theorem dX8_mine_76 : decode cX8_mine 76 = .ok (.invokevirtual 488, 3) := by decide +kernel
theorem dX8_mine_79 : decode cX8_mine 79 = .ok (.aload_n 0, 1) := by decide +kernel
theorem dX8_mine_80 : decode cX8_mine 80 = .ok (.getfield 94, 3) := by decide +kernel
theorem dX8_mine_83 : decode cX8_mine 83 = .ok (.bipush 10, 2) := by decide +kernel
theorem dX8_mine_85 : decode cX8_mine 85 = .ok (.iload_n 1, 1) := by decide +kernel
theorem dX8_mine_86 : decode cX8_mine 86 = .ok (.iadd, 1) := by decide +kernel
theorem dX8_mine_87 : decode cX8_mine 87 = .ok (.iaload, 1) := by decide +kernel
theorem dX8_mine_88 : decode cX8_mine 88 = .ok (.iconst 5, 1) := by decide +kernel
theorem dX8_mine_89 : decode cX8_mine 89 = .ok (.if_icmp .ne 6, 3) := by decide +kernel
theorem dX8_mine_92 : decode cX8_mine 92 = .ok (.goto 68, 3) := by decide +kernel
theorem dX8_mine_95 : decode cX8_mine 95 = .ok (.aload_n 0, 1) := by decide +kernel
theorem dX8_mine_96 : decode cX8_mine 96 = .ok (.invokevirtual 523, 3) := by decide +kernel
theorem dX8_mine_99 : decode cX8_mine 99 = .ok (.iload_n 2, 1) := by decide +kernel
theorem dX8_mine_100 : decode cX8_mine 100 = .ok (.iconst 2, 1) := by decide +kernel
theorem dX8_mine_101 : decode cX8_mine 101 = .ok (.if_icmp .ge 32, 3) := by decide +kernel
theorem dX8_mine_104 : decode cX8_mine 104 = .ok (.aload_n 0, 1) := by decide +kernel
theorem dX8_mine_105 : decode cX8_mine 105 = .ok (.getfield 115, 3) := by decide +kernel
theorem dX8_mine_108 : decode cX8_mine 108 = .ok (.bipush 6, 2) := by decide +kernel
theorem dX8_mine_110 : decode cX8_mine 110 = .ok (.aload_n 0, 1) := by decide +kernel
theorem dX8_mine_111 : decode cX8_mine 111 = .ok (.getfield 45, 3) := by decide +kernel
theorem dX8_mine_114 : decode cX8_mine 114 = .ok (.iload_n 1, 1) := by decide +kernel
theorem dX8_mine_115 : decode cX8_mine 115 = .ok (.iaload, 1) := by decide +kernel
theorem dX8_mine_116 : decode cX8_mine 116 = .ok (.iadd, 1) := by decide +kernel
theorem dX8_mine_117 : decode cX8_mine 117 = .ok (.iaload, 1) := by decide +kernel
theorem dX8_mine_118 : decode cX8_mine 118 = .ok (.aload_n 0, 1) := by decide +kernel
theorem dX8_mine_119 : decode cX8_mine 119 = .ok (.getfield 115, 3) := by decide +kernel
theorem dX8_mine_122 : decode cX8_mine 122 = .ok (.aload_n 0, 1) := by decide +kernel
theorem dX8_mine_123 : decode cX8_mine 123 = .ok (.getfield 45, 3) := by decide +kernel
theorem dX8_mine_126 : decode cX8_mine 126 = .ok (.iload_n 1, 1) := by decide +kernel
theorem dX8_mine_127 : decode cX8_mine 127 = .ok (.iaload, 1) := by decide +kernel
theorem dX8_mine_128 : decode cX8_mine 128 = .ok (.iaload, 1) := by decide +kernel
theorem dX8_mine_129 : decode cX8_mine 129 = .ok (.isub, 1) := by decide +kernel
theorem dX8_mine_130 : decode cX8_mine 130 = .ok (.goto 7, 3) := by decide +kernel
theorem dX8_mine_133 : decode cX8_mine 133 = .ok (.aload_n 0, 1) := by decide +kernel
theorem dX8_mine_134 : decode cX8_mine 134 = .ok (.invokevirtual 526, 3) := by decide +kernel
theorem dX8_mine_137 : decode cX8_mine 137 = .ok (.istore 6, 2) := by decide +kernel
theorem dX8_mine_139 : decode cX8_mine 139 = .ok (.iload_n 3, 1) := by decide +kernel
theorem dX8_mine_140 : decode cX8_mine 140 = .ok (.ifCond .lt 13, 3) := by decide +kernel
theorem dX8_mine_143 : decode cX8_mine 143 = .ok (.iload 6, 2) := by decide +kernel
theorem dX8_mine_145 : decode cX8_mine 145 = .ok (.iload 4, 2) := by decide +kernel
theorem dX8_mine_147 : decode cX8_mine 147 = .ok (.if_icmp .lt 6, 3) := by decide +kernel
theorem dX8_mine_150 : decode cX8_mine 150 = .ok (.goto 10, 3) := by decide +kernel
theorem dX8_mine_153 : decode cX8_mine 153 = .ok (.iload 5, 2) := by decide +kernel
theorem dX8_mine_155 : decode cX8_mine 155 = .ok (.istore_n 3, 1) := by decide +kernel
theorem dX8_mine_156 : decode cX8_mine 156 = .ok (.iload 6, 2) := by decide +kernel
theorem dX8_mine_158 : decode cX8_mine 158 = .ok (.istore 4, 2) := by decide +kernel
theorem dX8_mine_160 : decode cX8_mine 160 = .ok (.iinc 5 1, 3) := by decide +kernel
theorem dX8_mine_163 : decode cX8_mine 163 = .ok (.goto (-110), 3) := by decide +kernel
theorem dX8_mine_166 : decode cX8_mine 166 = .ok (.iload_n 2, 1) := by decide +kernel
theorem dX8_mine_167 : decode cX8_mine 167 = .ok (.iconst 2, 1) := by decide +kernel
theorem dX8_mine_168 : decode cX8_mine 168 = .ok (.irem, 1) := by decide +kernel
theorem dX8_mine_169 : decode cX8_mine 169 = .ok (.ifCond .ne 7, 3) := by decide +kernel
theorem dX8_mine_172 : decode cX8_mine 172 = .ok (.iload_n 3, 1) := by decide +kernel
theorem dX8_mine_173 : decode cX8_mine 173 = .ok (.goto 5, 3) := by decide +kernel
theorem dX8_mine_176 : decode cX8_mine 176 = .ok (.iload 4, 2) := by decide +kernel
theorem dX8_mine_178 : decode cX8_mine 178 = .ok (.ireturn, 1) := by decide +kernel
theorem dX8_when_0 : decode cX8_when 0 = .ok (.aload_n 0, 1) := by decide +kernel
theorem dX8_when_1 : decode cX8_when 1 = .ok (.iconst 0, 1) := by decide +kernel
theorem dX8_when_2 : decode cX8_when 2 = .ok (.putfield 172, 3) := by decide +kernel
theorem dX8_when_5 : decode cX8_when 5 = .ok (.aload_n 0, 1) := by decide +kernel
theorem dX8_when_6 : decode cX8_when 6 = .ok (.iload_n 1, 1) := by decide +kernel
theorem dX8_when_7 : decode cX8_when 7 = .ok (.invokevirtual 500, 3) := by decide +kernel
theorem dX8_when_10 : decode cX8_when 10 = .ok (.ifCond .eq 12, 3) := by decide +kernel
theorem dX8_when_13 : decode cX8_when 13 = .ok (.iload_n 2, 1) := by decide +kernel
theorem dX8_when_14 : decode cX8_when 14 = .ok (.iconst 0, 1) := by decide +kernel
theorem dX8_when_15 : decode cX8_when 15 = .ok (.iconst 1, 1) := by decide +kernel
theorem dX8_when_16 : decode cX8_when 16 = .ok (.invokestatic 217, 3) := by decide +kernel
theorem dX8_when_19 : decode cX8_when 19 = .ok (.ifCond .ne 5, 3) := by decide +kernel
theorem dX8_when_22 : decode cX8_when 22 = .ok (.iconst (-1), 1) := by decide +kernel
theorem dX8_when_23 : decode cX8_when 23 = .ok (.ireturn, 1) := by decide +kernel
theorem dX8_when_24 : decode cX8_when 24 = .ok (.aload_n 0, 1) := by decide +kernel
theorem dX8_when_25 : decode cX8_when 25 = .ok (.invokevirtual 511, 3) := by decide +kernel
theorem dX8_when_28 : decode cX8_when 28 = .ok (.aload_n 0, 1) := by decide +kernel
theorem dX8_when_29 : decode cX8_when 29 = .ok (.invokevirtual 523, 3) := by decide +kernel
theorem dX8_when_32 : decode cX8_when 32 = .ok (.aload_n 0, 1) := by decide +kernel
theorem dX8_when_33 : decode cX8_when 33 = .ok (.invokevirtual 526, 3) := by decide +kernel
theorem dX8_when_36 : decode cX8_when 36 = .ok (.istore_n 3, 1) := by decide +kernel
theorem dX8_when_37 : decode cX8_when 37 = .ok (.bipush (-2), 2) := by decide +kernel
theorem dX8_when_39 : decode cX8_when 39 = .ok (.istore 4, 2) := by decide +kernel
theorem dX8_when_41 : decode cX8_when 41 = .ok (.bipush (-2), 2) := by decide +kernel
theorem dX8_when_43 : decode cX8_when 43 = .ok (.istore 5, 2) := by decide +kernel
theorem dX8_when_45 : decode cX8_when 45 = .ok (.aload_n 0, 1) := by decide +kernel
theorem dX8_when_46 : decode cX8_when 46 = .ok (.getfield 121, 3) := by decide +kernel
theorem dX8_when_49 : decode cX8_when 49 = .ok (.iconst 0, 1) := by decide +kernel
theorem dX8_when_50 : decode cX8_when 50 = .ok (.iaload, 1) := by decide +kernel
theorem dX8_when_51 : decode cX8_when 51 = .ok (.istore 6, 2) := by decide +kernel
theorem dX8_when_53 : decode cX8_when 53 = .ok (.iload 6, 2) := by decide +kernel
theorem dX8_when_55 : decode cX8_when 55 = .ok (.bipush 20, 2) := by decide +kernel
theorem dX8_when_57 : decode cX8_when 57 = .ok (.if_icmp .ge 85, 3) := by decide +kernel
theorem dX8_when_60 : decode cX8_when 60 = .ok (.aload_n 0, 1) := by decide +kernel
theorem dX8_when_61 : decode cX8_when 61 = .ok (.invokevirtual 511, 3) := by decide +kernel
theorem dX8_when_64 : decode cX8_when 64 = .ok (.aload_n 0, 1) := by decide +kernel
theorem dX8_when_65 : decode cX8_when 65 = .ok (.getfield 121, 3) := by decide +kernel
theorem dX8_when_68 : decode cX8_when 68 = .ok (.iconst 1, 1) := by decide +kernel
theorem dX8_when_69 : decode cX8_when 69 = .ok (.iaload, 1) := by decide +kernel
theorem dX8_when_70 : decode cX8_when 70 = .ok (.iload 6, 2) := by decide +kernel
theorem dX8_when_72 : decode cX8_when 72 = .ok (.if_icmp .ge 11, 3) := by decide +kernel
theorem dX8_when_75 : decode cX8_when 75 = .ok (.aload_n 0, 1) := by decide +kernel
theorem dX8_when_76 : decode cX8_when 76 = .ok (.iconst 1, 1) := by decide +kernel
theorem dX8_when_77 : decode cX8_when 77 = .ok (.invokevirtual 488, 3) := by decide +kernel
theorem dX8_when_80 : decode cX8_when 80 = .ok (.goto (-16), 3) := by decide +kernel
theorem dX8_when_83 : decode cX8_when 83 = .ok (.aload_n 0, 1) := by decide +kernel
theorem dX8_when_84 : decode cX8_when 84 = .ok (.getfield 103, 3) := by decide +kernel
theorem dX8_when_87 : decode cX8_when 87 = .ok (.iconst 5, 1) := by decide +kernel
theorem dX8_when_88 : decode cX8_when 88 = .ok (.iload_n 1, 1) := by decide +kernel
theorem dX8_when_89 : decode cX8_when 89 = .ok (.iadd, 1) := by decide +kernel
theorem dX8_when_90 : decode cX8_when 90 = .ok (.iaload, 1) := by decide +kernel
theorem dX8_when_91 : decode cX8_when 91 = .ok (.istore 7, 2) := by decide +kernel
theorem dX8_when_93 : decode cX8_when 93 = .ok (.aload_n 0, 1) := by decide +kernel
theorem dX8_when_94 : decode cX8_when 94 = .ok (.iconst 1, 1) := by decide +kernel
theorem dX8_when_95 : decode cX8_when 95 = .ok (.iload_n 1, 1) := by decide +kernel
theorem dX8_when_96 : decode cX8_when 96 = .ok (.invokevirtual 514, 3) := by decide +kernel
theorem dX8_when_99 : decode cX8_when 99 = .ok (.pop, 1) := by decide +kernel
theorem dX8_when_100 : decode cX8_when 100 = .ok (.aload_n 0, 1) := by decide +kernel
theorem dX8_when_101 : decode cX8_when 101 = .ok (.invokevirtual 523, 3) := by decide +kernel
theorem dX8_when_104 : decode cX8_when 104 = .ok (.aload_n 0, 1) := by decide +kernel
theorem dX8_when_105 : decode cX8_when 105 = .ok (.invokevirtual 526, 3) := by decide +kernel
theorem dX8_when_108 : decode cX8_when 108 = .ok (.iload 7, 2) := by decide +kernel
theorem dX8_when_110 : decode cX8_when 110 = .ok (.iadd, 1) := by decide +kernel
theorem dX8_when_111 : decode cX8_when 111 = .ok (.iload_n 3, 1) := by decide +kernel
theorem dX8_when_112 : decode cX8_when 112 = .ok (.if_icmp .lt 6, 3) := by decide +kernel
theorem dX8_when_115 : decode cX8_when 115 = .ok (.goto 21, 3) := by decide +kernel
theorem dX8_when_118 : decode cX8_when 118 = .ok (.aload_n 0, 1) := by decide +kernel
theorem dX8_when_119 : decode cX8_when 119 = .ok (.invokevirtual 526, 3) := by decide +kernel
theorem dX8_when_122 : decode cX8_when 122 = .ok (.iload 7, 2) := by decide +kernel
theorem dX8_when_124 : decode cX8_when 124 = .ok (.iadd, 1) := by decide +kernel
theorem dX8_when_125 : decode cX8_when 125 = .ok (.istore_n 3, 1) := by decide +kernel
theorem dX8_when_126 : decode cX8_when 126 = .ok (.iload 6, 2) := by decide +kernel
theorem dX8_when_128 : decode cX8_when 128 = .ok (.istore 4, 2) := by decide +kernel
theorem dX8_when_130 : decode cX8_when 130 = .ok (.aload_n 0, 1) := by decide +kernel
theorem dX8_when_131 : decode cX8_when 131 = .ok (.invokevirtual 526, 3) := by decide +kernel
theorem dX8_when_134 : decode cX8_when 134 = .ok (.istore 5, 2) := by decide +kernel
theorem dX8_when_136 : decode cX8_when 136 = .ok (.iinc 6 1, 3) := by decide +kernel
theorem dX8_when_139 : decode cX8_when 139 = .ok (.goto (-86), 3) := by decide +kernel
theorem dX8_when_142 : decode cX8_when 142 = .ok (.iload_n 2, 1) := by decide +kernel
theorem dX8_when_143 : decode cX8_when 143 = .ok (.ifCond .ne 8, 3) := by decide +kernel
theorem dX8_when_146 : decode cX8_when 146 = .ok (.iload 4, 2) := by decide +kernel
theorem dX8_when_148 : decode cX8_when 148 = .ok (.goto 5, 3) := by decide +kernel
theorem dX8_when_151 : decode cX8_when 151 = .ok (.iload 5, 2) := by decide +kernel
theorem dX8_when_153 : decode cX8_when 153 = .ok (.ireturn, 1) := by decide +kernel
theorem dX8_areTwo_0 : decode cX8_areTwo 0 = .ok (.aload_n 0, 1) := by decide +kernel
theorem dX8_areTwo_1 : decode cX8_areTwo 1 = .ok (.iload_n 1, 1) := by decide +kernel
theorem dX8_areTwo_2 : decode cX8_areTwo 2 = .ok (.invokevirtual 497, 3) := by decide +kernel
theorem dX8_areTwo_5 : decode cX8_areTwo 5 = .ok (.ifCond .eq 69, 3) := by decide +kernel
theorem dX8_areTwo_8 : decode cX8_areTwo 8 = .ok (.aload_n 0, 1) := by decide +kernel
theorem dX8_areTwo_9 : decode cX8_areTwo 9 = .ok (.iload_n 2, 1) := by decide +kernel
theorem dX8_areTwo_10 : decode cX8_areTwo 10 = .ok (.invokevirtual 497, 3) := by decide +kernel
theorem dX8_areTwo_13 : decode cX8_areTwo 13 = .ok (.ifCond .eq 61, 3) := by decide +kernel
theorem dX8_areTwo_16 : decode cX8_areTwo 16 = .ok (.iload_n 1, 1) := by decide +kernel
theorem dX8_areTwo_17 : decode cX8_areTwo 17 = .ok (.iload_n 2, 1) := by decide +kernel
theorem dX8_areTwo_18 : decode cX8_areTwo 18 = .ok (.if_icmp .eq 56, 3) := by decide +kernel
theorem dX8_areTwo_21 : decode cX8_areTwo 21 = .ok (.aload_n 0, 1) := by decide +kernel
theorem dX8_areTwo_22 : decode cX8_areTwo 22 = .ok (.getfield 45, 3) := by decide +kernel
theorem dX8_areTwo_25 : decode cX8_areTwo 25 = .ok (.iload_n 1, 1) := by decide +kernel
theorem dX8_areTwo_26 : decode cX8_areTwo 26 = .ok (.iaload, 1) := by decide +kernel
theorem dX8_areTwo_27 : decode cX8_areTwo 27 = .ok (.aload_n 0, 1) := by decide +kernel
theorem dX8_areTwo_28 : decode cX8_areTwo 28 = .ok (.getfield 45, 3) := by decide +kernel
theorem dX8_areTwo_31 : decode cX8_areTwo 31 = .ok (.iload_n 2, 1) := by decide +kernel
theorem dX8_areTwo_32 : decode cX8_areTwo 32 = .ok (.iaload, 1) := by decide +kernel
theorem dX8_areTwo_33 : decode cX8_areTwo 33 = .ok (.if_icmp .eq 41, 3) := by decide +kernel
theorem dX8_areTwo_36 : decode cX8_areTwo 36 = .ok (.aload_n 0, 1) := by decide +kernel
theorem dX8_areTwo_37 : decode cX8_areTwo 37 = .ok (.getfield 121, 3) := by decide +kernel
theorem dX8_areTwo_40 : decode cX8_areTwo 40 = .ok (.iconst 0, 1) := by decide +kernel
theorem dX8_areTwo_41 : decode cX8_areTwo 41 = .ok (.iaload, 1) := by decide +kernel
theorem dX8_areTwo_42 : decode cX8_areTwo 42 = .ok (.bipush 21, 2) := by decide +kernel
theorem dX8_areTwo_44 : decode cX8_areTwo 44 = .ok (.if_icmp .ge 30, 3) := by decide +kernel
theorem dX8_areTwo_47 : decode cX8_areTwo 47 = .ok (.aload_n 0, 1) := by decide +kernel
theorem dX8_areTwo_48 : decode cX8_areTwo 48 = .ok (.iload_n 1, 1) := by decide +kernel
theorem dX8_areTwo_49 : decode cX8_areTwo 49 = .ok (.invokevirtual 517, 3) := by decide +kernel
theorem dX8_areTwo_52 : decode cX8_areTwo 52 = .ok (.ifCond .eq 22, 3) := by decide +kernel
theorem dX8_areTwo_55 : decode cX8_areTwo 55 = .ok (.aload_n 0, 1) := by decide +kernel
theorem dX8_areTwo_56 : decode cX8_areTwo 56 = .ok (.iload_n 2, 1) := by decide +kernel
theorem dX8_areTwo_57 : decode cX8_areTwo 57 = .ok (.invokevirtual 517, 3) := by decide +kernel
theorem dX8_areTwo_60 : decode cX8_areTwo 60 = .ok (.ifCond .eq 14, 3) := by decide +kernel
theorem dX8_areTwo_63 : decode cX8_areTwo 63 = .ok (.aload_n 0, 1) := by decide +kernel
theorem dX8_areTwo_64 : decode cX8_areTwo 64 = .ok (.getfield 252, 3) := by decide +kernel
theorem dX8_areTwo_67 : decode cX8_areTwo 67 = .ok (.ifCond .le 7, 3) := by decide +kernel
theorem dX8_areTwo_70 : decode cX8_areTwo 70 = .ok (.iconst 1, 1) := by decide +kernel
theorem dX8_areTwo_71 : decode cX8_areTwo 71 = .ok (.goto 4, 3) := by decide +kernel
theorem dX8_areTwo_74 : decode cX8_areTwo 74 = .ok (.iconst 0, 1) := by decide +kernel
theorem dX8_areTwo_75 : decode cX8_areTwo 75 = .ok (.ireturn, 1) := by decide +kernel
theorem dX8_rests_0 : decode cX8_rests 0 = .ok (.aload_n 0, 1) := by decide +kernel
theorem dX8_rests_1 : decode cX8_rests 1 = .ok (.iconst 0, 1) := by decide +kernel
theorem dX8_rests_2 : decode cX8_rests 2 = .ok (.putfield 172, 3) := by decide +kernel
theorem dX8_rests_5 : decode cX8_rests 5 = .ok (.aload_n 0, 1) := by decide +kernel
theorem dX8_rests_6 : decode cX8_rests 6 = .ok (.iload_n 1, 1) := by decide +kernel
theorem dX8_rests_7 : decode cX8_rests 7 = .ok (.iload_n 2, 1) := by decide +kernel
theorem dX8_rests_8 : decode cX8_rests 8 = .ok (.invokevirtual 533, 3) := by decide +kernel
theorem dX8_rests_11 : decode cX8_rests 11 = .ok (.ifCond .eq 13, 3) := by decide +kernel
theorem dX8_rests_14 : decode cX8_rests 14 = .ok (.aload_n 0, 1) := by decide +kernel
theorem dX8_rests_15 : decode cX8_rests 15 = .ok (.iload_n 1, 1) := by decide +kernel
theorem dX8_rests_16 : decode cX8_rests 16 = .ok (.iload_n 2, 1) := by decide +kernel
theorem dX8_rests_17 : decode cX8_rests 17 = .ok (.iconst (-1), 1) := by decide +kernel
theorem dX8_rests_18 : decode cX8_rests 18 = .ok (.invokevirtual 536, 3) := by decide +kernel
theorem dX8_rests_21 : decode cX8_rests 21 = .ok (.goto 4, 3) := by decide +kernel
theorem dX8_rests_24 : decode cX8_rests 24 = .ok (.iconst (-1), 1) := by decide +kernel
theorem dX8_rests_25 : decode cX8_rests 25 = .ok (.ireturn, 1) := by decide +kernel
theorem dX8_rest_0 : decode cX8_rest 0 = .ok (.aload_n 0, 1) := by decide +kernel
theorem dX8_rest_1 : decode cX8_rest 1 = .ok (.iconst 0, 1) := by decide +kernel
theorem dX8_rest_2 : decode cX8_rest 2 = .ok (.putfield 172, 3) := by decide +kernel
theorem dX8_rest_5 : decode cX8_rest 5 = .ok (.aload_n 0, 1) := by decide +kernel
theorem dX8_rest_6 : decode cX8_rest 6 = .ok (.iload_n 1, 1) := by decide +kernel
theorem dX8_rest_7 : decode cX8_rest 7 = .ok (.iload_n 2, 1) := by decide +kernel
theorem dX8_rest_8 : decode cX8_rest 8 = .ok (.invokevirtual 533, 3) := by decide +kernel
theorem dX8_rest_11 : decode cX8_rest 11 = .ok (.ifCond .eq 17, 3) := by decide +kernel
theorem dX8_rest_14 : decode cX8_rest 14 = .ok (.iload_n 3, 1) := by decide +kernel
theorem dX8_rest_15 : decode cX8_rest 15 = .ok (.ifCond .lt 13, 3) := by decide +kernel
theorem dX8_rest_18 : decode cX8_rest 18 = .ok (.aload_n 0, 1) := by decide +kernel
theorem dX8_rest_19 : decode cX8_rest 19 = .ok (.iload_n 1, 1) := by decide +kernel
theorem dX8_rest_20 : decode cX8_rest 20 = .ok (.iload_n 2, 1) := by decide +kernel
theorem dX8_rest_21 : decode cX8_rest 21 = .ok (.iload_n 3, 1) := by decide +kernel
theorem dX8_rest_22 : decode cX8_rest 22 = .ok (.invokevirtual 536, 3) := by decide +kernel
theorem dX8_rest_25 : decode cX8_rest 25 = .ok (.goto 4, 3) := by decide +kernel
theorem dX8_rest_28 : decode cX8_rest 28 = .ok (.iconst (-1), 1) := by decide +kernel
theorem dX8_rest_29 : decode cX8_rest 29 = .ok (.ireturn, 1) := by decide +kernel
theorem dX8_liftsBy_0 : decode cX8_liftsBy 0 = .ok (.aload_n 0, 1) := by decide +kernel
theorem dX8_liftsBy_1 : decode cX8_liftsBy 1 = .ok (.invokevirtual 511, 3) := by decide +kernel
theorem dX8_liftsBy_4 : decode cX8_liftsBy 4 = .ok (.aload_n 0, 1) := by decide +kernel
theorem dX8_liftsBy_5 : decode cX8_liftsBy 5 = .ok (.iload_n 1, 1) := by decide +kernel
theorem dX8_liftsBy_6 : decode cX8_liftsBy 6 = .ok (.putfield 385, 3) := by decide +kernel
theorem dX8_liftsBy_9 : decode cX8_liftsBy 9 = .ok (.aload_n 0, 1) := by decide +kernel
theorem dX8_liftsBy_10 : decode cX8_liftsBy 10 = .ok (.invokevirtual 523, 3) := by decide +kernel
theorem dX8_liftsBy_13 : decode cX8_liftsBy 13 = .ok (.aload_n 0, 1) := by decide +kernel
theorem dX8_liftsBy_14 : decode cX8_liftsBy 14 = .ok (.invokevirtual 526, 3) := by decide +kernel
theorem dX8_liftsBy_17 : decode cX8_liftsBy 17 = .ok (.ireturn, 1) := by decide +kernel
theorem dX8_byRule_0 : decode cX8_byRule 0 = .ok (.aload_n 0, 1) := by decide +kernel
theorem dX8_byRule_1 : decode cX8_byRule 1 = .ok (.iconst 0, 1) := by decide +kernel
theorem dX8_byRule_2 : decode cX8_byRule 2 = .ok (.putfield 172, 3) := by decide +kernel
theorem dX8_byRule_5 : decode cX8_byRule 5 = .ok (.iload_n 1, 1) := by decide +kernel
theorem dX8_byRule_6 : decode cX8_byRule 6 = .ok (.iconst 0, 1) := by decide +kernel
theorem dX8_byRule_7 : decode cX8_byRule 7 = .ok (.iconst 2, 1) := by decide +kernel
theorem dX8_byRule_8 : decode cX8_byRule 8 = .ok (.invokestatic 217, 3) := by decide +kernel
theorem dX8_byRule_11 : decode cX8_byRule 11 = .ok (.ifCond .eq 11, 3) := by decide +kernel
theorem dX8_byRule_14 : decode cX8_byRule 14 = .ok (.aload_n 0, 1) := by decide +kernel
theorem dX8_byRule_15 : decode cX8_byRule 15 = .ok (.iload_n 1, 1) := by decide +kernel
theorem dX8_byRule_16 : decode cX8_byRule 16 = .ok (.invokevirtual 539, 3) := by decide +kernel
theorem dX8_byRule_19 : decode cX8_byRule 19 = .ok (.goto 4, 3) := by decide +kernel
theorem dX8_byRule_22 : decode cX8_byRule 22 = .ok (.iconst (-1), 1) := by decide +kernel
theorem dX8_byRule_23 : decode cX8_byRule 23 = .ok (.ireturn, 1) := by decide +kernel
theorem dX8_bestRule_0 : decode cX8_bestRule 0 = .ok (.aload_n 0, 1) := by decide +kernel
theorem dX8_bestRule_1 : decode cX8_bestRule 1 = .ok (.iconst 0, 1) := by decide +kernel
theorem dX8_bestRule_2 : decode cX8_bestRule 2 = .ok (.putfield 172, 3) := by decide +kernel
theorem dX8_bestRule_5 : decode cX8_bestRule 5 = .ok (.iconst 0, 1) := by decide +kernel
theorem dX8_bestRule_6 : decode cX8_bestRule 6 = .ok (.istore_n 1, 1) := by decide +kernel
theorem dX8_bestRule_7 : decode cX8_bestRule 7 = .ok (.iconst 1, 1) := by decide +kernel
theorem dX8_bestRule_8 : decode cX8_bestRule 8 = .ok (.istore_n 2, 1) := by decide +kernel
theorem dX8_bestRule_9 : decode cX8_bestRule 9 = .ok (.iload_n 2, 1) := by decide +kernel
theorem dX8_bestRule_10 : decode cX8_bestRule 10 = .ok (.iconst 3, 1) := by decide +kernel
theorem dX8_bestRule_11 : decode cX8_bestRule 11 = .ok (.if_icmp .ge 28, 3) := by decide +kernel
theorem dX8_bestRule_14 : decode cX8_bestRule 14 = .ok (.aload_n 0, 1) := by decide +kernel
theorem dX8_bestRule_15 : decode cX8_bestRule 15 = .ok (.iload_n 2, 1) := by decide +kernel
theorem dX8_bestRule_16 : decode cX8_bestRule 16 = .ok (.invokevirtual 539, 3) := by decide +kernel
theorem dX8_bestRule_19 : decode cX8_bestRule 19 = .ok (.aload_n 0, 1) := by decide +kernel
theorem dX8_bestRule_20 : decode cX8_bestRule 20 = .ok (.iload_n 1, 1) := by decide +kernel
theorem dX8_bestRule_21 : decode cX8_bestRule 21 = .ok (.invokevirtual 539, 3) := by decide +kernel
theorem dX8_bestRule_24 : decode cX8_bestRule 24 = .ok (.if_icmp .ge 7, 3) := by decide +kernel
theorem dX8_bestRule_27 : decode cX8_bestRule 27 = .ok (.iload_n 2, 1) := by decide +kernel
theorem dX8_bestRule_28 : decode cX8_bestRule 28 = .ok (.goto 4, 3) := by decide +kernel
theorem dX8_bestRule_31 : decode cX8_bestRule 31 = .ok (.iload_n 1, 1) := by decide +kernel
theorem dX8_bestRule_32 : decode cX8_bestRule 32 = .ok (.istore_n 1, 1) := by decide +kernel
theorem dX8_bestRule_33 : decode cX8_bestRule 33 = .ok (.iinc 2 1, 3) := by decide +kernel
theorem dX8_bestRule_36 : decode cX8_bestRule 36 = .ok (.goto (-27), 3) := by decide +kernel
theorem dX8_bestRule_39 : decode cX8_bestRule 39 = .ok (.iload_n 1, 1) := by decide +kernel
theorem dX8_bestRule_40 : decode cX8_bestRule 40 = .ok (.ireturn, 1) := by decide +kernel
theorem dX8_missed_0 : decode cX8_missed 0 = .ok (.aload_n 0, 1) := by decide +kernel
theorem dX8_missed_1 : decode cX8_missed 1 = .ok (.iconst 0, 1) := by decide +kernel
theorem dX8_missed_2 : decode cX8_missed 2 = .ok (.putfield 172, 3) := by decide +kernel
theorem dX8_missed_5 : decode cX8_missed 5 = .ok (.iload_n 1, 1) := by decide +kernel
theorem dX8_missed_6 : decode cX8_missed 6 = .ok (.iconst 0, 1) := by decide +kernel
theorem dX8_missed_7 : decode cX8_missed 7 = .ok (.iconst 1, 1) := by decide +kernel
theorem dX8_missed_8 : decode cX8_missed 8 = .ok (.invokestatic 217, 3) := by decide +kernel
theorem dX8_missed_11 : decode cX8_missed 11 = .ok (.ifCond .ne 5, 3) := by decide +kernel
theorem dX8_missed_14 : decode cX8_missed 14 = .ok (.iconst (-1), 1) := by decide +kernel
theorem dX8_missed_15 : decode cX8_missed 15 = .ok (.ireturn, 1) := by decide +kernel
theorem dX8_missed_16 : decode cX8_missed 16 = .ok (.aload_n 0, 1) := by decide +kernel
theorem dX8_missed_17 : decode cX8_missed 17 = .ok (.invokevirtual 511, 3) := by decide +kernel
theorem dX8_missed_20 : decode cX8_missed 20 = .ok (.bipush (-2), 2) := by decide +kernel
theorem dX8_missed_22 : decode cX8_missed 22 = .ok (.istore_n 2, 1) := by decide +kernel
theorem dX8_missed_23 : decode cX8_missed 23 = .ok (.aload_n 0, 1) := by decide +kernel
theorem dX8_missed_24 : decode cX8_missed 24 = .ok (.getfield 121, 3) := by decide +kernel
theorem dX8_missed_27 : decode cX8_missed 27 = .ok (.iconst 1, 1) := by decide +kernel
theorem dX8_missed_28 : decode cX8_missed 28 = .ok (.iaload, 1) := by decide +kernel
theorem dX8_missed_29 : decode cX8_missed 29 = .ok (.bipush 21, 2) := by decide +kernel
theorem dX8_missed_31 : decode cX8_missed 31 = .ok (.if_icmp .ge 93, 3) := by decide +kernel
theorem dX8_missed_34 : decode cX8_missed 34 = .ok (.iload_n 2, 1) := by decide +kernel
theorem dX8_missed_35 : decode cX8_missed 35 = .ok (.ifCond .ge 89, 3) := by decide +kernel
theorem dX8_missed_38 : decode cX8_missed 38 = .ok (.aload_n 0, 1) := by decide +kernel
theorem dX8_missed_39 : decode cX8_missed 39 = .ok (.iconst 1, 1) := by decide +kernel
theorem dX8_missed_40 : decode cX8_missed 40 = .ok (.invokevirtual 479, 3) := by decide +kernel
theorem dX8_missed_43 : decode cX8_missed 43 = .ok (.aload_n 0, 1) := by decide +kernel
theorem dX8_missed_44 : decode cX8_missed 44 = .ok (.getfield 255, 3) := by decide +kernel
theorem dX8_missed_47 : decode cX8_missed 47 = .ok (.iconst 1, 1) := by decide +kernel
theorem dX8_missed_48 : decode cX8_missed 48 = .ok (.isub, 1) := by decide +kernel
theorem dX8_missed_49 : decode cX8_missed 49 = .ok (.istore_n 3, 1) := by decide +kernel
theorem dX8_missed_50 : decode cX8_missed 50 = .ok (.iload_n 3, 1) := by decide +kernel
theorem dX8_missed_51 : decode cX8_missed 51 = .ok (.ifCond .lt 39, 3) := by decide +kernel
theorem dX8_missed_54 : decode cX8_missed 54 = .ok (.aload_n 0, 1) := by decide +kernel
theorem dX8_missed_55 : decode cX8_missed 55 = .ok (.getfield 39, 3) := by decide +kernel
theorem dX8_missed_58 : decode cX8_missed 58 = .ok (.iload_n 3, 1) := by decide +kernel
theorem dX8_missed_59 : decode cX8_missed 59 = .ok (.iaload, 1) := by decide +kernel
theorem dX8_missed_60 : decode cX8_missed 60 = .ok (.aload_n 0, 1) := by decide +kernel
theorem dX8_missed_61 : decode cX8_missed 61 = .ok (.getfield 121, 3) := by decide +kernel
theorem dX8_missed_64 : decode cX8_missed 64 = .ok (.iconst 1, 1) := by decide +kernel
theorem dX8_missed_65 : decode cX8_missed 65 = .ok (.iaload, 1) := by decide +kernel
theorem dX8_missed_66 : decode cX8_missed 66 = .ok (.if_icmp .ne 18, 3) := by decide +kernel
theorem dX8_missed_69 : decode cX8_missed 69 = .ok (.aload_n 0, 1) := by decide +kernel
theorem dX8_missed_70 : decode cX8_missed 70 = .ok (.getfield 112, 3) := by decide +kernel
theorem dX8_missed_73 : decode cX8_missed 73 = .ok (.bipush 6, 2) := by decide +kernel
theorem dX8_missed_75 : decode cX8_missed 75 = .ok (.iload_n 3, 1) := by decide +kernel
theorem dX8_missed_76 : decode cX8_missed 76 = .ok (.iadd, 1) := by decide +kernel
theorem dX8_missed_77 : decode cX8_missed 77 = .ok (.iaload, 1) := by decide +kernel
theorem dX8_missed_78 : decode cX8_missed 78 = .ok (.iconst 1, 1) := by decide +kernel
theorem dX8_missed_79 : decode cX8_missed 79 = .ok (.if_icmp .ne 5, 3) := by decide +kernel
theorem dX8_missed_82 : decode cX8_missed 82 = .ok (.iload_n 3, 1) := by decide +kernel
theorem dX8_missed_83 : decode cX8_missed 83 = .ok (.istore_n 2, 1) := by decide +kernel
theorem dX8_missed_84 : decode cX8_missed 84 = .ok (.iinc 3 (-1), 3) := by decide +kernel
theorem dX8_missed_87 : decode cX8_missed 87 = .ok (.goto (-37), 3) := by decide +kernel
theorem dX8_missed_90 : decode cX8_missed 90 = .ok (.aload_n 0, 1) := by decide +kernel
theorem dX8_missed_91 : decode cX8_missed 91 = .ok (.iconst 1, 1) := by decide +kernel
theorem dX8_missed_92 : decode cX8_missed 92 = .ok (.invokevirtual 482, 3) := by decide +kernel
theorem dX8_missed_95 : decode cX8_missed 95 = .ok (.aload_n 0, 1) := by decide +kernel
theorem dX8_missed_96 : decode cX8_missed 96 = .ok (.getfield 121, 3) := by decide +kernel
theorem dX8_missed_99 : decode cX8_missed 99 = .ok (.iconst 1, 1) := by decide +kernel
theorem dX8_missed_100 : decode cX8_missed 100 = .ok (.iaload, 1) := by decide +kernel
theorem dX8_missed_101 : decode cX8_missed 101 = .ok (.bipush 20, 2) := by decide +kernel
theorem dX8_missed_103 : decode cX8_missed 103 = .ok (.if_icmp .ge 8, 3) := by decide +kernel
theorem dX8_missed_106 : decode cX8_missed 106 = .ok (.aload_n 0, 1) := by decide +kernel
theorem dX8_missed_107 : decode cX8_missed 107 = .ok (.iconst 1, 1) := by decide +kernel
theorem dX8_missed_108 : decode cX8_missed 108 = .ok (.invokevirtual 485, 3) := by decide +kernel
theorem dX8_missed_111 : decode cX8_missed 111 = .ok (.aload_n 0, 1) := by decide +kernel
theorem dX8_missed_112 : decode cX8_missed 112 = .ok (.getfield 121, 3) := by decide +kernel
theorem dX8_missed_115 : decode cX8_missed 115 = .ok (.iconst 1, 1) := by decide +kernel
theorem dX8_missed_116 : decode cX8_missed 116 = .ok (.dup2, 1) := by decide +kernel
theorem dX8_missed_117 : decode cX8_missed 117 = .ok (.iaload, 1) := by decide +kernel
theorem dX8_missed_118 : decode cX8_missed 118 = .ok (.iconst 1, 1) := by decide +kernel
theorem dX8_missed_119 : decode cX8_missed 119 = .ok (.iadd, 1) := by decide +kernel
theorem dX8_missed_120 : decode cX8_missed 120 = .ok (.iastore, 1) := by decide +kernel
theorem dX8_missed_121 : decode cX8_missed 121 = .ok (.goto (-98), 3) := by decide +kernel
theorem dX8_missed_124 : decode cX8_missed 124 = .ok (.iload_n 2, 1) := by decide +kernel
theorem dX8_missed_125 : decode cX8_missed 125 = .ok (.ifCond .lt 7, 3) := by decide +kernel
theorem dX8_missed_128 : decode cX8_missed 128 = .ok (.iload_n 1, 1) := by decide +kernel
theorem dX8_missed_129 : decode cX8_missed 129 = .ok (.ifCond .ne 5, 3) := by decide +kernel
theorem dX8_missed_132 : decode cX8_missed 132 = .ok (.iload_n 2, 1) := by decide +kernel
theorem dX8_missed_133 : decode cX8_missed 133 = .ok (.ireturn, 1) := by decide +kernel
theorem dX8_missed_134 : decode cX8_missed 134 = .ok (.aload_n 0, 1) := by decide +kernel
theorem dX8_missed_135 : decode cX8_missed 135 = .ok (.getfield 39, 3) := by decide +kernel
theorem dX8_missed_138 : decode cX8_missed 138 = .ok (.iload_n 2, 1) := by decide +kernel
theorem dX8_missed_139 : decode cX8_missed 139 = .ok (.iaload, 1) := by decide +kernel
theorem dX8_missed_140 : decode cX8_missed 140 = .ok (.istore_n 3, 1) := by decide +kernel
theorem dX8_missed_141 : decode cX8_missed 141 = .ok (.aload_n 0, 1) := by decide +kernel
theorem dX8_missed_142 : decode cX8_missed 142 = .ok (.invokevirtual 511, 3) := by decide +kernel
theorem dX8_missed_145 : decode cX8_missed 145 = .ok (.aload_n 0, 1) := by decide +kernel
theorem dX8_missed_146 : decode cX8_missed 146 = .ok (.getfield 121, 3) := by decide +kernel
theorem dX8_missed_149 : decode cX8_missed 149 = .ok (.iconst 1, 1) := by decide +kernel
theorem dX8_missed_150 : decode cX8_missed 150 = .ok (.iaload, 1) := by decide +kernel
theorem dX8_missed_151 : decode cX8_missed 151 = .ok (.iload_n 3, 1) := by decide +kernel
theorem dX8_missed_152 : decode cX8_missed 152 = .ok (.if_icmp .ge 11, 3) := by decide +kernel
theorem dX8_missed_155 : decode cX8_missed 155 = .ok (.aload_n 0, 1) := by decide +kernel
theorem dX8_missed_156 : decode cX8_missed 156 = .ok (.iconst 1, 1) := by decide +kernel
theorem dX8_missed_157 : decode cX8_missed 157 = .ok (.invokevirtual 488, 3) := by decide +kernel
theorem dX8_missed_160 : decode cX8_missed 160 = .ok (.goto (-15), 3) := by decide +kernel
theorem dX8_missed_163 : decode cX8_missed 163 = .ok (.aload_n 0, 1) := by decide +kernel
theorem dX8_missed_164 : decode cX8_missed 164 = .ok (.iconst 1, 1) := by decide +kernel
theorem dX8_missed_165 : decode cX8_missed 165 = .ok (.putfield 403, 3) := by decide +kernel
theorem dX8_missed_168 : decode cX8_missed 168 = .ok (.aload_n 0, 1) := by decide +kernel
theorem dX8_missed_169 : decode cX8_missed 169 = .ok (.iconst 1, 1) := by decide +kernel
theorem dX8_missed_170 : decode cX8_missed 170 = .ok (.invokevirtual 479, 3) := by decide +kernel
theorem dX8_missed_173 : decode cX8_missed 173 = .ok (.aload_n 0, 1) := by decide +kernel
theorem dX8_missed_174 : decode cX8_missed 174 = .ok (.iconst 0, 1) := by decide +kernel
theorem dX8_missed_175 : decode cX8_missed 175 = .ok (.putfield 403, 3) := by decide +kernel
theorem dX8_missed_178 : decode cX8_missed 178 = .ok (.aload_n 0, 1) := by decide +kernel
theorem dX8_missed_179 : decode cX8_missed 179 = .ok (.getfield 438, 3) := by decide +kernel
theorem dX8_missed_182 : decode cX8_missed 182 = .ok (.aload_n 0, 1) := by decide +kernel
theorem dX8_missed_183 : decode cX8_missed 183 = .ok (.getfield 57, 3) := by decide +kernel
theorem dX8_missed_186 : decode cX8_missed 186 = .ok (.iload_n 3, 1) := by decide +kernel
theorem dX8_missed_187 : decode cX8_missed 187 = .ok (.iaload, 1) := by decide +kernel
theorem dX8_missed_188 : decode cX8_missed 188 = .ok (.isub, 1) := by decide +kernel
theorem dX8_missed_189 : decode cX8_missed 189 = .ok (.ireturn, 1) := by decide +kernel
theorem dX8_falls_0 : decode cX8_falls 0 = .ok (.aload_n 0, 1) := by decide +kernel
theorem dX8_falls_1 : decode cX8_falls 1 = .ok (.iconst 0, 1) := by decide +kernel
theorem dX8_falls_2 : decode cX8_falls 2 = .ok (.putfield 172, 3) := by decide +kernel
theorem dX8_falls_5 : decode cX8_falls 5 = .ok (.aload_n 0, 1) := by decide +kernel
theorem dX8_falls_6 : decode cX8_falls 6 = .ok (.getfield 121, 3) := by decide +kernel
theorem dX8_falls_9 : decode cX8_falls 9 = .ok (.iconst 0, 1) := by decide +kernel
theorem dX8_falls_10 : decode cX8_falls 10 = .ok (.iaload, 1) := by decide +kernel
theorem dX8_falls_11 : decode cX8_falls 11 = .ok (.bipush 21, 2) := by decide +kernel
theorem dX8_falls_13 : decode cX8_falls 13 = .ok (.if_icmp .lt 5, 3) := by decide +kernel
theorem dX8_falls_16 : decode cX8_falls 16 = .ok (.iconst 0, 1) := by decide +kernel
theorem dX8_falls_17 : decode cX8_falls 17 = .ok (.ireturn, 1) := by decide +kernel
theorem dX8_falls_18 : decode cX8_falls 18 = .ok (.aload_n 0, 1) := by decide +kernel
theorem dX8_falls_19 : decode cX8_falls 19 = .ok (.invokevirtual 511, 3) := by decide +kernel
theorem dX8_falls_22 : decode cX8_falls 22 = .ok (.aload_n 0, 1) := by decide +kernel
theorem dX8_falls_23 : decode cX8_falls 23 = .ok (.iconst 1, 1) := by decide +kernel
theorem dX8_falls_24 : decode cX8_falls 24 = .ok (.invokevirtual 488, 3) := by decide +kernel
theorem dX8_falls_27 : decode cX8_falls 27 = .ok (.iconst 0, 1) := by decide +kernel
theorem dX8_falls_28 : decode cX8_falls 28 = .ok (.istore_n 1, 1) := by decide +kernel
theorem dX8_falls_29 : decode cX8_falls 29 = .ok (.iconst 0, 1) := by decide +kernel
theorem dX8_falls_30 : decode cX8_falls 30 = .ok (.istore_n 2, 1) := by decide +kernel
theorem dX8_falls_31 : decode cX8_falls 31 = .ok (.iload_n 2, 1) := by decide +kernel
theorem dX8_falls_32 : decode cX8_falls 32 = .ok (.aload_n 0, 1) := by decide +kernel
theorem dX8_falls_33 : decode cX8_falls 33 = .ok (.getfield 258, 3) := by decide +kernel
theorem dX8_falls_36 : decode cX8_falls 36 = .ok (.if_icmp .ge 42, 3) := by decide +kernel
theorem dX8_falls_39 : decode cX8_falls 39 = .ok (.iload_n 1, 1) := by decide +kernel
theorem dX8_falls_40 : decode cX8_falls 40 = .ok (.aload_n 0, 1) := by decide +kernel
theorem dX8_falls_41 : decode cX8_falls 41 = .ok (.getfield 94, 3) := by decide +kernel
theorem dX8_falls_44 : decode cX8_falls 44 = .ok (.bipush 10, 2) := by decide +kernel
theorem dX8_falls_46 : decode cX8_falls 46 = .ok (.iload_n 2, 1) := by decide +kernel
theorem dX8_falls_47 : decode cX8_falls 47 = .ok (.iadd, 1) := by decide +kernel
theorem dX8_falls_48 : decode cX8_falls 48 = .ok (.iaload, 1) := by decide +kernel
theorem dX8_falls_49 : decode cX8_falls 49 = .ok (.iconst 3, 1) := by decide +kernel
theorem dX8_falls_50 : decode cX8_falls 50 = .ok (.if_icmp .ne 19, 3) := by decide +kernel
theorem dX8_falls_53 : decode cX8_falls 53 = .ok (.aload_n 0, 1) := by decide +kernel
theorem dX8_falls_54 : decode cX8_falls 54 = .ok (.getfield 94, 3) := by decide +kernel
theorem dX8_falls_57 : decode cX8_falls 57 = .ok (.iload_n 2, 1) := by decide +kernel
theorem dX8_falls_58 : decode cX8_falls 58 = .ok (.iaload, 1) := by decide +kernel
theorem dX8_falls_59 : decode cX8_falls 59 = .ok (.iconst 3, 1) := by decide +kernel
theorem dX8_falls_60 : decode cX8_falls 60 = .ok (.if_icmp .eq 9, 3) := by decide +kernel
theorem dX8_falls_63 : decode cX8_falls 63 = .ok (.iconst 1, 1) := by decide +kernel
theorem dX8_falls_64 : decode cX8_falls 64 = .ok (.iload_n 2, 1) := by decide +kernel
theorem dX8_falls_65 : decode cX8_falls 65 = .ok (.ishl, 1) := by decide +kernel
theorem dX8_falls_66 : decode cX8_falls 66 = .ok (.goto 4, 3) := by decide +kernel
theorem dX8_falls_69 : decode cX8_falls 69 = .ok (.iconst 0, 1) := by decide +kernel
theorem dX8_falls_70 : decode cX8_falls 70 = .ok (.ior, 1) := by decide +kernel
theorem dX8_falls_71 : decode cX8_falls 71 = .ok (.istore_n 1, 1) := by decide +kernel
theorem dX8_falls_72 : decode cX8_falls 72 = .ok (.iinc 2 1, 3) := by decide +kernel
theorem dX8_falls_75 : decode cX8_falls 75 = .ok (.goto (-44), 3) := by decide +kernel
theorem dX8_falls_78 : decode cX8_falls 78 = .ok (.iload_n 1, 1) := by decide +kernel
theorem dX8_falls_79 : decode cX8_falls 79 = .ok (.ireturn, 1) := by decide +kernel
theorem dX8_asking_0 : decode cX8_asking 0 = .ok (.aload_n 0, 1) := by decide +kernel
theorem dX8_asking_1 : decode cX8_asking 1 = .ok (.iconst 0, 1) := by decide +kernel
theorem dX8_asking_2 : decode cX8_asking 2 = .ok (.putfield 172, 3) := by decide +kernel
theorem dX8_asking_5 : decode cX8_asking 5 = .ok (.aload_n 0, 1) := by decide +kernel
theorem dX8_asking_6 : decode cX8_asking 6 = .ok (.aload_n 0, 1) := by decide +kernel
theorem dX8_asking_7 : decode cX8_asking 7 = .ok (.getfield 24, 3) := by decide +kernel
theorem dX8_asking_10 : decode cX8_asking 10 = .ok (.iconst 0, 1) := by decide +kernel
theorem dX8_asking_11 : decode cX8_asking 11 = .ok (.iaload, 1) := by decide +kernel
theorem dX8_asking_12 : decode cX8_asking 12 = .ok (.invokevirtual 539, 3) := by decide +kernel
theorem dX8_asking_15 : decode cX8_asking 15 = .ok (.istore_n 1, 1) := by decide +kernel
theorem dX8_asking_16 : decode cX8_asking 16 = .ok (.aload_n 0, 1) := by decide +kernel
theorem dX8_asking_17 : decode cX8_asking 17 = .ok (.invokevirtual 511, 3) := by decide +kernel
theorem dX8_asking_20 : decode cX8_asking 20 = .ok (.aload_n 0, 1) := by decide +kernel
theorem dX8_asking_21 : decode cX8_asking 21 = .ok (.getfield 121, 3) := by decide +kernel
theorem dX8_asking_24 : decode cX8_asking 24 = .ok (.iconst 1, 1) := by decide +kernel
theorem dX8_asking_25 : decode cX8_asking 25 = .ok (.iaload, 1) := by decide +kernel
theorem dX8_asking_26 : decode cX8_asking 26 = .ok (.bipush 21, 2) := by decide +kernel
theorem dX8_asking_28 : decode cX8_asking 28 = .ok (.if_icmp .ge 48, 3) := by decide +kernel
theorem dX8_asking_31 : decode cX8_asking 31 = .ok (.iconst 0, 1) := by decide +kernel
theorem dX8_asking_32 : decode cX8_asking 32 = .ok (.istore_n 2, 1) := by decide +kernel
theorem dX8_asking_33 : decode cX8_asking 33 = .ok (.iload_n 2, 1) := by decide +kernel
theorem dX8_asking_34 : decode cX8_asking 34 = .ok (.aload_n 0, 1) := by decide +kernel
theorem dX8_asking_35 : decode cX8_asking 35 = .ok (.getfield 252, 3) := by decide +kernel
theorem dX8_asking_38 : decode cX8_asking 38 = .ok (.if_icmp .ge 30, 3) := by decide +kernel
theorem dX8_asking_41 : decode cX8_asking 41 = .ok (.aload_n 0, 1) := by decide +kernel
theorem dX8_asking_42 : decode cX8_asking 42 = .ok (.getfield 27, 3) := by decide +kernel
theorem dX8_asking_45 : decode cX8_asking 45 = .ok (.iload_n 2, 1) := by decide +kernel
theorem dX8_asking_46 : decode cX8_asking 46 = .ok (.iaload, 1) := by decide +kernel
theorem dX8_asking_47 : decode cX8_asking 47 = .ok (.iconst 2, 1) := by decide +kernel
theorem dX8_asking_48 : decode cX8_asking 48 = .ok (.if_icmp .ge 12, 3) := by decide +kernel
theorem dX8_asking_51 : decode cX8_asking 51 = .ok (.aload_n 0, 1) := by decide +kernel
theorem dX8_asking_52 : decode cX8_asking 52 = .ok (.iconst 1, 1) := by decide +kernel
theorem dX8_asking_53 : decode cX8_asking 53 = .ok (.iload_n 2, 1) := by decide +kernel
theorem dX8_asking_54 : decode cX8_asking 54 = .ok (.invokevirtual 514, 3) := by decide +kernel
theorem dX8_asking_57 : decode cX8_asking 57 = .ok (.goto 4, 3) := by decide +kernel
theorem dX8_asking_60 : decode cX8_asking 60 = .ok (.iconst 0, 1) := by decide +kernel
theorem dX8_asking_61 : decode cX8_asking 61 = .ok (.istore_n 3, 1) := by decide +kernel
theorem dX8_asking_62 : decode cX8_asking 62 = .ok (.iinc 2 1, 3) := by decide +kernel
theorem dX8_asking_65 : decode cX8_asking 65 = .ok (.goto (-32), 3) := by decide +kernel
theorem dX8_asking_68 : decode cX8_asking 68 = .ok (.aload_n 0, 1) := by decide +kernel
theorem dX8_asking_69 : decode cX8_asking 69 = .ok (.iconst 1, 1) := by decide +kernel
theorem dX8_asking_70 : decode cX8_asking 70 = .ok (.invokevirtual 488, 3) := by decide +kernel
theorem dX8_asking_73 : decode cX8_asking 73 = .ok (.goto (-53), 3) := by decide +kernel
theorem dX8_asking_76 : decode cX8_asking 76 = .ok (.iload_n 1, 1) := by decide +kernel
theorem dX8_asking_77 : decode cX8_asking 77 = .ok (.aload_n 0, 1) := by decide +kernel
theorem dX8_asking_78 : decode cX8_asking 78 = .ok (.invokevirtual 526, 3) := by decide +kernel
theorem dX8_asking_81 : decode cX8_asking 81 = .ok (.if_icmp .le 12, 3) := by decide +kernel
theorem dX8_asking_84 : decode cX8_asking 84 = .ok (.iload_n 1, 1) := by decide +kernel
theorem dX8_asking_85 : decode cX8_asking 85 = .ok (.aload_n 0, 1) := by decide +kernel
theorem dX8_asking_86 : decode cX8_asking 86 = .ok (.invokevirtual 526, 3) := by decide +kernel
theorem dX8_asking_89 : decode cX8_asking 89 = .ok (.isub, 1) := by decide +kernel
theorem dX8_asking_90 : decode cX8_asking 90 = .ok (.goto 4, 3) := by decide +kernel
theorem dX8_asking_93 : decode cX8_asking 93 = .ok (.iconst 0, 1) := by decide +kernel
theorem dX8_asking_94 : decode cX8_asking 94 = .ok (.ireturn, 1) := by decide +kernel
theorem dX8_feet_0 : decode cX8_feet 0 = .ok (.aload_n 0, 1) := by decide +kernel
theorem dX8_feet_1 : decode cX8_feet 1 = .ok (.iconst 0, 1) := by decide +kernel
theorem dX8_feet_2 : decode cX8_feet 2 = .ok (.putfield 172, 3) := by decide +kernel
theorem dX8_feet_5 : decode cX8_feet 5 = .ok (.aload_n 0, 1) := by decide +kernel
theorem dX8_feet_6 : decode cX8_feet 6 = .ok (.invokevirtual 511, 3) := by decide +kernel
theorem dX8_feet_9 : decode cX8_feet 9 = .ok (.aload_n 0, 1) := by decide +kernel
theorem dX8_feet_10 : decode cX8_feet 10 = .ok (.invokevirtual 523, 3) := by decide +kernel
theorem dX8_feet_13 : decode cX8_feet 13 = .ok (.aload_n 0, 1) := by decide +kernel
theorem dX8_feet_14 : decode cX8_feet 14 = .ok (.getfield 124, 3) := by decide +kernel
theorem dX8_feet_17 : decode cX8_feet 17 = .ok (.iconst 1, 1) := by decide +kernel
theorem dX8_feet_18 : decode cX8_feet 18 = .ok (.iaload, 1) := by decide +kernel
theorem dX8_feet_19 : decode cX8_feet 19 = .ok (.ireturn, 1) := by decide +kernel
theorem dX8_see_0 : decode cX8_see 0 = .ok (.aload_n 0, 1) := by decide +kernel
theorem dX8_see_1 : decode cX8_see 1 = .ok (.iconst 0, 1) := by decide +kernel
theorem dX8_see_2 : decode cX8_see 2 = .ok (.putfield 172, 3) := by decide +kernel
theorem dX8_see_5 : decode cX8_see 5 = .ok (.aload_n 0, 1) := by decide +kernel
theorem dX8_see_6 : decode cX8_see 6 = .ok (.getfield 376, 3) := by decide +kernel
theorem dX8_see_9 : decode cX8_see 9 = .ok (.bipush 24, 2) := by decide +kernel
theorem dX8_see_11 : decode cX8_see 11 = .ok (.if_icmp .eq 29, 3) := by decide +kernel
theorem dX8_see_14 : decode cX8_see 14 = .ok (.iload_n 1, 1) := by decide +kernel
theorem dX8_see_15 : decode cX8_see 15 = .ok (.iconst 0, 1) := by decide +kernel
theorem dX8_see_16 : decode cX8_see 16 = .ok (.bipush 19, 2) := by decide +kernel
theorem dX8_see_18 : decode cX8_see 18 = .ok (.invokestatic 217, 3) := by decide +kernel
theorem dX8_see_21 : decode cX8_see 21 = .ok (.ifCond .eq 19, 3) := by decide +kernel
theorem dX8_see_24 : decode cX8_see 24 = .ok (.aload_n 0, 1) := by decide +kernel
theorem dX8_see_25 : decode cX8_see 25 = .ok (.iload_n 2, 1) := by decide +kernel
theorem dX8_see_26 : decode cX8_see 26 = .ok (.invokevirtual 497, 3) := by decide +kernel
theorem dX8_see_29 : decode cX8_see 29 = .ok (.ifCond .eq 11, 3) := by decide +kernel
theorem dX8_see_32 : decode cX8_see 32 = .ok (.aload_n 0, 1) := by decide +kernel
theorem dX8_see_33 : decode cX8_see 33 = .ok (.iload_n 3, 1) := by decide +kernel
theorem dX8_see_34 : decode cX8_see 34 = .ok (.invokevirtual 500, 3) := by decide +kernel
theorem dX8_see_37 : decode cX8_see 37 = .ok (.ifCond .ne 7, 3) := by decide +kernel
theorem dX8_see_40 : decode cX8_see 40 = .ok (.iconst (-1), 1) := by decide +kernel
theorem dX8_see_41 : decode cX8_see 41 = .ok (.goto 20, 3) := by decide +kernel
theorem dX8_see_44 : decode cX8_see 44 = .ok (.aload_n 0, 1) := by decide +kernel
theorem dX8_see_45 : decode cX8_see 45 = .ok (.iload_n 1, 1) := by decide +kernel
theorem dX8_see_46 : decode cX8_see 46 = .ok (.iload_n 2, 1) := by decide +kernel
theorem dX8_see_47 : decode cX8_see 47 = .ok (.iload_n 3, 1) := by decide +kernel
theorem dX8_see_48 : decode cX8_see 48 = .ok (.iload 4, 2) := by decide +kernel
theorem dX8_see_50 : decode cX8_see 50 = .ok (.ifCond .eq 7, 3) := by decide +kernel
theorem dX8_see_53 : decode cX8_see 53 = .ok (.iconst 1, 1) := by decide +kernel
theorem dX8_see_54 : decode cX8_see 54 = .ok (.goto 4, 3) := by decide +kernel
theorem dX8_see_57 : decode cX8_see 57 = .ok (.iconst 0, 1) := by decide +kernel
theorem dX8_see_58 : decode cX8_see 58 = .ok (.invokevirtual 542, 3) := by decide +kernel
theorem dX8_see_61 : decode cX8_see 61 = .ok (.ireturn, 1) := by decide +kernel
theorem dX8_strike_0 : decode cX8_strike 0 = .ok (.aload_n 0, 1) := by decide +kernel
theorem dX8_strike_1 : decode cX8_strike 1 = .ok (.iconst 0, 1) := by decide +kernel
theorem dX8_strike_2 : decode cX8_strike 2 = .ok (.putfield 172, 3) := by decide +kernel
theorem dX8_strike_5 : decode cX8_strike 5 = .ok (.aload_n 0, 1) := by decide +kernel
theorem dX8_strike_6 : decode cX8_strike 6 = .ok (.getfield 376, 3) := by decide +kernel
theorem dX8_strike_9 : decode cX8_strike 9 = .ok (.bipush 24, 2) := by decide +kernel
theorem dX8_strike_11 : decode cX8_strike 11 = .ok (.if_icmp .eq 15, 3) := by decide +kernel
theorem dX8_strike_14 : decode cX8_strike 14 = .ok (.iload_n 1, 1) := by decide +kernel
theorem dX8_strike_15 : decode cX8_strike 15 = .ok (.ifCond .lt 11, 3) := by decide +kernel
theorem dX8_strike_18 : decode cX8_strike 18 = .ok (.iload_n 1, 1) := by decide +kernel
theorem dX8_strike_19 : decode cX8_strike 19 = .ok (.aload_n 0, 1) := by decide +kernel
theorem dX8_strike_20 : decode cX8_strike 20 = .ok (.getfield 376, 3) := by decide +kernel
theorem dX8_strike_23 : decode cX8_strike 23 = .ok (.if_icmp .lt 7, 3) := by decide +kernel
theorem dX8_strike_26 : decode cX8_strike 26 = .ok (.iconst (-1), 1) := by decide +kernel
theorem dX8_strike_27 : decode cX8_strike 27 = .ok (.goto 11, 3) := by decide +kernel
theorem dX8_strike_30 : decode cX8_strike 30 = .ok (.aload_n 0, 1) := by decide +kernel
theorem dX8_strike_31 : decode cX8_strike 31 = .ok (.iconst (-1), 1) := by decide +kernel
theorem dX8_strike_32 : decode cX8_strike 32 = .ok (.iload_n 1, 1) := by decide +kernel
theorem dX8_strike_33 : decode cX8_strike 33 = .ok (.iconst 0, 1) := by decide +kernel
theorem dX8_strike_34 : decode cX8_strike 34 = .ok (.iconst 0, 1) := by decide +kernel
theorem dX8_strike_35 : decode cX8_strike 35 = .ok (.invokevirtual 542, 3) := by decide +kernel
theorem dX8_strike_38 : decode cX8_strike 38 = .ok (.ireturn, 1) := by decide +kernel
theorem dX8_known_0 : decode cX8_known 0 = .ok (.aload_n 0, 1) := by decide +kernel
theorem dX8_known_1 : decode cX8_known 1 = .ok (.iconst 0, 1) := by decide +kernel
theorem dX8_known_2 : decode cX8_known 2 = .ok (.putfield 172, 3) := by decide +kernel
theorem dX8_known_5 : decode cX8_known 5 = .ok (.iload_n 1, 1) := by decide +kernel
theorem dX8_known_6 : decode cX8_known 6 = .ok (.iconst (-1), 1) := by decide +kernel
theorem dX8_known_7 : decode cX8_known 7 = .ok (.aload_n 0, 1) := by decide +kernel
theorem dX8_known_8 : decode cX8_known 8 = .ok (.getfield 376, 3) := by decide +kernel
theorem dX8_known_11 : decode cX8_known 11 = .ok (.invokestatic 217, 3) := by decide +kernel
theorem dX8_known_14 : decode cX8_known 14 = .ok (.ifCond .ne 5, 3) := by decide +kernel
theorem dX8_known_17 : decode cX8_known 17 = .ok (.iconst 0, 1) := by decide +kernel
theorem dX8_known_18 : decode cX8_known 18 = .ok (.ireturn, 1) := by decide +kernel
theorem dX8_known_19 : decode cX8_known 19 = .ok (.aload_n 0, 1) := by decide +kernel
theorem dX8_known_20 : decode cX8_known 20 = .ok (.iload_n 1, 1) := by decide +kernel
theorem dX8_known_21 : decode cX8_known 21 = .ok (.putfield 145, 3) := by decide +kernel
theorem dX8_known_24 : decode cX8_known 24 = .ok (.iconst 1, 1) := by decide +kernel
theorem dX8_known_25 : decode cX8_known 25 = .ok (.ireturn, 1) := by decide +kernel
theorem dX8_knownBy_0 : decode cX8_knownBy 0 = .ok (.aload_n 0, 1) := by decide +kernel
theorem dX8_knownBy_1 : decode cX8_knownBy 1 = .ok (.getfield 145, 3) := by decide +kernel
theorem dX8_knownBy_4 : decode cX8_knownBy 4 = .ok (.ifCond .ge 10, 3) := by decide +kernel
theorem dX8_knownBy_7 : decode cX8_knownBy 7 = .ok (.aload_n 0, 1) := by decide +kernel
theorem dX8_knownBy_8 : decode cX8_knownBy 8 = .ok (.getfield 376, 3) := by decide +kernel
theorem dX8_knownBy_11 : decode cX8_knownBy 11 = .ok (.goto 7, 3) := by decide +kernel
theorem dX8_knownBy_14 : decode cX8_knownBy 14 = .ok (.aload_n 0, 1) := by decide +kernel
theorem dX8_knownBy_15 : decode cX8_knownBy 15 = .ok (.getfield 145, 3) := by decide +kernel
theorem dX8_knownBy_18 : decode cX8_knownBy 18 = .ok (.ireturn, 1) := by decide +kernel
theorem dX8_got_0 : decode cX8_got 0 = .ok (.aload_n 0, 1) := by decide +kernel
theorem dX8_got_1 : decode cX8_got 1 = .ok (.iconst 0, 1) := by decide +kernel
theorem dX8_got_2 : decode cX8_got 2 = .ok (.putfield 172, 3) := by decide +kernel
theorem dX8_got_5 : decode cX8_got 5 = .ok (.aload_n 0, 1) := by decide +kernel
theorem dX8_got_6 : decode cX8_got 6 = .ok (.iload_n 1, 1) := by decide +kernel
theorem dX8_got_7 : decode cX8_got 7 = .ok (.invokevirtual 491, 3) := by decide +kernel
theorem dX8_got_10 : decode cX8_got 10 = .ok (.ifCond .ne 5, 3) := by decide +kernel
theorem dX8_got_13 : decode cX8_got 13 = .ok (.iconst (-1), 1) := by decide +kernel
theorem dX8_got_14 : decode cX8_got 14 = .ok (.ireturn, 1) := by decide +kernel
theorem dX8_got_15 : decode cX8_got 15 = .ok (.iconst 0, 1) := by decide +kernel
theorem dX8_got_16 : decode cX8_got 16 = .ok (.istore_n 2, 1) := by decide +kernel
theorem dX8_got_17 : decode cX8_got 17 = .ok (.iload_n 2, 1) := by decide +kernel
theorem dX8_got_18 : decode cX8_got 18 = .ok (.aload_n 0, 1) := by decide +kernel
theorem dX8_got_19 : decode cX8_got 19 = .ok (.invokevirtual 546, 3) := by decide +kernel
theorem dX8_got_22 : decode cX8_got 22 = .ok (.if_icmp .ge 16, 3) := by decide +kernel
theorem dX8_got_25 : decode cX8_got 25 = .ok (.aload_n 0, 1) := by decide +kernel
theorem dX8_got_26 : decode cX8_got 26 = .ok (.getfield 151, 3) := by decide +kernel
theorem dX8_got_29 : decode cX8_got 29 = .ok (.iload_n 2, 1) := by decide +kernel
theorem dX8_got_30 : decode cX8_got 30 = .ok (.iconst 1, 1) := by decide +kernel
theorem dX8_got_31 : decode cX8_got 31 = .ok (.bastore, 1) := by decide +kernel
theorem dX8_got_32 : decode cX8_got 32 = .ok (.iinc 2 1, 3) := by decide +kernel
theorem dX8_got_35 : decode cX8_got 35 = .ok (.goto (-18), 3) := by decide +kernel
theorem dX8_got_38 : decode cX8_got 38 = .ok (.aload_n 0, 1) := by decide +kernel
theorem dX8_got_39 : decode cX8_got 39 = .ok (.invokevirtual 546, 3) := by decide +kernel
theorem dX8_got_42 : decode cX8_got 42 = .ok (.iconst 1, 1) := by decide +kernel
theorem dX8_got_43 : decode cX8_got 43 = .ok (.isub, 1) := by decide +kernel
theorem dX8_got_44 : decode cX8_got 44 = .ok (.istore_n 2, 1) := by decide +kernel
theorem dX8_got_45 : decode cX8_got 45 = .ok (.iload_n 2, 1) := by decide +kernel
theorem dX8_got_46 : decode cX8_got 46 = .ok (.ifCond .lt 45, 3) := by decide +kernel
theorem dX8_got_49 : decode cX8_got 49 = .ok (.aload_n 0, 1) := by decide +kernel
theorem dX8_got_50 : decode cX8_got 50 = .ok (.getfield 151, 3) := by decide +kernel
theorem dX8_got_53 : decode cX8_got 53 = .ok (.iload_n 2, 1) := by decide +kernel
theorem dX8_got_54 : decode cX8_got 54 = .ok (.baload, 1) := by decide +kernel
theorem dX8_got_55 : decode cX8_got 55 = .ok (.ifCond .eq 30, 3) := by decide +kernel
theorem dX8_got_58 : decode cX8_got 58 = .ok (.aload_n 0, 1) := by decide +kernel
theorem dX8_got_59 : decode cX8_got 59 = .ok (.getfield 148, 3) := by decide +kernel
theorem dX8_got_62 : decode cX8_got 62 = .ok (.iconst 4, 1) := by decide +kernel
theorem dX8_got_63 : decode cX8_got 63 = .ok (.iload_n 2, 1) := by decide +kernel
theorem dX8_got_64 : decode cX8_got 64 = .ok (.imul, 1) := by decide +kernel
theorem dX8_got_65 : decode cX8_got 65 = .ok (.iaload, 1) := by decide +kernel
theorem dX8_got_66 : decode cX8_got 66 = .ok (.ifCond .ge 19, 3) := by decide +kernel
theorem dX8_got_69 : decode cX8_got 69 = .ok (.aload_n 0, 1) := by decide +kernel
theorem dX8_got_70 : decode cX8_got 70 = .ok (.getfield 151, 3) := by decide +kernel
theorem dX8_got_73 : decode cX8_got 73 = .ok (.aload_n 0, 1) := by decide +kernel
theorem dX8_got_74 : decode cX8_got 74 = .ok (.getfield 148, 3) := by decide +kernel
theorem dX8_got_77 : decode cX8_got 77 = .ok (.iconst 4, 1) := by decide +kernel
theorem dX8_got_78 : decode cX8_got 78 = .ok (.iload_n 2, 1) := by decide +kernel
theorem dX8_got_79 : decode cX8_got 79 = .ok (.imul, 1) := by decide +kernel
theorem dX8_got_80 : decode cX8_got 80 = .ok (.iconst 1, 1) := by decide +kernel
theorem dX8_got_81 : decode cX8_got 81 = .ok (.iadd, 1) := by decide +kernel
theorem dX8_got_82 : decode cX8_got 82 = .ok (.iaload, 1) := by decide +kernel
theorem dX8_got_83 : decode cX8_got 83 = .ok (.iconst 0, 1) := by decide +kernel
theorem dX8_got_84 : decode cX8_got 84 = .ok (.bastore, 1) := by decide +kernel
theorem dX8_got_85 : decode cX8_got 85 = .ok (.iinc 2 (-1), 3) := by decide +kernel
theorem dX8_got_88 : decode cX8_got 88 = .ok (.goto (-43), 3) := by decide +kernel
theorem dX8_got_91 : decode cX8_got 91 = .ok (.iconst 0, 1) := by decide +kernel
theorem dX8_got_92 : decode cX8_got 92 = .ok (.istore_n 2, 1) := by decide +kernel
theorem dX8_got_93 : decode cX8_got 93 = .ok (.iconst 0, 1) := by decide +kernel
theorem dX8_got_94 : decode cX8_got 94 = .ok (.istore_n 3, 1) := by decide +kernel
theorem dX8_got_95 : decode cX8_got 95 = .ok (.iload_n 3, 1) := by decide +kernel
theorem dX8_got_96 : decode cX8_got 96 = .ok (.aload_n 0, 1) := by decide +kernel
theorem dX8_got_97 : decode cX8_got 97 = .ok (.getfield 39, 3) := by decide +kernel
theorem dX8_got_100 : decode cX8_got 100 = .ok (.iload_n 1, 1) := by decide +kernel
theorem dX8_got_101 : decode cX8_got 101 = .ok (.iaload, 1) := by decide +kernel
theorem dX8_got_102 : decode cX8_got 102 = .ok (.if_icmp .ge 28, 3) := by decide +kernel
theorem dX8_got_105 : decode cX8_got 105 = .ok (.iload_n 2, 1) := by decide +kernel
theorem dX8_got_106 : decode cX8_got 106 = .ok (.aload_n 0, 1) := by decide +kernel
theorem dX8_got_107 : decode cX8_got 107 = .ok (.iload_n 1, 1) := by decide +kernel
theorem dX8_got_108 : decode cX8_got 108 = .ok (.iload_n 3, 1) := by decide +kernel
theorem dX8_got_109 : decode cX8_got 109 = .ok (.invokevirtual 552, 3) := by decide +kernel
theorem dX8_got_112 : decode cX8_got 112 = .ok (.ifCond .eq 9, 3) := by decide +kernel
theorem dX8_got_115 : decode cX8_got 115 = .ok (.iconst 1, 1) := by decide +kernel
theorem dX8_got_116 : decode cX8_got 116 = .ok (.iload_n 3, 1) := by decide +kernel
theorem dX8_got_117 : decode cX8_got 117 = .ok (.ishl, 1) := by decide +kernel
theorem dX8_got_118 : decode cX8_got 118 = .ok (.goto 4, 3) := by decide +kernel
theorem dX8_got_121 : decode cX8_got 121 = .ok (.iconst 0, 1) := by decide +kernel
theorem dX8_got_122 : decode cX8_got 122 = .ok (.ior, 1) := by decide +kernel
theorem dX8_got_123 : decode cX8_got 123 = .ok (.istore_n 2, 1) := by decide +kernel
theorem dX8_got_124 : decode cX8_got 124 = .ok (.iinc 3 1, 3) := by decide +kernel
theorem dX8_got_127 : decode cX8_got 127 = .ok (.goto (-32), 3) := by decide +kernel
theorem dX8_got_130 : decode cX8_got 130 = .ok (.iload_n 2, 1) := by decide +kernel
theorem dX8_got_131 : decode cX8_got 131 = .ok (.ireturn, 1) := by decide +kernel
theorem dX8_chance_0 : decode cX8_chance 0 = .ok (.aload_n 0, 1) := by decide +kernel
theorem dX8_chance_1 : decode cX8_chance 1 = .ok (.iconst 0, 1) := by decide +kernel
theorem dX8_chance_2 : decode cX8_chance 2 = .ok (.putfield 172, 3) := by decide +kernel
theorem dX8_chance_5 : decode cX8_chance 5 = .ok (.iload_n 1, 1) := by decide +kernel
theorem dX8_chance_6 : decode cX8_chance 6 = .ok (.ifCond .lt 11, 3) := by decide +kernel
theorem dX8_chance_9 : decode cX8_chance 9 = .ok (.aload_n 0, 1) := by decide +kernel
theorem dX8_chance_10 : decode cX8_chance 10 = .ok (.iload_n 2, 1) := by decide +kernel
theorem dX8_chance_11 : decode cX8_chance 11 = .ok (.invokevirtual 497, 3) := by decide +kernel
theorem dX8_chance_14 : decode cX8_chance 14 = .ok (.ifCond .ne 5, 3) := by decide +kernel
theorem dX8_chance_17 : decode cX8_chance 17 = .ok (.iconst (-1), 1) := by decide +kernel
theorem dX8_chance_18 : decode cX8_chance 18 = .ok (.ireturn, 1) := by decide +kernel
theorem dX8_chance_19 : decode cX8_chance 19 = .ok (.aload_n 0, 1) := by decide +kernel
theorem dX8_chance_20 : decode cX8_chance 20 = .ok (.getfield 369, 3) := by decide +kernel
theorem dX8_chance_23 : decode cX8_chance 23 = .ok (.lstore_n 3, 1) := by decide +kernel
theorem dX8_chance_24 : decode cX8_chance 24 = .ok (.aload_n 0, 1) := by decide +kernel
theorem dX8_chance_25 : decode cX8_chance 25 = .ok (.iload_n 1, 1) := by decide +kernel
theorem dX8_chance_26 : decode cX8_chance 26 = .ok (.i2l, 1) := by decide +kernel
theorem dX8_chance_27 : decode cX8_chance 27 = .ok (.putfield 369, 3) := by decide +kernel
theorem dX8_chance_30 : decode cX8_chance 30 = .ok (.iconst 0, 1) := by decide +kernel
theorem dX8_chance_31 : decode cX8_chance 31 = .ok (.istore 5, 2) := by decide +kernel
theorem dX8_chance_33 : decode cX8_chance 33 = .ok (.iconst 0, 1) := by decide +kernel
theorem dX8_chance_34 : decode cX8_chance 34 = .ok (.istore 6, 2) := by decide +kernel
theorem dX8_chance_36 : decode cX8_chance 36 = .ok (.iload 6, 2) := by decide +kernel
theorem dX8_chance_38 : decode cX8_chance 38 = .ok (.bipush 10, 2) := by decide +kernel
theorem dX8_chance_40 : decode cX8_chance 40 = .ok (.if_icmp .ge 45, 3) := by decide +kernel
theorem dX8_chance_43 : decode cX8_chance 43 = .ok (.aload_n 0, 1) := by decide +kernel
theorem dX8_chance_44 : decode cX8_chance 44 = .ok (.invokevirtual 511, 3) := by decide +kernel
theorem dX8_chance_47 : decode cX8_chance 47 = .ok (.aload_n 0, 1) := by decide +kernel
theorem dX8_chance_48 : decode cX8_chance 48 = .ok (.iconst 1, 1) := by decide +kernel
theorem dX8_chance_49 : decode cX8_chance 49 = .ok (.putfield 388, 3) := by decide +kernel
theorem dX8_chance_52 : decode cX8_chance 52 = .ok (.aload_n 0, 1) := by decide +kernel
theorem dX8_chance_53 : decode cX8_chance 53 = .ok (.invokevirtual 523, 3) := by decide +kernel
theorem dX8_chance_56 : decode cX8_chance 56 = .ok (.iload 5, 2) := by decide +kernel
theorem dX8_chance_58 : decode cX8_chance 58 = .ok (.aload_n 0, 1) := by decide +kernel
theorem dX8_chance_59 : decode cX8_chance 59 = .ok (.getfield 94, 3) := by decide +kernel
theorem dX8_chance_62 : decode cX8_chance 62 = .ok (.bipush 10, 2) := by decide +kernel
theorem dX8_chance_64 : decode cX8_chance 64 = .ok (.iload_n 2, 1) := by decide +kernel
theorem dX8_chance_65 : decode cX8_chance 65 = .ok (.iadd, 1) := by decide +kernel
theorem dX8_chance_66 : decode cX8_chance 66 = .ok (.iaload, 1) := by decide +kernel
theorem dX8_chance_67 : decode cX8_chance 67 = .ok (.iconst 2, 1) := by decide +kernel
theorem dX8_chance_68 : decode cX8_chance 68 = .ok (.if_icmp .ne 7, 3) := by decide +kernel
theorem dX8_chance_71 : decode cX8_chance 71 = .ok (.iconst 1, 1) := by decide +kernel
theorem dX8_chance_72 : decode cX8_chance 72 = .ok (.goto 4, 3) := by decide +kernel
theorem dX8_chance_75 : decode cX8_chance 75 = .ok (.iconst 0, 1) := by decide +kernel
theorem dX8_chance_76 : decode cX8_chance 76 = .ok (.iadd, 1) := by decide +kernel
theorem dX8_chance_77 : decode cX8_chance 77 = .ok (.istore 5, 2) := by decide +kernel
theorem dX8_chance_79 : decode cX8_chance 79 = .ok (.iinc 6 1, 3) := by decide +kernel
theorem dX8_chance_82 : decode cX8_chance 82 = .ok (.goto (-46), 3) := by decide +kernel
theorem dX8_chance_85 : decode cX8_chance 85 = .ok (.aload_n 0, 1) := by decide +kernel
theorem dX8_chance_86 : decode cX8_chance 86 = .ok (.iconst 0, 1) := by decide +kernel
theorem dX8_chance_87 : decode cX8_chance 87 = .ok (.putfield 388, 3) := by decide +kernel
theorem dX8_chance_90 : decode cX8_chance 90 = .ok (.aload_n 0, 1) := by decide +kernel
theorem dX8_chance_91 : decode cX8_chance 91 = .ok (.lload_n 3, 1) := by decide +kernel
theorem dX8_chance_92 : decode cX8_chance 92 = .ok (.putfield 369, 3) := by decide +kernel
theorem dX8_chance_95 : decode cX8_chance 95 = .ok (.iload 5, 2) := by decide +kernel
theorem dX8_chance_97 : decode cX8_chance 97 = .ok (.ireturn, 1) := by decide +kernel
theorem dX8_tried_0 : decode cX8_tried 0 = .ok (.aload_n 0, 1) := by decide +kernel
theorem dX8_tried_1 : decode cX8_tried 1 = .ok (.iconst 0, 1) := by decide +kernel
theorem dX8_tried_2 : decode cX8_tried 2 = .ok (.putfield 172, 3) := by decide +kernel
theorem dX8_tried_5 : decode cX8_tried 5 = .ok (.iload_n 1, 1) := by decide +kernel
theorem dX8_tried_6 : decode cX8_tried 6 = .ok (.iconst 0, 1) := by decide +kernel
theorem dX8_tried_7 : decode cX8_tried 7 = .ok (.iconst 4, 1) := by decide +kernel
theorem dX8_tried_8 : decode cX8_tried 8 = .ok (.invokestatic 217, 3) := by decide +kernel
theorem dX8_tried_11 : decode cX8_tried 11 = .ok (.ifCond .eq 23, 3) := by decide +kernel
theorem dX8_tried_14 : decode cX8_tried 14 = .ok (.iload_n 1, 1) := by decide +kernel
theorem dX8_tried_15 : decode cX8_tried 15 = .ok (.iconst 2, 1) := by decide +kernel
theorem dX8_tried_16 : decode cX8_tried 16 = .ok (.if_icmp .ne 14, 3) := by decide +kernel
theorem dX8_tried_19 : decode cX8_tried 19 = .ok (.aload_n 0, 1) := by decide +kernel
theorem dX8_tried_20 : decode cX8_tried 20 = .ok (.iload_n 2, 1) := by decide +kernel
theorem dX8_tried_21 : decode cX8_tried 21 = .ok (.invokevirtual 491, 3) := by decide +kernel
theorem dX8_tried_24 : decode cX8_tried 24 = .ok (.ifCond .ne 12, 3) := by decide +kernel
theorem dX8_tried_27 : decode cX8_tried 27 = .ok (.goto 7, 3) := by decide +kernel
theorem dX8_tried_30 : decode cX8_tried 30 = .ok (.iload_n 2, 1) := by decide +kernel
theorem dX8_tried_31 : decode cX8_tried 31 = .ok (.ifCond .eq 5, 3) := by decide +kernel
theorem dX8_tried_34 : decode cX8_tried 34 = .ok (.iconst (-1), 1) := by decide +kernel
theorem dX8_tried_35 : decode cX8_tried 35 = .ok (.ireturn, 1) := by decide +kernel
theorem dX8_tried_36 : decode cX8_tried 36 = .ok (.aload_n 0, 1) := by decide +kernel
theorem dX8_tried_37 : decode cX8_tried 37 = .ok (.invokevirtual 511, 3) := by decide +kernel
theorem dX8_tried_40 : decode cX8_tried 40 = .ok (.aload_n 0, 1) := by decide +kernel
theorem dX8_tried_41 : decode cX8_tried 41 = .ok (.iload_n 1, 1) := by decide +kernel
theorem dX8_tried_42 : decode cX8_tried 42 = .ok (.ifCond .ne 7, 3) := by decide +kernel
theorem dX8_tried_45 : decode cX8_tried 45 = .ok (.iconst 1, 1) := by decide +kernel
theorem dX8_tried_46 : decode cX8_tried 46 = .ok (.goto 4, 3) := by decide +kernel
theorem dX8_tried_49 : decode cX8_tried 49 = .ok (.iconst 0, 1) := by decide +kernel
theorem dX8_tried_50 : decode cX8_tried 50 = .ok (.putfield 391, 3) := by decide +kernel
theorem dX8_tried_53 : decode cX8_tried 53 = .ok (.aload_n 0, 1) := by decide +kernel
theorem dX8_tried_54 : decode cX8_tried 54 = .ok (.iload_n 1, 1) := by decide +kernel
theorem dX8_tried_55 : decode cX8_tried 55 = .ok (.iconst 1, 1) := by decide +kernel
theorem dX8_tried_56 : decode cX8_tried 56 = .ok (.if_icmp .ne 7, 3) := by decide +kernel
theorem dX8_tried_59 : decode cX8_tried 59 = .ok (.iconst 1, 1) := by decide +kernel
theorem dX8_tried_60 : decode cX8_tried 60 = .ok (.goto 4, 3) := by decide +kernel
theorem dX8_tried_63 : decode cX8_tried 63 = .ok (.iconst 0, 1) := by decide +kernel
theorem dX8_tried_64 : decode cX8_tried 64 = .ok (.putfield 394, 3) := by decide +kernel
theorem dX8_tried_67 : decode cX8_tried 67 = .ok (.aload_n 0, 1) := by decide +kernel
theorem dX8_tried_68 : decode cX8_tried 68 = .ok (.iload_n 1, 1) := by decide +kernel
theorem dX8_tried_69 : decode cX8_tried 69 = .ok (.iconst 3, 1) := by decide +kernel
theorem dX8_tried_70 : decode cX8_tried 70 = .ok (.if_icmp .ne 7, 3) := by decide +kernel
theorem dX8_tried_73 : decode cX8_tried 73 = .ok (.iconst 1, 1) := by decide +kernel
theorem dX8_tried_74 : decode cX8_tried 74 = .ok (.goto 4, 3) := by decide +kernel
theorem dX8_tried_77 : decode cX8_tried 77 = .ok (.iconst 0, 1) := by decide +kernel
theorem dX8_tried_78 : decode cX8_tried 78 = .ok (.putfield 400, 3) := by decide +kernel
theorem dX8_tried_81 : decode cX8_tried 81 = .ok (.aload_n 0, 1) := by decide +kernel
theorem dX8_tried_82 : decode cX8_tried 82 = .ok (.iload_n 1, 1) := by decide +kernel
theorem dX8_tried_83 : decode cX8_tried 83 = .ok (.iconst 4, 1) := by decide +kernel
theorem dX8_tried_84 : decode cX8_tried 84 = .ok (.if_icmp .ne 7, 3) := by decide +kernel
theorem dX8_tried_87 : decode cX8_tried 87 = .ok (.iconst 1, 1) := by decide +kernel
theorem dX8_tried_88 : decode cX8_tried 88 = .ok (.goto 4, 3) := by decide +kernel
theorem dX8_tried_91 : decode cX8_tried 91 = .ok (.iconst 0, 1) := by decide +kernel
theorem dX8_tried_92 : decode cX8_tried 92 = .ok (.putfield 397, 3) := by decide +kernel
theorem dX8_tried_95 : decode cX8_tried 95 = .ok (.iload_n 1, 1) := by decide +kernel
theorem dX8_tried_96 : decode cX8_tried 96 = .ok (.iconst 2, 1) := by decide +kernel
theorem dX8_tried_97 : decode cX8_tried 97 = .ok (.if_icmp .ne 59, 3) := by decide +kernel
theorem dX8_tried_100 : decode cX8_tried 100 = .ok (.iconst 0, 1) := by decide +kernel
theorem dX8_tried_101 : decode cX8_tried 101 = .ok (.istore_n 3, 1) := by decide +kernel
theorem dX8_tried_102 : decode cX8_tried 102 = .ok (.iload_n 3, 1) := by decide +kernel
theorem dX8_tried_103 : decode cX8_tried 103 = .ok (.aload_n 0, 1) := by decide +kernel
theorem dX8_tried_104 : decode cX8_tried 104 = .ok (.getfield 258, 3) := by decide +kernel
theorem dX8_tried_107 : decode cX8_tried 107 = .ok (.if_icmp .ge 39, 3) := by decide +kernel
theorem dX8_tried_110 : decode cX8_tried 110 = .ok (.aload_n 0, 1) := by decide +kernel
theorem dX8_tried_111 : decode cX8_tried 111 = .ok (.getfield 45, 3) := by decide +kernel
theorem dX8_tried_114 : decode cX8_tried 114 = .ok (.iload_n 3, 1) := by decide +kernel
theorem dX8_tried_115 : decode cX8_tried 115 = .ok (.iaload, 1) := by decide +kernel
theorem dX8_tried_116 : decode cX8_tried 116 = .ok (.iload_n 2, 1) := by decide +kernel
theorem dX8_tried_117 : decode cX8_tried 117 = .ok (.if_icmp .ne 23, 3) := by decide +kernel
theorem dX8_tried_120 : decode cX8_tried 120 = .ok (.aload_n 0, 1) := by decide +kernel
theorem dX8_tried_121 : decode cX8_tried 121 = .ok (.getfield 94, 3) := by decide +kernel
theorem dX8_tried_124 : decode cX8_tried 124 = .ok (.bipush 10, 2) := by decide +kernel
theorem dX8_tried_126 : decode cX8_tried 126 = .ok (.iload_n 3, 1) := by decide +kernel
theorem dX8_tried_127 : decode cX8_tried 127 = .ok (.iadd, 1) := by decide +kernel
theorem dX8_tried_128 : decode cX8_tried 128 = .ok (.iaload, 1) := by decide +kernel
theorem dX8_tried_129 : decode cX8_tried 129 = .ok (.iconst 1, 1) := by decide +kernel
theorem dX8_tried_130 : decode cX8_tried 130 = .ok (.if_icmp .ne 10, 3) := by decide +kernel
theorem dX8_tried_133 : decode cX8_tried 133 = .ok (.aload_n 0, 1) := by decide +kernel
theorem dX8_tried_134 : decode cX8_tried 134 = .ok (.iconst 1, 1) := by decide +kernel
theorem dX8_tried_135 : decode cX8_tried 135 = .ok (.iload_n 3, 1) := by decide +kernel
theorem dX8_tried_136 : decode cX8_tried 136 = .ok (.iconst 2, 1) := by decide +kernel
theorem dX8_tried_137 : decode cX8_tried 137 = .ok (.invokevirtual 447, 3) := by decide +kernel
theorem dX8_tried_140 : decode cX8_tried 140 = .ok (.iinc 3 1, 3) := by decide +kernel
theorem dX8_tried_143 : decode cX8_tried 143 = .ok (.goto (-41), 3) := by decide +kernel
theorem dX8_tried_146 : decode cX8_tried 146 = .ok (.aload_n 0, 1) := by decide +kernel
theorem dX8_tried_147 : decode cX8_tried 147 = .ok (.getfield 112, 3) := by decide +kernel
theorem dX8_tried_150 : decode cX8_tried 150 = .ok (.bipush 6, 2) := by decide +kernel
theorem dX8_tried_152 : decode cX8_tried 152 = .ok (.iload_n 2, 1) := by decide +kernel
theorem dX8_tried_153 : decode cX8_tried 153 = .ok (.iadd, 1) := by decide +kernel
theorem dX8_tried_154 : decode cX8_tried 154 = .ok (.iconst 2, 1) := by decide +kernel
theorem dX8_tried_155 : decode cX8_tried 155 = .ok (.iastore, 1) := by decide +kernel
theorem dX8_tried_156 : decode cX8_tried 156 = .ok (.aload_n 0, 1) := by decide +kernel
theorem dX8_tried_157 : decode cX8_tried 157 = .ok (.invokevirtual 523, 3) := by decide +kernel
theorem dX8_tried_160 : decode cX8_tried 160 = .ok (.aload_n 0, 1) := by decide +kernel
theorem dX8_tried_161 : decode cX8_tried 161 = .ok (.invokevirtual 373, 3) := by decide +kernel
theorem dX8_tried_164 : decode cX8_tried 164 = .ok (.aload_n 0, 1) := by decide +kernel
theorem dX8_tried_165 : decode cX8_tried 165 = .ok (.invokevirtual 526, 3) := by decide +kernel
theorem dX8_tried_168 : decode cX8_tried 168 = .ok (.ireturn, 1) := by decide +kernel
theorem dX8_put_0 : decode cX8_put 0 = .ok (.iconst 0, 1) := by decide +kernel
theorem dX8_put_1 : decode cX8_put 1 = .ok (.istore_n 3, 1) := by decide +kernel
theorem dX8_put_2 : decode cX8_put 2 = .ok (.iload_n 3, 1) := by decide +kernel
theorem dX8_put_3 : decode cX8_put 3 = .ok (.bipush 50, 2) := by decide +kernel
theorem dX8_put_5 : decode cX8_put 5 = .ok (.if_icmp .ge 20, 3) := by decide +kernel
theorem dX8_put_8 : decode cX8_put 8 = .ok (.aload_n 1, 1) := by decide +kernel
theorem dX8_put_9 : decode cX8_put 9 = .ok (.iload_n 2, 1) := by decide +kernel
theorem dX8_put_10 : decode cX8_put 10 = .ok (.iload_n 3, 1) := by decide +kernel
theorem dX8_put_11 : decode cX8_put 11 = .ok (.iadd, 1) := by decide +kernel
theorem dX8_put_12 : decode cX8_put 12 = .ok (.aload_n 0, 1) := by decide +kernel
theorem dX8_put_13 : decode cX8_put 13 = .ok (.getfield 100, 3) := by decide +kernel
theorem dX8_put_16 : decode cX8_put 16 = .ok (.iload_n 3, 1) := by decide +kernel
theorem dX8_put_17 : decode cX8_put 17 = .ok (.iaload, 1) := by decide +kernel
theorem dX8_put_18 : decode cX8_put 18 = .ok (.iastore, 1) := by decide +kernel
theorem dX8_put_19 : decode cX8_put 19 = .ok (.iinc 3 1, 3) := by decide +kernel
theorem dX8_put_22 : decode cX8_put 22 = .ok (.goto (-20), 3) := by decide +kernel
theorem dX8_put_25 : decode cX8_put 25 = .ok (.iconst 0, 1) := by decide +kernel
theorem dX8_put_26 : decode cX8_put 26 = .ok (.istore_n 3, 1) := by decide +kernel
theorem dX8_put_27 : decode cX8_put 27 = .ok (.iload_n 3, 1) := by decide +kernel
theorem dX8_put_28 : decode cX8_put 28 = .ok (.iconst 5, 1) := by decide +kernel
theorem dX8_put_29 : decode cX8_put 29 = .ok (.if_icmp .ge 23, 3) := by decide +kernel
theorem dX8_put_32 : decode cX8_put 32 = .ok (.aload_n 1, 1) := by decide +kernel
theorem dX8_put_33 : decode cX8_put 33 = .ok (.iload_n 2, 1) := by decide +kernel
theorem dX8_put_34 : decode cX8_put 34 = .ok (.bipush 50, 2) := by decide +kernel
theorem dX8_put_36 : decode cX8_put 36 = .ok (.iadd, 1) := by decide +kernel
theorem dX8_put_37 : decode cX8_put 37 = .ok (.iload_n 3, 1) := by decide +kernel
theorem dX8_put_38 : decode cX8_put 38 = .ok (.iadd, 1) := by decide +kernel
theorem dX8_put_39 : decode cX8_put 39 = .ok (.aload_n 0, 1) := by decide +kernel
theorem dX8_put_40 : decode cX8_put 40 = .ok (.getfield 103, 3) := by decide +kernel
theorem dX8_put_43 : decode cX8_put 43 = .ok (.iload_n 3, 1) := by decide +kernel
theorem dX8_put_44 : decode cX8_put 44 = .ok (.iaload, 1) := by decide +kernel
theorem dX8_put_45 : decode cX8_put 45 = .ok (.iastore, 1) := by decide +kernel
theorem dX8_put_46 : decode cX8_put 46 = .ok (.iinc 3 1, 3) := by decide +kernel
theorem dX8_put_49 : decode cX8_put 49 = .ok (.goto (-22), 3) := by decide +kernel
theorem dX8_put_52 : decode cX8_put 52 = .ok (.iconst 0, 1) := by decide +kernel
theorem dX8_put_53 : decode cX8_put 53 = .ok (.istore_n 3, 1) := by decide +kernel
theorem dX8_put_54 : decode cX8_put 54 = .ok (.iload_n 3, 1) := by decide +kernel
theorem dX8_put_55 : decode cX8_put 55 = .ok (.bipush 6, 2) := by decide +kernel
theorem dX8_put_57 : decode cX8_put 57 = .ok (.if_icmp .ge 23, 3) := by decide +kernel
theorem dX8_put_60 : decode cX8_put 60 = .ok (.aload_n 1, 1) := by decide +kernel
theorem dX8_put_61 : decode cX8_put 61 = .ok (.iload_n 2, 1) := by decide +kernel
theorem dX8_put_62 : decode cX8_put 62 = .ok (.bipush 55, 2) := by decide +kernel
theorem dX8_put_64 : decode cX8_put 64 = .ok (.iadd, 1) := by decide +kernel
theorem dX8_put_65 : decode cX8_put 65 = .ok (.iload_n 3, 1) := by decide +kernel
theorem dX8_put_66 : decode cX8_put 66 = .ok (.iadd, 1) := by decide +kernel
theorem dX8_put_67 : decode cX8_put 67 = .ok (.aload_n 0, 1) := by decide +kernel
theorem dX8_put_68 : decode cX8_put 68 = .ok (.getfield 109, 3) := by decide +kernel
theorem dX8_put_71 : decode cX8_put 71 = .ok (.iload_n 3, 1) := by decide +kernel
theorem dX8_put_72 : decode cX8_put 72 = .ok (.iaload, 1) := by decide +kernel
theorem dX8_put_73 : decode cX8_put 73 = .ok (.iastore, 1) := by decide +kernel
theorem dX8_put_74 : decode cX8_put 74 = .ok (.iinc 3 1, 3) := by decide +kernel
theorem dX8_put_77 : decode cX8_put 77 = .ok (.goto (-23), 3) := by decide +kernel
theorem dX8_put_80 : decode cX8_put 80 = .ok (.return_, 1) := by decide +kernel
theorem dX8_undo_0 : decode cX8_undo 0 = .ok (.aload_n 0, 1) := by decide +kernel
theorem dX8_undo_1 : decode cX8_undo 1 = .ok (.iconst 0, 1) := by decide +kernel
theorem dX8_undo_2 : decode cX8_undo 2 = .ok (.putfield 172, 3) := by decide +kernel
theorem dX8_undo_5 : decode cX8_undo 5 = .ok (.aload_n 0, 1) := by decide +kernel
theorem dX8_undo_6 : decode cX8_undo 6 = .ok (.getfield 379, 3) := by decide +kernel
theorem dX8_undo_9 : decode cX8_undo 9 = .ok (.ifCond .ne 5, 3) := by decide +kernel
theorem dX8_undo_12 : decode cX8_undo 12 = .ok (.iconst (-1), 1) := by decide +kernel
theorem dX8_undo_13 : decode cX8_undo 13 = .ok (.ireturn, 1) := by decide +kernel
theorem dX8_undo_14 : decode cX8_undo 14 = .ok (.aload_n 0, 1) := by decide +kernel
theorem dX8_undo_15 : decode cX8_undo 15 = .ok (.dup, 1) := by decide +kernel
theorem dX8_undo_16 : decode cX8_undo 16 = .ok (.getfield 379, 3) := by decide +kernel
theorem dX8_undo_19 : decode cX8_undo 19 = .ok (.iconst 1, 1) := by decide +kernel
theorem dX8_undo_20 : decode cX8_undo 20 = .ok (.isub, 1) := by decide +kernel
theorem dX8_undo_21 : decode cX8_undo 21 = .ok (.putfield 379, 3) := by decide +kernel
theorem dX8_undo_24 : decode cX8_undo 24 = .ok (.aload_n 0, 1) := by decide +kernel
theorem dX8_undo_25 : decode cX8_undo 25 = .ok (.aload_n 0, 1) := by decide +kernel
theorem dX8_undo_26 : decode cX8_undo 26 = .ok (.getfield 154, 3) := by decide +kernel
theorem dX8_undo_29 : decode cX8_undo 29 = .ok (.bipush 61, 2) := by decide +kernel
theorem dX8_undo_31 : decode cX8_undo 31 = .ok (.aload_n 0, 1) := by decide +kernel
theorem dX8_undo_32 : decode cX8_undo 32 = .ok (.getfield 379, 3) := by decide +kernel
theorem dX8_undo_35 : decode cX8_undo 35 = .ok (.imul, 1) := by decide +kernel
theorem dX8_undo_36 : decode cX8_undo 36 = .ok (.invokevirtual 558, 3) := by decide +kernel
theorem dX8_undo_39 : decode cX8_undo 39 = .ok (.aload_n 0, 1) := by decide +kernel
theorem dX8_undo_40 : decode cX8_undo 40 = .ok (.getfield 379, 3) := by decide +kernel
theorem dX8_undo_43 : decode cX8_undo 43 = .ok (.ireturn, 1) := by decide +kernel
theorem dX8_keep_0 : decode cX8_keep 0 = .ok (.aload_n 0, 1) := by decide +kernel
theorem dX8_keep_1 : decode cX8_keep 1 = .ok (.iconst 0, 1) := by decide +kernel
theorem dX8_keep_2 : decode cX8_keep 2 = .ok (.putfield 172, 3) := by decide +kernel
theorem dX8_keep_5 : decode cX8_keep 5 = .ok (.aload_n 0, 1) := by decide +kernel
theorem dX8_keep_6 : decode cX8_keep 6 = .ok (.iconst 1, 1) := by decide +kernel
theorem dX8_keep_7 : decode cX8_keep 7 = .ok (.putfield 382, 3) := by decide +kernel
theorem dX8_keep_10 : decode cX8_keep 10 = .ok (.aload_n 0, 1) := by decide +kernel
theorem dX8_keep_11 : decode cX8_keep 11 = .ok (.aload_n 0, 1) := by decide +kernel
theorem dX8_keep_12 : decode cX8_keep 12 = .ok (.getfield 157, 3) := by decide +kernel
theorem dX8_keep_15 : decode cX8_keep 15 = .ok (.iconst 0, 1) := by decide +kernel
theorem dX8_keep_16 : decode cX8_keep 16 = .ok (.invokevirtual 555, 3) := by decide +kernel
theorem dX8_keep_19 : decode cX8_keep 19 = .ok (.iconst 0, 1) := by decide +kernel
theorem dX8_keep_20 : decode cX8_keep 20 = .ok (.istore_n 1, 1) := by decide +kernel
theorem dX8_keep_21 : decode cX8_keep 21 = .ok (.iload_n 1, 1) := by decide +kernel
theorem dX8_keep_22 : decode cX8_keep 22 = .ok (.bipush 10, 2) := by decide +kernel
theorem dX8_keep_24 : decode cX8_keep 24 = .ok (.if_icmp .ge 21, 3) := by decide +kernel
theorem dX8_keep_27 : decode cX8_keep 27 = .ok (.aload_n 0, 1) := by decide +kernel
theorem dX8_keep_28 : decode cX8_keep 28 = .ok (.getfield 160, 3) := by decide +kernel
theorem dX8_keep_31 : decode cX8_keep 31 = .ok (.iload_n 1, 1) := by decide +kernel
theorem dX8_keep_32 : decode cX8_keep 32 = .ok (.aload_n 0, 1) := by decide +kernel
theorem dX8_keep_33 : decode cX8_keep 33 = .ok (.getfield 94, 3) := by decide +kernel
theorem dX8_keep_36 : decode cX8_keep 36 = .ok (.iload_n 1, 1) := by decide +kernel
theorem dX8_keep_37 : decode cX8_keep 37 = .ok (.iaload, 1) := by decide +kernel
theorem dX8_keep_38 : decode cX8_keep 38 = .ok (.iastore, 1) := by decide +kernel
theorem dX8_keep_39 : decode cX8_keep 39 = .ok (.iinc 1 1, 3) := by decide +kernel
theorem dX8_keep_42 : decode cX8_keep 42 = .ok (.goto (-21), 3) := by decide +kernel
theorem dX8_keep_45 : decode cX8_keep 45 = .ok (.iconst 0, 1) := by decide +kernel
theorem dX8_keep_46 : decode cX8_keep 46 = .ok (.istore_n 1, 1) := by decide +kernel
theorem dX8_keep_47 : decode cX8_keep 47 = .ok (.iload_n 1, 1) := by decide +kernel
theorem dX8_keep_48 : decode cX8_keep 48 = .ok (.bipush 6, 2) := by decide +kernel
theorem dX8_keep_50 : decode cX8_keep 50 = .ok (.if_icmp .ge 36, 3) := by decide +kernel
theorem dX8_keep_53 : decode cX8_keep 53 = .ok (.aload_n 0, 1) := by decide +kernel
theorem dX8_keep_54 : decode cX8_keep 54 = .ok (.getfield 163, 3) := by decide +kernel
theorem dX8_keep_57 : decode cX8_keep 57 = .ok (.iload_n 1, 1) := by decide +kernel
theorem dX8_keep_58 : decode cX8_keep 58 = .ok (.aload_n 0, 1) := by decide +kernel
theorem dX8_keep_59 : decode cX8_keep 59 = .ok (.getfield 112, 3) := by decide +kernel
theorem dX8_keep_62 : decode cX8_keep 62 = .ok (.iload_n 1, 1) := by decide +kernel
theorem dX8_keep_63 : decode cX8_keep 63 = .ok (.iaload, 1) := by decide +kernel
theorem dX8_keep_64 : decode cX8_keep 64 = .ok (.iastore, 1) := by decide +kernel
theorem dX8_keep_65 : decode cX8_keep 65 = .ok (.aload_n 0, 1) := by decide +kernel
theorem dX8_keep_66 : decode cX8_keep 66 = .ok (.getfield 163, 3) := by decide +kernel
theorem dX8_keep_69 : decode cX8_keep 69 = .ok (.bipush 6, 2) := by decide +kernel
theorem dX8_keep_71 : decode cX8_keep 71 = .ok (.iload_n 1, 1) := by decide +kernel
theorem dX8_keep_72 : decode cX8_keep 72 = .ok (.iadd, 1) := by decide +kernel
theorem dX8_keep_73 : decode cX8_keep 73 = .ok (.aload_n 0, 1) := by decide +kernel
theorem dX8_keep_74 : decode cX8_keep 74 = .ok (.getfield 115, 3) := by decide +kernel
theorem dX8_keep_77 : decode cX8_keep 77 = .ok (.iload_n 1, 1) := by decide +kernel
theorem dX8_keep_78 : decode cX8_keep 78 = .ok (.iaload, 1) := by decide +kernel
theorem dX8_keep_79 : decode cX8_keep 79 = .ok (.iastore, 1) := by decide +kernel
theorem dX8_keep_80 : decode cX8_keep 80 = .ok (.iinc 1 1, 3) := by decide +kernel
theorem dX8_keep_83 : decode cX8_keep 83 = .ok (.goto (-36), 3) := by decide +kernel
theorem dX8_keep_86 : decode cX8_keep 86 = .ok (.aload_n 0, 1) := by decide +kernel
theorem dX8_keep_87 : decode cX8_keep 87 = .ok (.aload_n 0, 1) := by decide +kernel
theorem dX8_keep_88 : decode cX8_keep 88 = .ok (.getfield 118, 3) := by decide +kernel
theorem dX8_keep_91 : decode cX8_keep 91 = .ok (.iconst 0, 1) := by decide +kernel
theorem dX8_keep_92 : decode cX8_keep 92 = .ok (.iaload, 1) := by decide +kernel
theorem dX8_keep_93 : decode cX8_keep 93 = .ok (.putfield 561, 3) := by decide +kernel
theorem dX8_keep_96 : decode cX8_keep 96 = .ok (.aload_n 0, 1) := by decide +kernel
theorem dX8_keep_97 : decode cX8_keep 97 = .ok (.aload_n 0, 1) := by decide +kernel
theorem dX8_keep_98 : decode cX8_keep 98 = .ok (.getfield 121, 3) := by decide +kernel
theorem dX8_keep_101 : decode cX8_keep 101 = .ok (.iconst 0, 1) := by decide +kernel
theorem dX8_keep_102 : decode cX8_keep 102 = .ok (.iaload, 1) := by decide +kernel
theorem dX8_keep_103 : decode cX8_keep 103 = .ok (.putfield 564, 3) := by decide +kernel
theorem dX8_keep_106 : decode cX8_keep 106 = .ok (.aload_n 0, 1) := by decide +kernel
theorem dX8_keep_107 : decode cX8_keep 107 = .ok (.aload_n 0, 1) := by decide +kernel
theorem dX8_keep_108 : decode cX8_keep 108 = .ok (.getfield 369, 3) := by decide +kernel
theorem dX8_keep_111 : decode cX8_keep 111 = .ok (.putfield 567, 3) := by decide +kernel
theorem dX8_keep_114 : decode cX8_keep 114 = .ok (.aload_n 0, 1) := by decide +kernel
theorem dX8_keep_115 : decode cX8_keep 115 = .ok (.getfield 121, 3) := by decide +kernel
theorem dX8_keep_118 : decode cX8_keep 118 = .ok (.iconst 0, 1) := by decide +kernel
theorem dX8_keep_119 : decode cX8_keep 119 = .ok (.iaload, 1) := by decide +kernel
theorem dX8_keep_120 : decode cX8_keep 120 = .ok (.ireturn, 1) := by decide +kernel
theorem dX8_back_0 : decode cX8_back 0 = .ok (.aload_n 0, 1) := by decide +kernel
theorem dX8_back_1 : decode cX8_back 1 = .ok (.iconst 0, 1) := by decide +kernel
theorem dX8_back_2 : decode cX8_back 2 = .ok (.putfield 172, 3) := by decide +kernel
theorem dX8_back_5 : decode cX8_back 5 = .ok (.aload_n 0, 1) := by decide +kernel
theorem dX8_back_6 : decode cX8_back 6 = .ok (.getfield 382, 3) := by decide +kernel
theorem dX8_back_9 : decode cX8_back 9 = .ok (.ifCond .ne 5, 3) := by decide +kernel
theorem dX8_back_12 : decode cX8_back 12 = .ok (.iconst (-1), 1) := by decide +kernel
theorem dX8_back_13 : decode cX8_back 13 = .ok (.ireturn, 1) := by decide +kernel
theorem dX8_back_14 : decode cX8_back 14 = .ok (.aload_n 0, 1) := by decide +kernel
theorem dX8_back_15 : decode cX8_back 15 = .ok (.aload_n 0, 1) := by decide +kernel
theorem dX8_back_16 : decode cX8_back 16 = .ok (.getfield 157, 3) := by decide +kernel
theorem dX8_back_19 : decode cX8_back 19 = .ok (.iconst 0, 1) := by decide +kernel
theorem dX8_back_20 : decode cX8_back 20 = .ok (.invokevirtual 558, 3) := by decide +kernel
theorem dX8_back_23 : decode cX8_back 23 = .ok (.iconst 0, 1) := by decide +kernel
theorem dX8_back_24 : decode cX8_back 24 = .ok (.istore_n 1, 1) := by decide +kernel
theorem dX8_back_25 : decode cX8_back 25 = .ok (.iload_n 1, 1) := by decide +kernel
theorem dX8_back_26 : decode cX8_back 26 = .ok (.bipush 10, 2) := by decide +kernel
theorem dX8_back_28 : decode cX8_back 28 = .ok (.if_icmp .ge 21, 3) := by decide +kernel
theorem dX8_back_31 : decode cX8_back 31 = .ok (.aload_n 0, 1) := by decide +kernel
theorem dX8_back_32 : decode cX8_back 32 = .ok (.getfield 94, 3) := by decide +kernel
theorem dX8_back_35 : decode cX8_back 35 = .ok (.iload_n 1, 1) := by decide +kernel
theorem dX8_back_36 : decode cX8_back 36 = .ok (.aload_n 0, 1) := by decide +kernel
theorem dX8_back_37 : decode cX8_back 37 = .ok (.getfield 160, 3) := by decide +kernel
theorem dX8_back_40 : decode cX8_back 40 = .ok (.iload_n 1, 1) := by decide +kernel
theorem dX8_back_41 : decode cX8_back 41 = .ok (.iaload, 1) := by decide +kernel
theorem dX8_back_42 : decode cX8_back 42 = .ok (.iastore, 1) := by decide +kernel
theorem dX8_back_43 : decode cX8_back 43 = .ok (.iinc 1 1, 3) := by decide +kernel
theorem dX8_back_46 : decode cX8_back 46 = .ok (.goto (-21), 3) := by decide +kernel
theorem dX8_back_49 : decode cX8_back 49 = .ok (.iconst 0, 1) := by decide +kernel
theorem dX8_back_50 : decode cX8_back 50 = .ok (.istore_n 1, 1) := by decide +kernel
theorem dX8_back_51 : decode cX8_back 51 = .ok (.iload_n 1, 1) := by decide +kernel
theorem dX8_back_52 : decode cX8_back 52 = .ok (.bipush 6, 2) := by decide +kernel
theorem dX8_back_54 : decode cX8_back 54 = .ok (.if_icmp .ge 36, 3) := by decide +kernel
theorem dX8_back_57 : decode cX8_back 57 = .ok (.aload_n 0, 1) := by decide +kernel
theorem dX8_back_58 : decode cX8_back 58 = .ok (.getfield 112, 3) := by decide +kernel
theorem dX8_back_61 : decode cX8_back 61 = .ok (.iload_n 1, 1) := by decide +kernel
theorem dX8_back_62 : decode cX8_back 62 = .ok (.aload_n 0, 1) := by decide +kernel
theorem dX8_back_63 : decode cX8_back 63 = .ok (.getfield 163, 3) := by decide +kernel
theorem dX8_back_66 : decode cX8_back 66 = .ok (.iload_n 1, 1) := by decide +kernel
theorem dX8_back_67 : decode cX8_back 67 = .ok (.iaload, 1) := by decide +kernel
theorem dX8_back_68 : decode cX8_back 68 = .ok (.iastore, 1) := by decide +kernel
theorem dX8_back_69 : decode cX8_back 69 = .ok (.aload_n 0, 1) := by decide +kernel
theorem dX8_back_70 : decode cX8_back 70 = .ok (.getfield 115, 3) := by decide +kernel
theorem dX8_back_73 : decode cX8_back 73 = .ok (.iload_n 1, 1) := by decide +kernel
theorem dX8_back_74 : decode cX8_back 74 = .ok (.aload_n 0, 1) := by decide +kernel
theorem dX8_back_75 : decode cX8_back 75 = .ok (.getfield 163, 3) := by decide +kernel
theorem dX8_back_78 : decode cX8_back 78 = .ok (.bipush 6, 2) := by decide +kernel
theorem dX8_back_80 : decode cX8_back 80 = .ok (.iload_n 1, 1) := by decide +kernel
theorem dX8_back_81 : decode cX8_back 81 = .ok (.iadd, 1) := by decide +kernel
theorem dX8_back_82 : decode cX8_back 82 = .ok (.iaload, 1) := by decide +kernel
theorem dX8_back_83 : decode cX8_back 83 = .ok (.iastore, 1) := by decide +kernel
theorem dX8_back_84 : decode cX8_back 84 = .ok (.iinc 1 1, 3) := by decide +kernel
theorem dX8_back_87 : decode cX8_back 87 = .ok (.goto (-36), 3) := by decide +kernel
theorem dX8_back_90 : decode cX8_back 90 = .ok (.aload_n 0, 1) := by decide +kernel
theorem dX8_back_91 : decode cX8_back 91 = .ok (.getfield 118, 3) := by decide +kernel
theorem dX8_back_94 : decode cX8_back 94 = .ok (.iconst 0, 1) := by decide +kernel
theorem dX8_back_95 : decode cX8_back 95 = .ok (.aload_n 0, 1) := by decide +kernel
theorem dX8_back_96 : decode cX8_back 96 = .ok (.getfield 561, 3) := by decide +kernel
theorem dX8_back_99 : decode cX8_back 99 = .ok (.iastore, 1) := by decide +kernel
theorem dX8_back_100 : decode cX8_back 100 = .ok (.aload_n 0, 1) := by decide +kernel
theorem dX8_back_101 : decode cX8_back 101 = .ok (.getfield 121, 3) := by decide +kernel
theorem dX8_back_104 : decode cX8_back 104 = .ok (.iconst 0, 1) := by decide +kernel
theorem dX8_back_105 : decode cX8_back 105 = .ok (.aload_n 0, 1) := by decide +kernel
theorem dX8_back_106 : decode cX8_back 106 = .ok (.getfield 564, 3) := by decide +kernel
theorem dX8_back_109 : decode cX8_back 109 = .ok (.iastore, 1) := by decide +kernel
theorem dX8_back_110 : decode cX8_back 110 = .ok (.aload_n 0, 1) := by decide +kernel
theorem dX8_back_111 : decode cX8_back 111 = .ok (.aload_n 0, 1) := by decide +kernel
theorem dX8_back_112 : decode cX8_back 112 = .ok (.getfield 567, 3) := by decide +kernel
theorem dX8_back_115 : decode cX8_back 115 = .ok (.putfield 369, 3) := by decide +kernel
theorem dX8_back_118 : decode cX8_back 118 = .ok (.aload_n 0, 1) := by decide +kernel
theorem dX8_back_119 : decode cX8_back 119 = .ok (.iconst 0, 1) := by decide +kernel
theorem dX8_back_120 : decode cX8_back 120 = .ok (.putfield 379, 3) := by decide +kernel
theorem dX8_back_123 : decode cX8_back 123 = .ok (.aload_n 0, 1) := by decide +kernel
theorem dX8_back_124 : decode cX8_back 124 = .ok (.getfield 121, 3) := by decide +kernel
theorem dX8_back_127 : decode cX8_back 127 = .ok (.iconst 0, 1) := by decide +kernel
theorem dX8_back_128 : decode cX8_back 128 = .ok (.iaload, 1) := by decide +kernel
theorem dX8_back_129 : decode cX8_back 129 = .ok (.ireturn, 1) := by decide +kernel
theorem dX8_manyHow_0 : decode cX8_manyHow 0 = .ok (.iconst 0, 1) := by decide +kernel
theorem dX8_manyHow_1 : decode cX8_manyHow 1 = .ok (.istore_n 2, 1) := by decide +kernel
theorem dX8_manyHow_2 : decode cX8_manyHow 2 = .ok (.iconst 0, 1) := by decide +kernel
theorem dX8_manyHow_3 : decode cX8_manyHow 3 = .ok (.istore_n 3, 1) := by decide +kernel
theorem dX8_manyHow_4 : decode cX8_manyHow 4 = .ok (.iload_n 3, 1) := by decide +kernel
theorem dX8_manyHow_5 : decode cX8_manyHow 5 = .ok (.aload_n 0, 1) := by decide +kernel
theorem dX8_manyHow_6 : decode cX8_manyHow 6 = .ok (.getfield 258, 3) := by decide +kernel
theorem dX8_manyHow_9 : decode cX8_manyHow 9 = .ok (.if_icmp .ge 27, 3) := by decide +kernel
theorem dX8_manyHow_12 : decode cX8_manyHow 12 = .ok (.iload_n 2, 1) := by decide +kernel
theorem dX8_manyHow_13 : decode cX8_manyHow 13 = .ok (.aload_n 0, 1) := by decide +kernel
theorem dX8_manyHow_14 : decode cX8_manyHow 14 = .ok (.getfield 94, 3) := by decide +kernel
theorem dX8_manyHow_17 : decode cX8_manyHow 17 = .ok (.iload_n 3, 1) := by decide +kernel
theorem dX8_manyHow_18 : decode cX8_manyHow 18 = .ok (.iaload, 1) := by decide +kernel
theorem dX8_manyHow_19 : decode cX8_manyHow 19 = .ok (.iload_n 1, 1) := by decide +kernel
theorem dX8_manyHow_20 : decode cX8_manyHow 20 = .ok (.if_icmp .ne 7, 3) := by decide +kernel
theorem dX8_manyHow_23 : decode cX8_manyHow 23 = .ok (.iconst 1, 1) := by decide +kernel
theorem dX8_manyHow_24 : decode cX8_manyHow 24 = .ok (.goto 4, 3) := by decide +kernel
theorem dX8_manyHow_27 : decode cX8_manyHow 27 = .ok (.iconst 0, 1) := by decide +kernel
theorem dX8_manyHow_28 : decode cX8_manyHow 28 = .ok (.iadd, 1) := by decide +kernel
theorem dX8_manyHow_29 : decode cX8_manyHow 29 = .ok (.istore_n 2, 1) := by decide +kernel
theorem dX8_manyHow_30 : decode cX8_manyHow 30 = .ok (.iinc 3 1, 3) := by decide +kernel
theorem dX8_manyHow_33 : decode cX8_manyHow 33 = .ok (.goto (-29), 3) := by decide +kernel
theorem dX8_manyHow_36 : decode cX8_manyHow 36 = .ok (.iload_n 2, 1) := by decide +kernel
theorem dX8_manyHow_37 : decode cX8_manyHow 37 = .ok (.ireturn, 1) := by decide +kernel
theorem dX8_count_0 : decode cX8_count 0 = .ok (.aload_n 0, 1) := by decide +kernel
theorem dX8_count_1 : decode cX8_count 1 = .ok (.iconst 0, 1) := by decide +kernel
theorem dX8_count_2 : decode cX8_count 2 = .ok (.putfield 172, 3) := by decide +kernel
theorem dX8_count_5 : decode cX8_count 5 = .ok (.iconst 0, 1) := by decide +kernel
theorem dX8_count_6 : decode cX8_count 6 = .ok (.istore_n 2, 1) := by decide +kernel
theorem dX8_count_7 : decode cX8_count 7 = .ok (.iload_n 1, 1) := by decide +kernel
theorem dX8_count_8 : decode cX8_count 8 = .ok (.tableswitch 202 0 15 #[80, 85, 90, 95, 100, 107, 114, 120, 126, 132, 138, 144, 180, 187, 192, 197], 80) := by decide +kernel
theorem dX8_count_88 : decode cX8_count 88 = .ok (.aload_n 0, 1) := by decide +kernel
theorem dX8_count_89 : decode cX8_count 89 = .ok (.getfield 252, 3) := by decide +kernel
theorem dX8_count_92 : decode cX8_count 92 = .ok (.ireturn, 1) := by decide +kernel
theorem dX8_count_93 : decode cX8_count 93 = .ok (.aload_n 0, 1) := by decide +kernel
theorem dX8_count_94 : decode cX8_count 94 = .ok (.getfield 255, 3) := by decide +kernel
theorem dX8_count_97 : decode cX8_count 97 = .ok (.ireturn, 1) := by decide +kernel
theorem dX8_count_98 : decode cX8_count 98 = .ok (.aload_n 0, 1) := by decide +kernel
theorem dX8_count_99 : decode cX8_count 99 = .ok (.getfield 258, 3) := by decide +kernel
theorem dX8_count_102 : decode cX8_count 102 = .ok (.ireturn, 1) := by decide +kernel
theorem dX8_count_103 : decode cX8_count 103 = .ok (.aload_n 0, 1) := by decide +kernel
theorem dX8_count_104 : decode cX8_count 104 = .ok (.getfield 261, 3) := by decide +kernel
theorem dX8_count_107 : decode cX8_count 107 = .ok (.ireturn, 1) := by decide +kernel
theorem dX8_count_108 : decode cX8_count 108 = .ok (.aload_n 0, 1) := by decide +kernel
theorem dX8_count_109 : decode cX8_count 109 = .ok (.getfield 121, 3) := by decide +kernel
theorem dX8_count_112 : decode cX8_count 112 = .ok (.iconst 0, 1) := by decide +kernel
theorem dX8_count_113 : decode cX8_count 113 = .ok (.iaload, 1) := by decide +kernel
theorem dX8_count_114 : decode cX8_count 114 = .ok (.ireturn, 1) := by decide +kernel
theorem dX8_count_115 : decode cX8_count 115 = .ok (.aload_n 0, 1) := by decide +kernel
theorem dX8_count_116 : decode cX8_count 116 = .ok (.getfield 118, 3) := by decide +kernel
theorem dX8_count_119 : decode cX8_count 119 = .ok (.iconst 0, 1) := by decide +kernel
theorem dX8_count_120 : decode cX8_count 120 = .ok (.iaload, 1) := by decide +kernel
theorem dX8_count_121 : decode cX8_count 121 = .ok (.ireturn, 1) := by decide +kernel
theorem dX8_count_122 : decode cX8_count 122 = .ok (.aload_n 0, 1) := by decide +kernel
theorem dX8_count_123 : decode cX8_count 123 = .ok (.iconst 1, 1) := by decide +kernel
theorem dX8_count_124 : decode cX8_count 124 = .ok (.invokevirtual 570, 3) := by decide +kernel
theorem dX8_count_127 : decode cX8_count 127 = .ok (.ireturn, 1) := by decide +kernel
theorem dX8_count_128 : decode cX8_count 128 = .ok (.aload_n 0, 1) := by decide +kernel
theorem dX8_count_129 : decode cX8_count 129 = .ok (.iconst 2, 1) := by decide +kernel
theorem dX8_count_130 : decode cX8_count 130 = .ok (.invokevirtual 570, 3) := by decide +kernel
theorem dX8_count_133 : decode cX8_count 133 = .ok (.ireturn, 1) := by decide +kernel
theorem dX8_count_134 : decode cX8_count 134 = .ok (.aload_n 0, 1) := by decide +kernel
theorem dX8_count_135 : decode cX8_count 135 = .ok (.iconst 3, 1) := by decide +kernel
theorem dX8_count_136 : decode cX8_count 136 = .ok (.invokevirtual 570, 3) := by decide +kernel
theorem dX8_count_139 : decode cX8_count 139 = .ok (.ireturn, 1) := by decide +kernel
theorem dX8_count_140 : decode cX8_count 140 = .ok (.aload_n 0, 1) := by decide +kernel
theorem dX8_count_141 : decode cX8_count 141 = .ok (.iconst 4, 1) := by decide +kernel
theorem dX8_count_142 : decode cX8_count 142 = .ok (.invokevirtual 570, 3) := by decide +kernel
theorem dX8_count_145 : decode cX8_count 145 = .ok (.ireturn, 1) := by decide +kernel
theorem dX8_count_146 : decode cX8_count 146 = .ok (.aload_n 0, 1) := by decide +kernel
theorem dX8_count_147 : decode cX8_count 147 = .ok (.iconst 5, 1) := by decide +kernel
theorem dX8_count_148 : decode cX8_count 148 = .ok (.invokevirtual 570, 3) := by decide +kernel
theorem dX8_count_151 : decode cX8_count 151 = .ok (.ireturn, 1) := by decide +kernel
theorem dX8_count_152 : decode cX8_count 152 = .ok (.iconst 0, 1) := by decide +kernel
theorem dX8_count_153 : decode cX8_count 153 = .ok (.istore_n 3, 1) := by decide +kernel
theorem dX8_count_154 : decode cX8_count 154 = .ok (.iload_n 3, 1) := by decide +kernel
theorem dX8_count_155 : decode cX8_count 155 = .ok (.aload_n 0, 1) := by decide +kernel
theorem dX8_count_156 : decode cX8_count 156 = .ok (.getfield 255, 3) := by decide +kernel
theorem dX8_count_159 : decode cX8_count 159 = .ok (.if_icmp .ge 27, 3) := by decide +kernel
theorem dX8_count_162 : decode cX8_count 162 = .ok (.iload_n 2, 1) := by decide +kernel
theorem dX8_count_163 : decode cX8_count 163 = .ok (.aload_n 0, 1) := by decide +kernel
theorem dX8_count_164 : decode cX8_count 164 = .ok (.getfield 112, 3) := by decide +kernel
theorem dX8_count_167 : decode cX8_count 167 = .ok (.iload_n 3, 1) := by decide +kernel
theorem dX8_count_168 : decode cX8_count 168 = .ok (.iaload, 1) := by decide +kernel
theorem dX8_count_169 : decode cX8_count 169 = .ok (.iconst 1, 1) := by decide +kernel
theorem dX8_count_170 : decode cX8_count 170 = .ok (.if_icmp .ne 7, 3) := by decide +kernel
theorem dX8_count_173 : decode cX8_count 173 = .ok (.iconst 1, 1) := by decide +kernel
theorem dX8_count_174 : decode cX8_count 174 = .ok (.goto 4, 3) := by decide +kernel
theorem dX8_count_177 : decode cX8_count 177 = .ok (.iconst 0, 1) := by decide +kernel
theorem dX8_count_178 : decode cX8_count 178 = .ok (.iadd, 1) := by decide +kernel
theorem dX8_count_179 : decode cX8_count 179 = .ok (.istore_n 2, 1) := by decide +kernel
theorem dX8_count_180 : decode cX8_count 180 = .ok (.iinc 3 1, 3) := by decide +kernel
theorem dX8_count_183 : decode cX8_count 183 = .ok (.goto (-29), 3) := by decide +kernel
theorem dX8_count_186 : decode cX8_count 186 = .ok (.iload_n 2, 1) := by decide +kernel
theorem dX8_count_187 : decode cX8_count 187 = .ok (.ireturn, 1) := by decide +kernel
theorem dX8_count_188 : decode cX8_count 188 = .ok (.aload_n 0, 1) := by decide +kernel
theorem dX8_count_189 : decode cX8_count 189 = .ok (.getfield 24, 3) := by decide +kernel
theorem dX8_count_192 : decode cX8_count 192 = .ok (.iconst 0, 1) := by decide +kernel
theorem dX8_count_193 : decode cX8_count 193 = .ok (.iaload, 1) := by decide +kernel
theorem dX8_count_194 : decode cX8_count 194 = .ok (.ireturn, 1) := by decide +kernel
theorem dX8_count_195 : decode cX8_count 195 = .ok (.aload_n 0, 1) := by decide +kernel
theorem dX8_count_196 : decode cX8_count 196 = .ok (.getfield 376, 3) := by decide +kernel
theorem dX8_count_199 : decode cX8_count 199 = .ok (.ireturn, 1) := by decide +kernel
theorem dX8_count_200 : decode cX8_count 200 = .ok (.aload_n 0, 1) := by decide +kernel
theorem dX8_count_201 : decode cX8_count 201 = .ok (.invokevirtual 546, 3) := by decide +kernel
theorem dX8_count_204 : decode cX8_count 204 = .ok (.ireturn, 1) := by decide +kernel
theorem dX8_count_205 : decode cX8_count 205 = .ok (.aload_n 0, 1) := by decide +kernel
theorem dX8_count_206 : decode cX8_count 206 = .ok (.getfield 379, 3) := by decide +kernel
theorem dX8_count_209 : decode cX8_count 209 = .ok (.ireturn, 1) := by decide +kernel
theorem dX8_count_210 : decode cX8_count 210 = .ok (.iconst (-1), 1) := by decide +kernel
theorem dX8_count_211 : decode cX8_count 211 = .ok (.ireturn, 1) := by decide +kernel

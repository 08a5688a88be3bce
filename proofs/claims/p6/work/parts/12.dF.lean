theorem dX8_valueOf_50 : decode cX8_valueOf 50 = .ok (.lstore_n 2, 1) := by decide +kernel
theorem dX8_valueOf_51 : decode cX8_valueOf 51 = .ok (.aload_n 0, 1) := by decide +kernel
theorem dX8_valueOf_52 : decode cX8_valueOf 52 = .ok (.getfield 72, 3) := by decide +kernel
theorem dX8_valueOf_55 : decode cX8_valueOf 55 = .ok (.iload_n 1, 1) := by decide +kernel
theorem dX8_valueOf_56 : decode cX8_valueOf 56 = .ok (.iaload, 1) := by decide +kernel
theorem dX8_valueOf_57 : decode cX8_valueOf 57 = .ok (.iconst 2, 1) := by decide +kernel
theorem dX8_valueOf_58 : decode cX8_valueOf 58 = .ok (.if_icmp .ne 15, 3) := by decide +kernel
theorem dX8_valueOf_61 : decode cX8_valueOf 61 = .ok (.lload_n 2, 1) := by decide +kernel
theorem dX8_valueOf_62 : decode cX8_valueOf 62 = .ok (.lconst 0, 1) := by decide +kernel
theorem dX8_valueOf_63 : decode cX8_valueOf 63 = .ok (.lcmp, 1) := by decide +kernel
theorem dX8_valueOf_64 : decode cX8_valueOf 64 = .ok (.ifCond .ne 7, 3) := by decide +kernel
theorem dX8_valueOf_67 : decode cX8_valueOf 67 = .ok (.lconst 1, 1) := by decide +kernel
theorem dX8_valueOf_68 : decode cX8_valueOf 68 = .ok (.goto 4, 3) := by decide +kernel
theorem dX8_valueOf_71 : decode cX8_valueOf 71 = .ok (.lconst 0, 1) := by decide +kernel
theorem dX8_valueOf_72 : decode cX8_valueOf 72 = .ok (.lreturn, 1) := by decide +kernel
theorem dX8_valueOf_73 : decode cX8_valueOf 73 = .ok (.aload_n 0, 1) := by decide +kernel
theorem dX8_valueOf_74 : decode cX8_valueOf 74 = .ok (.getfield 91, 3) := by decide +kernel
theorem dX8_valueOf_77 : decode cX8_valueOf 77 = .ok (.aload_n 0, 1) := by decide +kernel
theorem dX8_valueOf_78 : decode cX8_valueOf 78 = .ok (.getfield 78, 3) := by decide +kernel
theorem dX8_valueOf_81 : decode cX8_valueOf 81 = .ok (.iload_n 1, 1) := by decide +kernel
theorem dX8_valueOf_82 : decode cX8_valueOf 82 = .ok (.iaload, 1) := by decide +kernel
theorem dX8_valueOf_83 : decode cX8_valueOf 83 = .ok (.laload, 1) := by decide +kernel
theorem dX8_valueOf_84 : decode cX8_valueOf 84 = .ok (.lstore 4, 2) := by decide +kernel
theorem dX8_valueOf_86 : decode cX8_valueOf 86 = .ok (.aload_n 0, 1) := by decide +kernel
theorem dX8_valueOf_87 : decode cX8_valueOf 87 = .ok (.getfield 72, 3) := by decide +kernel
theorem dX8_valueOf_90 : decode cX8_valueOf 90 = .ok (.iload_n 1, 1) := by decide +kernel
theorem dX8_valueOf_91 : decode cX8_valueOf 91 = .ok (.iaload, 1) := by decide +kernel
theorem dX8_valueOf_92 : decode cX8_valueOf 92 = .ok (.tableswitch 167 3 14 #[64, 83, 167, 167, 167, 167, 167, 167, 102, 111, 120, 128], 64) := by decide +kernel
theorem dX8_valueOf_156 : decode cX8_valueOf 156 = .ok (.lload_n 2, 1) := by decide +kernel
theorem dX8_valueOf_157 : decode cX8_valueOf 157 = .ok (.lconst 0, 1) := by decide +kernel
theorem dX8_valueOf_158 : decode cX8_valueOf 158 = .ok (.lcmp, 1) := by decide +kernel
theorem dX8_valueOf_159 : decode cX8_valueOf 159 = .ok (.ifCond .eq 14, 3) := by decide +kernel
theorem dX8_valueOf_162 : decode cX8_valueOf 162 = .ok (.lload 4, 2) := by decide +kernel
theorem dX8_valueOf_164 : decode cX8_valueOf 164 = .ok (.lconst 0, 1) := by decide +kernel
theorem dX8_valueOf_165 : decode cX8_valueOf 165 = .ok (.lcmp, 1) := by decide +kernel
theorem dX8_valueOf_166 : decode cX8_valueOf 166 = .ok (.ifCond .eq 7, 3) := by decide +kernel
theorem dX8_valueOf_169 : decode cX8_valueOf 169 = .ok (.lconst 1, 1) := by decide +kernel
theorem dX8_valueOf_170 : decode cX8_valueOf 170 = .ok (.goto 4, 3) := by decide +kernel
theorem dX8_valueOf_173 : decode cX8_valueOf 173 = .ok (.lconst 0, 1) := by decide +kernel
theorem dX8_valueOf_174 : decode cX8_valueOf 174 = .ok (.lreturn, 1) := by decide +kernel
theorem dX8_valueOf_175 : decode cX8_valueOf 175 = .ok (.lload_n 2, 1) := by decide +kernel
theorem dX8_valueOf_176 : decode cX8_valueOf 176 = .ok (.lconst 0, 1) := by decide +kernel
theorem dX8_valueOf_177 : decode cX8_valueOf 177 = .ok (.lcmp, 1) := by decide +kernel
theorem dX8_valueOf_178 : decode cX8_valueOf 178 = .ok (.ifCond .ne 10, 3) := by decide +kernel
theorem dX8_valueOf_181 : decode cX8_valueOf 181 = .ok (.lload 4, 2) := by decide +kernel
theorem dX8_valueOf_183 : decode cX8_valueOf 183 = .ok (.lconst 0, 1) := by decide +kernel
theorem dX8_valueOf_184 : decode cX8_valueOf 184 = .ok (.lcmp, 1) := by decide +kernel
theorem dX8_valueOf_185 : decode cX8_valueOf 185 = .ok (.ifCond .eq 7, 3) := by decide +kernel
theorem dX8_valueOf_188 : decode cX8_valueOf 188 = .ok (.lconst 1, 1) := by decide +kernel
theorem dX8_valueOf_189 : decode cX8_valueOf 189 = .ok (.goto 4, 3) := by decide +kernel
theorem dX8_valueOf_192 : decode cX8_valueOf 192 = .ok (.lconst 0, 1) := by decide +kernel
theorem dX8_valueOf_193 : decode cX8_valueOf 193 = .ok (.lreturn, 1) := by decide +kernel
theorem dX8_valueOf_194 : decode cX8_valueOf 194 = .ok (.aload_n 0, 1) := by decide +kernel
theorem dX8_valueOf_195 : decode cX8_valueOf 195 = .ok (.lload_n 2, 1) := by decide +kernel
theorem dX8_valueOf_196 : decode cX8_valueOf 196 = .ok (.lload 4, 2) := by decide +kernel
theorem dX8_valueOf_198 : decode cX8_valueOf 198 = .ok (.ladd, 1) := by decide +kernel
theorem dX8_valueOf_199 : decode cX8_valueOf 199 = .ok (.invokevirtual 354, 3) := by decide +kernel
theorem dX8_valueOf_202 : decode cX8_valueOf 202 = .ok (.lreturn, 1) := by decide +kernel
theorem dX8_valueOf_203 : decode cX8_valueOf 203 = .ok (.aload_n 0, 1) := by decide +kernel
theorem dX8_valueOf_204 : decode cX8_valueOf 204 = .ok (.lload_n 2, 1) := by decide +kernel
theorem dX8_valueOf_205 : decode cX8_valueOf 205 = .ok (.lload 4, 2) := by decide +kernel
theorem dX8_valueOf_207 : decode cX8_valueOf 207 = .ok (.lsub, 1) := by decide +kernel
theorem dX8_valueOf_208 : decode cX8_valueOf 208 = .ok (.invokevirtual 354, 3) := by decide +kernel
theorem dX8_valueOf_211 : decode cX8_valueOf 211 = .ok (.lreturn, 1) := by decide +kernel
theorem dX8_valueOf_212 : decode cX8_valueOf 212 = .ok (.aload_n 0, 1) := by decide +kernel
theorem dX8_valueOf_213 : decode cX8_valueOf 213 = .ok (.lload_n 2, 1) := by decide +kernel
theorem dX8_valueOf_214 : decode cX8_valueOf 214 = .ok (.lload 4, 2) := by decide +kernel
theorem dX8_valueOf_216 : decode cX8_valueOf 216 = .ok (.invokevirtual 358, 3) := by decide +kernel
theorem dX8_valueOf_219 : decode cX8_valueOf 219 = .ok (.lreturn, 1) := by decide +kernel
theorem dX8_valueOf_220 : decode cX8_valueOf 220 = .ok (.aload_n 0, 1) := by decide +kernel
theorem dX8_valueOf_221 : decode cX8_valueOf 221 = .ok (.aload_n 0, 1) := by decide +kernel
theorem dX8_valueOf_222 : decode cX8_valueOf 222 = .ok (.getfield 347, 3) := by decide +kernel
theorem dX8_valueOf_225 : decode cX8_valueOf 225 = .ok (.ifCond .ne 10, 3) := by decide +kernel
theorem dX8_valueOf_228 : decode cX8_valueOf 228 = .ok (.lload 4, 2) := by decide +kernel
theorem dX8_valueOf_230 : decode cX8_valueOf 230 = .ok (.lconst 0, 1) := by decide +kernel
theorem dX8_valueOf_231 : decode cX8_valueOf 231 = .ok (.lcmp, 1) := by decide +kernel
theorem dX8_valueOf_232 : decode cX8_valueOf 232 = .ok (.ifCond .ne 7, 3) := by decide +kernel
theorem dX8_valueOf_235 : decode cX8_valueOf 235 = .ok (.iconst 1, 1) := by decide +kernel
theorem dX8_valueOf_236 : decode cX8_valueOf 236 = .ok (.goto 4, 3) := by decide +kernel
theorem dX8_valueOf_239 : decode cX8_valueOf 239 = .ok (.iconst 0, 1) := by decide +kernel
theorem dX8_valueOf_240 : decode cX8_valueOf 240 = .ok (.putfield 347, 3) := by decide +kernel
theorem dX8_valueOf_243 : decode cX8_valueOf 243 = .ok (.aload_n 0, 1) := by decide +kernel
theorem dX8_valueOf_244 : decode cX8_valueOf 244 = .ok (.getfield 347, 3) := by decide +kernel
theorem dX8_valueOf_247 : decode cX8_valueOf 247 = .ok (.ifCond .eq 7, 3) := by decide +kernel
theorem dX8_valueOf_250 : decode cX8_valueOf 250 = .ok (.lconst 0, 1) := by decide +kernel
theorem dX8_valueOf_251 : decode cX8_valueOf 251 = .ok (.goto 7, 3) := by decide +kernel
theorem dX8_valueOf_254 : decode cX8_valueOf 254 = .ok (.lload_n 2, 1) := by decide +kernel
theorem dX8_valueOf_255 : decode cX8_valueOf 255 = .ok (.lload 4, 2) := by decide +kernel
theorem dX8_valueOf_257 : decode cX8_valueOf 257 = .ok (.ldiv, 1) := by decide +kernel
theorem dX8_valueOf_258 : decode cX8_valueOf 258 = .ok (.lreturn, 1) := by decide +kernel
theorem dX8_valueOf_259 : decode cX8_valueOf 259 = .ok (.aload_n 0, 1) := by decide +kernel
theorem dX8_valueOf_260 : decode cX8_valueOf 260 = .ok (.getfield 72, 3) := by decide +kernel
theorem dX8_valueOf_263 : decode cX8_valueOf 263 = .ok (.iload_n 1, 1) := by decide +kernel
theorem dX8_valueOf_264 : decode cX8_valueOf 264 = .ok (.iaload, 1) := by decide +kernel
theorem dX8_valueOf_265 : decode cX8_valueOf 265 = .ok (.lload_n 2, 1) := by decide +kernel
theorem dX8_valueOf_266 : decode cX8_valueOf 266 = .ok (.lload 4, 2) := by decide +kernel
theorem dX8_valueOf_268 : decode cX8_valueOf 268 = .ok (.invokestatic 362, 3) := by decide +kernel
theorem dX8_valueOf_271 : decode cX8_valueOf 271 = .ok (.ifCond .eq 7, 3) := by decide +kernel
theorem dX8_valueOf_274 : decode cX8_valueOf 274 = .ok (.lconst 1, 1) := by decide +kernel
theorem dX8_valueOf_275 : decode cX8_valueOf 275 = .ok (.goto 4, 3) := by decide +kernel
theorem dX8_valueOf_278 : decode cX8_valueOf 278 = .ok (.lconst 0, 1) := by decide +kernel
theorem dX8_valueOf_279 : decode cX8_valueOf 279 = .ok (.lreturn, 1) := by decide +kernel
theorem dX8_begin_0 : decode cX8_begin 0 = .ok (.aload_n 0, 1) := by decide +kernel
theorem dX8_begin_1 : decode cX8_begin 1 = .ok (.iconst 0, 1) := by decide +kernel
theorem dX8_begin_2 : decode cX8_begin 2 = .ok (.invokevirtual 366, 3) := by decide +kernel
theorem dX8_begin_5 : decode cX8_begin 5 = .ok (.aload_n 0, 1) := by decide +kernel
theorem dX8_begin_6 : decode cX8_begin 6 = .ok (.aload_n 0, 1) := by decide +kernel
theorem dX8_begin_7 : decode cX8_begin 7 = .ok (.getfield 24, 3) := by decide +kernel
theorem dX8_begin_10 : decode cX8_begin 10 = .ok (.iconst 2, 1) := by decide +kernel
theorem dX8_begin_11 : decode cX8_begin 11 = .ok (.iaload, 1) := by decide +kernel
theorem dX8_begin_12 : decode cX8_begin 12 = .ok (.i2l, 1) := by decide +kernel
theorem dX8_begin_13 : decode cX8_begin 13 = .ok (.putfield 369, 3) := by decide +kernel
theorem dX8_begin_16 : decode cX8_begin 16 = .ok (.aload_n 0, 1) := by decide +kernel
theorem dX8_begin_17 : decode cX8_begin 17 = .ok (.invokevirtual 373, 3) := by decide +kernel
theorem dX8_begin_20 : decode cX8_begin 20 = .ok (.aload_n 0, 1) := by decide +kernel
theorem dX8_begin_21 : decode cX8_begin 21 = .ok (.iconst 0, 1) := by decide +kernel
theorem dX8_begin_22 : decode cX8_begin 22 = .ok (.putfield 376, 3) := by decide +kernel
theorem dX8_begin_25 : decode cX8_begin 25 = .ok (.aload_n 0, 1) := by decide +kernel
theorem dX8_begin_26 : decode cX8_begin 26 = .ok (.iconst (-1), 1) := by decide +kernel
theorem dX8_begin_27 : decode cX8_begin 27 = .ok (.putfield 145, 3) := by decide +kernel
theorem dX8_begin_30 : decode cX8_begin 30 = .ok (.aload_n 0, 1) := by decide +kernel
theorem dX8_begin_31 : decode cX8_begin 31 = .ok (.iconst 0, 1) := by decide +kernel
theorem dX8_begin_32 : decode cX8_begin 32 = .ok (.putfield 379, 3) := by decide +kernel
theorem dX8_begin_35 : decode cX8_begin 35 = .ok (.aload_n 0, 1) := by decide +kernel
theorem dX8_begin_36 : decode cX8_begin 36 = .ok (.iconst 0, 1) := by decide +kernel
theorem dX8_begin_37 : decode cX8_begin 37 = .ok (.putfield 382, 3) := by decide +kernel
theorem dX8_begin_40 : decode cX8_begin 40 = .ok (.return_, 1) := by decide +kernel
theorem dX8_atFirst_0 : decode cX8_atFirst 0 = .ok (.iconst 0, 1) := by decide +kernel
theorem dX8_atFirst_1 : decode cX8_atFirst 1 = .ok (.istore_n 2, 1) := by decide +kernel
theorem dX8_atFirst_2 : decode cX8_atFirst 2 = .ok (.iload_n 2, 1) := by decide +kernel
theorem dX8_atFirst_3 : decode cX8_atFirst 3 = .ok (.bipush 10, 2) := by decide +kernel
theorem dX8_atFirst_5 : decode cX8_atFirst 5 = .ok (.if_icmp .ge 33, 3) := by decide +kernel
theorem dX8_atFirst_8 : decode cX8_atFirst 8 = .ok (.aload_n 0, 1) := by decide +kernel
theorem dX8_atFirst_9 : decode cX8_atFirst 9 = .ok (.getfield 94, 3) := by decide +kernel
theorem dX8_atFirst_12 : decode cX8_atFirst 12 = .ok (.bipush 10, 2) := by decide +kernel
theorem dX8_atFirst_14 : decode cX8_atFirst 14 = .ok (.iload_n 1, 1) := by decide +kernel
theorem dX8_atFirst_15 : decode cX8_atFirst 15 = .ok (.imul, 1) := by decide +kernel
theorem dX8_atFirst_16 : decode cX8_atFirst 16 = .ok (.iload_n 2, 1) := by decide +kernel
theorem dX8_atFirst_17 : decode cX8_atFirst 17 = .ok (.iadd, 1) := by decide +kernel
theorem dX8_atFirst_18 : decode cX8_atFirst 18 = .ok (.iconst 0, 1) := by decide +kernel
theorem dX8_atFirst_19 : decode cX8_atFirst 19 = .ok (.iastore, 1) := by decide +kernel
theorem dX8_atFirst_20 : decode cX8_atFirst 20 = .ok (.aload_n 0, 1) := by decide +kernel
theorem dX8_atFirst_21 : decode cX8_atFirst 21 = .ok (.getfield 97, 3) := by decide +kernel
theorem dX8_atFirst_24 : decode cX8_atFirst 24 = .ok (.bipush 10, 2) := by decide +kernel
theorem dX8_atFirst_26 : decode cX8_atFirst 26 = .ok (.iload_n 1, 1) := by decide +kernel
theorem dX8_atFirst_27 : decode cX8_atFirst 27 = .ok (.imul, 1) := by decide +kernel
theorem dX8_atFirst_28 : decode cX8_atFirst 28 = .ok (.iload_n 2, 1) := by decide +kernel
theorem dX8_atFirst_29 : decode cX8_atFirst 29 = .ok (.iadd, 1) := by decide +kernel
theorem dX8_atFirst_30 : decode cX8_atFirst 30 = .ok (.iconst (-1), 1) := by decide +kernel
theorem dX8_atFirst_31 : decode cX8_atFirst 31 = .ok (.iastore, 1) := by decide +kernel
theorem dX8_atFirst_32 : decode cX8_atFirst 32 = .ok (.iinc 2 1, 3) := by decide +kernel
theorem dX8_atFirst_35 : decode cX8_atFirst 35 = .ok (.goto (-33), 3) := by decide +kernel
theorem dX8_atFirst_38 : decode cX8_atFirst 38 = .ok (.iconst 0, 1) := by decide +kernel
theorem dX8_atFirst_39 : decode cX8_atFirst 39 = .ok (.istore_n 2, 1) := by decide +kernel
theorem dX8_atFirst_40 : decode cX8_atFirst 40 = .ok (.iload_n 2, 1) := by decide +kernel
theorem dX8_atFirst_41 : decode cX8_atFirst 41 = .ok (.iconst 5, 1) := by decide +kernel
theorem dX8_atFirst_42 : decode cX8_atFirst 42 = .ok (.if_icmp .ge 20, 3) := by decide +kernel
theorem dX8_atFirst_45 : decode cX8_atFirst 45 = .ok (.aload_n 0, 1) := by decide +kernel
theorem dX8_atFirst_46 : decode cX8_atFirst 46 = .ok (.getfield 103, 3) := by decide +kernel
theorem dX8_atFirst_49 : decode cX8_atFirst 49 = .ok (.iconst 5, 1) := by decide +kernel
theorem dX8_atFirst_50 : decode cX8_atFirst 50 = .ok (.iload_n 1, 1) := by decide +kernel
theorem dX8_atFirst_51 : decode cX8_atFirst 51 = .ok (.imul, 1) := by decide +kernel
theorem dX8_atFirst_52 : decode cX8_atFirst 52 = .ok (.iload_n 2, 1) := by decide +kernel
theorem dX8_atFirst_53 : decode cX8_atFirst 53 = .ok (.iadd, 1) := by decide +kernel
theorem dX8_atFirst_54 : decode cX8_atFirst 54 = .ok (.iconst 0, 1) := by decide +kernel
theorem dX8_atFirst_55 : decode cX8_atFirst 55 = .ok (.iastore, 1) := by decide +kernel
theorem dX8_atFirst_56 : decode cX8_atFirst 56 = .ok (.iinc 2 1, 3) := by decide +kernel
theorem dX8_atFirst_59 : decode cX8_atFirst 59 = .ok (.goto (-19), 3) := by decide +kernel
theorem dX8_atFirst_62 : decode cX8_atFirst 62 = .ok (.iconst 0, 1) := by decide +kernel
theorem dX8_atFirst_63 : decode cX8_atFirst 63 = .ok (.istore_n 2, 1) := by decide +kernel
theorem dX8_atFirst_64 : decode cX8_atFirst 64 = .ok (.iload_n 2, 1) := by decide +kernel
theorem dX8_atFirst_65 : decode cX8_atFirst 65 = .ok (.bipush 6, 2) := by decide +kernel
theorem dX8_atFirst_67 : decode cX8_atFirst 67 = .ok (.if_icmp .ge 67, 3) := by decide +kernel
theorem dX8_atFirst_70 : decode cX8_atFirst 70 = .ok (.aload_n 0, 1) := by decide +kernel
theorem dX8_atFirst_71 : decode cX8_atFirst 71 = .ok (.getfield 106, 3) := by decide +kernel
theorem dX8_atFirst_74 : decode cX8_atFirst 74 = .ok (.bipush 6, 2) := by decide +kernel
theorem dX8_atFirst_76 : decode cX8_atFirst 76 = .ok (.iload_n 1, 1) := by decide +kernel
theorem dX8_atFirst_77 : decode cX8_atFirst 77 = .ok (.imul, 1) := by decide +kernel
theorem dX8_atFirst_78 : decode cX8_atFirst 78 = .ok (.iload_n 2, 1) := by decide +kernel
theorem dX8_atFirst_79 : decode cX8_atFirst 79 = .ok (.iadd, 1) := by decide +kernel
theorem dX8_atFirst_80 : decode cX8_atFirst 80 = .ok (.aload_n 0, 1) := by decide +kernel
theorem dX8_atFirst_81 : decode cX8_atFirst 81 = .ok (.getfield 36, 3) := by decide +kernel
theorem dX8_atFirst_84 : decode cX8_atFirst 84 = .ok (.iload_n 2, 1) := by decide +kernel
theorem dX8_atFirst_85 : decode cX8_atFirst 85 = .ok (.iaload, 1) := by decide +kernel
theorem dX8_atFirst_86 : decode cX8_atFirst 86 = .ok (.iastore, 1) := by decide +kernel
theorem dX8_atFirst_87 : decode cX8_atFirst 87 = .ok (.aload_n 0, 1) := by decide +kernel
theorem dX8_atFirst_88 : decode cX8_atFirst 88 = .ok (.getfield 109, 3) := by decide +kernel
theorem dX8_atFirst_91 : decode cX8_atFirst 91 = .ok (.bipush 6, 2) := by decide +kernel
theorem dX8_atFirst_93 : decode cX8_atFirst 93 = .ok (.iload_n 1, 1) := by decide +kernel
theorem dX8_atFirst_94 : decode cX8_atFirst 94 = .ok (.imul, 1) := by decide +kernel
theorem dX8_atFirst_95 : decode cX8_atFirst 95 = .ok (.iload_n 2, 1) := by decide +kernel
theorem dX8_atFirst_96 : decode cX8_atFirst 96 = .ok (.iadd, 1) := by decide +kernel
theorem dX8_atFirst_97 : decode cX8_atFirst 97 = .ok (.aload_n 0, 1) := by decide +kernel
theorem dX8_atFirst_98 : decode cX8_atFirst 98 = .ok (.getfield 42, 3) := by decide +kernel
theorem dX8_atFirst_101 : decode cX8_atFirst 101 = .ok (.iload_n 2, 1) := by decide +kernel
theorem dX8_atFirst_102 : decode cX8_atFirst 102 = .ok (.iaload, 1) := by decide +kernel
theorem dX8_atFirst_103 : decode cX8_atFirst 103 = .ok (.iastore, 1) := by decide +kernel
theorem dX8_atFirst_104 : decode cX8_atFirst 104 = .ok (.aload_n 0, 1) := by decide +kernel
theorem dX8_atFirst_105 : decode cX8_atFirst 105 = .ok (.getfield 112, 3) := by decide +kernel
theorem dX8_atFirst_108 : decode cX8_atFirst 108 = .ok (.bipush 6, 2) := by decide +kernel
theorem dX8_atFirst_110 : decode cX8_atFirst 110 = .ok (.iload_n 1, 1) := by decide +kernel
theorem dX8_atFirst_111 : decode cX8_atFirst 111 = .ok (.imul, 1) := by decide +kernel
theorem dX8_atFirst_112 : decode cX8_atFirst 112 = .ok (.iload_n 2, 1) := by decide +kernel
theorem dX8_atFirst_113 : decode cX8_atFirst 113 = .ok (.iadd, 1) := by decide +kernel
theorem dX8_atFirst_114 : decode cX8_atFirst 114 = .ok (.iconst 0, 1) := by decide +kernel
theorem dX8_atFirst_115 : decode cX8_atFirst 115 = .ok (.iastore, 1) := by decide +kernel
theorem dX8_atFirst_116 : decode cX8_atFirst 116 = .ok (.aload_n 0, 1) := by decide +kernel
theorem dX8_atFirst_117 : decode cX8_atFirst 117 = .ok (.getfield 115, 3) := by decide +kernel
theorem dX8_atFirst_120 : decode cX8_atFirst 120 = .ok (.bipush 6, 2) := by decide +kernel
theorem dX8_atFirst_122 : decode cX8_atFirst 122 = .ok (.iload_n 1, 1) := by decide +kernel
theorem dX8_atFirst_123 : decode cX8_atFirst 123 = .ok (.imul, 1) := by decide +kernel
theorem dX8_atFirst_124 : decode cX8_atFirst 124 = .ok (.iload_n 2, 1) := by decide +kernel
theorem dX8_atFirst_125 : decode cX8_atFirst 125 = .ok (.iadd, 1) := by decide +kernel
theorem dX8_atFirst_126 : decode cX8_atFirst 126 = .ok (.iconst 0, 1) := by decide +kernel
theorem dX8_atFirst_127 : decode cX8_atFirst 127 = .ok (.iastore, 1) := by decide +kernel
theorem dX8_atFirst_128 : decode cX8_atFirst 128 = .ok (.iinc 2 1, 3) := by decide +kernel
theorem dX8_atFirst_131 : decode cX8_atFirst 131 = .ok (.goto (-67), 3) := by decide +kernel
theorem dX8_atFirst_134 : decode cX8_atFirst 134 = .ok (.aload_n 0, 1) := by decide +kernel
theorem dX8_atFirst_135 : decode cX8_atFirst 135 = .ok (.getfield 118, 3) := by decide +kernel
theorem dX8_atFirst_138 : decode cX8_atFirst 138 = .ok (.iload_n 1, 1) := by decide +kernel
theorem dX8_atFirst_139 : decode cX8_atFirst 139 = .ok (.iconst 0, 1) := by decide +kernel
theorem dX8_atFirst_140 : decode cX8_atFirst 140 = .ok (.iastore, 1) := by decide +kernel
theorem dX8_atFirst_141 : decode cX8_atFirst 141 = .ok (.aload_n 0, 1) := by decide +kernel
theorem dX8_atFirst_142 : decode cX8_atFirst 142 = .ok (.getfield 121, 3) := by decide +kernel
theorem dX8_atFirst_145 : decode cX8_atFirst 145 = .ok (.iload_n 1, 1) := by decide +kernel
theorem dX8_atFirst_146 : decode cX8_atFirst 146 = .ok (.iconst 0, 1) := by decide +kernel
theorem dX8_atFirst_147 : decode cX8_atFirst 147 = .ok (.iastore, 1) := by decide +kernel
theorem dX8_atFirst_148 : decode cX8_atFirst 148 = .ok (.aload_n 0, 1) := by decide +kernel
theorem dX8_atFirst_149 : decode cX8_atFirst 149 = .ok (.getfield 124, 3) := by decide +kernel
theorem dX8_atFirst_152 : decode cX8_atFirst 152 = .ok (.iload_n 1, 1) := by decide +kernel
theorem dX8_atFirst_153 : decode cX8_atFirst 153 = .ok (.iconst 0, 1) := by decide +kernel
theorem dX8_atFirst_154 : decode cX8_atFirst 154 = .ok (.iastore, 1) := by decide +kernel
theorem dX8_atFirst_155 : decode cX8_atFirst 155 = .ok (.return_, 1) := by decide +kernel
theorem dX8_plainTried_0 : decode cX8_plainTried 0 = .ok (.aload_n 0, 1) := by decide +kernel
theorem dX8_plainTried_1 : decode cX8_plainTried 1 = .ok (.aload_n 0, 1) := by decide +kernel
theorem dX8_plainTried_2 : decode cX8_plainTried 2 = .ok (.getfield 24, 3) := by decide +kernel
theorem dX8_plainTried_5 : decode cX8_plainTried 5 = .ok (.iconst 0, 1) := by decide +kernel
theorem dX8_plainTried_6 : decode cX8_plainTried 6 = .ok (.iaload, 1) := by decide +kernel
theorem dX8_plainTried_7 : decode cX8_plainTried 7 = .ok (.putfield 385, 3) := by decide +kernel
theorem dX8_plainTried_10 : decode cX8_plainTried 10 = .ok (.aload_n 0, 1) := by decide +kernel
theorem dX8_plainTried_11 : decode cX8_plainTried 11 = .ok (.iconst 0, 1) := by decide +kernel
theorem dX8_plainTried_12 : decode cX8_plainTried 12 = .ok (.putfield 388, 3) := by decide +kernel
theorem dX8_plainTried_15 : decode cX8_plainTried 15 = .ok (.aload_n 0, 1) := by decide +kernel
theorem dX8_plainTried_16 : decode cX8_plainTried 16 = .ok (.iconst 0, 1) := by decide +kernel
theorem dX8_plainTried_17 : decode cX8_plainTried 17 = .ok (.putfield 391, 3) := by decide +kernel
theorem dX8_plainTried_20 : decode cX8_plainTried 20 = .ok (.aload_n 0, 1) := by decide +kernel
theorem dX8_plainTried_21 : decode cX8_plainTried 21 = .ok (.iconst 0, 1) := by decide +kernel
theorem dX8_plainTried_22 : decode cX8_plainTried 22 = .ok (.putfield 394, 3) := by decide +kernel
theorem dX8_plainTried_25 : decode cX8_plainTried 25 = .ok (.aload_n 0, 1) := by decide +kernel
theorem dX8_plainTried_26 : decode cX8_plainTried 26 = .ok (.iconst 0, 1) := by decide +kernel
theorem dX8_plainTried_27 : decode cX8_plainTried 27 = .ok (.putfield 397, 3) := by decide +kernel
theorem dX8_plainTried_30 : decode cX8_plainTried 30 = .ok (.aload_n 0, 1) := by decide +kernel
theorem dX8_plainTried_31 : decode cX8_plainTried 31 = .ok (.iconst 0, 1) := by decide +kernel
theorem dX8_plainTried_32 : decode cX8_plainTried 32 = .ok (.putfield 400, 3) := by decide +kernel
theorem dX8_plainTried_35 : decode cX8_plainTried 35 = .ok (.aload_n 0, 1) := by decide +kernel
theorem dX8_plainTried_36 : decode cX8_plainTried 36 = .ok (.iconst 0, 1) := by decide +kernel
theorem dX8_plainTried_37 : decode cX8_plainTried 37 = .ok (.putfield 403, 3) := by decide +kernel
theorem dX8_plainTried_40 : decode cX8_plainTried 40 = .ok (.iconst 0, 1) := by decide +kernel
theorem dX8_plainTried_41 : decode cX8_plainTried 41 = .ok (.istore_n 1, 1) := by decide +kernel
theorem dX8_plainTried_42 : decode cX8_plainTried 42 = .ok (.iload_n 1, 1) := by decide +kernel
theorem dX8_plainTried_43 : decode cX8_plainTried 43 = .ok (.bipush 10, 2) := by decide +kernel
theorem dX8_plainTried_45 : decode cX8_plainTried 45 = .ok (.if_icmp .ge 16, 3) := by decide +kernel
theorem dX8_plainTried_48 : decode cX8_plainTried 48 = .ok (.aload_n 0, 1) := by decide +kernel
theorem dX8_plainTried_49 : decode cX8_plainTried 49 = .ok (.getfield 127, 3) := by decide +kernel
theorem dX8_plainTried_52 : decode cX8_plainTried 52 = .ok (.iload_n 1, 1) := by decide +kernel
theorem dX8_plainTried_53 : decode cX8_plainTried 53 = .ok (.iconst (-1), 1) := by decide +kernel
theorem dX8_plainTried_54 : decode cX8_plainTried 54 = .ok (.iastore, 1) := by decide +kernel
theorem dX8_plainTried_55 : decode cX8_plainTried 55 = .ok (.iinc 1 1, 3) := by decide +kernel
theorem dX8_plainTried_58 : decode cX8_plainTried 58 = .ok (.goto (-16), 3) := by decide +kernel
theorem dX8_plainTried_61 : decode cX8_plainTried 61 = .ok (.return_, 1) := by decide +kernel
theorem dX8_layTried_0 : decode cX8_layTried 0 = .ok (.iconst 0, 1) := by decide +kernel
theorem dX8_layTried_1 : decode cX8_layTried 1 = .ok (.istore_n 1, 1) := by decide +kernel
theorem dX8_layTried_2 : decode cX8_layTried 2 = .ok (.iload_n 1, 1) := by decide +kernel
theorem dX8_layTried_3 : decode cX8_layTried 3 = .ok (.bipush 10, 2) := by decide +kernel
theorem dX8_layTried_5 : decode cX8_layTried 5 = .ok (.if_icmp .ge 39, 3) := by decide +kernel
theorem dX8_layTried_8 : decode cX8_layTried 8 = .ok (.aload_n 0, 1) := by decide +kernel
theorem dX8_layTried_9 : decode cX8_layTried 9 = .ok (.getfield 94, 3) := by decide +kernel
theorem dX8_layTried_12 : decode cX8_layTried 12 = .ok (.bipush 10, 2) := by decide +kernel
theorem dX8_layTried_14 : decode cX8_layTried 14 = .ok (.iload_n 1, 1) := by decide +kernel
theorem dX8_layTried_15 : decode cX8_layTried 15 = .ok (.iadd, 1) := by decide +kernel
theorem dX8_layTried_16 : decode cX8_layTried 16 = .ok (.aload_n 0, 1) := by decide +kernel
theorem dX8_layTried_17 : decode cX8_layTried 17 = .ok (.getfield 94, 3) := by decide +kernel
theorem dX8_layTried_20 : decode cX8_layTried 20 = .ok (.iload_n 1, 1) := by decide +kernel
theorem dX8_layTried_21 : decode cX8_layTried 21 = .ok (.iaload, 1) := by decide +kernel
theorem dX8_layTried_22 : decode cX8_layTried 22 = .ok (.iastore, 1) := by decide +kernel
theorem dX8_layTried_23 : decode cX8_layTried 23 = .ok (.aload_n 0, 1) := by decide +kernel
theorem dX8_layTried_24 : decode cX8_layTried 24 = .ok (.getfield 97, 3) := by decide +kernel
theorem dX8_layTried_27 : decode cX8_layTried 27 = .ok (.bipush 10, 2) := by decide +kernel
theorem dX8_layTried_29 : decode cX8_layTried 29 = .ok (.iload_n 1, 1) := by decide +kernel
theorem dX8_layTried_30 : decode cX8_layTried 30 = .ok (.iadd, 1) := by decide +kernel
theorem dX8_layTried_31 : decode cX8_layTried 31 = .ok (.aload_n 0, 1) := by decide +kernel
theorem dX8_layTried_32 : decode cX8_layTried 32 = .ok (.getfield 97, 3) := by decide +kernel
theorem dX8_layTried_35 : decode cX8_layTried 35 = .ok (.iload_n 1, 1) := by decide +kernel
theorem dX8_layTried_36 : decode cX8_layTried 36 = .ok (.iaload, 1) := by decide +kernel
theorem dX8_layTried_37 : decode cX8_layTried 37 = .ok (.iastore, 1) := by decide +kernel
theorem dX8_layTried_38 : decode cX8_layTried 38 = .ok (.iinc 1 1, 3) := by decide +kernel
theorem dX8_layTried_41 : decode cX8_layTried 41 = .ok (.goto (-39), 3) := by decide +kernel
theorem dX8_layTried_44 : decode cX8_layTried 44 = .ok (.iconst 0, 1) := by decide +kernel
theorem dX8_layTried_45 : decode cX8_layTried 45 = .ok (.istore_n 1, 1) := by decide +kernel
theorem dX8_layTried_46 : decode cX8_layTried 46 = .ok (.iload_n 1, 1) := by decide +kernel
theorem dX8_layTried_47 : decode cX8_layTried 47 = .ok (.bipush 50, 2) := by decide +kernel
theorem dX8_layTried_49 : decode cX8_layTried 49 = .ok (.if_icmp .ge 24, 3) := by decide +kernel
theorem dX8_layTried_52 : decode cX8_layTried 52 = .ok (.aload_n 0, 1) := by decide +kernel
theorem dX8_layTried_53 : decode cX8_layTried 53 = .ok (.getfield 100, 3) := by decide +kernel
theorem dX8_layTried_56 : decode cX8_layTried 56 = .ok (.bipush 50, 2) := by decide +kernel
theorem dX8_layTried_58 : decode cX8_layTried 58 = .ok (.iload_n 1, 1) := by decide +kernel
theorem dX8_layTried_59 : decode cX8_layTried 59 = .ok (.iadd, 1) := by decide +kernel
theorem dX8_layTried_60 : decode cX8_layTried 60 = .ok (.aload_n 0, 1) := by decide +kernel
theorem dX8_layTried_61 : decode cX8_layTried 61 = .ok (.getfield 100, 3) := by decide +kernel
theorem dX8_layTried_64 : decode cX8_layTried 64 = .ok (.iload_n 1, 1) := by decide +kernel
theorem dX8_layTried_65 : decode cX8_layTried 65 = .ok (.iaload, 1) := by decide +kernel
theorem dX8_layTried_66 : decode cX8_layTried 66 = .ok (.iastore, 1) := by decide +kernel
theorem dX8_layTried_67 : decode cX8_layTried 67 = .ok (.iinc 1 1, 3) := by decide +kernel
theorem dX8_layTried_70 : decode cX8_layTried 70 = .ok (.goto (-24), 3) := by decide +kernel
theorem dX8_layTried_73 : decode cX8_layTried 73 = .ok (.iconst 0, 1) := by decide +kernel
theorem dX8_layTried_74 : decode cX8_layTried 74 = .ok (.istore_n 1, 1) := by decide +kernel
theorem dX8_layTried_75 : decode cX8_layTried 75 = .ok (.iload_n 1, 1) := by decide +kernel
theorem dX8_layTried_76 : decode cX8_layTried 76 = .ok (.iconst 5, 1) := by decide +kernel
theorem dX8_layTried_77 : decode cX8_layTried 77 = .ok (.if_icmp .ge 23, 3) := by decide +kernel
theorem dX8_layTried_80 : decode cX8_layTried 80 = .ok (.aload_n 0, 1) := by decide +kernel
theorem dX8_layTried_81 : decode cX8_layTried 81 = .ok (.getfield 103, 3) := by decide +kernel
theorem dX8_layTried_84 : decode cX8_layTried 84 = .ok (.iconst 5, 1) := by decide +kernel
theorem dX8_layTried_85 : decode cX8_layTried 85 = .ok (.iload_n 1, 1) := by decide +kernel
theorem dX8_layTried_86 : decode cX8_layTried 86 = .ok (.iadd, 1) := by decide +kernel
theorem dX8_layTried_87 : decode cX8_layTried 87 = .ok (.aload_n 0, 1) := by decide +kernel
theorem dX8_layTried_88 : decode cX8_layTried 88 = .ok (.getfield 103, 3) := by decide +kernel
theorem dX8_layTried_91 : decode cX8_layTried 91 = .ok (.iload_n 1, 1) := by decide +kernel
theorem dX8_layTried_92 : decode cX8_layTried 92 = .ok (.iaload, 1) := by decide +kernel
theorem dX8_layTried_93 : decode cX8_layTried 93 = .ok (.iastore, 1) := by decide +kernel
theorem dX8_layTried_94 : decode cX8_layTried 94 = .ok (.iinc 1 1, 3) := by decide +kernel
theorem dX8_layTried_97 : decode cX8_layTried 97 = .ok (.goto (-22), 3) := by decide +kernel
theorem dX8_layTried_100 : decode cX8_layTried 100 = .ok (.iconst 0, 1) := by decide +kernel
theorem dX8_layTried_101 : decode cX8_layTried 101 = .ok (.istore_n 1, 1) := by decide +kernel
theorem dX8_layTried_102 : decode cX8_layTried 102 = .ok (.iload_n 1, 1) := by decide +kernel
theorem dX8_layTried_103 : decode cX8_layTried 103 = .ok (.bipush 6, 2) := by decide +kernel
theorem dX8_layTried_105 : decode cX8_layTried 105 = .ok (.if_icmp .ge 69, 3) := by decide +kernel
theorem dX8_layTried_108 : decode cX8_layTried 108 = .ok (.aload_n 0, 1) := by decide +kernel
theorem dX8_layTried_109 : decode cX8_layTried 109 = .ok (.getfield 106, 3) := by decide +kernel
theorem dX8_layTried_112 : decode cX8_layTried 112 = .ok (.bipush 6, 2) := by decide +kernel
theorem dX8_layTried_114 : decode cX8_layTried 114 = .ok (.iload_n 1, 1) := by decide +kernel
theorem dX8_layTried_115 : decode cX8_layTried 115 = .ok (.iadd, 1) := by decide +kernel
theorem dX8_layTried_116 : decode cX8_layTried 116 = .ok (.aload_n 0, 1) := by decide +kernel
theorem dX8_layTried_117 : decode cX8_layTried 117 = .ok (.getfield 106, 3) := by decide +kernel
theorem dX8_layTried_120 : decode cX8_layTried 120 = .ok (.iload_n 1, 1) := by decide +kernel
theorem dX8_layTried_121 : decode cX8_layTried 121 = .ok (.iaload, 1) := by decide +kernel
theorem dX8_layTried_122 : decode cX8_layTried 122 = .ok (.iastore, 1) := by decide +kernel
theorem dX8_layTried_123 : decode cX8_layTried 123 = .ok (.aload_n 0, 1) := by decide +kernel
theorem dX8_layTried_124 : decode cX8_layTried 124 = .ok (.getfield 109, 3) := by decide +kernel
theorem dX8_layTried_127 : decode cX8_layTried 127 = .ok (.bipush 6, 2) := by decide +kernel
theorem dX8_layTried_129 : decode cX8_layTried 129 = .ok (.iload_n 1, 1) := by decide +kernel
theorem dX8_layTried_130 : decode cX8_layTried 130 = .ok (.iadd, 1) := by decide +kernel
theorem dX8_layTried_131 : decode cX8_layTried 131 = .ok (.aload_n 0, 1) := by decide +kernel
theorem dX8_layTried_132 : decode cX8_layTried 132 = .ok (.getfield 109, 3) := by decide +kernel
theorem dX8_layTried_135 : decode cX8_layTried 135 = .ok (.iload_n 1, 1) := by decide +kernel
theorem dX8_layTried_136 : decode cX8_layTried 136 = .ok (.iaload, 1) := by decide +kernel
theorem dX8_layTried_137 : decode cX8_layTried 137 = .ok (.iastore, 1) := by decide +kernel
theorem dX8_layTried_138 : decode cX8_layTried 138 = .ok (.aload_n 0, 1) := by decide +kernel
theorem dX8_layTried_139 : decode cX8_layTried 139 = .ok (.getfield 112, 3) := by decide +kernel
theorem dX8_layTried_142 : decode cX8_layTried 142 = .ok (.bipush 6, 2) := by decide +kernel
theorem dX8_layTried_144 : decode cX8_layTried 144 = .ok (.iload_n 1, 1) := by decide +kernel
theorem dX8_layTried_145 : decode cX8_layTried 145 = .ok (.iadd, 1) := by decide +kernel
theorem dX8_layTried_146 : decode cX8_layTried 146 = .ok (.aload_n 0, 1) := by decide +kernel
theorem dX8_layTried_147 : decode cX8_layTried 147 = .ok (.getfield 112, 3) := by decide +kernel
theorem dX8_layTried_150 : decode cX8_layTried 150 = .ok (.iload_n 1, 1) := by decide +kernel
theorem dX8_layTried_151 : decode cX8_layTried 151 = .ok (.iaload, 1) := by decide +kernel
theorem dX8_layTried_152 : decode cX8_layTried 152 = .ok (.iastore, 1) := by decide +kernel
theorem dX8_layTried_153 : decode cX8_layTried 153 = .ok (.aload_n 0, 1) := by decide +kernel
theorem dX8_layTried_154 : decode cX8_layTried 154 = .ok (.getfield 115, 3) := by decide +kernel
theorem dX8_layTried_157 : decode cX8_layTried 157 = .ok (.bipush 6, 2) := by decide +kernel
theorem dX8_layTried_159 : decode cX8_layTried 159 = .ok (.iload_n 1, 1) := by decide +kernel
theorem dX8_layTried_160 : decode cX8_layTried 160 = .ok (.iadd, 1) := by decide +kernel
theorem dX8_layTried_161 : decode cX8_layTried 161 = .ok (.aload_n 0, 1) := by decide +kernel
theorem dX8_layTried_162 : decode cX8_layTried 162 = .ok (.getfield 115, 3) := by decide +kernel
theorem dX8_layTried_165 : decode cX8_layTried 165 = .ok (.iload_n 1, 1) := by decide +kernel
theorem dX8_layTried_166 : decode cX8_layTried 166 = .ok (.iaload, 1) := by decide +kernel
theorem dX8_layTried_167 : decode cX8_layTried 167 = .ok (.iastore, 1) := by decide +kernel
theorem dX8_layTried_168 : decode cX8_layTried 168 = .ok (.iinc 1 1, 3) := by decide +kernel
theorem dX8_layTried_171 : decode cX8_layTried 171 = .ok (.goto (-69), 3) := by decide +kernel
theorem dX8_layTried_174 : decode cX8_layTried 174 = .ok (.aload_n 0, 1) := by decide +kernel
theorem dX8_layTried_175 : decode cX8_layTried 175 = .ok (.getfield 118, 3) := by decide +kernel
theorem dX8_layTried_178 : decode cX8_layTried 178 = .ok (.iconst 1, 1) := by decide +kernel
theorem dX8_layTried_179 : decode cX8_layTried 179 = .ok (.aload_n 0, 1) := by decide +kernel
theorem dX8_layTried_180 : decode cX8_layTried 180 = .ok (.getfield 118, 3) := by decide +kernel
theorem dX8_layTried_183 : decode cX8_layTried 183 = .ok (.iconst 0, 1) := by decide +kernel
theorem dX8_layTried_184 : decode cX8_layTried 184 = .ok (.iaload, 1) := by decide +kernel
theorem dX8_layTried_185 : decode cX8_layTried 185 = .ok (.iastore, 1) := by decide +kernel
theorem dX8_layTried_186 : decode cX8_layTried 186 = .ok (.aload_n 0, 1) := by decide +kernel
theorem dX8_layTried_187 : decode cX8_layTried 187 = .ok (.getfield 121, 3) := by decide +kernel
theorem dX8_layTried_190 : decode cX8_layTried 190 = .ok (.iconst 1, 1) := by decide +kernel
theorem dX8_layTried_191 : decode cX8_layTried 191 = .ok (.aload_n 0, 1) := by decide +kernel
theorem dX8_layTried_192 : decode cX8_layTried 192 = .ok (.getfield 121, 3) := by decide +kernel
theorem dX8_layTried_195 : decode cX8_layTried 195 = .ok (.iconst 0, 1) := by decide +kernel
theorem dX8_layTried_196 : decode cX8_layTried 196 = .ok (.iaload, 1) := by decide +kernel
theorem dX8_layTried_197 : decode cX8_layTried 197 = .ok (.iastore, 1) := by decide +kernel
theorem dX8_layTried_198 : decode cX8_layTried 198 = .ok (.aload_n 0, 1) := by decide +kernel
theorem dX8_layTried_199 : decode cX8_layTried 199 = .ok (.getfield 124, 3) := by decide +kernel
theorem dX8_layTried_202 : decode cX8_layTried 202 = .ok (.iconst 1, 1) := by decide +kernel
theorem dX8_layTried_203 : decode cX8_layTried 203 = .ok (.iconst 0, 1) := by decide +kernel
theorem dX8_layTried_204 : decode cX8_layTried 204 = .ok (.iastore, 1) := by decide +kernel
theorem dX8_layTried_205 : decode cX8_layTried 205 = .ok (.aload_n 0, 1) := by decide +kernel
theorem dX8_layTried_206 : decode cX8_layTried 206 = .ok (.invokevirtual 373, 3) := by decide +kernel
theorem dX8_layTried_209 : decode cX8_layTried 209 = .ok (.return_, 1) := by decide +kernel
theorem dX8_isPlace_0 : decode cX8_isPlace 0 = .ok (.iload_n 1, 1) := by decide +kernel
theorem dX8_isPlace_1 : decode cX8_isPlace 1 = .ok (.ifCond .lt 15, 3) := by decide +kernel
theorem dX8_isPlace_4 : decode cX8_isPlace 4 = .ok (.iload_n 1, 1) := by decide +kernel
theorem dX8_isPlace_5 : decode cX8_isPlace 5 = .ok (.aload_n 0, 1) := by decide +kernel
theorem dX8_isPlace_6 : decode cX8_isPlace 6 = .ok (.getfield 252, 3) := by decide +kernel
theorem dX8_isPlace_9 : decode cX8_isPlace 9 = .ok (.if_icmp .ge 7, 3) := by decide +kernel
theorem dX8_isPlace_12 : decode cX8_isPlace 12 = .ok (.iconst 1, 1) := by decide +kernel
theorem dX8_isPlace_13 : decode cX8_isPlace 13 = .ok (.goto 4, 3) := by decide +kernel
theorem dX8_isPlace_16 : decode cX8_isPlace 16 = .ok (.iconst 0, 1) := by decide +kernel
theorem dX8_isPlace_17 : decode cX8_isPlace 17 = .ok (.ireturn, 1) := by decide +kernel
theorem dX8_isPerson_0 : decode cX8_isPerson 0 = .ok (.iload_n 1, 1) := by decide +kernel
theorem dX8_isPerson_1 : decode cX8_isPerson 1 = .ok (.ifCond .lt 15, 3) := by decide +kernel
theorem dX8_isPerson_4 : decode cX8_isPerson 4 = .ok (.iload_n 1, 1) := by decide +kernel
theorem dX8_isPerson_5 : decode cX8_isPerson 5 = .ok (.aload_n 0, 1) := by decide +kernel
theorem dX8_isPerson_6 : decode cX8_isPerson 6 = .ok (.getfield 255, 3) := by decide +kernel
theorem dX8_isPerson_9 : decode cX8_isPerson 9 = .ok (.if_icmp .ge 7, 3) := by decide +kernel
theorem dX8_isPerson_12 : decode cX8_isPerson 12 = .ok (.iconst 1, 1) := by decide +kernel
theorem dX8_isPerson_13 : decode cX8_isPerson 13 = .ok (.goto 4, 3) := by decide +kernel
theorem dX8_isPerson_16 : decode cX8_isPerson 16 = .ok (.iconst 0, 1) := by decide +kernel
theorem dX8_isPerson_17 : decode cX8_isPerson 17 = .ok (.ireturn, 1) := by decide +kernel
theorem dX8_isPiece_0 : decode cX8_isPiece 0 = .ok (.iload_n 1, 1) := by decide +kernel
theorem dX8_isPiece_1 : decode cX8_isPiece 1 = .ok (.ifCond .lt 15, 3) := by decide +kernel
theorem dX8_isPiece_4 : decode cX8_isPiece 4 = .ok (.iload_n 1, 1) := by decide +kernel
theorem dX8_isPiece_5 : decode cX8_isPiece 5 = .ok (.aload_n 0, 1) := by decide +kernel
theorem dX8_isPiece_6 : decode cX8_isPiece 6 = .ok (.getfield 258, 3) := by decide +kernel
theorem dX8_isPiece_9 : decode cX8_isPiece 9 = .ok (.if_icmp .ge 7, 3) := by decide +kernel
theorem dX8_isPiece_12 : decode cX8_isPiece 12 = .ok (.iconst 1, 1) := by decide +kernel
theorem dX8_isPiece_13 : decode cX8_isPiece 13 = .ok (.goto 4, 3) := by decide +kernel
theorem dX8_isPiece_16 : decode cX8_isPiece 16 = .ok (.iconst 0, 1) := by decide +kernel
theorem dX8_isPiece_17 : decode cX8_isPiece 17 = .ok (.ireturn, 1) := by decide +kernel
theorem dX8_stackAt_0 : decode cX8_stackAt 0 = .ok (.aload_n 0, 1) := by decide +kernel
theorem dX8_stackAt_1 : decode cX8_stackAt 1 = .ok (.getfield 100, 3) := by decide +kernel
theorem dX8_stackAt_4 : decode cX8_stackAt 4 = .ok (.bipush 50, 2) := by decide +kernel
theorem dX8_stackAt_6 : decode cX8_stackAt 6 = .ok (.iload_n 1, 1) := by decide +kernel
theorem dX8_stackAt_7 : decode cX8_stackAt 7 = .ok (.imul, 1) := by decide +kernel
theorem dX8_stackAt_8 : decode cX8_stackAt 8 = .ok (.bipush 10, 2) := by decide +kernel
theorem dX8_stackAt_10 : decode cX8_stackAt 10 = .ok (.iload_n 2, 1) := by decide +kernel
theorem dX8_stackAt_11 : decode cX8_stackAt 11 = .ok (.imul, 1) := by decide +kernel
theorem dX8_stackAt_12 : decode cX8_stackAt 12 = .ok (.iadd, 1) := by decide +kernel
theorem dX8_stackAt_13 : decode cX8_stackAt 13 = .ok (.iload_n 3, 1) := by decide +kernel
theorem dX8_stackAt_14 : decode cX8_stackAt 14 = .ok (.iadd, 1) := by decide +kernel
theorem dX8_stackAt_15 : decode cX8_stackAt 15 = .ok (.iaload, 1) := by decide +kernel
theorem dX8_stackAt_16 : decode cX8_stackAt 16 = .ok (.ireturn, 1) := by decide +kernel
theorem dX8_weightIn_0 : decode cX8_weightIn 0 = .ok (.iconst 0, 1) := by decide +kernel
theorem dX8_weightIn_1 : decode cX8_weightIn 1 = .ok (.istore_n 3, 1) := by decide +kernel
theorem dX8_weightIn_2 : decode cX8_weightIn 2 = .ok (.iconst 0, 1) := by decide +kernel
theorem dX8_weightIn_3 : decode cX8_weightIn 3 = .ok (.istore 4, 2) := by decide +kernel
theorem dX8_weightIn_5 : decode cX8_weightIn 5 = .ok (.iload 4, 2) := by decide +kernel
theorem dX8_weightIn_7 : decode cX8_weightIn 7 = .ok (.aload_n 0, 1) := by decide +kernel
theorem dX8_weightIn_8 : decode cX8_weightIn 8 = .ok (.getfield 103, 3) := by decide +kernel
theorem dX8_weightIn_11 : decode cX8_weightIn 11 = .ok (.iconst 5, 1) := by decide +kernel
theorem dX8_weightIn_12 : decode cX8_weightIn 12 = .ok (.iload_n 1, 1) := by decide +kernel
theorem dX8_weightIn_13 : decode cX8_weightIn 13 = .ok (.imul, 1) := by decide +kernel
theorem dX8_weightIn_14 : decode cX8_weightIn 14 = .ok (.iload_n 2, 1) := by decide +kernel
theorem dX8_weightIn_15 : decode cX8_weightIn 15 = .ok (.iadd, 1) := by decide +kernel
theorem dX8_weightIn_16 : decode cX8_weightIn 16 = .ok (.iaload, 1) := by decide +kernel
theorem dX8_weightIn_17 : decode cX8_weightIn 17 = .ok (.if_icmp .ge 25, 3) := by decide +kernel
theorem dX8_weightIn_20 : decode cX8_weightIn 20 = .ok (.iload_n 3, 1) := by decide +kernel
theorem dX8_weightIn_21 : decode cX8_weightIn 21 = .ok (.aload_n 0, 1) := by decide +kernel
theorem dX8_weightIn_22 : decode cX8_weightIn 22 = .ok (.getfield 48, 3) := by decide +kernel
theorem dX8_weightIn_25 : decode cX8_weightIn 25 = .ok (.aload_n 0, 1) := by decide +kernel
theorem dX8_weightIn_26 : decode cX8_weightIn 26 = .ok (.iload_n 1, 1) := by decide +kernel
theorem dX8_weightIn_27 : decode cX8_weightIn 27 = .ok (.iload_n 2, 1) := by decide +kernel
theorem dX8_weightIn_28 : decode cX8_weightIn 28 = .ok (.iload 4, 2) := by decide +kernel
theorem dX8_weightIn_30 : decode cX8_weightIn 30 = .ok (.invokevirtual 406, 3) := by decide +kernel
theorem dX8_weightIn_33 : decode cX8_weightIn 33 = .ok (.iaload, 1) := by decide +kernel
theorem dX8_weightIn_34 : decode cX8_weightIn 34 = .ok (.iadd, 1) := by decide +kernel
theorem dX8_weightIn_35 : decode cX8_weightIn 35 = .ok (.istore_n 3, 1) := by decide +kernel
theorem dX8_weightIn_36 : decode cX8_weightIn 36 = .ok (.iinc 4 1, 3) := by decide +kernel
theorem dX8_weightIn_39 : decode cX8_weightIn 39 = .ok (.goto (-34), 3) := by decide +kernel
theorem dX8_weightIn_42 : decode cX8_weightIn 42 = .ok (.iload_n 3, 1) := by decide +kernel
theorem dX8_weightIn_43 : decode cX8_weightIn 43 = .ok (.ireturn, 1) := by decide +kernel
theorem dX8_belowOf_0 : decode cX8_belowOf 0 = .ok (.iconst 0, 1) := by decide +kernel
theorem dX8_belowOf_1 : decode cX8_belowOf 1 = .ok (.istore_n 3, 1) := by decide +kernel
theorem dX8_belowOf_2 : decode cX8_belowOf 2 = .ok (.aload_n 0, 1) := by decide +kernel
theorem dX8_belowOf_3 : decode cX8_belowOf 3 = .ok (.iload_n 1, 1) := by decide +kernel
theorem dX8_belowOf_4 : decode cX8_belowOf 4 = .ok (.aload_n 0, 1) := by decide +kernel
theorem dX8_belowOf_5 : decode cX8_belowOf 5 = .ok (.getfield 97, 3) := by decide +kernel
theorem dX8_belowOf_8 : decode cX8_belowOf 8 = .ok (.bipush 10, 2) := by decide +kernel
theorem dX8_belowOf_10 : decode cX8_belowOf 10 = .ok (.iload_n 1, 1) := by decide +kernel
theorem dX8_belowOf_11 : decode cX8_belowOf 11 = .ok (.imul, 1) := by decide +kernel
theorem dX8_belowOf_12 : decode cX8_belowOf 12 = .ok (.iload_n 2, 1) := by decide +kernel
theorem dX8_belowOf_13 : decode cX8_belowOf 13 = .ok (.iadd, 1) := by decide +kernel
theorem dX8_belowOf_14 : decode cX8_belowOf 14 = .ok (.iaload, 1) := by decide +kernel
theorem dX8_belowOf_15 : decode cX8_belowOf 15 = .ok (.iload_n 3, 1) := by decide +kernel
theorem dX8_belowOf_16 : decode cX8_belowOf 16 = .ok (.invokevirtual 406, 3) := by decide +kernel
theorem dX8_belowOf_19 : decode cX8_belowOf 19 = .ok (.iload_n 2, 1) := by decide +kernel
theorem dX8_belowOf_20 : decode cX8_belowOf 20 = .ok (.if_icmp .eq 9, 3) := by decide +kernel
theorem dX8_belowOf_23 : decode cX8_belowOf 23 = .ok (.iinc 3 1, 3) := by decide +kernel
theorem dX8_belowOf_26 : decode cX8_belowOf 26 = .ok (.goto (-24), 3) := by decide +kernel
theorem dX8_belowOf_29 : decode cX8_belowOf 29 = .ok (.iload_n 3, 1) := by decide +kernel
theorem dX8_belowOf_30 : decode cX8_belowOf 30 = .ok (.ireturn, 1) := by decide +kernel
theorem dX8_aboveOf_0 : decode cX8_aboveOf 0 = .ok (.aload_n 0, 1) := by decide +kernel
theorem dX8_aboveOf_1 : decode cX8_aboveOf 1 = .ok (.getfield 97, 3) := by decide +kernel
theorem dX8_aboveOf_4 : decode cX8_aboveOf 4 = .ok (.bipush 10, 2) := by decide +kernel
theorem dX8_aboveOf_6 : decode cX8_aboveOf 6 = .ok (.iload_n 1, 1) := by decide +kernel
theorem dX8_aboveOf_7 : decode cX8_aboveOf 7 = .ok (.imul, 1) := by decide +kernel
theorem dX8_aboveOf_8 : decode cX8_aboveOf 8 = .ok (.iload_n 2, 1) := by decide +kernel
theorem dX8_aboveOf_9 : decode cX8_aboveOf 9 = .ok (.iadd, 1) := by decide +kernel
theorem dX8_aboveOf_10 : decode cX8_aboveOf 10 = .ok (.iaload, 1) := by decide +kernel
theorem dX8_aboveOf_11 : decode cX8_aboveOf 11 = .ok (.ifCond .ge 7, 3) := by decide +kernel
theorem dX8_aboveOf_14 : decode cX8_aboveOf 14 = .ok (.iconst 0, 1) := by decide +kernel
theorem dX8_aboveOf_15 : decode cX8_aboveOf 15 = .ok (.goto 32, 3) := by decide +kernel
theorem dX8_aboveOf_18 : decode cX8_aboveOf 18 = .ok (.aload_n 0, 1) := by decide +kernel
theorem dX8_aboveOf_19 : decode cX8_aboveOf 19 = .ok (.getfield 103, 3) := by decide +kernel
theorem dX8_aboveOf_22 : decode cX8_aboveOf 22 = .ok (.iconst 5, 1) := by decide +kernel
theorem dX8_aboveOf_23 : decode cX8_aboveOf 23 = .ok (.iload_n 1, 1) := by decide +kernel
theorem dX8_aboveOf_24 : decode cX8_aboveOf 24 = .ok (.imul, 1) := by decide +kernel
theorem dX8_aboveOf_25 : decode cX8_aboveOf 25 = .ok (.aload_n 0, 1) := by decide +kernel
theorem dX8_aboveOf_26 : decode cX8_aboveOf 26 = .ok (.getfield 97, 3) := by decide +kernel
theorem dX8_aboveOf_29 : decode cX8_aboveOf 29 = .ok (.bipush 10, 2) := by decide +kernel
theorem dX8_aboveOf_31 : decode cX8_aboveOf 31 = .ok (.iload_n 1, 1) := by decide +kernel
theorem dX8_aboveOf_32 : decode cX8_aboveOf 32 = .ok (.imul, 1) := by decide +kernel
theorem dX8_aboveOf_33 : decode cX8_aboveOf 33 = .ok (.iload_n 2, 1) := by decide +kernel
theorem dX8_aboveOf_34 : decode cX8_aboveOf 34 = .ok (.iadd, 1) := by decide +kernel
theorem dX8_aboveOf_35 : decode cX8_aboveOf 35 = .ok (.iaload, 1) := by decide +kernel
theorem dX8_aboveOf_36 : decode cX8_aboveOf 36 = .ok (.iadd, 1) := by decide +kernel
theorem dX8_aboveOf_37 : decode cX8_aboveOf 37 = .ok (.iaload, 1) := by decide +kernel
theorem dX8_aboveOf_38 : decode cX8_aboveOf 38 = .ok (.iconst 1, 1) := by decide +kernel
theorem dX8_aboveOf_39 : decode cX8_aboveOf 39 = .ok (.isub, 1) := by decide +kernel
theorem dX8_aboveOf_40 : decode cX8_aboveOf 40 = .ok (.aload_n 0, 1) := by decide +kernel
theorem dX8_aboveOf_41 : decode cX8_aboveOf 41 = .ok (.iload_n 1, 1) := by decide +kernel
theorem dX8_aboveOf_42 : decode cX8_aboveOf 42 = .ok (.iload_n 2, 1) := by decide +kernel
theorem dX8_aboveOf_43 : decode cX8_aboveOf 43 = .ok (.invokevirtual 410, 3) := by decide +kernel
theorem dX8_aboveOf_46 : decode cX8_aboveOf 46 = .ok (.isub, 1) := by decide +kernel
theorem dX8_aboveOf_47 : decode cX8_aboveOf 47 = .ok (.ireturn, 1) := by decide +kernel
theorem dX8_doesHold_0 : decode cX8_doesHold 0 = .ok (.aload_n 0, 1) := by decide +kernel
theorem dX8_doesHold_1 : decode cX8_doesHold 1 = .ok (.iload_n 1, 1) := by decide +kernel
theorem dX8_doesHold_2 : decode cX8_doesHold 2 = .ok (.iload_n 2, 1) := by decide +kernel
theorem dX8_doesHold_3 : decode cX8_doesHold 3 = .ok (.invokevirtual 413, 3) := by decide +kernel
theorem dX8_doesHold_6 : decode cX8_doesHold 6 = .ok (.aload_n 0, 1) := by decide +kernel
theorem dX8_doesHold_7 : decode cX8_doesHold 7 = .ok (.getfield 48, 3) := by decide +kernel
theorem dX8_doesHold_10 : decode cX8_doesHold 10 = .ok (.iload_n 3, 1) := by decide +kernel
theorem dX8_doesHold_11 : decode cX8_doesHold 11 = .ok (.iaload, 1) := by decide +kernel
theorem dX8_doesHold_12 : decode cX8_doesHold 12 = .ok (.iadd, 1) := by decide +kernel
theorem dX8_doesHold_13 : decode cX8_doesHold 13 = .ok (.aload_n 0, 1) := by decide +kernel
theorem dX8_doesHold_14 : decode cX8_doesHold 14 = .ok (.getfield 30, 3) := by decide +kernel
theorem dX8_doesHold_17 : decode cX8_doesHold 17 = .ok (.iload_n 2, 1) := by decide +kernel
theorem dX8_doesHold_18 : decode cX8_doesHold 18 = .ok (.iaload, 1) := by decide +kernel
theorem dX8_doesHold_19 : decode cX8_doesHold 19 = .ok (.if_icmp .gt 7, 3) := by decide +kernel
theorem dX8_doesHold_22 : decode cX8_doesHold 22 = .ok (.iconst 1, 1) := by decide +kernel
theorem dX8_doesHold_23 : decode cX8_doesHold 23 = .ok (.goto 4, 3) := by decide +kernel
theorem dX8_doesHold_26 : decode cX8_doesHold 26 = .ok (.iconst 0, 1) := by decide +kernel
theorem dX8_doesHold_27 : decode cX8_doesHold 27 = .ok (.ireturn, 1) := by decide +kernel
theorem dX8_lays_0 : decode cX8_lays 0 = .ok (.aload_n 0, 1) := by decide +kernel
theorem dX8_lays_1 : decode cX8_lays 1 = .ok (.getfield 100, 3) := by decide +kernel
theorem dX8_lays_4 : decode cX8_lays 4 = .ok (.bipush 50, 2) := by decide +kernel
theorem dX8_lays_6 : decode cX8_lays 6 = .ok (.iload_n 1, 1) := by decide +kernel
theorem dX8_lays_7 : decode cX8_lays 7 = .ok (.imul, 1) := by decide +kernel
theorem dX8_lays_8 : decode cX8_lays 8 = .ok (.bipush 10, 2) := by decide +kernel
theorem dX8_lays_10 : decode cX8_lays 10 = .ok (.iload_n 2, 1) := by decide +kernel
theorem dX8_lays_11 : decode cX8_lays 11 = .ok (.imul, 1) := by decide +kernel
theorem dX8_lays_12 : decode cX8_lays 12 = .ok (.iadd, 1) := by decide +kernel
theorem dX8_lays_13 : decode cX8_lays 13 = .ok (.aload_n 0, 1) := by decide +kernel
theorem dX8_lays_14 : decode cX8_lays 14 = .ok (.getfield 103, 3) := by decide +kernel
theorem dX8_lays_17 : decode cX8_lays 17 = .ok (.iconst 5, 1) := by decide +kernel
theorem dX8_lays_18 : decode cX8_lays 18 = .ok (.iload_n 1, 1) := by decide +kernel
theorem dX8_lays_19 : decode cX8_lays 19 = .ok (.imul, 1) := by decide +kernel
theorem dX8_lays_20 : decode cX8_lays 20 = .ok (.iload_n 2, 1) := by decide +kernel
theorem dX8_lays_21 : decode cX8_lays 21 = .ok (.iadd, 1) := by decide +kernel
theorem dX8_lays_22 : decode cX8_lays 22 = .ok (.iaload, 1) := by decide +kernel
theorem dX8_lays_23 : decode cX8_lays 23 = .ok (.iadd, 1) := by decide +kernel
theorem dX8_lays_24 : decode cX8_lays 24 = .ok (.iload_n 3, 1) := by decide +kernel
theorem dX8_lays_25 : decode cX8_lays 25 = .ok (.iastore, 1) := by decide +kernel
theorem dX8_lays_26 : decode cX8_lays 26 = .ok (.aload_n 0, 1) := by decide +kernel
theorem dX8_lays_27 : decode cX8_lays 27 = .ok (.getfield 103, 3) := by decide +kernel
theorem dX8_lays_30 : decode cX8_lays 30 = .ok (.iconst 5, 1) := by decide +kernel
theorem dX8_lays_31 : decode cX8_lays 31 = .ok (.iload_n 1, 1) := by decide +kernel
theorem dX8_lays_32 : decode cX8_lays 32 = .ok (.imul, 1) := by decide +kernel
theorem dX8_lays_33 : decode cX8_lays 33 = .ok (.iload_n 2, 1) := by decide +kernel
theorem dX8_lays_34 : decode cX8_lays 34 = .ok (.iadd, 1) := by decide +kernel
theorem dX8_lays_35 : decode cX8_lays 35 = .ok (.dup2, 1) := by decide +kernel
theorem dX8_lays_36 : decode cX8_lays 36 = .ok (.iaload, 1) := by decide +kernel
theorem dX8_lays_37 : decode cX8_lays 37 = .ok (.iconst 1, 1) := by decide +kernel
theorem dX8_lays_38 : decode cX8_lays 38 = .ok (.iadd, 1) := by decide +kernel
theorem dX8_lays_39 : decode cX8_lays 39 = .ok (.iastore, 1) := by decide +kernel
theorem dX8_lays_40 : decode cX8_lays 40 = .ok (.aload_n 0, 1) := by decide +kernel
theorem dX8_lays_41 : decode cX8_lays 41 = .ok (.getfield 97, 3) := by decide +kernel
theorem dX8_lays_44 : decode cX8_lays 44 = .ok (.bipush 10, 2) := by decide +kernel
theorem dX8_lays_46 : decode cX8_lays 46 = .ok (.iload_n 1, 1) := by decide +kernel
theorem dX8_lays_47 : decode cX8_lays 47 = .ok (.imul, 1) := by decide +kernel
theorem dX8_lays_48 : decode cX8_lays 48 = .ok (.iload_n 3, 1) := by decide +kernel
theorem dX8_lays_49 : decode cX8_lays 49 = .ok (.iadd, 1) := by decide +kernel
theorem dX8_lays_50 : decode cX8_lays 50 = .ok (.iload_n 2, 1) := by decide +kernel
theorem dX8_lays_51 : decode cX8_lays 51 = .ok (.iastore, 1) := by decide +kernel
theorem dX8_lays_52 : decode cX8_lays 52 = .ok (.aload_n 0, 1) := by decide +kernel
theorem dX8_lays_53 : decode cX8_lays 53 = .ok (.getfield 94, 3) := by decide +kernel
theorem dX8_lays_56 : decode cX8_lays 56 = .ok (.bipush 10, 2) := by decide +kernel
theorem dX8_lays_58 : decode cX8_lays 58 = .ok (.iload_n 1, 1) := by decide +kernel
theorem dX8_lays_59 : decode cX8_lays 59 = .ok (.imul, 1) := by decide +kernel
theorem dX8_lays_60 : decode cX8_lays 60 = .ok (.iload_n 3, 1) := by decide +kernel
theorem dX8_lays_61 : decode cX8_lays 61 = .ok (.iadd, 1) := by decide +kernel
theorem dX8_lays_62 : decode cX8_lays 62 = .ok (.iconst 1, 1) := by decide +kernel
theorem dX8_lays_63 : decode cX8_lays 63 = .ok (.iastore, 1) := by decide +kernel
theorem dX8_lays_64 : decode cX8_lays 64 = .ok (.return_, 1) := by decide +kernel
theorem dX8_takes_0 : decode cX8_takes 0 = .ok (.aload_n 0, 1) := by decide +kernel
theorem dX8_takes_1 : decode cX8_takes 1 = .ok (.getfield 97, 3) := by decide +kernel
theorem dX8_takes_4 : decode cX8_takes 4 = .ok (.bipush 10, 2) := by decide +kernel
theorem dX8_takes_6 : decode cX8_takes 6 = .ok (.iload_n 1, 1) := by decide +kernel
theorem dX8_takes_7 : decode cX8_takes 7 = .ok (.imul, 1) := by decide +kernel
theorem dX8_takes_8 : decode cX8_takes 8 = .ok (.iload_n 2, 1) := by decide +kernel
theorem dX8_takes_9 : decode cX8_takes 9 = .ok (.iadd, 1) := by decide +kernel
theorem dX8_takes_10 : decode cX8_takes 10 = .ok (.iaload, 1) := by decide +kernel
theorem dX8_takes_11 : decode cX8_takes 11 = .ok (.istore 4, 2) := by decide +kernel
theorem dX8_takes_13 : decode cX8_takes 13 = .ok (.aload_n 0, 1) := by decide +kernel
theorem dX8_takes_14 : decode cX8_takes 14 = .ok (.iload_n 1, 1) := by decide +kernel
theorem dX8_takes_15 : decode cX8_takes 15 = .ok (.iload_n 2, 1) := by decide +kernel
theorem dX8_takes_16 : decode cX8_takes 16 = .ok (.invokevirtual 410, 3) := by decide +kernel
theorem dX8_takes_19 : decode cX8_takes 19 = .ok (.istore 5, 2) := by decide +kernel
theorem dX8_takes_21 : decode cX8_takes 21 = .ok (.aload_n 0, 1) := by decide +kernel
theorem dX8_takes_22 : decode cX8_takes 22 = .ok (.getfield 103, 3) := by decide +kernel
theorem dX8_takes_25 : decode cX8_takes 25 = .ok (.iconst 5, 1) := by decide +kernel
theorem dX8_takes_26 : decode cX8_takes 26 = .ok (.iload_n 1, 1) := by decide +kernel
theorem dX8_takes_27 : decode cX8_takes 27 = .ok (.imul, 1) := by decide +kernel
theorem dX8_takes_28 : decode cX8_takes 28 = .ok (.iload 4, 2) := by decide +kernel
theorem dX8_takes_30 : decode cX8_takes 30 = .ok (.iadd, 1) := by decide +kernel
theorem dX8_takes_31 : decode cX8_takes 31 = .ok (.dup2, 1) := by decide +kernel
theorem dX8_takes_32 : decode cX8_takes 32 = .ok (.iaload, 1) := by decide +kernel
theorem dX8_takes_33 : decode cX8_takes 33 = .ok (.iconst 1, 1) := by decide +kernel
theorem dX8_takes_34 : decode cX8_takes 34 = .ok (.isub, 1) := by decide +kernel
theorem dX8_takes_35 : decode cX8_takes 35 = .ok (.iastore, 1) := by decide +kernel
theorem dX8_takes_36 : decode cX8_takes 36 = .ok (.iload 5, 2) := by decide +kernel
theorem dX8_takes_38 : decode cX8_takes 38 = .ok (.aload_n 0, 1) := by decide +kernel
theorem dX8_takes_39 : decode cX8_takes 39 = .ok (.getfield 103, 3) := by decide +kernel
theorem dX8_takes_42 : decode cX8_takes 42 = .ok (.iconst 5, 1) := by decide +kernel
theorem dX8_takes_43 : decode cX8_takes 43 = .ok (.iload_n 1, 1) := by decide +kernel
theorem dX8_takes_44 : decode cX8_takes 44 = .ok (.imul, 1) := by decide +kernel
theorem dX8_takes_45 : decode cX8_takes 45 = .ok (.iload 4, 2) := by decide +kernel
theorem dX8_takes_47 : decode cX8_takes 47 = .ok (.iadd, 1) := by decide +kernel
theorem dX8_takes_48 : decode cX8_takes 48 = .ok (.iaload, 1) := by decide +kernel
theorem dX8_takes_49 : decode cX8_takes 49 = .ok (.if_icmp .ge 47, 3) := by decide +kernel
theorem dX8_takes_52 : decode cX8_takes 52 = .ok (.aload_n 0, 1) := by decide +kernel
theorem dX8_takes_53 : decode cX8_takes 53 = .ok (.getfield 100, 3) := by decide +kernel
theorem dX8_takes_56 : decode cX8_takes 56 = .ok (.bipush 50, 2) := by decide +kernel
theorem dX8_takes_58 : decode cX8_takes 58 = .ok (.iload_n 1, 1) := by decide +kernel
theorem dX8_takes_59 : decode cX8_takes 59 = .ok (.imul, 1) := by decide +kernel
theorem dX8_takes_60 : decode cX8_takes 60 = .ok (.bipush 10, 2) := by decide +kernel
theorem dX8_takes_62 : decode cX8_takes 62 = .ok (.iload 4, 2) := by decide +kernel
theorem dX8_takes_64 : decode cX8_takes 64 = .ok (.imul, 1) := by decide +kernel
theorem dX8_takes_65 : decode cX8_takes 65 = .ok (.iadd, 1) := by decide +kernel
theorem dX8_takes_66 : decode cX8_takes 66 = .ok (.iload 5, 2) := by decide +kernel
theorem dX8_takes_68 : decode cX8_takes 68 = .ok (.iadd, 1) := by decide +kernel
theorem dX8_takes_69 : decode cX8_takes 69 = .ok (.aload_n 0, 1) := by decide +kernel
theorem dX8_takes_70 : decode cX8_takes 70 = .ok (.getfield 100, 3) := by decide +kernel
theorem dX8_takes_73 : decode cX8_takes 73 = .ok (.bipush 50, 2) := by decide +kernel
theorem dX8_takes_75 : decode cX8_takes 75 = .ok (.iload_n 1, 1) := by decide +kernel
theorem dX8_takes_76 : decode cX8_takes 76 = .ok (.imul, 1) := by decide +kernel
theorem dX8_takes_77 : decode cX8_takes 77 = .ok (.bipush 10, 2) := by decide +kernel
theorem dX8_takes_79 : decode cX8_takes 79 = .ok (.iload 4, 2) := by decide +kernel
theorem dX8_takes_81 : decode cX8_takes 81 = .ok (.imul, 1) := by decide +kernel
theorem dX8_takes_82 : decode cX8_takes 82 = .ok (.iadd, 1) := by decide +kernel
theorem dX8_takes_83 : decode cX8_takes 83 = .ok (.iload 5, 2) := by decide +kernel
theorem dX8_takes_85 : decode cX8_takes 85 = .ok (.iadd, 1) := by decide +kernel
theorem dX8_takes_86 : decode cX8_takes 86 = .ok (.iconst 1, 1) := by decide +kernel
theorem dX8_takes_87 : decode cX8_takes 87 = .ok (.iadd, 1) := by decide +kernel
theorem dX8_takes_88 : decode cX8_takes 88 = .ok (.iaload, 1) := by decide +kernel
theorem dX8_takes_89 : decode cX8_takes 89 = .ok (.iastore, 1) := by decide +kernel
theorem dX8_takes_90 : decode cX8_takes 90 = .ok (.iinc 5 1, 3) := by decide +kernel
theorem dX8_takes_93 : decode cX8_takes 93 = .ok (.goto (-57), 3) := by decide +kernel
theorem dX8_takes_96 : decode cX8_takes 96 = .ok (.aload_n 0, 1) := by decide +kernel
theorem dX8_takes_97 : decode cX8_takes 97 = .ok (.getfield 97, 3) := by decide +kernel
theorem dX8_takes_100 : decode cX8_takes 100 = .ok (.bipush 10, 2) := by decide +kernel
theorem dX8_takes_102 : decode cX8_takes 102 = .ok (.iload_n 1, 1) := by decide +kernel
theorem dX8_takes_103 : decode cX8_takes 103 = .ok (.imul, 1) := by decide +kernel
theorem dX8_takes_104 : decode cX8_takes 104 = .ok (.iload_n 2, 1) := by decide +kernel
theorem dX8_takes_105 : decode cX8_takes 105 = .ok (.iadd, 1) := by decide +kernel
theorem dX8_takes_106 : decode cX8_takes 106 = .ok (.iconst (-1), 1) := by decide +kernel
theorem dX8_takes_107 : decode cX8_takes 107 = .ok (.iastore, 1) := by decide +kernel
theorem dX8_takes_108 : decode cX8_takes 108 = .ok (.aload_n 0, 1) := by decide +kernel
theorem dX8_takes_109 : decode cX8_takes 109 = .ok (.getfield 94, 3) := by decide +kernel
theorem dX8_takes_112 : decode cX8_takes 112 = .ok (.bipush 10, 2) := by decide +kernel
theorem dX8_takes_114 : decode cX8_takes 114 = .ok (.iload_n 1, 1) := by decide +kernel
theorem dX8_takes_115 : decode cX8_takes 115 = .ok (.imul, 1) := by decide +kernel
theorem dX8_takes_116 : decode cX8_takes 116 = .ok (.iload_n 2, 1) := by decide +kernel
theorem dX8_takes_117 : decode cX8_takes 117 = .ok (.iadd, 1) := by decide +kernel
theorem dX8_takes_118 : decode cX8_takes 118 = .ok (.iload_n 3, 1) := by decide +kernel
theorem dX8_takes_119 : decode cX8_takes 119 = .ok (.iastore, 1) := by decide +kernel
theorem dX8_takes_120 : decode cX8_takes 120 = .ok (.return_, 1) := by decide +kernel
theorem dX8_ableOf_0 : decode cX8_ableOf 0 = .ok (.aload_n 0, 1) := by decide +kernel
theorem dX8_ableOf_1 : decode cX8_ableOf 1 = .ok (.getfield 400, 3) := by decide +kernel
theorem dX8_ableOf_4 : decode cX8_ableOf 4 = .ok (.ifCond .eq 8, 3) := by decide +kernel
theorem dX8_ableOf_7 : decode cX8_ableOf 7 = .ok (.bipush 99, 2) := by decide +kernel
theorem dX8_ableOf_9 : decode cX8_ableOf 9 = .ok (.goto 14, 3) := by decide +kernel
theorem dX8_ableOf_12 : decode cX8_ableOf 12 = .ok (.aload_n 0, 1) := by decide +kernel
theorem dX8_ableOf_13 : decode cX8_ableOf 13 = .ok (.getfield 109, 3) := by decide +kernel
theorem dX8_ableOf_16 : decode cX8_ableOf 16 = .ok (.bipush 6, 2) := by decide +kernel
theorem dX8_ableOf_18 : decode cX8_ableOf 18 = .ok (.iload_n 1, 1) := by decide +kernel
theorem dX8_ableOf_19 : decode cX8_ableOf 19 = .ok (.imul, 1) := by decide +kernel
theorem dX8_ableOf_20 : decode cX8_ableOf 20 = .ok (.iload_n 2, 1) := by decide +kernel
theorem dX8_ableOf_21 : decode cX8_ableOf 21 = .ok (.iadd, 1) := by decide +kernel
theorem dX8_ableOf_22 : decode cX8_ableOf 22 = .ok (.iaload, 1) := by decide +kernel
theorem dX8_ableOf_23 : decode cX8_ableOf 23 = .ok (.ireturn, 1) := by decide +kernel
theorem dX8_layNames_0 : decode cX8_layNames 0 = .ok (.aload_n 0, 1) := by decide +kernel
theorem dX8_layNames_1 : decode cX8_layNames 1 = .ok (.getfield 97, 3) := by decide +kernel
theorem dX8_layNames_4 : decode cX8_layNames 4 = .ok (.bipush 10, 2) := by decide +kernel
theorem dX8_layNames_6 : decode cX8_layNames 6 = .ok (.iload_n 1, 1) := by decide +kernel
theorem dX8_layNames_7 : decode cX8_layNames 7 = .ok (.imul, 1) := by decide +kernel
theorem dX8_layNames_8 : decode cX8_layNames 8 = .ok (.iload_n 2, 1) := by decide +kernel
theorem dX8_layNames_9 : decode cX8_layNames 9 = .ok (.iadd, 1) := by decide +kernel
theorem dX8_layNames_10 : decode cX8_layNames 10 = .ok (.iaload, 1) := by decide +kernel
theorem dX8_layNames_11 : decode cX8_layNames 11 = .ok (.istore 4, 2) := by decide +kernel
theorem dX8_layNames_13 : decode cX8_layNames 13 = .ok (.aload_n 0, 1) := by decide +kernel
theorem dX8_layNames_14 : decode cX8_layNames 14 = .ok (.getfield 87, 3) := by decide +kernel
theorem dX8_layNames_17 : decode cX8_layNames 17 = .ok (.iconst 0, 1) := by decide +kernel
theorem dX8_layNames_18 : decode cX8_layNames 18 = .ok (.aload_n 0, 1) := by decide +kernel
theorem dX8_layNames_19 : decode cX8_layNames 19 = .ok (.getfield 48, 3) := by decide +kernel
theorem dX8_layNames_22 : decode cX8_layNames 22 = .ok (.iload_n 2, 1) := by decide +kernel
theorem dX8_layNames_23 : decode cX8_layNames 23 = .ok (.iaload, 1) := by decide +kernel
theorem dX8_layNames_24 : decode cX8_layNames 24 = .ok (.i2l, 1) := by decide +kernel
theorem dX8_layNames_25 : decode cX8_layNames 25 = .ok (.lastore, 1) := by decide +kernel
theorem dX8_layNames_26 : decode cX8_layNames 26 = .ok (.aload_n 0, 1) := by decide +kernel
theorem dX8_layNames_27 : decode cX8_layNames 27 = .ok (.getfield 87, 3) := by decide +kernel
theorem dX8_layNames_30 : decode cX8_layNames 30 = .ok (.iconst 1, 1) := by decide +kernel
theorem dX8_layNames_31 : decode cX8_layNames 31 = .ok (.aload_n 0, 1) := by decide +kernel
theorem dX8_layNames_32 : decode cX8_layNames 32 = .ok (.getfield 51, 3) := by decide +kernel
theorem dX8_layNames_35 : decode cX8_layNames 35 = .ok (.iload_n 2, 1) := by decide +kernel
theorem dX8_layNames_36 : decode cX8_layNames 36 = .ok (.iaload, 1) := by decide +kernel
theorem dX8_layNames_37 : decode cX8_layNames 37 = .ok (.i2l, 1) := by decide +kernel
theorem dX8_layNames_38 : decode cX8_layNames 38 = .ok (.lastore, 1) := by decide +kernel
theorem dX8_layNames_39 : decode cX8_layNames 39 = .ok (.aload_n 0, 1) := by decide +kernel
theorem dX8_layNames_40 : decode cX8_layNames 40 = .ok (.getfield 87, 3) := by decide +kernel
theorem dX8_layNames_43 : decode cX8_layNames 43 = .ok (.iconst 2, 1) := by decide +kernel
theorem dX8_layNames_44 : decode cX8_layNames 44 = .ok (.aload_n 0, 1) := by decide +kernel
theorem dX8_layNames_45 : decode cX8_layNames 45 = .ok (.iload_n 1, 1) := by decide +kernel
theorem dX8_layNames_46 : decode cX8_layNames 46 = .ok (.iload_n 2, 1) := by decide +kernel
theorem dX8_layNames_47 : decode cX8_layNames 47 = .ok (.invokevirtual 416, 3) := by decide +kernel
theorem dX8_layNames_50 : decode cX8_layNames 50 = .ok (.i2l, 1) := by decide +kernel
theorem dX8_layNames_51 : decode cX8_layNames 51 = .ok (.lastore, 1) := by decide +kernel
theorem dX8_layNames_52 : decode cX8_layNames 52 = .ok (.aload_n 0, 1) := by decide +kernel
theorem dX8_layNames_53 : decode cX8_layNames 53 = .ok (.getfield 87, 3) := by decide +kernel
theorem dX8_layNames_56 : decode cX8_layNames 56 = .ok (.iconst 3, 1) := by decide +kernel
theorem dX8_layNames_57 : decode cX8_layNames 57 = .ok (.aload_n 0, 1) := by decide +kernel
theorem dX8_layNames_58 : decode cX8_layNames 58 = .ok (.getfield 27, 3) := by decide +kernel
theorem dX8_layNames_61 : decode cX8_layNames 61 = .ok (.iload 4, 2) := by decide +kernel
theorem dX8_layNames_63 : decode cX8_layNames 63 = .ok (.iaload, 1) := by decide +kernel
theorem dX8_layNames_64 : decode cX8_layNames 64 = .ok (.i2l, 1) := by decide +kernel
theorem dX8_layNames_65 : decode cX8_layNames 65 = .ok (.lastore, 1) := by decide +kernel
theorem dX8_layNames_66 : decode cX8_layNames 66 = .ok (.aload_n 0, 1) := by decide +kernel
theorem dX8_layNames_67 : decode cX8_layNames 67 = .ok (.getfield 87, 3) := by decide +kernel
theorem dX8_layNames_70 : decode cX8_layNames 70 = .ok (.iconst 4, 1) := by decide +kernel
theorem dX8_layNames_71 : decode cX8_layNames 71 = .ok (.aload_n 0, 1) := by decide +kernel
theorem dX8_layNames_72 : decode cX8_layNames 72 = .ok (.iload_n 1, 1) := by decide +kernel
theorem dX8_layNames_73 : decode cX8_layNames 73 = .ok (.iload_n 3, 1) := by decide +kernel
theorem dX8_layNames_74 : decode cX8_layNames 74 = .ok (.invokevirtual 419, 3) := by decide +kernel
theorem dX8_layNames_77 : decode cX8_layNames 77 = .ok (.i2l, 1) := by decide +kernel
theorem dX8_layNames_78 : decode cX8_layNames 78 = .ok (.lastore, 1) := by decide +kernel
theorem dX8_layNames_79 : decode cX8_layNames 79 = .ok (.aload_n 0, 1) := by decide +kernel
theorem dX8_layNames_80 : decode cX8_layNames 80 = .ok (.getfield 87, 3) := by decide +kernel
theorem dX8_layNames_83 : decode cX8_layNames 83 = .ok (.iconst 5, 1) := by decide +kernel
theorem dX8_layNames_84 : decode cX8_layNames 84 = .ok (.aload_n 0, 1) := by decide +kernel
theorem dX8_layNames_85 : decode cX8_layNames 85 = .ok (.getfield 121, 3) := by decide +kernel
theorem dX8_layNames_88 : decode cX8_layNames 88 = .ok (.iload_n 1, 1) := by decide +kernel
theorem dX8_layNames_89 : decode cX8_layNames 89 = .ok (.iaload, 1) := by decide +kernel
theorem dX8_layNames_90 : decode cX8_layNames 90 = .ok (.i2l, 1) := by decide +kernel
theorem dX8_layNames_91 : decode cX8_layNames 91 = .ok (.lastore, 1) := by decide +kernel
theorem dX8_layNames_92 : decode cX8_layNames 92 = .ok (.aload_n 0, 1) := by decide +kernel
theorem dX8_layNames_93 : decode cX8_layNames 93 = .ok (.getfield 87, 3) := by decide +kernel
theorem dX8_layNames_96 : decode cX8_layNames 96 = .ok (.bipush 6, 2) := by decide +kernel
theorem dX8_layNames_98 : decode cX8_layNames 98 = .ok (.aload_n 0, 1) := by decide +kernel
theorem dX8_layNames_99 : decode cX8_layNames 99 = .ok (.iload_n 1, 1) := by decide +kernel
theorem dX8_layNames_100 : decode cX8_layNames 100 = .ok (.iload 4, 2) := by decide +kernel
theorem dX8_layNames_102 : decode cX8_layNames 102 = .ok (.invokevirtual 413, 3) := by decide +kernel
theorem dX8_layNames_105 : decode cX8_layNames 105 = .ok (.i2l, 1) := by decide +kernel
theorem dX8_layNames_106 : decode cX8_layNames 106 = .ok (.lastore, 1) := by decide +kernel
theorem dX8_layNames_107 : decode cX8_layNames 107 = .ok (.return_, 1) := by decide +kernel
theorem dX8_lawOf_0 : decode cX8_lawOf 0 = .ok (.aload_n 0, 1) := by decide +kernel
theorem dX8_lawOf_1 : decode cX8_lawOf 1 = .ok (.iconst 0, 1) := by decide +kernel
theorem dX8_lawOf_2 : decode cX8_lawOf 2 = .ok (.putfield 347, 3) := by decide +kernel
theorem dX8_lawOf_5 : decode cX8_lawOf 5 = .ok (.aload_n 0, 1) := by decide +kernel
theorem dX8_lawOf_6 : decode cX8_lawOf 6 = .ok (.getfield 66, 3) := by decide +kernel
theorem dX8_lawOf_9 : decode cX8_lawOf 9 = .ok (.iload_n 1, 1) := by decide +kernel
theorem dX8_lawOf_10 : decode cX8_lawOf 10 = .ok (.iaload, 1) := by decide +kernel
theorem dX8_lawOf_11 : decode cX8_lawOf 11 = .ok (.istore_n 2, 1) := by decide +kernel
theorem dX8_lawOf_12 : decode cX8_lawOf 12 = .ok (.iload_n 2, 1) := by decide +kernel
theorem dX8_lawOf_13 : decode cX8_lawOf 13 = .ok (.aload_n 0, 1) := by decide +kernel
theorem dX8_lawOf_14 : decode cX8_lawOf 14 = .ok (.getfield 69, 3) := by decide +kernel
theorem dX8_lawOf_17 : decode cX8_lawOf 17 = .ok (.iload_n 1, 1) := by decide +kernel
theorem dX8_lawOf_18 : decode cX8_lawOf 18 = .ok (.iaload, 1) := by decide +kernel
theorem dX8_lawOf_19 : decode cX8_lawOf 19 = .ok (.if_icmp .ge 20, 3) := by decide +kernel
theorem dX8_lawOf_22 : decode cX8_lawOf 22 = .ok (.aload_n 0, 1) := by decide +kernel
theorem dX8_lawOf_23 : decode cX8_lawOf 23 = .ok (.getfield 91, 3) := by decide +kernel
theorem dX8_lawOf_26 : decode cX8_lawOf 26 = .ok (.iload_n 2, 1) := by decide +kernel
theorem dX8_lawOf_27 : decode cX8_lawOf 27 = .ok (.aload_n 0, 1) := by decide +kernel
theorem dX8_lawOf_28 : decode cX8_lawOf 28 = .ok (.iload_n 2, 1) := by decide +kernel
theorem dX8_lawOf_29 : decode cX8_lawOf 29 = .ok (.invokevirtual 422, 3) := by decide +kernel
theorem dX8_lawOf_32 : decode cX8_lawOf 32 = .ok (.lastore, 1) := by decide +kernel
theorem dX8_lawOf_33 : decode cX8_lawOf 33 = .ok (.iinc 2 1, 3) := by decide +kernel
theorem dX8_lawOf_36 : decode cX8_lawOf 36 = .ok (.goto (-24), 3) := by decide +kernel
theorem dX8_lawOf_39 : decode cX8_lawOf 39 = .ok (.aload_n 0, 1) := by decide +kernel
theorem dX8_lawOf_40 : decode cX8_lawOf 40 = .ok (.getfield 347, 3) := by decide +kernel
theorem dX8_lawOf_43 : decode cX8_lawOf 43 = .ok (.ifCond .eq 7, 3) := by decide +kernel
theorem dX8_lawOf_46 : decode cX8_lawOf 46 = .ok (.lconst 0, 1) := by decide +kernel
theorem dX8_lawOf_47 : decode cX8_lawOf 47 = .ok (.goto 16, 3) := by decide +kernel
theorem dX8_lawOf_50 : decode cX8_lawOf 50 = .ok (.aload_n 0, 1) := by decide +kernel
theorem dX8_lawOf_51 : decode cX8_lawOf 51 = .ok (.getfield 91, 3) := by decide +kernel
theorem dX8_lawOf_54 : decode cX8_lawOf 54 = .ok (.aload_n 0, 1) := by decide +kernel
theorem dX8_lawOf_55 : decode cX8_lawOf 55 = .ok (.getfield 69, 3) := by decide +kernel
theorem dX8_lawOf_58 : decode cX8_lawOf 58 = .ok (.iload_n 1, 1) := by decide +kernel
theorem dX8_lawOf_59 : decode cX8_lawOf 59 = .ok (.iaload, 1) := by decide +kernel
theorem dX8_lawOf_60 : decode cX8_lawOf 60 = .ok (.iconst 1, 1) := by decide +kernel
theorem dX8_lawOf_61 : decode cX8_lawOf 61 = .ok (.isub, 1) := by decide +kernel
theorem dX8_lawOf_62 : decode cX8_lawOf 62 = .ok (.laload, 1) := by decide +kernel
theorem dX8_lawOf_63 : decode cX8_lawOf 63 = .ok (.lreturn, 1) := by decide +kernel
theorem dX8_boundLaw_0 : decode cX8_boundLaw 0 = .ok (.aload_n 0, 1) := by decide +kernel
theorem dX8_boundLaw_1 : decode cX8_boundLaw 1 = .ok (.getfield 63, 3) := by decide +kernel
theorem dX8_boundLaw_4 : decode cX8_boundLaw 4 = .ok (.iload_n 1, 1) := by decide +kernel
theorem dX8_boundLaw_5 : decode cX8_boundLaw 5 = .ok (.baload, 1) := by decide +kernel
theorem dX8_boundLaw_6 : decode cX8_boundLaw 6 = .ok (.ifCond .ne 5, 3) := by decide +kernel
theorem dX8_boundLaw_9 : decode cX8_boundLaw 9 = .ok (.iload_n 2, 1) := by decide +kernel
theorem dX8_boundLaw_10 : decode cX8_boundLaw 10 = .ok (.ireturn, 1) := by decide +kernel
theorem dX8_boundLaw_11 : decode cX8_boundLaw 11 = .ok (.aload_n 0, 1) := by decide +kernel
theorem dX8_boundLaw_12 : decode cX8_boundLaw 12 = .ok (.iload_n 1, 1) := by decide +kernel
theorem dX8_boundLaw_13 : decode cX8_boundLaw 13 = .ok (.invokevirtual 426, 3) := by decide +kernel
theorem dX8_boundLaw_16 : decode cX8_boundLaw 16 = .ok (.lstore 4, 2) := by decide +kernel
theorem dX8_boundLaw_18 : decode cX8_boundLaw 18 = .ok (.aload_n 0, 1) := by decide +kernel
theorem dX8_boundLaw_19 : decode cX8_boundLaw 19 = .ok (.getfield 347, 3) := by decide +kernel
theorem dX8_boundLaw_22 : decode cX8_boundLaw 22 = .ok (.ifCond .eq 5, 3) := by decide +kernel
theorem dX8_boundLaw_25 : decode cX8_boundLaw 25 = .ok (.iload_n 2, 1) := by decide +kernel
theorem dX8_boundLaw_26 : decode cX8_boundLaw 26 = .ok (.ireturn, 1) := by decide +kernel
theorem dX8_boundLaw_27 : decode cX8_boundLaw 27 = .ok (.lload 4, 2) := by decide +kernel
theorem dX8_boundLaw_29 : decode cX8_boundLaw 29 = .ok (.lconst 0, 1) := by decide +kernel
theorem dX8_boundLaw_30 : decode cX8_boundLaw 30 = .ok (.lcmp, 1) := by decide +kernel
theorem dX8_boundLaw_31 : decode cX8_boundLaw 31 = .ok (.ifCond .ge 7, 3) := by decide +kernel
theorem dX8_boundLaw_34 : decode cX8_boundLaw 34 = .ok (.iconst 0, 1) := by decide +kernel
theorem dX8_boundLaw_35 : decode cX8_boundLaw 35 = .ok (.goto 18, 3) := by decide +kernel
theorem dX8_boundLaw_38 : decode cX8_boundLaw 38 = .ok (.lload 4, 2) := by decide +kernel
theorem dX8_boundLaw_40 : decode cX8_boundLaw 40 = .ok (.iload_n 3, 1) := by decide +kernel
theorem dX8_boundLaw_41 : decode cX8_boundLaw 41 = .ok (.i2l, 1) := by decide +kernel
theorem dX8_boundLaw_42 : decode cX8_boundLaw 42 = .ok (.lcmp, 1) := by decide +kernel
theorem dX8_boundLaw_43 : decode cX8_boundLaw 43 = .ok (.ifCond .le 7, 3) := by decide +kernel
theorem dX8_boundLaw_46 : decode cX8_boundLaw 46 = .ok (.iload_n 3, 1) := by decide +kernel
theorem dX8_boundLaw_47 : decode cX8_boundLaw 47 = .ok (.goto 6, 3) := by decide +kernel
theorem dX8_boundLaw_50 : decode cX8_boundLaw 50 = .ok (.lload 4, 2) := by decide +kernel
theorem dX8_boundLaw_52 : decode cX8_boundLaw 52 = .ok (.l2i, 1) := by decide +kernel
theorem dX8_boundLaw_53 : decode cX8_boundLaw 53 = .ok (.ireturn, 1) := by decide +kernel
theorem dX8_liftOf_0 : decode cX8_liftOf 0 = .ok (.aload_n 0, 1) := by decide +kernel
theorem dX8_liftOf_1 : decode cX8_liftOf 1 = .ok (.iload_n 1, 1) := by decide +kernel
theorem dX8_liftOf_2 : decode cX8_liftOf 2 = .ok (.iload_n 2, 1) := by decide +kernel
theorem dX8_liftOf_3 : decode cX8_liftOf 3 = .ok (.iload_n 3, 1) := by decide +kernel
theorem dX8_liftOf_4 : decode cX8_liftOf 4 = .ok (.invokevirtual 429, 3) := by decide +kernel
theorem dX8_liftOf_7 : decode cX8_liftOf 7 = .ok (.aload_n 0, 1) := by decide +kernel
theorem dX8_liftOf_8 : decode cX8_liftOf 8 = .ok (.iconst 0, 1) := by decide +kernel
theorem dX8_liftOf_9 : decode cX8_liftOf 9 = .ok (.aload_n 0, 1) := by decide +kernel
theorem dX8_liftOf_10 : decode cX8_liftOf 10 = .ok (.getfield 48, 3) := by decide +kernel
theorem dX8_liftOf_13 : decode cX8_liftOf 13 = .ok (.iload_n 2, 1) := by decide +kernel
theorem dX8_liftOf_14 : decode cX8_liftOf 14 = .ok (.iaload, 1) := by decide +kernel
theorem dX8_liftOf_15 : decode cX8_liftOf 15 = .ok (.aload_n 0, 1) := by decide +kernel
theorem dX8_liftOf_16 : decode cX8_liftOf 16 = .ok (.iload_n 1, 1) := by decide +kernel
theorem dX8_liftOf_17 : decode cX8_liftOf 17 = .ok (.iload_n 3, 1) := by decide +kernel
theorem dX8_liftOf_18 : decode cX8_liftOf 18 = .ok (.invokevirtual 419, 3) := by decide +kernel
theorem dX8_liftOf_21 : decode cX8_liftOf 21 = .ok (.idiv, 1) := by decide +kernel
theorem dX8_liftOf_22 : decode cX8_liftOf 22 = .ok (.iconst 1, 1) := by decide +kernel
theorem dX8_liftOf_23 : decode cX8_liftOf 23 = .ok (.iadd, 1) := by decide +kernel
theorem dX8_liftOf_24 : decode cX8_liftOf 24 = .ok (.bipush 99, 2) := by decide +kernel
theorem dX8_liftOf_26 : decode cX8_liftOf 26 = .ok (.invokevirtual 432, 3) := by decide +kernel
theorem dX8_liftOf_29 : decode cX8_liftOf 29 = .ok (.ireturn, 1) := by decide +kernel
theorem dX8_secondsOf_0 : decode cX8_secondsOf 0 = .ok (.aload_n 0, 1) := by decide +kernel
theorem dX8_secondsOf_1 : decode cX8_secondsOf 1 = .ok (.getfield 97, 3) := by decide +kernel
theorem dX8_secondsOf_4 : decode cX8_secondsOf 4 = .ok (.bipush 10, 2) := by decide +kernel
theorem dX8_secondsOf_6 : decode cX8_secondsOf 6 = .ok (.iload_n 1, 1) := by decide +kernel
theorem dX8_secondsOf_7 : decode cX8_secondsOf 7 = .ok (.imul, 1) := by decide +kernel
theorem dX8_secondsOf_8 : decode cX8_secondsOf 8 = .ok (.iload_n 2, 1) := by decide +kernel
theorem dX8_secondsOf_9 : decode cX8_secondsOf 9 = .ok (.iadd, 1) := by decide +kernel
theorem dX8_secondsOf_10 : decode cX8_secondsOf 10 = .ok (.iaload, 1) := by decide +kernel
theorem dX8_secondsOf_11 : decode cX8_secondsOf 11 = .ok (.istore_n 3, 1) := by decide +kernel
theorem dX8_secondsOf_12 : decode cX8_secondsOf 12 = .ok (.iconst 0, 1) := by decide +kernel
theorem dX8_secondsOf_13 : decode cX8_secondsOf 13 = .ok (.istore 4, 2) := by decide +kernel
theorem dX8_secondsOf_15 : decode cX8_secondsOf 15 = .ok (.aload_n 0, 1) := by decide +kernel
theorem dX8_secondsOf_16 : decode cX8_secondsOf 16 = .ok (.iload_n 1, 1) := by decide +kernel
theorem dX8_secondsOf_17 : decode cX8_secondsOf 17 = .ok (.iload_n 2, 1) := by decide +kernel
theorem dX8_secondsOf_18 : decode cX8_secondsOf 18 = .ok (.invokevirtual 410, 3) := by decide +kernel
theorem dX8_secondsOf_21 : decode cX8_secondsOf 21 = .ok (.istore 5, 2) := by decide +kernel
theorem dX8_secondsOf_23 : decode cX8_secondsOf 23 = .ok (.iload 5, 2) := by decide +kernel
theorem dX8_secondsOf_25 : decode cX8_secondsOf 25 = .ok (.aload_n 0, 1) := by decide +kernel
theorem dX8_secondsOf_26 : decode cX8_secondsOf 26 = .ok (.getfield 103, 3) := by decide +kernel
theorem dX8_secondsOf_29 : decode cX8_secondsOf 29 = .ok (.iconst 5, 1) := by decide +kernel
theorem dX8_secondsOf_30 : decode cX8_secondsOf 30 = .ok (.iload_n 1, 1) := by decide +kernel
theorem dX8_secondsOf_31 : decode cX8_secondsOf 31 = .ok (.imul, 1) := by decide +kernel
theorem dX8_secondsOf_32 : decode cX8_secondsOf 32 = .ok (.iload_n 3, 1) := by decide +kernel
theorem dX8_secondsOf_33 : decode cX8_secondsOf 33 = .ok (.iadd, 1) := by decide +kernel
theorem dX8_secondsOf_34 : decode cX8_secondsOf 34 = .ok (.iaload, 1) := by decide +kernel
theorem dX8_secondsOf_35 : decode cX8_secondsOf 35 = .ok (.if_icmp .ge 33, 3) := by decide +kernel
theorem dX8_secondsOf_38 : decode cX8_secondsOf 38 = .ok (.iload 4, 2) := by decide +kernel
theorem dX8_secondsOf_40 : decode cX8_secondsOf 40 = .ok (.aload_n 0, 1) := by decide +kernel
theorem dX8_secondsOf_41 : decode cX8_secondsOf 41 = .ok (.iload_n 1, 1) := by decide +kernel
theorem dX8_secondsOf_42 : decode cX8_secondsOf 42 = .ok (.aload_n 0, 1) := by decide +kernel
theorem dX8_secondsOf_43 : decode cX8_secondsOf 43 = .ok (.iload_n 1, 1) := by decide +kernel
theorem dX8_secondsOf_44 : decode cX8_secondsOf 44 = .ok (.iload_n 3, 1) := by decide +kernel
theorem dX8_secondsOf_45 : decode cX8_secondsOf 45 = .ok (.iload 5, 2) := by decide +kernel
theorem dX8_secondsOf_47 : decode cX8_secondsOf 47 = .ok (.invokevirtual 406, 3) := by decide +kernel
theorem dX8_secondsOf_50 : decode cX8_secondsOf 50 = .ok (.aload_n 0, 1) := by decide +kernel
theorem dX8_secondsOf_51 : decode cX8_secondsOf 51 = .ok (.getfield 45, 3) := by decide +kernel
theorem dX8_secondsOf_54 : decode cX8_secondsOf 54 = .ok (.iload_n 2, 1) := by decide +kernel
theorem dX8_secondsOf_55 : decode cX8_secondsOf 55 = .ok (.iaload, 1) := by decide +kernel
theorem dX8_secondsOf_56 : decode cX8_secondsOf 56 = .ok (.invokevirtual 435, 3) := by decide +kernel
theorem dX8_secondsOf_59 : decode cX8_secondsOf 59 = .ok (.iadd, 1) := by decide +kernel
theorem dX8_secondsOf_60 : decode cX8_secondsOf 60 = .ok (.istore 4, 2) := by decide +kernel
theorem dX8_secondsOf_62 : decode cX8_secondsOf 62 = .ok (.iinc 5 1, 3) := by decide +kernel
theorem dX8_secondsOf_65 : decode cX8_secondsOf 65 = .ok (.goto (-42), 3) := by decide +kernel
theorem dX8_secondsOf_68 : decode cX8_secondsOf 68 = .ok (.iload 4, 2) := by decide +kernel
theorem dX8_secondsOf_70 : decode cX8_secondsOf 70 = .ok (.ireturn, 1) := by decide +kernel
theorem dX8_getsOut_0 : decode cX8_getsOut 0 = .ok (.aload_n 0, 1) := by decide +kernel
theorem dX8_getsOut_1 : decode cX8_getsOut 1 = .ok (.getfield 112, 3) := by decide +kernel
theorem dX8_getsOut_4 : decode cX8_getsOut 4 = .ok (.bipush 6, 2) := by decide +kernel
theorem dX8_getsOut_6 : decode cX8_getsOut 6 = .ok (.iload_n 1, 1) := by decide +kernel
theorem dX8_getsOut_7 : decode cX8_getsOut 7 = .ok (.imul, 1) := by decide +kernel
theorem dX8_getsOut_8 : decode cX8_getsOut 8 = .ok (.iload_n 2, 1) := by decide +kernel
theorem dX8_getsOut_9 : decode cX8_getsOut 9 = .ok (.iadd, 1) := by decide +kernel
theorem dX8_getsOut_10 : decode cX8_getsOut 10 = .ok (.iaload, 1) := by decide +kernel
theorem dX8_getsOut_11 : decode cX8_getsOut 11 = .ok (.iconst 1, 1) := by decide +kernel
theorem dX8_getsOut_12 : decode cX8_getsOut 12 = .ok (.if_icmp .ne 33, 3) := by decide +kernel
theorem dX8_getsOut_15 : decode cX8_getsOut 15 = .ok (.aload_n 0, 1) := by decide +kernel
theorem dX8_getsOut_16 : decode cX8_getsOut 16 = .ok (.getfield 39, 3) := by decide +kernel
theorem dX8_getsOut_19 : decode cX8_getsOut 19 = .ok (.iload_n 2, 1) := by decide +kernel
theorem dX8_getsOut_20 : decode cX8_getsOut 20 = .ok (.iaload, 1) := by decide +kernel
theorem dX8_getsOut_21 : decode cX8_getsOut 21 = .ok (.aload_n 0, 1) := by decide +kernel
theorem dX8_getsOut_22 : decode cX8_getsOut 22 = .ok (.getfield 121, 3) := by decide +kernel
theorem dX8_getsOut_25 : decode cX8_getsOut 25 = .ok (.iload_n 1, 1) := by decide +kernel
theorem dX8_getsOut_26 : decode cX8_getsOut 26 = .ok (.iaload, 1) := by decide +kernel
theorem dX8_getsOut_27 : decode cX8_getsOut 27 = .ok (.if_icmp .le 14, 3) := by decide +kernel
theorem dX8_getsOut_30 : decode cX8_getsOut 30 = .ok (.aload_n 0, 1) := by decide +kernel
theorem dX8_getsOut_31 : decode cX8_getsOut 31 = .ok (.getfield 121, 3) := by decide +kernel
theorem dX8_getsOut_34 : decode cX8_getsOut 34 = .ok (.iload_n 1, 1) := by decide +kernel
theorem dX8_getsOut_35 : decode cX8_getsOut 35 = .ok (.iaload, 1) := by decide +kernel
theorem dX8_getsOut_36 : decode cX8_getsOut 36 = .ok (.bipush 20, 2) := by decide +kernel
theorem dX8_getsOut_38 : decode cX8_getsOut 38 = .ok (.if_icmp .ne 7, 3) := by decide +kernel
theorem dX8_getsOut_41 : decode cX8_getsOut 41 = .ok (.iconst 1, 1) := by decide +kernel
theorem dX8_getsOut_42 : decode cX8_getsOut 42 = .ok (.goto 4, 3) := by decide +kernel
theorem dX8_getsOut_45 : decode cX8_getsOut 45 = .ok (.iconst 0, 1) := by decide +kernel
theorem dX8_getsOut_46 : decode cX8_getsOut 46 = .ok (.ireturn, 1) := by decide +kernel
theorem dX8_hasAny_0 : decode cX8_hasAny 0 = .ok (.iconst 0, 1) := by decide +kernel
theorem dX8_hasAny_1 : decode cX8_hasAny 1 = .ok (.istore_n 3, 1) := by decide +kernel
theorem dX8_hasAny_2 : decode cX8_hasAny 2 = .ok (.iload_n 3, 1) := by decide +kernel
theorem dX8_hasAny_3 : decode cX8_hasAny 3 = .ok (.aload_n 0, 1) := by decide +kernel
theorem dX8_hasAny_4 : decode cX8_hasAny 4 = .ok (.getfield 258, 3) := by decide +kernel
theorem dX8_hasAny_7 : decode cX8_hasAny 7 = .ok (.if_icmp .ge 36, 3) := by decide +kernel
theorem dX8_hasAny_10 : decode cX8_hasAny 10 = .ok (.aload_n 0, 1) := by decide +kernel
theorem dX8_hasAny_11 : decode cX8_hasAny 11 = .ok (.getfield 45, 3) := by decide +kernel
theorem dX8_hasAny_14 : decode cX8_hasAny 14 = .ok (.iload_n 3, 1) := by decide +kernel
theorem dX8_hasAny_15 : decode cX8_hasAny 15 = .ok (.iaload, 1) := by decide +kernel
theorem dX8_hasAny_16 : decode cX8_hasAny 16 = .ok (.iload_n 2, 1) := by decide +kernel
theorem dX8_hasAny_17 : decode cX8_hasAny 17 = .ok (.if_icmp .ne 20, 3) := by decide +kernel
theorem dX8_hasAny_20 : decode cX8_hasAny 20 = .ok (.aload_n 0, 1) := by decide +kernel
theorem dX8_hasAny_21 : decode cX8_hasAny 21 = .ok (.getfield 94, 3) := by decide +kernel
theorem dX8_hasAny_24 : decode cX8_hasAny 24 = .ok (.bipush 10, 2) := by decide +kernel
theorem dX8_hasAny_26 : decode cX8_hasAny 26 = .ok (.iload_n 1, 1) := by decide +kernel
theorem dX8_hasAny_27 : decode cX8_hasAny 27 = .ok (.imul, 1) := by decide +kernel
theorem dX8_hasAny_28 : decode cX8_hasAny 28 = .ok (.iload_n 3, 1) := by decide +kernel
theorem dX8_hasAny_29 : decode cX8_hasAny 29 = .ok (.iadd, 1) := by decide +kernel
theorem dX8_hasAny_30 : decode cX8_hasAny 30 = .ok (.iaload, 1) := by decide +kernel
theorem dX8_hasAny_31 : decode cX8_hasAny 31 = .ok (.iconst 1, 1) := by decide +kernel
theorem dX8_hasAny_32 : decode cX8_hasAny 32 = .ok (.if_icmp .ne 5, 3) := by decide +kernel
theorem dX8_hasAny_35 : decode cX8_hasAny 35 = .ok (.iconst 1, 1) := by decide +kernel
theorem dX8_hasAny_36 : decode cX8_hasAny 36 = .ok (.ireturn, 1) := by decide +kernel
theorem dX8_hasAny_37 : decode cX8_hasAny 37 = .ok (.iinc 3 1, 3) := by decide +kernel
theorem dX8_hasAny_40 : decode cX8_hasAny 40 = .ok (.goto (-38), 3) := by decide +kernel
theorem dX8_hasAny_43 : decode cX8_hasAny 43 = .ok (.iconst 0, 1) := by decide +kernel
theorem dX8_hasAny_44 : decode cX8_hasAny 44 = .ok (.ireturn, 1) := by decide +kernel
theorem dX8_outs_0 : decode cX8_outs 0 = .ok (.iconst 1, 1) := by decide +kernel
theorem dX8_outs_1 : decode cX8_outs 1 = .ok (.istore_n 2, 1) := by decide +kernel
theorem dX8_outs_2 : decode cX8_outs 2 = .ok (.aload_n 0, 1) := by decide +kernel
theorem dX8_outs_3 : decode cX8_outs 3 = .ok (.iconst 0, 1) := by decide +kernel
theorem dX8_outs_4 : decode cX8_outs 4 = .ok (.putfield 438, 3) := by decide +kernel
theorem dX8_outs_7 : decode cX8_outs 7 = .ok (.iconst 0, 1) := by decide +kernel
theorem dX8_outs_8 : decode cX8_outs 8 = .ok (.istore_n 3, 1) := by decide +kernel
theorem dX8_outs_9 : decode cX8_outs 9 = .ok (.iload_n 3, 1) := by decide +kernel
theorem dX8_outs_10 : decode cX8_outs 10 = .ok (.aload_n 0, 1) := by decide +kernel
theorem dX8_outs_11 : decode cX8_outs 11 = .ok (.getfield 255, 3) := by decide +kernel
theorem dX8_outs_14 : decode cX8_outs 14 = .ok (.if_icmp .ge 195, 3) := by decide +kernel
theorem dX8_outs_17 : decode cX8_outs 17 = .ok (.aload_n 0, 1) := by decide +kernel
theorem dX8_outs_18 : decode cX8_outs 18 = .ok (.iload_n 1, 1) := by decide +kernel
theorem dX8_outs_19 : decode cX8_outs 19 = .ok (.iload_n 3, 1) := by decide +kernel
theorem dX8_outs_20 : decode cX8_outs 20 = .ok (.invokevirtual 441, 3) := by decide +kernel
theorem dX8_outs_23 : decode cX8_outs 23 = .ok (.ifCond .ne 6, 3) := by decide +kernel
theorem dX8_outs_26 : decode cX8_outs 26 = .ok (.goto 177, 3) := by decide +kernel
theorem dX8_outs_29 : decode cX8_outs 29 = .ok (.iconst 0, 1) := by decide +kernel
theorem dX8_outs_30 : decode cX8_outs 30 = .ok (.istore 4, 2) := by decide +kernel
theorem dX8_outs_32 : decode cX8_outs 32 = .ok (.iload 4, 2) := by decide +kernel
theorem dX8_outs_34 : decode cX8_outs 34 = .ok (.aload_n 0, 1) := by decide +kernel
theorem dX8_outs_35 : decode cX8_outs 35 = .ok (.getfield 258, 3) := by decide +kernel
theorem dX8_outs_38 : decode cX8_outs 38 = .ok (.if_icmp .ge 144, 3) := by decide +kernel
theorem dX8_outs_41 : decode cX8_outs 41 = .ok (.aload_n 0, 1) := by decide +kernel
theorem dX8_outs_42 : decode cX8_outs 42 = .ok (.getfield 45, 3) := by decide +kernel
theorem dX8_outs_45 : decode cX8_outs 45 = .ok (.iload 4, 2) := by decide +kernel
theorem dX8_outs_47 : decode cX8_outs 47 = .ok (.iaload, 1) := by decide +kernel
theorem dX8_outs_48 : decode cX8_outs 48 = .ok (.iload_n 3, 1) := by decide +kernel
theorem dX8_outs_49 : decode cX8_outs 49 = .ok (.if_icmp .ne 127, 3) := by decide +kernel
theorem dX8_outs_52 : decode cX8_outs 52 = .ok (.aload_n 0, 1) := by decide +kernel
theorem dX8_outs_53 : decode cX8_outs 53 = .ok (.getfield 94, 3) := by decide +kernel
theorem dX8_outs_56 : decode cX8_outs 56 = .ok (.bipush 10, 2) := by decide +kernel
theorem dX8_outs_58 : decode cX8_outs 58 = .ok (.iload_n 1, 1) := by decide +kernel
theorem dX8_outs_59 : decode cX8_outs 59 = .ok (.imul, 1) := by decide +kernel
theorem dX8_outs_60 : decode cX8_outs 60 = .ok (.iload 4, 2) := by decide +kernel
theorem dX8_outs_62 : decode cX8_outs 62 = .ok (.iadd, 1) := by decide +kernel
theorem dX8_outs_63 : decode cX8_outs 63 = .ok (.iaload, 1) := by decide +kernel
theorem dX8_outs_64 : decode cX8_outs 64 = .ok (.iconst 1, 1) := by decide +kernel
theorem dX8_outs_65 : decode cX8_outs 65 = .ok (.if_icmp .eq 6, 3) := by decide +kernel
theorem dX8_outs_68 : decode cX8_outs 68 = .ok (.goto 108, 3) := by decide +kernel
theorem dX8_outs_71 : decode cX8_outs 71 = .ok (.aload_n 0, 1) := by decide +kernel
theorem dX8_outs_72 : decode cX8_outs 72 = .ok (.iload_n 1, 1) := by decide +kernel
theorem dX8_outs_73 : decode cX8_outs 73 = .ok (.iload 4, 2) := by decide +kernel
theorem dX8_outs_75 : decode cX8_outs 75 = .ok (.invokevirtual 444, 3) := by decide +kernel
theorem dX8_outs_78 : decode cX8_outs 78 = .ok (.istore 5, 2) := by decide +kernel
theorem dX8_outs_80 : decode cX8_outs 80 = .ok (.iload_n 2, 1) := by decide +kernel
theorem dX8_outs_81 : decode cX8_outs 81 = .ok (.ifCond .eq 35, 3) := by decide +kernel
theorem dX8_outs_84 : decode cX8_outs 84 = .ok (.aload_n 0, 1) := by decide +kernel
theorem dX8_outs_85 : decode cX8_outs 85 = .ok (.getfield 403, 3) := by decide +kernel
theorem dX8_outs_88 : decode cX8_outs 88 = .ok (.ifCond .ne 24, 3) := by decide +kernel
theorem dX8_outs_91 : decode cX8_outs 91 = .ok (.aload_n 0, 1) := by decide +kernel
theorem dX8_outs_92 : decode cX8_outs 92 = .ok (.getfield 438, 3) := by decide +kernel
theorem dX8_outs_95 : decode cX8_outs 95 = .ok (.iload 5, 2) := by decide +kernel
theorem dX8_outs_97 : decode cX8_outs 97 = .ok (.iadd, 1) := by decide +kernel
theorem dX8_outs_98 : decode cX8_outs 98 = .ok (.aload_n 0, 1) := by decide +kernel
theorem dX8_outs_99 : decode cX8_outs 99 = .ok (.getfield 57, 3) := by decide +kernel
theorem dX8_outs_102 : decode cX8_outs 102 = .ok (.aload_n 0, 1) := by decide +kernel
theorem dX8_outs_103 : decode cX8_outs 103 = .ok (.getfield 121, 3) := by decide +kernel
theorem dX8_outs_106 : decode cX8_outs 106 = .ok (.iload_n 1, 1) := by decide +kernel
theorem dX8_outs_107 : decode cX8_outs 107 = .ok (.iaload, 1) := by decide +kernel
theorem dX8_outs_108 : decode cX8_outs 108 = .ok (.iaload, 1) := by decide +kernel
theorem dX8_outs_109 : decode cX8_outs 109 = .ok (.if_icmp .gt 7, 3) := by decide +kernel
theorem dX8_outs_112 : decode cX8_outs 112 = .ok (.iconst 1, 1) := by decide +kernel
theorem dX8_outs_113 : decode cX8_outs 113 = .ok (.goto 4, 3) := by decide +kernel
theorem dX8_outs_116 : decode cX8_outs 116 = .ok (.iconst 0, 1) := by decide +kernel
theorem dX8_outs_117 : decode cX8_outs 117 = .ok (.istore_n 2, 1) := by decide +kernel
theorem dX8_outs_118 : decode cX8_outs 118 = .ok (.iload_n 2, 1) := by decide +kernel
theorem dX8_outs_119 : decode cX8_outs 119 = .ok (.ifCond .ne 6, 3) := by decide +kernel
theorem dX8_outs_122 : decode cX8_outs 122 = .ok (.goto 54, 3) := by decide +kernel
theorem dX8_outs_125 : decode cX8_outs 125 = .ok (.aload_n 0, 1) := by decide +kernel
theorem dX8_outs_126 : decode cX8_outs 126 = .ok (.dup, 1) := by decide +kernel
theorem dX8_outs_127 : decode cX8_outs 127 = .ok (.getfield 438, 3) := by decide +kernel
theorem dX8_outs_130 : decode cX8_outs 130 = .ok (.iload 5, 2) := by decide +kernel
theorem dX8_outs_132 : decode cX8_outs 132 = .ok (.iadd, 1) := by decide +kernel
theorem dX8_outs_133 : decode cX8_outs 133 = .ok (.putfield 438, 3) := by decide +kernel
theorem dX8_outs_136 : decode cX8_outs 136 = .ok (.aload_n 0, 1) := by decide +kernel
theorem dX8_outs_137 : decode cX8_outs 137 = .ok (.getfield 115, 3) := by decide +kernel
theorem dX8_outs_140 : decode cX8_outs 140 = .ok (.bipush 6, 2) := by decide +kernel
theorem dX8_outs_142 : decode cX8_outs 142 = .ok (.iload_n 1, 1) := by decide +kernel
theorem dX8_outs_143 : decode cX8_outs 143 = .ok (.imul, 1) := by decide +kernel
theorem dX8_outs_144 : decode cX8_outs 144 = .ok (.iload_n 3, 1) := by decide +kernel
theorem dX8_outs_145 : decode cX8_outs 145 = .ok (.iadd, 1) := by decide +kernel
theorem dX8_outs_146 : decode cX8_outs 146 = .ok (.dup2, 1) := by decide +kernel
theorem dX8_outs_147 : decode cX8_outs 147 = .ok (.iaload, 1) := by decide +kernel
theorem dX8_outs_148 : decode cX8_outs 148 = .ok (.iload 5, 2) := by decide +kernel
theorem dX8_outs_150 : decode cX8_outs 150 = .ok (.iadd, 1) := by decide +kernel
theorem dX8_outs_151 : decode cX8_outs 151 = .ok (.iastore, 1) := by decide +kernel
theorem dX8_outs_152 : decode cX8_outs 152 = .ok (.aload_n 0, 1) := by decide +kernel
theorem dX8_outs_153 : decode cX8_outs 153 = .ok (.getfield 118, 3) := by decide +kernel
theorem dX8_outs_156 : decode cX8_outs 156 = .ok (.iload_n 1, 1) := by decide +kernel
theorem dX8_outs_157 : decode cX8_outs 157 = .ok (.dup2, 1) := by decide +kernel
theorem dX8_outs_158 : decode cX8_outs 158 = .ok (.iaload, 1) := by decide +kernel
theorem dX8_outs_159 : decode cX8_outs 159 = .ok (.aload_n 0, 1) := by decide +kernel
theorem dX8_outs_160 : decode cX8_outs 160 = .ok (.iload_n 1, 1) := by decide +kernel
theorem dX8_outs_161 : decode cX8_outs 161 = .ok (.iload 4, 2) := by decide +kernel
theorem dX8_outs_163 : decode cX8_outs 163 = .ok (.invokevirtual 416, 3) := by decide +kernel
theorem dX8_outs_166 : decode cX8_outs 166 = .ok (.iadd, 1) := by decide +kernel
theorem dX8_outs_167 : decode cX8_outs 167 = .ok (.iastore, 1) := by decide +kernel
theorem dX8_outs_168 : decode cX8_outs 168 = .ok (.aload_n 0, 1) := by decide +kernel
theorem dX8_outs_169 : decode cX8_outs 169 = .ok (.iload_n 1, 1) := by decide +kernel
theorem dX8_outs_170 : decode cX8_outs 170 = .ok (.iload 4, 2) := by decide +kernel
theorem dX8_outs_172 : decode cX8_outs 172 = .ok (.iconst 2, 1) := by decide +kernel
theorem dX8_outs_173 : decode cX8_outs 173 = .ok (.invokevirtual 447, 3) := by decide +kernel
theorem dX8_outs_176 : decode cX8_outs 176 = .ok (.iinc 4 1, 3) := by decide +kernel
theorem dX8_outs_179 : decode cX8_outs 179 = .ok (.goto (-147), 3) := by decide +kernel
theorem dX8_outs_182 : decode cX8_outs 182 = .ok (.aload_n 0, 1) := by decide +kernel
theorem dX8_outs_183 : decode cX8_outs 183 = .ok (.iload_n 1, 1) := by decide +kernel
theorem dX8_outs_184 : decode cX8_outs 184 = .ok (.iload_n 3, 1) := by decide +kernel
theorem dX8_outs_185 : decode cX8_outs 185 = .ok (.invokevirtual 450, 3) := by decide +kernel
theorem dX8_outs_188 : decode cX8_outs 188 = .ok (.ifCond .ne 15, 3) := by decide +kernel
theorem dX8_outs_191 : decode cX8_outs 191 = .ok (.aload_n 0, 1) := by decide +kernel
theorem dX8_outs_192 : decode cX8_outs 192 = .ok (.getfield 112, 3) := by decide +kernel
theorem dX8_outs_195 : decode cX8_outs 195 = .ok (.bipush 6, 2) := by decide +kernel
theorem dX8_outs_197 : decode cX8_outs 197 = .ok (.iload_n 1, 1) := by decide +kernel
theorem dX8_outs_198 : decode cX8_outs 198 = .ok (.imul, 1) := by decide +kernel
theorem dX8_outs_199 : decode cX8_outs 199 = .ok (.iload_n 3, 1) := by decide +kernel
theorem dX8_outs_200 : decode cX8_outs 200 = .ok (.iadd, 1) := by decide +kernel
theorem dX8_outs_201 : decode cX8_outs 201 = .ok (.iconst 2, 1) := by decide +kernel
theorem dX8_outs_202 : decode cX8_outs 202 = .ok (.iastore, 1) := by decide +kernel
theorem dX8_outs_203 : decode cX8_outs 203 = .ok (.iinc 3 1, 3) := by decide +kernel
theorem dX8_outs_206 : decode cX8_outs 206 = .ok (.goto (-197), 3) := by decide +kernel
theorem dX8_outs_209 : decode cX8_outs 209 = .ok (.aload_n 0, 1) := by decide +kernel
theorem dX8_outs_210 : decode cX8_outs 210 = .ok (.getfield 121, 3) := by decide +kernel
theorem dX8_outs_213 : decode cX8_outs 213 = .ok (.iload_n 1, 1) := by decide +kernel
theorem dX8_outs_214 : decode cX8_outs 214 = .ok (.iaload, 1) := by decide +kernel
theorem dX8_outs_215 : decode cX8_outs 215 = .ok (.bipush 20, 2) := by decide +kernel
theorem dX8_outs_217 : decode cX8_outs 217 = .ok (.if_icmp .ge 4, 3) := by decide +kernel
theorem dX8_outs_220 : decode cX8_outs 220 = .ok (.return_, 1) := by decide +kernel
theorem dX8_outs_221 : decode cX8_outs 221 = .ok (.iconst 0, 1) := by decide +kernel
theorem dX8_outs_222 : decode cX8_outs 222 = .ok (.istore_n 3, 1) := by decide +kernel
theorem dX8_outs_223 : decode cX8_outs 223 = .ok (.iload_n 3, 1) := by decide +kernel
theorem dX8_outs_224 : decode cX8_outs 224 = .ok (.aload_n 0, 1) := by decide +kernel
theorem dX8_outs_225 : decode cX8_outs 225 = .ok (.getfield 258, 3) := by decide +kernel
theorem dX8_outs_228 : decode cX8_outs 228 = .ok (.if_icmp .ge 31, 3) := by decide +kernel
theorem dX8_outs_231 : decode cX8_outs 231 = .ok (.aload_n 0, 1) := by decide +kernel
theorem dX8_outs_232 : decode cX8_outs 232 = .ok (.getfield 94, 3) := by decide +kernel
theorem dX8_outs_235 : decode cX8_outs 235 = .ok (.bipush 10, 2) := by decide +kernel
theorem dX8_outs_237 : decode cX8_outs 237 = .ok (.iload_n 1, 1) := by decide +kernel
theorem dX8_outs_238 : decode cX8_outs 238 = .ok (.imul, 1) := by decide +kernel
theorem dX8_outs_239 : decode cX8_outs 239 = .ok (.iload_n 3, 1) := by decide +kernel
theorem dX8_outs_240 : decode cX8_outs 240 = .ok (.iadd, 1) := by decide +kernel
theorem dX8_outs_241 : decode cX8_outs 241 = .ok (.iaload, 1) := by decide +kernel
theorem dX8_outs_242 : decode cX8_outs 242 = .ok (.iconst 1, 1) := by decide +kernel
theorem dX8_outs_243 : decode cX8_outs 243 = .ok (.if_icmp .ne 10, 3) := by decide +kernel
theorem dX8_outs_246 : decode cX8_outs 246 = .ok (.aload_n 0, 1) := by decide +kernel
theorem dX8_outs_247 : decode cX8_outs 247 = .ok (.iload_n 1, 1) := by decide +kernel
theorem dX8_outs_248 : decode cX8_outs 248 = .ok (.iload_n 3, 1) := by decide +kernel
theorem dX8_outs_249 : decode cX8_outs 249 = .ok (.iconst 5, 1) := by decide +kernel
theorem dX8_outs_250 : decode cX8_outs 250 = .ok (.invokevirtual 447, 3) := by decide +kernel
theorem dX8_outs_253 : decode cX8_outs 253 = .ok (.iinc 3 1, 3) := by decide +kernel
theorem dX8_outs_256 : decode cX8_outs 256 = .ok (.goto (-33), 3) := by decide +kernel
theorem dX8_outs_259 : decode cX8_outs 259 = .ok (.iconst 0, 1) := by decide +kernel
theorem dX8_outs_260 : decode cX8_outs 260 = .ok (.istore_n 3, 1) := by decide +kernel
theorem dX8_outs_261 : decode cX8_outs 261 = .ok (.iload_n 3, 1) := by decide +kernel
theorem dX8_outs_262 : decode cX8_outs 262 = .ok (.aload_n 0, 1) := by decide +kernel
theorem dX8_outs_263 : decode cX8_outs 263 = .ok (.getfield 255, 3) := by decide +kernel
theorem dX8_outs_266 : decode cX8_outs 266 = .ok (.if_icmp .ge 36, 3) := by decide +kernel
theorem dX8_outs_269 : decode cX8_outs 269 = .ok (.aload_n 0, 1) := by decide +kernel
theorem dX8_outs_270 : decode cX8_outs 270 = .ok (.getfield 112, 3) := by decide +kernel
theorem dX8_outs_273 : decode cX8_outs 273 = .ok (.bipush 6, 2) := by decide +kernel
theorem dX8_outs_275 : decode cX8_outs 275 = .ok (.iload_n 1, 1) := by decide +kernel
theorem dX8_outs_276 : decode cX8_outs 276 = .ok (.imul, 1) := by decide +kernel
theorem dX8_outs_277 : decode cX8_outs 277 = .ok (.iload_n 3, 1) := by decide +kernel
theorem dX8_outs_278 : decode cX8_outs 278 = .ok (.iadd, 1) := by decide +kernel
theorem dX8_outs_279 : decode cX8_outs 279 = .ok (.iaload, 1) := by decide +kernel
theorem dX8_outs_280 : decode cX8_outs 280 = .ok (.iconst 1, 1) := by decide +kernel
theorem dX8_outs_281 : decode cX8_outs 281 = .ok (.if_icmp .ne 15, 3) := by decide +kernel
theorem dX8_outs_284 : decode cX8_outs 284 = .ok (.aload_n 0, 1) := by decide +kernel
theorem dX8_outs_285 : decode cX8_outs 285 = .ok (.getfield 112, 3) := by decide +kernel
theorem dX8_outs_288 : decode cX8_outs 288 = .ok (.bipush 6, 2) := by decide +kernel
theorem dX8_outs_290 : decode cX8_outs 290 = .ok (.iload_n 1, 1) := by decide +kernel
theorem dX8_outs_291 : decode cX8_outs 291 = .ok (.imul, 1) := by decide +kernel
theorem dX8_outs_292 : decode cX8_outs 292 = .ok (.iload_n 3, 1) := by decide +kernel
theorem dX8_outs_293 : decode cX8_outs 293 = .ok (.iadd, 1) := by decide +kernel
theorem dX8_outs_294 : decode cX8_outs 294 = .ok (.iconst 2, 1) := by decide +kernel
theorem dX8_outs_295 : decode cX8_outs 295 = .ok (.iastore, 1) := by decide +kernel
theorem dX8_outs_296 : decode cX8_outs 296 = .ok (.iinc 3 1, 3) := by decide +kernel
theorem dX8_outs_299 : decode cX8_outs 299 = .ok (.goto (-38), 3) := by decide +kernel
theorem dX8_outs_302 : decode cX8_outs 302 = .ok (.return_, 1) := by decide +kernel
theorem dX8_placeFor_0 : decode cX8_placeFor 0 = .ok (.aload_n 0, 1) := by decide +kernel
theorem dX8_placeFor_1 : decode cX8_placeFor 1 = .ok (.getfield 127, 3) := by decide +kernel
theorem dX8_placeFor_4 : decode cX8_placeFor 4 = .ok (.iload_n 2, 1) := by decide +kernel
theorem dX8_placeFor_5 : decode cX8_placeFor 5 = .ok (.iaload, 1) := by decide +kernel
theorem dX8_placeFor_6 : decode cX8_placeFor 6 = .ok (.ifCond .lt 29, 3) := by decide +kernel
theorem dX8_placeFor_9 : decode cX8_placeFor 9 = .ok (.aload_n 0, 1) := by decide +kernel
theorem dX8_placeFor_10 : decode cX8_placeFor 10 = .ok (.iload_n 1, 1) := by decide +kernel
theorem dX8_placeFor_11 : decode cX8_placeFor 11 = .ok (.aload_n 0, 1) := by decide +kernel
theorem dX8_placeFor_12 : decode cX8_placeFor 12 = .ok (.getfield 127, 3) := by decide +kernel
theorem dX8_placeFor_15 : decode cX8_placeFor 15 = .ok (.iload_n 2, 1) := by decide +kernel
theorem dX8_placeFor_16 : decode cX8_placeFor 16 = .ok (.iaload, 1) := by decide +kernel
theorem dX8_placeFor_17 : decode cX8_placeFor 17 = .ok (.iload_n 2, 1) := by decide +kernel
theorem dX8_placeFor_18 : decode cX8_placeFor 18 = .ok (.invokevirtual 453, 3) := by decide +kernel
theorem dX8_placeFor_21 : decode cX8_placeFor 21 = .ok (.ifCond .eq 12, 3) := by decide +kernel
theorem dX8_placeFor_24 : decode cX8_placeFor 24 = .ok (.aload_n 0, 1) := by decide +kernel
theorem dX8_placeFor_25 : decode cX8_placeFor 25 = .ok (.getfield 127, 3) := by decide +kernel
theorem dX8_placeFor_28 : decode cX8_placeFor 28 = .ok (.iload_n 2, 1) := by decide +kernel
theorem dX8_placeFor_29 : decode cX8_placeFor 29 = .ok (.iaload, 1) := by decide +kernel
theorem dX8_placeFor_30 : decode cX8_placeFor 30 = .ok (.goto 4, 3) := by decide +kernel
theorem dX8_placeFor_33 : decode cX8_placeFor 33 = .ok (.iconst (-1), 1) := by decide +kernel
theorem dX8_placeFor_34 : decode cX8_placeFor 34 = .ok (.ireturn, 1) := by decide +kernel
theorem dX8_placeFor_35 : decode cX8_placeFor 35 = .ok (.aload_n 0, 1) := by decide +kernel
theorem dX8_placeFor_36 : decode cX8_placeFor 36 = .ok (.getfield 54, 3) := by decide +kernel
theorem dX8_placeFor_39 : decode cX8_placeFor 39 = .ok (.iload_n 2, 1) := by decide +kernel
theorem dX8_placeFor_40 : decode cX8_placeFor 40 = .ok (.iaload, 1) := by decide +kernel
theorem dX8_placeFor_41 : decode cX8_placeFor 41 = .ok (.ifCond .lt 29, 3) := by decide +kernel
theorem dX8_placeFor_44 : decode cX8_placeFor 44 = .ok (.aload_n 0, 1) := by decide +kernel
theorem dX8_placeFor_45 : decode cX8_placeFor 45 = .ok (.iload_n 1, 1) := by decide +kernel
theorem dX8_placeFor_46 : decode cX8_placeFor 46 = .ok (.aload_n 0, 1) := by decide +kernel
theorem dX8_placeFor_47 : decode cX8_placeFor 47 = .ok (.getfield 54, 3) := by decide +kernel
theorem dX8_placeFor_50 : decode cX8_placeFor 50 = .ok (.iload_n 2, 1) := by decide +kernel
theorem dX8_placeFor_51 : decode cX8_placeFor 51 = .ok (.iaload, 1) := by decide +kernel
theorem dX8_placeFor_52 : decode cX8_placeFor 52 = .ok (.iload_n 2, 1) := by decide +kernel
theorem dX8_placeFor_53 : decode cX8_placeFor 53 = .ok (.invokevirtual 453, 3) := by decide +kernel
theorem dX8_placeFor_56 : decode cX8_placeFor 56 = .ok (.ifCond .eq 12, 3) := by decide +kernel
theorem dX8_placeFor_59 : decode cX8_placeFor 59 = .ok (.aload_n 0, 1) := by decide +kernel
theorem dX8_placeFor_60 : decode cX8_placeFor 60 = .ok (.getfield 54, 3) := by decide +kernel
theorem dX8_placeFor_63 : decode cX8_placeFor 63 = .ok (.iload_n 2, 1) := by decide +kernel
theorem dX8_placeFor_64 : decode cX8_placeFor 64 = .ok (.iaload, 1) := by decide +kernel
theorem dX8_placeFor_65 : decode cX8_placeFor 65 = .ok (.goto 4, 3) := by decide +kernel
theorem dX8_placeFor_68 : decode cX8_placeFor 68 = .ok (.iconst (-1), 1) := by decide +kernel
theorem dX8_placeFor_69 : decode cX8_placeFor 69 = .ok (.ireturn, 1) := by decide +kernel
theorem dX8_placeFor_70 : decode cX8_placeFor 70 = .ok (.iconst (-1), 1) := by decide +kernel
theorem dX8_placeFor_71 : decode cX8_placeFor 71 = .ok (.istore_n 3, 1) := by decide +kernel
theorem dX8_placeFor_72 : decode cX8_placeFor 72 = .ok (.iconst 0, 1) := by decide +kernel
theorem dX8_placeFor_73 : decode cX8_placeFor 73 = .ok (.istore 4, 2) := by decide +kernel
theorem dX8_placeFor_75 : decode cX8_placeFor 75 = .ok (.iload 4, 2) := by decide +kernel
theorem dX8_placeFor_77 : decode cX8_placeFor 77 = .ok (.aload_n 0, 1) := by decide +kernel
theorem dX8_placeFor_78 : decode cX8_placeFor 78 = .ok (.getfield 252, 3) := by decide +kernel
theorem dX8_placeFor_81 : decode cX8_placeFor 81 = .ok (.if_icmp .ge 62, 3) := by decide +kernel
theorem dX8_placeFor_84 : decode cX8_placeFor 84 = .ok (.aload_n 0, 1) := by decide +kernel
theorem dX8_placeFor_85 : decode cX8_placeFor 85 = .ok (.iload_n 1, 1) := by decide +kernel
theorem dX8_placeFor_86 : decode cX8_placeFor 86 = .ok (.iload 4, 2) := by decide +kernel
theorem dX8_placeFor_88 : decode cX8_placeFor 88 = .ok (.iload_n 2, 1) := by decide +kernel
theorem dX8_placeFor_89 : decode cX8_placeFor 89 = .ok (.invokevirtual 453, 3) := by decide +kernel
theorem dX8_placeFor_92 : decode cX8_placeFor 92 = .ok (.ifCond .ne 6, 3) := by decide +kernel
theorem dX8_placeFor_95 : decode cX8_placeFor 95 = .ok (.goto 42, 3) := by decide +kernel
theorem dX8_placeFor_98 : decode cX8_placeFor 98 = .ok (.iload_n 3, 1) := by decide +kernel
theorem dX8_placeFor_99 : decode cX8_placeFor 99 = .ok (.ifCond .lt 35, 3) := by decide +kernel
theorem dX8_placeFor_102 : decode cX8_placeFor 102 = .ok (.aload_n 0, 1) := by decide +kernel
theorem dX8_placeFor_103 : decode cX8_placeFor 103 = .ok (.getfield 385, 3) := by decide +kernel
theorem dX8_placeFor_106 : decode cX8_placeFor 106 = .ok (.iconst 2, 1) := by decide +kernel
theorem dX8_placeFor_107 : decode cX8_placeFor 107 = .ok (.if_icmp .eq 27, 3) := by decide +kernel
theorem dX8_placeFor_110 : decode cX8_placeFor 110 = .ok (.aload_n 0, 1) := by decide +kernel
theorem dX8_placeFor_111 : decode cX8_placeFor 111 = .ok (.getfield 385, 3) := by decide +kernel
theorem dX8_placeFor_114 : decode cX8_placeFor 114 = .ok (.iconst 1, 1) := by decide +kernel
theorem dX8_placeFor_115 : decode cX8_placeFor 115 = .ok (.if_icmp .ne 22, 3) := by decide +kernel
theorem dX8_placeFor_118 : decode cX8_placeFor 118 = .ok (.aload_n 0, 1) := by decide +kernel
theorem dX8_placeFor_119 : decode cX8_placeFor 119 = .ok (.iload_n 1, 1) := by decide +kernel
theorem dX8_placeFor_120 : decode cX8_placeFor 120 = .ok (.iload 4, 2) := by decide +kernel
theorem dX8_placeFor_122 : decode cX8_placeFor 122 = .ok (.invokevirtual 413, 3) := by decide +kernel
theorem dX8_placeFor_125 : decode cX8_placeFor 125 = .ok (.aload_n 0, 1) := by decide +kernel
theorem dX8_placeFor_126 : decode cX8_placeFor 126 = .ok (.iload_n 1, 1) := by decide +kernel
theorem dX8_placeFor_127 : decode cX8_placeFor 127 = .ok (.iload_n 3, 1) := by decide +kernel
theorem dX8_placeFor_128 : decode cX8_placeFor 128 = .ok (.invokevirtual 413, 3) := by decide +kernel
theorem dX8_placeFor_131 : decode cX8_placeFor 131 = .ok (.if_icmp .ge 6, 3) := by decide +kernel
theorem dX8_placeFor_134 : decode cX8_placeFor 134 = .ok (.iload 4, 2) := by decide +kernel
theorem dX8_placeFor_136 : decode cX8_placeFor 136 = .ok (.istore_n 3, 1) := by decide +kernel
theorem dX8_placeFor_137 : decode cX8_placeFor 137 = .ok (.iinc 4 1, 3) := by decide +kernel
theorem dX8_placeFor_140 : decode cX8_placeFor 140 = .ok (.goto (-65), 3) := by decide +kernel
theorem dX8_placeFor_143 : decode cX8_placeFor 143 = .ok (.iload_n 3, 1) := by decide +kernel
theorem dX8_placeFor_144 : decode cX8_placeFor 144 = .ok (.ireturn, 1) := by decide +kernel
theorem dX8_ins_0 : decode cX8_ins 0 = .ok (.iconst 0, 1) := by decide +kernel
theorem dX8_ins_1 : decode cX8_ins 1 = .ok (.istore_n 2, 1) := by decide +kernel
theorem dX8_ins_2 : decode cX8_ins 2 = .ok (.iload_n 2, 1) := by decide +kernel
theorem dX8_ins_3 : decode cX8_ins 3 = .ok (.aload_n 0, 1) := by decide +kernel
theorem dX8_ins_4 : decode cX8_ins 4 = .ok (.getfield 255, 3) := by decide +kernel
theorem dX8_ins_7 : decode cX8_ins 7 = .ok (.if_icmp .ge 137, 3) := by decide +kernel
theorem dX8_ins_10 : decode cX8_ins 10 = .ok (.aload_n 0, 1) := by decide +kernel
theorem dX8_ins_11 : decode cX8_ins 11 = .ok (.getfield 106, 3) := by decide +kernel
theorem dX8_ins_14 : decode cX8_ins 14 = .ok (.bipush 6, 2) := by decide +kernel
theorem dX8_ins_16 : decode cX8_ins 16 = .ok (.iload_n 1, 1) := by decide +kernel
theorem dX8_ins_17 : decode cX8_ins 17 = .ok (.imul, 1) := by decide +kernel
theorem dX8_ins_18 : decode cX8_ins 18 = .ok (.iload_n 2, 1) := by decide +kernel
theorem dX8_ins_19 : decode cX8_ins 19 = .ok (.iadd, 1) := by decide +kernel
theorem dX8_ins_20 : decode cX8_ins 20 = .ok (.iaload, 1) := by decide +kernel
theorem dX8_ins_21 : decode cX8_ins 21 = .ok (.aload_n 0, 1) := by decide +kernel
theorem dX8_ins_22 : decode cX8_ins 22 = .ok (.getfield 121, 3) := by decide +kernel
theorem dX8_ins_25 : decode cX8_ins 25 = .ok (.iload_n 1, 1) := by decide +kernel
theorem dX8_ins_26 : decode cX8_ins 26 = .ok (.iaload, 1) := by decide +kernel
theorem dX8_ins_27 : decode cX8_ins 27 = .ok (.if_icmp .ne 111, 3) := by decide +kernel
theorem dX8_ins_30 : decode cX8_ins 30 = .ok (.aload_n 0, 1) := by decide +kernel
theorem dX8_ins_31 : decode cX8_ins 31 = .ok (.getfield 112, 3) := by decide +kernel
theorem dX8_ins_34 : decode cX8_ins 34 = .ok (.bipush 6, 2) := by decide +kernel
theorem dX8_ins_36 : decode cX8_ins 36 = .ok (.iload_n 1, 1) := by decide +kernel
theorem dX8_ins_37 : decode cX8_ins 37 = .ok (.imul, 1) := by decide +kernel
theorem dX8_ins_38 : decode cX8_ins 38 = .ok (.iload_n 2, 1) := by decide +kernel
theorem dX8_ins_39 : decode cX8_ins 39 = .ok (.iadd, 1) := by decide +kernel
theorem dX8_ins_40 : decode cX8_ins 40 = .ok (.iaload, 1) := by decide +kernel
theorem dX8_ins_41 : decode cX8_ins 41 = .ok (.ifCond .eq 6, 3) := by decide +kernel
theorem dX8_ins_44 : decode cX8_ins 44 = .ok (.goto 94, 3) := by decide +kernel
theorem dX8_ins_47 : decode cX8_ins 47 = .ok (.aload_n 0, 1) := by decide +kernel
theorem dX8_ins_48 : decode cX8_ins 48 = .ok (.getfield 112, 3) := by decide +kernel
theorem dX8_ins_51 : decode cX8_ins 51 = .ok (.bipush 6, 2) := by decide +kernel
theorem dX8_ins_53 : decode cX8_ins 53 = .ok (.iload_n 1, 1) := by decide +kernel
theorem dX8_ins_54 : decode cX8_ins 54 = .ok (.imul, 1) := by decide +kernel
theorem dX8_ins_55 : decode cX8_ins 55 = .ok (.iload_n 2, 1) := by decide +kernel
theorem dX8_ins_56 : decode cX8_ins 56 = .ok (.iadd, 1) := by decide +kernel
theorem dX8_ins_57 : decode cX8_ins 57 = .ok (.iconst 1, 1) := by decide +kernel
theorem dX8_ins_58 : decode cX8_ins 58 = .ok (.iastore, 1) := by decide +kernel
theorem dX8_ins_59 : decode cX8_ins 59 = .ok (.iconst 0, 1) := by decide +kernel
theorem dX8_ins_60 : decode cX8_ins 60 = .ok (.istore_n 3, 1) := by decide +kernel
theorem dX8_ins_61 : decode cX8_ins 61 = .ok (.iload_n 3, 1) := by decide +kernel
theorem dX8_ins_62 : decode cX8_ins 62 = .ok (.aload_n 0, 1) := by decide +kernel
theorem dX8_ins_63 : decode cX8_ins 63 = .ok (.getfield 258, 3) := by decide +kernel
theorem dX8_ins_66 : decode cX8_ins 66 = .ok (.if_icmp .ge 72, 3) := by decide +kernel
theorem dX8_ins_69 : decode cX8_ins 69 = .ok (.aload_n 0, 1) := by decide +kernel
theorem dX8_ins_70 : decode cX8_ins 70 = .ok (.getfield 45, 3) := by decide +kernel
theorem dX8_ins_73 : decode cX8_ins 73 = .ok (.iload_n 3, 1) := by decide +kernel
theorem dX8_ins_74 : decode cX8_ins 74 = .ok (.iaload, 1) := by decide +kernel
theorem dX8_ins_75 : decode cX8_ins 75 = .ok (.iload_n 2, 1) := by decide +kernel
theorem dX8_ins_76 : decode cX8_ins 76 = .ok (.if_icmp .ne 56, 3) := by decide +kernel
theorem dX8_ins_79 : decode cX8_ins 79 = .ok (.aload_n 0, 1) := by decide +kernel
theorem dX8_ins_80 : decode cX8_ins 80 = .ok (.getfield 94, 3) := by decide +kernel
theorem dX8_ins_83 : decode cX8_ins 83 = .ok (.bipush 10, 2) := by decide +kernel
theorem dX8_ins_85 : decode cX8_ins 85 = .ok (.iload_n 1, 1) := by decide +kernel
theorem dX8_ins_86 : decode cX8_ins 86 = .ok (.imul, 1) := by decide +kernel
theorem dX8_ins_87 : decode cX8_ins 87 = .ok (.iload_n 3, 1) := by decide +kernel
theorem dX8_ins_88 : decode cX8_ins 88 = .ok (.iadd, 1) := by decide +kernel
theorem dX8_ins_89 : decode cX8_ins 89 = .ok (.iaload, 1) := by decide +kernel
theorem dX8_ins_90 : decode cX8_ins 90 = .ok (.ifCond .eq 6, 3) := by decide +kernel
theorem dX8_ins_93 : decode cX8_ins 93 = .ok (.goto 39, 3) := by decide +kernel
theorem dX8_ins_96 : decode cX8_ins 96 = .ok (.aload_n 0, 1) := by decide +kernel
theorem dX8_ins_97 : decode cX8_ins 97 = .ok (.iload_n 1, 1) := by decide +kernel
theorem dX8_ins_98 : decode cX8_ins 98 = .ok (.iload_n 3, 1) := by decide +kernel
theorem dX8_ins_99 : decode cX8_ins 99 = .ok (.invokevirtual 456, 3) := by decide +kernel
theorem dX8_ins_102 : decode cX8_ins 102 = .ok (.istore 4, 2) := by decide +kernel
theorem dX8_ins_104 : decode cX8_ins 104 = .ok (.iload 4, 2) := by decide +kernel
theorem dX8_ins_106 : decode cX8_ins 106 = .ok (.ifCond .ge 18, 3) := by decide +kernel
theorem dX8_ins_109 : decode cX8_ins 109 = .ok (.aload_n 0, 1) := by decide +kernel
theorem dX8_ins_110 : decode cX8_ins 110 = .ok (.getfield 94, 3) := by decide +kernel
theorem dX8_ins_113 : decode cX8_ins 113 = .ok (.bipush 10, 2) := by decide +kernel
theorem dX8_ins_115 : decode cX8_ins 115 = .ok (.iload_n 1, 1) := by decide +kernel
theorem dX8_ins_116 : decode cX8_ins 116 = .ok (.imul, 1) := by decide +kernel
theorem dX8_ins_117 : decode cX8_ins 117 = .ok (.iload_n 3, 1) := by decide +kernel
theorem dX8_ins_118 : decode cX8_ins 118 = .ok (.iadd, 1) := by decide +kernel
theorem dX8_ins_119 : decode cX8_ins 119 = .ok (.iconst 5, 1) := by decide +kernel
theorem dX8_ins_120 : decode cX8_ins 120 = .ok (.iastore, 1) := by decide +kernel
theorem dX8_ins_121 : decode cX8_ins 121 = .ok (.goto 11, 3) := by decide +kernel
theorem dX8_ins_124 : decode cX8_ins 124 = .ok (.aload_n 0, 1) := by decide +kernel
theorem dX8_ins_125 : decode cX8_ins 125 = .ok (.iload_n 1, 1) := by decide +kernel
theorem dX8_ins_126 : decode cX8_ins 126 = .ok (.iload 4, 2) := by decide +kernel
theorem dX8_ins_128 : decode cX8_ins 128 = .ok (.iload_n 3, 1) := by decide +kernel
theorem dX8_ins_129 : decode cX8_ins 129 = .ok (.invokevirtual 459, 3) := by decide +kernel
theorem dX8_ins_132 : decode cX8_ins 132 = .ok (.iinc 3 1, 3) := by decide +kernel
theorem dX8_ins_135 : decode cX8_ins 135 = .ok (.goto (-74), 3) := by decide +kernel
theorem dX8_ins_138 : decode cX8_ins 138 = .ok (.iinc 2 1, 3) := by decide +kernel
theorem dX8_ins_141 : decode cX8_ins 141 = .ok (.goto (-139), 3) := by decide +kernel
theorem dX8_ins_144 : decode cX8_ins 144 = .ok (.iconst 0, 1) := by decide +kernel
theorem dX8_ins_145 : decode cX8_ins 145 = .ok (.istore_n 2, 1) := by decide +kernel
theorem dX8_ins_146 : decode cX8_ins 146 = .ok (.iload_n 2, 1) := by decide +kernel
theorem dX8_ins_147 : decode cX8_ins 147 = .ok (.aload_n 0, 1) := by decide +kernel
theorem dX8_ins_148 : decode cX8_ins 148 = .ok (.getfield 252, 3) := by decide +kernel
theorem dX8_ins_151 : decode cX8_ins 151 = .ok (.if_icmp .ge 42, 3) := by decide +kernel
theorem dX8_ins_154 : decode cX8_ins 154 = .ok (.aload_n 0, 1) := by decide +kernel
theorem dX8_ins_155 : decode cX8_ins 155 = .ok (.getfield 124, 3) := by decide +kernel
theorem dX8_ins_158 : decode cX8_ins 158 = .ok (.iload_n 1, 1) := by decide +kernel
theorem dX8_ins_159 : decode cX8_ins 159 = .ok (.dup2, 1) := by decide +kernel
theorem dX8_ins_160 : decode cX8_ins 160 = .ok (.iaload, 1) := by decide +kernel
theorem dX8_ins_161 : decode cX8_ins 161 = .ok (.aload_n 0, 1) := by decide +kernel
theorem dX8_ins_162 : decode cX8_ins 162 = .ok (.getfield 27, 3) := by decide +kernel
theorem dX8_ins_165 : decode cX8_ins 165 = .ok (.iload_n 2, 1) := by decide +kernel
theorem dX8_ins_166 : decode cX8_ins 166 = .ok (.iaload, 1) := by decide +kernel
theorem dX8_ins_167 : decode cX8_ins 167 = .ok (.iconst 2, 1) := by decide +kernel
theorem dX8_ins_168 : decode cX8_ins 168 = .ok (.if_icmp .ne 16, 3) := by decide +kernel
theorem dX8_ins_171 : decode cX8_ins 171 = .ok (.aload_n 0, 1) := by decide +kernel
theorem dX8_ins_172 : decode cX8_ins 172 = .ok (.getfield 103, 3) := by decide +kernel
theorem dX8_ins_175 : decode cX8_ins 175 = .ok (.iconst 5, 1) := by decide +kernel
theorem dX8_ins_176 : decode cX8_ins 176 = .ok (.iload_n 1, 1) := by decide +kernel
theorem dX8_ins_177 : decode cX8_ins 177 = .ok (.imul, 1) := by decide +kernel
theorem dX8_ins_178 : decode cX8_ins 178 = .ok (.iload_n 2, 1) := by decide +kernel
theorem dX8_ins_179 : decode cX8_ins 179 = .ok (.iadd, 1) := by decide +kernel
theorem dX8_ins_180 : decode cX8_ins 180 = .ok (.iaload, 1) := by decide +kernel
theorem dX8_ins_181 : decode cX8_ins 181 = .ok (.goto 4, 3) := by decide +kernel
theorem dX8_ins_184 : decode cX8_ins 184 = .ok (.iconst 0, 1) := by decide +kernel
theorem dX8_ins_185 : decode cX8_ins 185 = .ok (.iadd, 1) := by decide +kernel
theorem dX8_ins_186 : decode cX8_ins 186 = .ok (.iastore, 1) := by decide +kernel
theorem dX8_ins_187 : decode cX8_ins 187 = .ok (.iinc 2 1, 3) := by decide +kernel
theorem dX8_ins_190 : decode cX8_ins 190 = .ok (.goto (-44), 3) := by decide +kernel
theorem dX8_ins_193 : decode cX8_ins 193 = .ok (.return_, 1) := by decide +kernel
theorem dX8_number1_0 : decode cX8_number1 0 = .ok (.aload_n 0, 1) := by decide +kernel
theorem dX8_number1_1 : decode cX8_number1 1 = .ok (.aload_n 0, 1) := by decide +kernel
theorem dX8_number1_2 : decode cX8_number1 2 = .ok (.getfield 369, 3) := by decide +kernel
theorem dX8_number1_5 : decode cX8_number1 5 = .ok (.ldc2_w 462, 3) := by decide +kernel
theorem dX8_number1_8 : decode cX8_number1 8 = .ok (.lmul, 1) := by decide +kernel
theorem dX8_number1_9 : decode cX8_number1 9 = .ok (.ldc2_w 464, 3) := by decide +kernel
theorem dX8_number1_12 : decode cX8_number1 12 = .ok (.ladd, 1) := by decide +kernel
theorem dX8_number1_13 : decode cX8_number1 13 = .ok (.ldc2_w 466, 3) := by decide +kernel
theorem dX8_number1_16 : decode cX8_number1 16 = .ok (.land, 1) := by decide +kernel
theorem dX8_number1_17 : decode cX8_number1 17 = .ok (.putfield 369, 3) := by decide +kernel
theorem dX8_number1_20 : decode cX8_number1 20 = .ok (.aload_n 0, 1) := by decide +kernel
theorem dX8_number1_21 : decode cX8_number1 21 = .ok (.getfield 369, 3) := by decide +kernel
theorem dX8_number1_24 : decode cX8_number1 24 = .ok (.ldc2_w 468, 3) := by decide +kernel
theorem dX8_number1_27 : decode cX8_number1 27 = .ok (.ldiv, 1) := by decide +kernel
theorem dX8_number1_28 : decode cX8_number1 28 = .ok (.iload_n 1, 1) := by decide +kernel
theorem dX8_number1_29 : decode cX8_number1 29 = .ok (.i2l, 1) := by decide +kernel
theorem dX8_number1_30 : decode cX8_number1 30 = .ok (.lrem, 1) := by decide +kernel
theorem dX8_number1_31 : decode cX8_number1 31 = .ok (.l2i, 1) := by decide +kernel
theorem dX8_number1_32 : decode cX8_number1 32 = .ok (.ireturn, 1) := by decide +kernel
theorem dX8_isDrawn_0 : decode cX8_isDrawn 0 = .ok (.aload_n 0, 1) := by decide +kernel
theorem dX8_isDrawn_1 : decode cX8_isDrawn 1 = .ok (.getfield 388, 3) := by decide +kernel
theorem dX8_isDrawn_4 : decode cX8_isDrawn 4 = .ok (.ifCond .eq 21, 3) := by decide +kernel
theorem dX8_isDrawn_7 : decode cX8_isDrawn 7 = .ok (.iload_n 1, 1) := by decide +kernel
theorem dX8_isDrawn_8 : decode cX8_isDrawn 8 = .ok (.aload_n 0, 1) := by decide +kernel
theorem dX8_isDrawn_9 : decode cX8_isDrawn 9 = .ok (.bipush 100, 2) := by decide +kernel
theorem dX8_isDrawn_11 : decode cX8_isDrawn 11 = .ok (.invokevirtual 470, 3) := by decide +kernel
theorem dX8_isDrawn_14 : decode cX8_isDrawn 14 = .ok (.if_icmp .le 7, 3) := by decide +kernel
theorem dX8_isDrawn_17 : decode cX8_isDrawn 17 = .ok (.iconst 1, 1) := by decide +kernel
theorem dX8_isDrawn_18 : decode cX8_isDrawn 18 = .ok (.goto 18, 3) := by decide +kernel
theorem dX8_isDrawn_21 : decode cX8_isDrawn 21 = .ok (.iconst 0, 1) := by decide +kernel
theorem dX8_isDrawn_22 : decode cX8_isDrawn 22 = .ok (.goto 14, 3) := by decide +kernel
theorem dX8_isDrawn_25 : decode cX8_isDrawn 25 = .ok (.iload_n 1, 1) := by decide +kernel
theorem dX8_isDrawn_26 : decode cX8_isDrawn 26 = .ok (.bipush 50, 2) := by decide +kernel
theorem dX8_isDrawn_28 : decode cX8_isDrawn 28 = .ok (.if_icmp .lt 7, 3) := by decide +kernel
theorem dX8_isDrawn_31 : decode cX8_isDrawn 31 = .ok (.iconst 1, 1) := by decide +kernel
theorem dX8_isDrawn_32 : decode cX8_isDrawn 32 = .ok (.goto 4, 3) := by decide +kernel
theorem dX8_isDrawn_35 : decode cX8_isDrawn 35 = .ok (.iconst 0, 1) := by decide +kernel
theorem dX8_isDrawn_36 : decode cX8_isDrawn 36 = .ok (.ireturn, 1) := by decide +kernel
theorem dX8_fallOf_0 : decode cX8_fallOf 0 = .ok (.aload_n 0, 1) := by decide +kernel
theorem dX8_fallOf_1 : decode cX8_fallOf 1 = .ok (.getfield 397, 3) := by decide +kernel
theorem dX8_fallOf_4 : decode cX8_fallOf 4 = .ok (.ifCond .eq 7, 3) := by decide +kernel
theorem dX8_fallOf_7 : decode cX8_fallOf 7 = .ok (.iconst 0, 1) := by decide +kernel
theorem dX8_fallOf_8 : decode cX8_fallOf 8 = .ok (.goto 9, 3) := by decide +kernel
theorem dX8_fallOf_11 : decode cX8_fallOf 11 = .ok (.aload_n 0, 1) := by decide +kernel
theorem dX8_fallOf_12 : decode cX8_fallOf 12 = .ok (.getfield 24, 3) := by decide +kernel
theorem dX8_fallOf_15 : decode cX8_fallOf 15 = .ok (.iconst 1, 1) := by decide +kernel
theorem dX8_fallOf_16 : decode cX8_fallOf 16 = .ok (.iaload, 1) := by decide +kernel
theorem dX8_fallOf_17 : decode cX8_fallOf 17 = .ok (.bipush 10, 2) := by decide +kernel
theorem dX8_fallOf_19 : decode cX8_fallOf 19 = .ok (.aload_n 0, 1) := by decide +kernel
theorem dX8_fallOf_20 : decode cX8_fallOf 20 = .ok (.iload_n 1, 1) := by decide +kernel
theorem dX8_fallOf_21 : decode cX8_fallOf 21 = .ok (.iload_n 2, 1) := by decide +kernel
theorem dX8_fallOf_22 : decode cX8_fallOf 22 = .ok (.invokevirtual 410, 3) := by decide +kernel
theorem dX8_fallOf_25 : decode cX8_fallOf 25 = .ok (.imul, 1) := by decide +kernel
theorem dX8_fallOf_26 : decode cX8_fallOf 26 = .ok (.iadd, 1) := by decide +kernel
theorem dX8_fallOf_27 : decode cX8_fallOf 27 = .ok (.aload_n 0, 1) := by decide +kernel
theorem dX8_fallOf_28 : decode cX8_fallOf 28 = .ok (.getfield 48, 3) := by decide +kernel
theorem dX8_fallOf_31 : decode cX8_fallOf 31 = .ok (.iload_n 2, 1) := by decide +kernel
theorem dX8_fallOf_32 : decode cX8_fallOf 32 = .ok (.iaload, 1) := by decide +kernel
theorem dX8_fallOf_33 : decode cX8_fallOf 33 = .ok (.isub, 1) := by decide +kernel
theorem dX8_fallOf_34 : decode cX8_fallOf 34 = .ok (.istore_n 3, 1) := by decide +kernel
theorem dX8_fallOf_35 : decode cX8_fallOf 35 = .ok (.aload_n 0, 1) := by decide +kernel
theorem dX8_fallOf_36 : decode cX8_fallOf 36 = .ok (.iload_n 1, 1) := by decide +kernel
theorem dX8_fallOf_37 : decode cX8_fallOf 37 = .ok (.iload_n 2, 1) := by decide +kernel
theorem dX8_fallOf_38 : decode cX8_fallOf 38 = .ok (.aload_n 0, 1) := by decide +kernel
theorem dX8_fallOf_39 : decode cX8_fallOf 39 = .ok (.getfield 45, 3) := by decide +kernel
theorem dX8_fallOf_42 : decode cX8_fallOf 42 = .ok (.iload_n 2, 1) := by decide +kernel
theorem dX8_fallOf_43 : decode cX8_fallOf 43 = .ok (.iaload, 1) := by decide +kernel
theorem dX8_fallOf_44 : decode cX8_fallOf 44 = .ok (.invokevirtual 429, 3) := by decide +kernel
theorem dX8_fallOf_47 : decode cX8_fallOf 47 = .ok (.aload_n 0, 1) := by decide +kernel
theorem dX8_fallOf_48 : decode cX8_fallOf 48 = .ok (.iconst 1, 1) := by decide +kernel
theorem dX8_fallOf_49 : decode cX8_fallOf 49 = .ok (.iload_n 3, 1) := by decide +kernel
theorem dX8_fallOf_50 : decode cX8_fallOf 50 = .ok (.ifCond .ge 7, 3) := by decide +kernel
theorem dX8_fallOf_53 : decode cX8_fallOf 53 = .ok (.iconst 0, 1) := by decide +kernel
theorem dX8_fallOf_54 : decode cX8_fallOf 54 = .ok (.goto 4, 3) := by decide +kernel
theorem dX8_fallOf_57 : decode cX8_fallOf 57 = .ok (.iload_n 3, 1) := by decide +kernel
theorem dX8_fallOf_58 : decode cX8_fallOf 58 = .ok (.bipush 100, 2) := by decide +kernel
theorem dX8_fallOf_60 : decode cX8_fallOf 60 = .ok (.invokevirtual 432, 3) := by decide +kernel
theorem dX8_fallOf_63 : decode cX8_fallOf 63 = .ok (.ireturn, 1) := by decide +kernel
theorem dX8_onTheWay_0 : decode cX8_onTheWay 0 = .ok (.iconst 0, 1) := by decide +kernel
theorem dX8_onTheWay_1 : decode cX8_onTheWay 1 = .ok (.istore_n 2, 1) := by decide +kernel
theorem dX8_onTheWay_2 : decode cX8_onTheWay 2 = .ok (.iload_n 2, 1) := by decide +kernel
theorem dX8_onTheWay_3 : decode cX8_onTheWay 3 = .ok (.aload_n 0, 1) := by decide +kernel
theorem dX8_onTheWay_4 : decode cX8_onTheWay 4 = .ok (.getfield 252, 3) := by decide +kernel
theorem dX8_onTheWay_7 : decode cX8_onTheWay 7 = .ok (.if_icmp .ge 81, 3) := by decide +kernel
theorem dX8_onTheWay_10 : decode cX8_onTheWay 10 = .ok (.aload_n 0, 1) := by decide +kernel
theorem dX8_onTheWay_11 : decode cX8_onTheWay 11 = .ok (.getfield 391, 3) := by decide +kernel
theorem dX8_onTheWay_14 : decode cX8_onTheWay 14 = .ok (.ifCond .ne 74, 3) := by decide +kernel
theorem dX8_onTheWay_17 : decode cX8_onTheWay 17 = .ok (.aload_n 0, 1) := by decide +kernel
theorem dX8_onTheWay_18 : decode cX8_onTheWay 18 = .ok (.getfield 27, 3) := by decide +kernel
theorem dX8_onTheWay_21 : decode cX8_onTheWay 21 = .ok (.iload_n 2, 1) := by decide +kernel
theorem dX8_onTheWay_22 : decode cX8_onTheWay 22 = .ok (.iaload, 1) := by decide +kernel
theorem dX8_onTheWay_23 : decode cX8_onTheWay 23 = .ok (.iconst 1, 1) := by decide +kernel
theorem dX8_onTheWay_24 : decode cX8_onTheWay 24 = .ok (.if_icmp .gt 58, 3) := by decide +kernel
theorem dX8_onTheWay_27 : decode cX8_onTheWay 27 = .ok (.aload_n 0, 1) := by decide +kernel
theorem dX8_onTheWay_28 : decode cX8_onTheWay 28 = .ok (.getfield 103, 3) := by decide +kernel
theorem dX8_onTheWay_31 : decode cX8_onTheWay 31 = .ok (.iconst 5, 1) := by decide +kernel
theorem dX8_onTheWay_32 : decode cX8_onTheWay 32 = .ok (.iload_n 1, 1) := by decide +kernel
theorem dX8_onTheWay_33 : decode cX8_onTheWay 33 = .ok (.imul, 1) := by decide +kernel
theorem dX8_onTheWay_34 : decode cX8_onTheWay 34 = .ok (.iload_n 2, 1) := by decide +kernel
theorem dX8_onTheWay_35 : decode cX8_onTheWay 35 = .ok (.iadd, 1) := by decide +kernel
theorem dX8_onTheWay_36 : decode cX8_onTheWay 36 = .ok (.iaload, 1) := by decide +kernel
theorem dX8_onTheWay_37 : decode cX8_onTheWay 37 = .ok (.ifCond .ne 6, 3) := by decide +kernel
theorem dX8_onTheWay_40 : decode cX8_onTheWay 40 = .ok (.goto 42, 3) := by decide +kernel
theorem dX8_onTheWay_43 : decode cX8_onTheWay 43 = .ok (.aload_n 0, 1) := by decide +kernel
theorem dX8_onTheWay_44 : decode cX8_onTheWay 44 = .ok (.iload_n 1, 1) := by decide +kernel
theorem dX8_onTheWay_45 : decode cX8_onTheWay 45 = .ok (.iload_n 2, 1) := by decide +kernel
theorem dX8_onTheWay_46 : decode cX8_onTheWay 46 = .ok (.aload_n 0, 1) := by decide +kernel
theorem dX8_onTheWay_47 : decode cX8_onTheWay 47 = .ok (.getfield 103, 3) := by decide +kernel
theorem dX8_onTheWay_50 : decode cX8_onTheWay 50 = .ok (.iconst 5, 1) := by decide +kernel
theorem dX8_onTheWay_51 : decode cX8_onTheWay 51 = .ok (.iload_n 1, 1) := by decide +kernel
theorem dX8_onTheWay_52 : decode cX8_onTheWay 52 = .ok (.imul, 1) := by decide +kernel
theorem dX8_onTheWay_53 : decode cX8_onTheWay 53 = .ok (.iload_n 2, 1) := by decide +kernel
theorem dX8_onTheWay_54 : decode cX8_onTheWay 54 = .ok (.iadd, 1) := by decide +kernel
theorem dX8_onTheWay_55 : decode cX8_onTheWay 55 = .ok (.iaload, 1) := by decide +kernel
theorem dX8_onTheWay_56 : decode cX8_onTheWay 56 = .ok (.iconst 1, 1) := by decide +kernel
theorem dX8_onTheWay_57 : decode cX8_onTheWay 57 = .ok (.isub, 1) := by decide +kernel
theorem dX8_onTheWay_58 : decode cX8_onTheWay 58 = .ok (.invokevirtual 406, 3) := by decide +kernel
theorem dX8_onTheWay_61 : decode cX8_onTheWay 61 = .ok (.istore_n 3, 1) := by decide +kernel
theorem dX8_onTheWay_62 : decode cX8_onTheWay 62 = .ok (.aload_n 0, 1) := by decide +kernel
theorem dX8_onTheWay_63 : decode cX8_onTheWay 63 = .ok (.aload_n 0, 1) := by decide +kernel
theorem dX8_onTheWay_64 : decode cX8_onTheWay 64 = .ok (.iload_n 1, 1) := by decide +kernel
theorem dX8_onTheWay_65 : decode cX8_onTheWay 65 = .ok (.iload_n 3, 1) := by decide +kernel
theorem dX8_onTheWay_66 : decode cX8_onTheWay 66 = .ok (.invokevirtual 473, 3) := by decide +kernel
theorem dX8_onTheWay_69 : decode cX8_onTheWay 69 = .ok (.invokevirtual 476, 3) := by decide +kernel
theorem dX8_onTheWay_72 : decode cX8_onTheWay 72 = .ok (.ifCond .eq 10, 3) := by decide +kernel
theorem dX8_onTheWay_75 : decode cX8_onTheWay 75 = .ok (.aload_n 0, 1) := by decide +kernel
theorem dX8_onTheWay_76 : decode cX8_onTheWay 76 = .ok (.iload_n 1, 1) := by decide +kernel
theorem dX8_onTheWay_77 : decode cX8_onTheWay 77 = .ok (.iload_n 3, 1) := by decide +kernel
theorem dX8_onTheWay_78 : decode cX8_onTheWay 78 = .ok (.iconst 3, 1) := by decide +kernel
theorem dX8_onTheWay_79 : decode cX8_onTheWay 79 = .ok (.invokevirtual 447, 3) := by decide +kernel
theorem dX8_onTheWay_82 : decode cX8_onTheWay 82 = .ok (.iinc 2 1, 3) := by decide +kernel
theorem dX8_onTheWay_85 : decode cX8_onTheWay 85 = .ok (.goto (-83), 3) := by decide +kernel
theorem dX8_onTheWay_88 : decode cX8_onTheWay 88 = .ok (.iconst 0, 1) := by decide +kernel
theorem dX8_onTheWay_89 : decode cX8_onTheWay 89 = .ok (.istore_n 2, 1) := by decide +kernel
theorem dX8_onTheWay_90 : decode cX8_onTheWay 90 = .ok (.iload_n 2, 1) := by decide +kernel
theorem dX8_onTheWay_91 : decode cX8_onTheWay 91 = .ok (.aload_n 0, 1) := by decide +kernel
theorem dX8_onTheWay_92 : decode cX8_onTheWay 92 = .ok (.getfield 258, 3) := by decide +kernel
theorem dX8_onTheWay_95 : decode cX8_onTheWay 95 = .ok (.if_icmp .ge 89, 3) := by decide +kernel
theorem dX8_onTheWay_98 : decode cX8_onTheWay 98 = .ok (.aload_n 0, 1) := by decide +kernel
theorem dX8_onTheWay_99 : decode cX8_onTheWay 99 = .ok (.getfield 394, 3) := by decide +kernel
theorem dX8_onTheWay_102 : decode cX8_onTheWay 102 = .ok (.ifCond .ne 82, 3) := by decide +kernel
theorem dX8_onTheWay_105 : decode cX8_onTheWay 105 = .ok (.aload_n 0, 1) := by decide +kernel
theorem dX8_onTheWay_106 : decode cX8_onTheWay 106 = .ok (.getfield 94, 3) := by decide +kernel
theorem dX8_onTheWay_109 : decode cX8_onTheWay 109 = .ok (.bipush 10, 2) := by decide +kernel
theorem dX8_onTheWay_111 : decode cX8_onTheWay 111 = .ok (.iload_n 1, 1) := by decide +kernel
theorem dX8_onTheWay_112 : decode cX8_onTheWay 112 = .ok (.imul, 1) := by decide +kernel
theorem dX8_onTheWay_113 : decode cX8_onTheWay 113 = .ok (.iload_n 2, 1) := by decide +kernel
theorem dX8_onTheWay_114 : decode cX8_onTheWay 114 = .ok (.iadd, 1) := by decide +kernel
theorem dX8_onTheWay_115 : decode cX8_onTheWay 115 = .ok (.iaload, 1) := by decide +kernel
theorem dX8_onTheWay_116 : decode cX8_onTheWay 116 = .ok (.iconst 1, 1) := by decide +kernel
theorem dX8_onTheWay_117 : decode cX8_onTheWay 117 = .ok (.if_icmp .ne 61, 3) := by decide +kernel
theorem dX8_onTheWay_120 : decode cX8_onTheWay 120 = .ok (.aload_n 0, 1) := by decide +kernel
theorem dX8_onTheWay_121 : decode cX8_onTheWay 121 = .ok (.getfield 27, 3) := by decide +kernel
theorem dX8_onTheWay_124 : decode cX8_onTheWay 124 = .ok (.aload_n 0, 1) := by decide +kernel
theorem dX8_onTheWay_125 : decode cX8_onTheWay 125 = .ok (.getfield 97, 3) := by decide +kernel
theorem dX8_onTheWay_128 : decode cX8_onTheWay 128 = .ok (.bipush 10, 2) := by decide +kernel
theorem dX8_onTheWay_130 : decode cX8_onTheWay 130 = .ok (.iload_n 1, 1) := by decide +kernel
theorem dX8_onTheWay_131 : decode cX8_onTheWay 131 = .ok (.imul, 1) := by decide +kernel
theorem dX8_onTheWay_132 : decode cX8_onTheWay 132 = .ok (.iload_n 2, 1) := by decide +kernel
theorem dX8_onTheWay_133 : decode cX8_onTheWay 133 = .ok (.iadd, 1) := by decide +kernel
theorem dX8_onTheWay_134 : decode cX8_onTheWay 134 = .ok (.iaload, 1) := by decide +kernel
theorem dX8_onTheWay_135 : decode cX8_onTheWay 135 = .ok (.iaload, 1) := by decide +kernel
theorem dX8_onTheWay_136 : decode cX8_onTheWay 136 = .ok (.iconst 4, 1) := by decide +kernel
theorem dX8_onTheWay_137 : decode cX8_onTheWay 137 = .ok (.if_icmp .eq 6, 3) := by decide +kernel
theorem dX8_onTheWay_140 : decode cX8_onTheWay 140 = .ok (.goto 38, 3) := by decide +kernel
theorem dX8_onTheWay_143 : decode cX8_onTheWay 143 = .ok (.aload_n 0, 1) := by decide +kernel
theorem dX8_onTheWay_144 : decode cX8_onTheWay 144 = .ok (.iload_n 1, 1) := by decide +kernel
theorem dX8_onTheWay_145 : decode cX8_onTheWay 145 = .ok (.iload_n 2, 1) := by decide +kernel
theorem dX8_onTheWay_146 : decode cX8_onTheWay 146 = .ok (.aload_n 0, 1) := by decide +kernel
theorem dX8_onTheWay_147 : decode cX8_onTheWay 147 = .ok (.getfield 45, 3) := by decide +kernel
theorem dX8_onTheWay_150 : decode cX8_onTheWay 150 = .ok (.iload_n 2, 1) := by decide +kernel
theorem dX8_onTheWay_151 : decode cX8_onTheWay 151 = .ok (.iaload, 1) := by decide +kernel
theorem dX8_onTheWay_152 : decode cX8_onTheWay 152 = .ok (.invokevirtual 429, 3) := by decide +kernel
theorem dX8_onTheWay_155 : decode cX8_onTheWay 155 = .ok (.aload_n 0, 1) := by decide +kernel
theorem dX8_onTheWay_156 : decode cX8_onTheWay 156 = .ok (.aload_n 0, 1) := by decide +kernel
theorem dX8_onTheWay_157 : decode cX8_onTheWay 157 = .ok (.iconst 2, 1) := by decide +kernel
theorem dX8_onTheWay_158 : decode cX8_onTheWay 158 = .ok (.bipush 10, 2) := by decide +kernel
theorem dX8_onTheWay_160 : decode cX8_onTheWay 160 = .ok (.bipush 100, 2) := by decide +kernel
theorem dX8_onTheWay_162 : decode cX8_onTheWay 162 = .ok (.invokevirtual 432, 3) := by decide +kernel
theorem dX8_onTheWay_165 : decode cX8_onTheWay 165 = .ok (.invokevirtual 476, 3) := by decide +kernel
theorem dX8_onTheWay_168 : decode cX8_onTheWay 168 = .ok (.ifCond .eq 10, 3) := by decide +kernel
theorem dX8_onTheWay_171 : decode cX8_onTheWay 171 = .ok (.aload_n 0, 1) := by decide +kernel
theorem dX8_onTheWay_172 : decode cX8_onTheWay 172 = .ok (.iload_n 1, 1) := by decide +kernel
theorem dX8_onTheWay_173 : decode cX8_onTheWay 173 = .ok (.iload_n 2, 1) := by decide +kernel
theorem dX8_onTheWay_174 : decode cX8_onTheWay 174 = .ok (.iconst 4, 1) := by decide +kernel
theorem dX8_onTheWay_175 : decode cX8_onTheWay 175 = .ok (.invokevirtual 447, 3) := by decide +kernel
theorem dX8_onTheWay_178 : decode cX8_onTheWay 178 = .ok (.iinc 2 1, 3) := by decide +kernel
theorem dX8_onTheWay_181 : decode cX8_onTheWay 181 = .ok (.goto (-91), 3) := by decide +kernel
theorem dX8_onTheWay_184 : decode cX8_onTheWay 184 = .ok (.return_, 1) := by decide +kernel
theorem dX8_goOn_0 : decode cX8_goOn 0 = .ok (.aload_n 0, 1) := by decide +kernel
theorem dX8_goOn_1 : decode cX8_goOn 1 = .ok (.iload_n 1, 1) := by decide +kernel
theorem dX8_goOn_2 : decode cX8_goOn 2 = .ok (.invokevirtual 479, 3) := by decide +kernel
theorem dX8_goOn_5 : decode cX8_goOn 5 = .ok (.aload_n 0, 1) := by decide +kernel
theorem dX8_goOn_6 : decode cX8_goOn 6 = .ok (.iload_n 1, 1) := by decide +kernel
theorem dX8_goOn_7 : decode cX8_goOn 7 = .ok (.invokevirtual 482, 3) := by decide +kernel
theorem dX8_goOn_10 : decode cX8_goOn 10 = .ok (.aload_n 0, 1) := by decide +kernel
theorem dX8_goOn_11 : decode cX8_goOn 11 = .ok (.getfield 121, 3) := by decide +kernel
theorem dX8_goOn_14 : decode cX8_goOn 14 = .ok (.iload_n 1, 1) := by decide +kernel
theorem dX8_goOn_15 : decode cX8_goOn 15 = .ok (.iaload, 1) := by decide +kernel
theorem dX8_goOn_16 : decode cX8_goOn 16 = .ok (.bipush 20, 2) := by decide +kernel
theorem dX8_goOn_18 : decode cX8_goOn 18 = .ok (.if_icmp .ge 8, 3) := by decide +kernel
theorem dX8_goOn_21 : decode cX8_goOn 21 = .ok (.aload_n 0, 1) := by decide +kernel
theorem dX8_goOn_22 : decode cX8_goOn 22 = .ok (.iload_n 1, 1) := by decide +kernel
theorem dX8_goOn_23 : decode cX8_goOn 23 = .ok (.invokevirtual 485, 3) := by decide +kernel
theorem dX8_goOn_26 : decode cX8_goOn 26 = .ok (.aload_n 0, 1) := by decide +kernel
theorem dX8_goOn_27 : decode cX8_goOn 27 = .ok (.getfield 121, 3) := by decide +kernel
theorem dX8_goOn_30 : decode cX8_goOn 30 = .ok (.iload_n 1, 1) := by decide +kernel
theorem dX8_goOn_31 : decode cX8_goOn 31 = .ok (.dup2, 1) := by decide +kernel
theorem dX8_goOn_32 : decode cX8_goOn 32 = .ok (.iaload, 1) := by decide +kernel
theorem dX8_goOn_33 : decode cX8_goOn 33 = .ok (.iconst 1, 1) := by decide +kernel
theorem dX8_goOn_34 : decode cX8_goOn 34 = .ok (.iadd, 1) := by decide +kernel
theorem dX8_goOn_35 : decode cX8_goOn 35 = .ok (.iastore, 1) := by decide +kernel
theorem dX8_goOn_36 : decode cX8_goOn 36 = .ok (.return_, 1) := by decide +kernel
theorem dX8_toEnd_0 : decode cX8_toEnd 0 = .ok (.aload_n 0, 1) := by decide +kernel
theorem dX8_toEnd_1 : decode cX8_toEnd 1 = .ok (.getfield 121, 3) := by decide +kernel
theorem dX8_toEnd_4 : decode cX8_toEnd 4 = .ok (.iconst 1, 1) := by decide +kernel
theorem dX8_toEnd_5 : decode cX8_toEnd 5 = .ok (.iaload, 1) := by decide +kernel
theorem dX8_toEnd_6 : decode cX8_toEnd 6 = .ok (.bipush 21, 2) := by decide +kernel
theorem dX8_toEnd_8 : decode cX8_toEnd 8 = .ok (.if_icmp .ge 11, 3) := by decide +kernel
theorem dX8_toEnd_11 : decode cX8_toEnd 11 = .ok (.aload_n 0, 1) := by decide +kernel
theorem dX8_toEnd_12 : decode cX8_toEnd 12 = .ok (.iconst 1, 1) := by decide +kernel
theorem dX8_toEnd_13 : decode cX8_toEnd 13 = .ok (.invokevirtual 488, 3) := by decide +kernel
theorem dX8_toEnd_16 : decode cX8_toEnd 16 = .ok (.goto (-16), 3) := by decide +kernel
theorem dX8_toEnd_19 : decode cX8_toEnd 19 = .ok (.return_, 1) := by decide +kernel
theorem dX8_fails_0 : decode cX8_fails 0 = .ok (.aload_n 0, 1) := by decide +kernel
theorem dX8_fails_1 : decode cX8_fails 1 = .ok (.iload_n 1, 1) := by decide +kernel
theorem dX8_fails_2 : decode cX8_fails 2 = .ok (.putfield 172, 3) := by decide +kernel
theorem dX8_fails_5 : decode cX8_fails 5 = .ok (.iconst 0, 1) := by decide +kernel
theorem dX8_fails_6 : decode cX8_fails 6 = .ok (.ireturn, 1) := by decide +kernel
theorem dX8_person_0 : decode cX8_person 0 = .ok (.aload_n 0, 1) := by decide +kernel
theorem dX8_person_1 : decode cX8_person 1 = .ok (.iconst 0, 1) := by decide +kernel
theorem dX8_person_2 : decode cX8_person 2 = .ok (.putfield 172, 3) := by decide +kernel
theorem dX8_person_5 : decode cX8_person 5 = .ok (.aload_n 0, 1) := by decide +kernel
theorem dX8_person_6 : decode cX8_person 6 = .ok (.iload_n 1, 1) := by decide +kernel
theorem dX8_person_7 : decode cX8_person 7 = .ok (.invokevirtual 491, 3) := by decide +kernel
theorem dX8_person_10 : decode cX8_person 10 = .ok (.ifCond .ne 9, 3) := by decide +kernel
theorem dX8_person_13 : decode cX8_person 13 = .ok (.aload_n 0, 1) := by decide +kernel
theorem dX8_person_14 : decode cX8_person 14 = .ok (.iconst 1, 1) := by decide +kernel
theorem dX8_person_15 : decode cX8_person 15 = .ok (.invokevirtual 494, 3) := by decide +kernel
theorem dX8_person_18 : decode cX8_person 18 = .ok (.ireturn, 1) := by decide +kernel
theorem dX8_person_19 : decode cX8_person 19 = .ok (.iload_n 2, 1) := by decide +kernel
theorem dX8_person_20 : decode cX8_person 20 = .ok (.tableswitch 71 0 4 #[36, 43, 50, 57, 64], 36) := by decide +kernel
theorem dX8_person_56 : decode cX8_person 56 = .ok (.aload_n 0, 1) := by decide +kernel
theorem dX8_person_57 : decode cX8_person 57 = .ok (.getfield 36, 3) := by decide +kernel
theorem dX8_person_60 : decode cX8_person 60 = .ok (.iload_n 1, 1) := by decide +kernel
theorem dX8_person_61 : decode cX8_person 61 = .ok (.iaload, 1) := by decide +kernel
theorem dX8_person_62 : decode cX8_person 62 = .ok (.ireturn, 1) := by decide +kernel
theorem dX8_person_63 : decode cX8_person 63 = .ok (.aload_n 0, 1) := by decide +kernel
theorem dX8_person_64 : decode cX8_person 64 = .ok (.getfield 39, 3) := by decide +kernel
theorem dX8_person_67 : decode cX8_person 67 = .ok (.iload_n 1, 1) := by decide +kernel
theorem dX8_person_68 : decode cX8_person 68 = .ok (.iaload, 1) := by decide +kernel
theorem dX8_person_69 : decode cX8_person 69 = .ok (.ireturn, 1) := by decide +kernel
theorem dX8_person_70 : decode cX8_person 70 = .ok (.aload_n 0, 1) := by decide +kernel
theorem dX8_person_71 : decode cX8_person 71 = .ok (.getfield 109, 3) := by decide +kernel
theorem dX8_person_74 : decode cX8_person 74 = .ok (.iload_n 1, 1) := by decide +kernel
theorem dX8_person_75 : decode cX8_person 75 = .ok (.iaload, 1) := by decide +kernel
theorem dX8_person_76 : decode cX8_person 76 = .ok (.ireturn, 1) := by decide +kernel
theorem dX8_person_77 : decode cX8_person 77 = .ok (.aload_n 0, 1) := by decide +kernel
theorem dX8_person_78 : decode cX8_person 78 = .ok (.getfield 112, 3) := by decide +kernel
theorem dX8_person_81 : decode cX8_person 81 = .ok (.iload_n 1, 1) := by decide +kernel
theorem dX8_person_82 : decode cX8_person 82 = .ok (.iaload, 1) := by decide +kernel
theorem dX8_person_83 : decode cX8_person 83 = .ok (.ireturn, 1) := by decide +kernel
theorem dX8_person_84 : decode cX8_person 84 = .ok (.aload_n 0, 1) := by decide +kernel
theorem dX8_person_85 : decode cX8_person 85 = .ok (.getfield 115, 3) := by decide +kernel
theorem dX8_person_88 : decode cX8_person 88 = .ok (.iload_n 1, 1) := by decide +kernel
theorem dX8_person_89 : decode cX8_person 89 = .ok (.iaload, 1) := by decide +kernel
theorem dX8_person_90 : decode cX8_person 90 = .ok (.ireturn, 1) := by decide +kernel
theorem dX8_person_91 : decode cX8_person 91 = .ok (.aload_n 0, 1) := by decide +kernel
theorem dX8_person_92 : decode cX8_person 92 = .ok (.iconst 2, 1) := by decide +kernel
theorem dX8_person_93 : decode cX8_person 93 = .ok (.invokevirtual 494, 3) := by decide +kernel
theorem dX8_person_96 : decode cX8_person 96 = .ok (.ireturn, 1) := by decide +kernel
theorem dX8_piece_0 : decode cX8_piece 0 = .ok (.aload_n 0, 1) := by decide +kernel
theorem dX8_piece_1 : decode cX8_piece 1 = .ok (.iconst 0, 1) := by decide +kernel
theorem dX8_piece_2 : decode cX8_piece 2 = .ok (.putfield 172, 3) := by decide +kernel
theorem dX8_piece_5 : decode cX8_piece 5 = .ok (.aload_n 0, 1) := by decide +kernel
theorem dX8_piece_6 : decode cX8_piece 6 = .ok (.iload_n 1, 1) := by decide +kernel
theorem dX8_piece_7 : decode cX8_piece 7 = .ok (.invokevirtual 497, 3) := by decide +kernel
theorem dX8_piece_10 : decode cX8_piece 10 = .ok (.ifCond .ne 5, 3) := by decide +kernel
theorem dX8_piece_13 : decode cX8_piece 13 = .ok (.iconst (-1), 1) := by decide +kernel
theorem dX8_piece_14 : decode cX8_piece 14 = .ok (.ireturn, 1) := by decide +kernel
theorem dX8_piece_15 : decode cX8_piece 15 = .ok (.iload_n 2, 1) := by decide +kernel
theorem dX8_piece_16 : decode cX8_piece 16 = .ok (.tableswitch 82 0 5 #[40, 47, 54, 61, 68, 75], 40) := by decide +kernel
theorem dX8_piece_56 : decode cX8_piece 56 = .ok (.aload_n 0, 1) := by decide +kernel
theorem dX8_piece_57 : decode cX8_piece 57 = .ok (.getfield 45, 3) := by decide +kernel
theorem dX8_piece_60 : decode cX8_piece 60 = .ok (.iload_n 1, 1) := by decide +kernel
theorem dX8_piece_61 : decode cX8_piece 61 = .ok (.iaload, 1) := by decide +kernel
theorem dX8_piece_62 : decode cX8_piece 62 = .ok (.ireturn, 1) := by decide +kernel
theorem dX8_piece_63 : decode cX8_piece 63 = .ok (.aload_n 0, 1) := by decide +kernel
theorem dX8_piece_64 : decode cX8_piece 64 = .ok (.getfield 48, 3) := by decide +kernel
theorem dX8_piece_67 : decode cX8_piece 67 = .ok (.iload_n 1, 1) := by decide +kernel
theorem dX8_piece_68 : decode cX8_piece 68 = .ok (.iaload, 1) := by decide +kernel
theorem dX8_piece_69 : decode cX8_piece 69 = .ok (.ireturn, 1) := by decide +kernel
theorem dX8_piece_70 : decode cX8_piece 70 = .ok (.aload_n 0, 1) := by decide +kernel
theorem dX8_piece_71 : decode cX8_piece 71 = .ok (.getfield 51, 3) := by decide +kernel
theorem dX8_piece_74 : decode cX8_piece 74 = .ok (.iload_n 1, 1) := by decide +kernel
theorem dX8_piece_75 : decode cX8_piece 75 = .ok (.iaload, 1) := by decide +kernel
theorem dX8_piece_76 : decode cX8_piece 76 = .ok (.ireturn, 1) := by decide +kernel
theorem dX8_piece_77 : decode cX8_piece 77 = .ok (.aload_n 0, 1) := by decide +kernel
theorem dX8_piece_78 : decode cX8_piece 78 = .ok (.getfield 94, 3) := by decide +kernel
theorem dX8_piece_81 : decode cX8_piece 81 = .ok (.iload_n 1, 1) := by decide +kernel
theorem dX8_piece_82 : decode cX8_piece 82 = .ok (.iaload, 1) := by decide +kernel
theorem dX8_piece_83 : decode cX8_piece 83 = .ok (.ireturn, 1) := by decide +kernel
theorem dX8_piece_84 : decode cX8_piece 84 = .ok (.aload_n 0, 1) := by decide +kernel
theorem dX8_piece_85 : decode cX8_piece 85 = .ok (.getfield 97, 3) := by decide +kernel
theorem dX8_piece_88 : decode cX8_piece 88 = .ok (.iload_n 1, 1) := by decide +kernel
theorem dX8_piece_89 : decode cX8_piece 89 = .ok (.iaload, 1) := by decide +kernel
theorem dX8_piece_90 : decode cX8_piece 90 = .ok (.ireturn, 1) := by decide +kernel
theorem dX8_piece_91 : decode cX8_piece 91 = .ok (.aload_n 0, 1) := by decide +kernel
theorem dX8_piece_92 : decode cX8_piece 92 = .ok (.iconst 0, 1) := by decide +kernel
theorem dX8_piece_93 : decode cX8_piece 93 = .ok (.iload_n 1, 1) := by decide +kernel
theorem dX8_piece_94 : decode cX8_piece 94 = .ok (.invokevirtual 416, 3) := by decide +kernel
theorem dX8_piece_97 : decode cX8_piece 97 = .ok (.ireturn, 1) := by decide +kernel
theorem dX8_piece_98 : decode cX8_piece 98 = .ok (.iconst (-1), 1) := by decide +kernel
theorem dX8_piece_99 : decode cX8_piece 99 = .ok (.ireturn, 1) := by decide +kernel
theorem dX8_place_0 : decode cX8_place 0 = .ok (.aload_n 0, 1) := by decide +kernel
theorem dX8_place_1 : decode cX8_place 1 = .ok (.iconst 0, 1) := by decide +kernel
theorem dX8_place_2 : decode cX8_place 2 = .ok (.putfield 172, 3) := by decide +kernel
theorem dX8_place_5 : decode cX8_place 5 = .ok (.aload_n 0, 1) := by decide +kernel
theorem dX8_place_6 : decode cX8_place 6 = .ok (.iload_n 1, 1) := by decide +kernel
theorem dX8_place_7 : decode cX8_place 7 = .ok (.invokevirtual 500, 3) := by decide +kernel
theorem dX8_place_10 : decode cX8_place 10 = .ok (.ifCond .ne 5, 3) := by decide +kernel
theorem dX8_place_13 : decode cX8_place 13 = .ok (.iconst (-1), 1) := by decide +kernel
theorem dX8_place_14 : decode cX8_place 14 = .ok (.ireturn, 1) := by decide +kernel
theorem dX8_place_15 : decode cX8_place 15 = .ok (.iload_n 2, 1) := by decide +kernel
theorem dX8_place_16 : decode cX8_place 16 = .ok (.tableswitch 92 0 4 #[36, 43, 50, 57, 64], 36) := by decide +kernel
theorem dX8_place_52 : decode cX8_place 52 = .ok (.aload_n 0, 1) := by decide +kernel
theorem dX8_place_53 : decode cX8_place 53 = .ok (.getfield 27, 3) := by decide +kernel
theorem dX8_place_56 : decode cX8_place 56 = .ok (.iload_n 1, 1) := by decide +kernel
theorem dX8_place_57 : decode cX8_place 57 = .ok (.iaload, 1) := by decide +kernel
theorem dX8_place_58 : decode cX8_place 58 = .ok (.ireturn, 1) := by decide +kernel
theorem dX8_place_59 : decode cX8_place 59 = .ok (.aload_n 0, 1) := by decide +kernel
theorem dX8_place_60 : decode cX8_place 60 = .ok (.getfield 30, 3) := by decide +kernel
theorem dX8_place_63 : decode cX8_place 63 = .ok (.iload_n 1, 1) := by decide +kernel
theorem dX8_place_64 : decode cX8_place 64 = .ok (.iaload, 1) := by decide +kernel
theorem dX8_place_65 : decode cX8_place 65 = .ok (.ireturn, 1) := by decide +kernel
theorem dX8_place_66 : decode cX8_place 66 = .ok (.aload_n 0, 1) := by decide +kernel
theorem dX8_place_67 : decode cX8_place 67 = .ok (.iconst 0, 1) := by decide +kernel
theorem dX8_place_68 : decode cX8_place 68 = .ok (.iload_n 1, 1) := by decide +kernel
theorem dX8_place_69 : decode cX8_place 69 = .ok (.invokevirtual 413, 3) := by decide +kernel
theorem dX8_place_72 : decode cX8_place 72 = .ok (.ireturn, 1) := by decide +kernel
theorem dX8_place_73 : decode cX8_place 73 = .ok (.aload_n 0, 1) := by decide +kernel
theorem dX8_place_74 : decode cX8_place 74 = .ok (.getfield 103, 3) := by decide +kernel
theorem dX8_place_77 : decode cX8_place 77 = .ok (.iload_n 1, 1) := by decide +kernel
theorem dX8_place_78 : decode cX8_place 78 = .ok (.iaload, 1) := by decide +kernel
theorem dX8_place_79 : decode cX8_place 79 = .ok (.ireturn, 1) := by decide +kernel
theorem dX8_place_80 : decode cX8_place 80 = .ok (.aload_n 0, 1) := by decide +kernel
theorem dX8_place_81 : decode cX8_place 81 = .ok (.getfield 103, 3) := by decide +kernel
theorem dX8_place_84 : decode cX8_place 84 = .ok (.iload_n 1, 1) := by decide +kernel
theorem dX8_place_85 : decode cX8_place 85 = .ok (.iaload, 1) := by decide +kernel
theorem dX8_place_86 : decode cX8_place 86 = .ok (.ifCond .ne 7, 3) := by decide +kernel
theorem dX8_place_89 : decode cX8_place 89 = .ok (.iconst (-1), 1) := by decide +kernel
theorem dX8_place_90 : decode cX8_place 90 = .ok (.goto 17, 3) := by decide +kernel
theorem dX8_place_93 : decode cX8_place 93 = .ok (.aload_n 0, 1) := by decide +kernel
theorem dX8_place_94 : decode cX8_place 94 = .ok (.iconst 0, 1) := by decide +kernel
theorem dX8_place_95 : decode cX8_place 95 = .ok (.iload_n 1, 1) := by decide +kernel
theorem dX8_place_96 : decode cX8_place 96 = .ok (.aload_n 0, 1) := by decide +kernel
theorem dX8_place_97 : decode cX8_place 97 = .ok (.getfield 103, 3) := by decide +kernel
theorem dX8_place_100 : decode cX8_place 100 = .ok (.iload_n 1, 1) := by decide +kernel
theorem dX8_place_101 : decode cX8_place 101 = .ok (.iaload, 1) := by decide +kernel
theorem dX8_place_102 : decode cX8_place 102 = .ok (.iconst 1, 1) := by decide +kernel
theorem dX8_place_103 : decode cX8_place 103 = .ok (.isub, 1) := by decide +kernel
theorem dX8_place_104 : decode cX8_place 104 = .ok (.invokevirtual 406, 3) := by decide +kernel
theorem dX8_place_107 : decode cX8_place 107 = .ok (.ireturn, 1) := by decide +kernel
theorem dX8_place_108 : decode cX8_place 108 = .ok (.iconst (-1), 1) := by decide +kernel
theorem dX8_place_109 : decode cX8_place 109 = .ok (.ireturn, 1) := by decide +kernel
theorem dX8_waits_0 : decode cX8_waits 0 = .ok (.aload_n 0, 1) := by decide +kernel
theorem dX8_waits_1 : decode cX8_waits 1 = .ok (.iconst 0, 1) := by decide +kernel
theorem dX8_waits_2 : decode cX8_waits 2 = .ok (.putfield 172, 3) := by decide +kernel
theorem dX8_waits_5 : decode cX8_waits 5 = .ok (.iload_n 1, 1) := by decide +kernel
theorem dX8_waits_6 : decode cX8_waits 6 = .ok (.iconst 0, 1) := by decide +kernel
theorem dX8_waits_7 : decode cX8_waits 7 = .ok (.bipush 20, 2) := by decide +kernel
theorem dX8_waits_9 : decode cX8_waits 9 = .ok (.invokestatic 217, 3) := by decide +kernel
theorem dX8_waits_12 : decode cX8_waits 12 = .ok (.ifCond .eq 12, 3) := by decide +kernel
theorem dX8_waits_15 : decode cX8_waits 15 = .ok (.aload_n 0, 1) := by decide +kernel
theorem dX8_waits_16 : decode cX8_waits 16 = .ok (.getfield 57, 3) := by decide +kernel
theorem dX8_waits_19 : decode cX8_waits 19 = .ok (.iload_n 1, 1) := by decide +kernel
theorem dX8_waits_20 : decode cX8_waits 20 = .ok (.iaload, 1) := by decide +kernel
theorem dX8_waits_21 : decode cX8_waits 21 = .ok (.goto 4, 3) := by decide +kernel
theorem dX8_waits_24 : decode cX8_waits 24 = .ok (.iconst (-1), 1) := by decide +kernel
theorem dX8_waits_25 : decode cX8_waits 25 = .ok (.ireturn, 1) := by decide +kernel
theorem dX8_law_0 : decode cX8_law 0 = .ok (.aload_n 0, 1) := by decide +kernel
theorem dX8_law_1 : decode cX8_law 1 = .ok (.iconst 0, 1) := by decide +kernel
theorem dX8_law_2 : decode cX8_law 2 = .ok (.putfield 172, 3) := by decide +kernel
theorem dX8_law_5 : decode cX8_law 5 = .ok (.iload_n 1, 1) := by decide +kernel
theorem dX8_law_6 : decode cX8_law 6 = .ok (.iconst 0, 1) := by decide +kernel
theorem dX8_law_7 : decode cX8_law 7 = .ok (.iconst 2, 1) := by decide +kernel
theorem dX8_law_8 : decode cX8_law 8 = .ok (.invokestatic 217, 3) := by decide +kernel
theorem dX8_law_11 : decode cX8_law 11 = .ok (.ifCond .eq 30, 3) := by decide +kernel
theorem dX8_law_14 : decode cX8_law 14 = .ok (.aload_n 0, 1) := by decide +kernel
theorem dX8_law_15 : decode cX8_law 15 = .ok (.getfield 63, 3) := by decide +kernel
theorem dX8_law_18 : decode cX8_law 18 = .ok (.iload_n 1, 1) := by decide +kernel
theorem dX8_law_19 : decode cX8_law 19 = .ok (.baload, 1) := by decide +kernel
theorem dX8_law_20 : decode cX8_law 20 = .ok (.ifCond .eq 21, 3) := by decide +kernel
theorem dX8_law_23 : decode cX8_law 23 = .ok (.aload_n 0, 1) := by decide +kernel
theorem dX8_law_24 : decode cX8_law 24 = .ok (.iload_n 2, 1) := by decide +kernel
theorem dX8_law_25 : decode cX8_law 25 = .ok (.invokevirtual 497, 3) := by decide +kernel
theorem dX8_law_28 : decode cX8_law 28 = .ok (.ifCond .eq 13, 3) := by decide +kernel
theorem dX8_law_31 : decode cX8_law 31 = .ok (.aload_n 0, 1) := by decide +kernel
theorem dX8_law_32 : decode cX8_law 32 = .ok (.getfield 94, 3) := by decide +kernel
theorem dX8_law_35 : decode cX8_law 35 = .ok (.iload_n 2, 1) := by decide +kernel
theorem dX8_law_36 : decode cX8_law 36 = .ok (.iaload, 1) := by decide +kernel
theorem dX8_law_37 : decode cX8_law 37 = .ok (.iconst 1, 1) := by decide +kernel
theorem dX8_law_38 : decode cX8_law 38 = .ok (.if_icmp .eq 7, 3) := by decide +kernel
theorem dX8_law_41 : decode cX8_law 41 = .ok (.ldc2_w 503, 3) := by decide +kernel
theorem dX8_law_44 : decode cX8_law 44 = .ok (.lreturn, 1) := by decide +kernel
theorem dX8_law_45 : decode cX8_law 45 = .ok (.aload_n 0, 1) := by decide +kernel
theorem dX8_law_46 : decode cX8_law 46 = .ok (.invokevirtual 373, 3) := by decide +kernel
theorem dX8_law_49 : decode cX8_law 49 = .ok (.aload_n 0, 1) := by decide +kernel
theorem dX8_law_50 : decode cX8_law 50 = .ok (.iconst 0, 1) := by decide +kernel
theorem dX8_law_51 : decode cX8_law 51 = .ok (.iload_n 2, 1) := by decide +kernel
theorem dX8_law_52 : decode cX8_law 52 = .ok (.aload_n 0, 1) := by decide +kernel
theorem dX8_law_53 : decode cX8_law 53 = .ok (.getfield 45, 3) := by decide +kernel
theorem dX8_law_56 : decode cX8_law 56 = .ok (.iload_n 2, 1) := by decide +kernel
theorem dX8_law_57 : decode cX8_law 57 = .ok (.iaload, 1) := by decide +kernel
theorem dX8_law_58 : decode cX8_law 58 = .ok (.invokevirtual 429, 3) := by decide +kernel
theorem dX8_law_61 : decode cX8_law 61 = .ok (.aload_n 0, 1) := by decide +kernel
theorem dX8_law_62 : decode cX8_law 62 = .ok (.iload_n 1, 1) := by decide +kernel
theorem dX8_law_63 : decode cX8_law 63 = .ok (.invokevirtual 426, 3) := by decide +kernel
theorem dX8_law_66 : decode cX8_law 66 = .ok (.lstore_n 3, 1) := by decide +kernel
theorem dX8_law_67 : decode cX8_law 67 = .ok (.aload_n 0, 1) := by decide +kernel
theorem dX8_law_68 : decode cX8_law 68 = .ok (.getfield 347, 3) := by decide +kernel
theorem dX8_law_71 : decode cX8_law 71 = .ok (.ifCond .eq 9, 3) := by decide +kernel
theorem dX8_law_74 : decode cX8_law 74 = .ok (.ldc2_w 503, 3) := by decide +kernel
theorem dX8_law_77 : decode cX8_law 77 = .ok (.goto 4, 3) := by decide +kernel
theorem dX8_law_80 : decode cX8_law 80 = .ok (.lload_n 3, 1) := by decide +kernel
theorem dX8_law_81 : decode cX8_law 81 = .ok (.lreturn, 1) := by decide +kernel
theorem dX8_move_0 : decode cX8_move 0 = .ok (.aload_n 0, 1) := by decide +kernel
theorem dX8_move_1 : decode cX8_move 1 = .ok (.iconst 0, 1) := by decide +kernel
theorem dX8_move_2 : decode cX8_move 2 = .ok (.putfield 172, 3) := by decide +kernel
theorem dX8_move_5 : decode cX8_move 5 = .ok (.aload_n 0, 1) := by decide +kernel
theorem dX8_move_6 : decode cX8_move 6 = .ok (.iload_n 1, 1) := by decide +kernel
theorem dX8_move_7 : decode cX8_move 7 = .ok (.invokevirtual 497, 3) := by decide +kernel
theorem dX8_move_10 : decode cX8_move 10 = .ok (.ifCond .eq 21, 3) := by decide +kernel
theorem dX8_move_13 : decode cX8_move 13 = .ok (.aload_n 0, 1) := by decide +kernel
theorem dX8_move_14 : decode cX8_move 14 = .ok (.iload_n 2, 1) := by decide +kernel
theorem dX8_move_15 : decode cX8_move 15 = .ok (.invokevirtual 500, 3) := by decide +kernel
theorem dX8_move_18 : decode cX8_move 18 = .ok (.ifCond .eq 13, 3) := by decide +kernel
theorem dX8_move_21 : decode cX8_move 21 = .ok (.aload_n 0, 1) := by decide +kernel
theorem dX8_move_22 : decode cX8_move 22 = .ok (.getfield 94, 3) := by decide +kernel
theorem dX8_move_25 : decode cX8_move 25 = .ok (.iload_n 1, 1) := by decide +kernel
theorem dX8_move_26 : decode cX8_move 26 = .ok (.iaload, 1) := by decide +kernel
theorem dX8_move_27 : decode cX8_move 27 = .ok (.iconst 1, 1) := by decide +kernel
theorem dX8_move_28 : decode cX8_move 28 = .ok (.if_icmp .eq 5, 3) := by decide +kernel
theorem dX8_move_31 : decode cX8_move 31 = .ok (.iconst 0, 1) := by decide +kernel
theorem dX8_move_32 : decode cX8_move 32 = .ok (.ireturn, 1) := by decide +kernel
theorem dX8_move_33 : decode cX8_move 33 = .ok (.aload_n 0, 1) := by decide +kernel
theorem dX8_move_34 : decode cX8_move 34 = .ok (.getfield 97, 3) := by decide +kernel
theorem dX8_move_37 : decode cX8_move 37 = .ok (.iload_n 1, 1) := by decide +kernel
theorem dX8_move_38 : decode cX8_move 38 = .ok (.iaload, 1) := by decide +kernel
theorem dX8_move_39 : decode cX8_move 39 = .ok (.iload_n 2, 1) := by decide +kernel
theorem dX8_move_40 : decode cX8_move 40 = .ok (.if_icmp .ne 15, 3) := by decide +kernel
theorem dX8_move_43 : decode cX8_move 43 = .ok (.aload_n 0, 1) := by decide +kernel
theorem dX8_move_44 : decode cX8_move 44 = .ok (.iconst 0, 1) := by decide +kernel
theorem dX8_move_45 : decode cX8_move 45 = .ok (.iload_n 1, 1) := by decide +kernel
theorem dX8_move_46 : decode cX8_move 46 = .ok (.invokevirtual 416, 3) := by decide +kernel
theorem dX8_move_49 : decode cX8_move 49 = .ok (.ifCond .ne 18, 3) := by decide +kernel
theorem dX8_move_52 : decode cX8_move 52 = .ok (.goto 13, 3) := by decide +kernel
theorem dX8_move_55 : decode cX8_move 55 = .ok (.aload_n 0, 1) := by decide +kernel
theorem dX8_move_56 : decode cX8_move 56 = .ok (.iconst 0, 1) := by decide +kernel
theorem dX8_move_57 : decode cX8_move 57 = .ok (.iload_n 2, 1) := by decide +kernel
theorem dX8_move_58 : decode cX8_move 58 = .ok (.iload_n 1, 1) := by decide +kernel
theorem dX8_move_59 : decode cX8_move 59 = .ok (.invokevirtual 453, 3) := by decide +kernel
theorem dX8_move_62 : decode cX8_move 62 = .ok (.ifCond .ne 5, 3) := by decide +kernel
theorem dX8_move_65 : decode cX8_move 65 = .ok (.iconst 0, 1) := by decide +kernel
theorem dX8_move_66 : decode cX8_move 66 = .ok (.ireturn, 1) := by decide +kernel
theorem dX8_move_67 : decode cX8_move 67 = .ok (.aload_n 0, 1) := by decide +kernel
theorem dX8_move_68 : decode cX8_move 68 = .ok (.invokevirtual 505, 3) := by decide +kernel
theorem dX8_move_71 : decode cX8_move 71 = .ok (.aload_n 0, 1) := by decide +kernel
theorem dX8_move_72 : decode cX8_move 72 = .ok (.iconst 0, 1) := by decide +kernel
theorem dX8_move_73 : decode cX8_move 73 = .ok (.iload_n 1, 1) := by decide +kernel
theorem dX8_move_74 : decode cX8_move 74 = .ok (.iconst 1, 1) := by decide +kernel
theorem dX8_move_75 : decode cX8_move 75 = .ok (.invokevirtual 447, 3) := by decide +kernel
theorem dX8_move_78 : decode cX8_move 78 = .ok (.aload_n 0, 1) := by decide +kernel
theorem dX8_move_79 : decode cX8_move 79 = .ok (.iconst 0, 1) := by decide +kernel
theorem dX8_move_80 : decode cX8_move 80 = .ok (.iload_n 2, 1) := by decide +kernel
theorem dX8_move_81 : decode cX8_move 81 = .ok (.iload_n 1, 1) := by decide +kernel
theorem dX8_move_82 : decode cX8_move 82 = .ok (.invokevirtual 459, 3) := by decide +kernel
theorem dX8_move_85 : decode cX8_move 85 = .ok (.iconst 1, 1) := by decide +kernel
theorem dX8_move_86 : decode cX8_move 86 = .ok (.ireturn, 1) := by decide +kernel
theorem dX8_isBelow_0 : decode cX8_isBelow 0 = .ok (.aload_n 0, 1) := by decide +kernel
theorem dX8_isBelow_1 : decode cX8_isBelow 1 = .ok (.getfield 39, 3) := by decide +kernel
theorem dX8_isBelow_4 : decode cX8_isBelow 4 = .ok (.aload_n 0, 1) := by decide +kernel
theorem dX8_isBelow_5 : decode cX8_isBelow 5 = .ok (.getfield 45, 3) := by decide +kernel
theorem dX8_isBelow_8 : decode cX8_isBelow 8 = .ok (.iload_n 1, 1) := by decide +kernel
theorem dX8_isBelow_9 : decode cX8_isBelow 9 = .ok (.iaload, 1) := by decide +kernel
theorem dX8_isBelow_10 : decode cX8_isBelow 10 = .ok (.iaload, 1) := by decide +kernel
theorem dX8_isBelow_11 : decode cX8_isBelow 11 = .ok (.istore_n 3, 1) := by decide +kernel
theorem dX8_isBelow_12 : decode cX8_isBelow 12 = .ok (.aload_n 0, 1) := by decide +kernel
theorem dX8_isBelow_13 : decode cX8_isBelow 13 = .ok (.getfield 39, 3) := by decide +kernel
theorem dX8_isBelow_16 : decode cX8_isBelow 16 = .ok (.aload_n 0, 1) := by decide +kernel
theorem dX8_isBelow_17 : decode cX8_isBelow 17 = .ok (.getfield 45, 3) := by decide +kernel
theorem dX8_isBelow_20 : decode cX8_isBelow 20 = .ok (.iload_n 2, 1) := by decide +kernel
theorem dX8_isBelow_21 : decode cX8_isBelow 21 = .ok (.iaload, 1) := by decide +kernel
theorem dX8_isBelow_22 : decode cX8_isBelow 22 = .ok (.iaload, 1) := by decide +kernel
theorem dX8_isBelow_23 : decode cX8_isBelow 23 = .ok (.istore 4, 2) := by decide +kernel
theorem dX8_isBelow_25 : decode cX8_isBelow 25 = .ok (.iload_n 3, 1) := by decide +kernel
theorem dX8_isBelow_26 : decode cX8_isBelow 26 = .ok (.iload 4, 2) := by decide +kernel
theorem dX8_isBelow_28 : decode cX8_isBelow 28 = .ok (.if_icmp .gt 14, 3) := by decide +kernel
theorem dX8_isBelow_31 : decode cX8_isBelow 31 = .ok (.iload_n 3, 1) := by decide +kernel
theorem dX8_isBelow_32 : decode cX8_isBelow 32 = .ok (.iload 4, 2) := by decide +kernel
theorem dX8_isBelow_34 : decode cX8_isBelow 34 = .ok (.if_icmp .ne 12, 3) := by decide +kernel
theorem dX8_isBelow_37 : decode cX8_isBelow 37 = .ok (.iload_n 1, 1) := by decide +kernel
theorem dX8_isBelow_38 : decode cX8_isBelow 38 = .ok (.iload_n 2, 1) := by decide +kernel
theorem dX8_isBelow_39 : decode cX8_isBelow 39 = .ok (.if_icmp .le 7, 3) := by decide +kernel
theorem dX8_isBelow_42 : decode cX8_isBelow 42 = .ok (.iconst 1, 1) := by decide +kernel
theorem dX8_isBelow_43 : decode cX8_isBelow 43 = .ok (.goto 4, 3) := by decide +kernel
theorem dX8_isBelow_46 : decode cX8_isBelow 46 = .ok (.iconst 0, 1) := by decide +kernel
theorem dX8_isBelow_47 : decode cX8_isBelow 47 = .ok (.ireturn, 1) := by decide +kernel
theorem dX8_turns_0 : decode cX8_turns 0 = .ok (.aload_n 0, 1) := by decide +kernel
theorem dX8_turns_1 : decode cX8_turns 1 = .ok (.getfield 103, 3) := by decide +kernel
theorem dX8_turns_4 : decode cX8_turns 4 = .ok (.iconst 5, 1) := by decide +kernel
theorem dX8_turns_5 : decode cX8_turns 5 = .ok (.iload_n 1, 1) := by decide +kernel
theorem dX8_turns_6 : decode cX8_turns 6 = .ok (.imul, 1) := by decide +kernel
theorem dX8_turns_7 : decode cX8_turns 7 = .ok (.iload_n 2, 1) := by decide +kernel
theorem dX8_turns_8 : decode cX8_turns 8 = .ok (.iadd, 1) := by decide +kernel
theorem dX8_turns_9 : decode cX8_turns 9 = .ok (.iaload, 1) := by decide +kernel
theorem dX8_turns_10 : decode cX8_turns 10 = .ok (.istore_n 3, 1) := by decide +kernel
theorem dX8_turns_11 : decode cX8_turns 11 = .ok (.iconst 0, 1) := by decide +kernel
theorem dX8_turns_12 : decode cX8_turns 12 = .ok (.istore 4, 2) := by decide +kernel
theorem dX8_turns_14 : decode cX8_turns 14 = .ok (.iconst 0, 1) := by decide +kernel
theorem dX8_turns_15 : decode cX8_turns 15 = .ok (.istore 5, 2) := by decide +kernel
theorem dX8_turns_17 : decode cX8_turns 17 = .ok (.iload 5, 2) := by decide +kernel
theorem dX8_turns_19 : decode cX8_turns 19 = .ok (.iload_n 3, 1) := by decide +kernel
theorem dX8_turns_20 : decode cX8_turns 20 = .ok (.if_icmp .ge 90, 3) := by decide +kernel
theorem dX8_turns_23 : decode cX8_turns 23 = .ok (.aload_n 0, 1) := by decide +kernel
theorem dX8_turns_24 : decode cX8_turns 24 = .ok (.iload_n 1, 1) := by decide +kernel
theorem dX8_turns_25 : decode cX8_turns 25 = .ok (.iload_n 2, 1) := by decide +kernel
theorem dX8_turns_26 : decode cX8_turns 26 = .ok (.iload 5, 2) := by decide +kernel
theorem dX8_turns_28 : decode cX8_turns 28 = .ok (.invokevirtual 406, 3) := by decide +kernel
theorem dX8_turns_31 : decode cX8_turns 31 = .ok (.istore 6, 2) := by decide +kernel
theorem dX8_turns_33 : decode cX8_turns 33 = .ok (.iconst 0, 1) := by decide +kernel
theorem dX8_turns_34 : decode cX8_turns 34 = .ok (.istore 7, 2) := by decide +kernel
theorem dX8_turns_36 : decode cX8_turns 36 = .ok (.iconst 0, 1) := by decide +kernel
theorem dX8_turns_37 : decode cX8_turns 37 = .ok (.istore 8, 2) := by decide +kernel
theorem dX8_turns_39 : decode cX8_turns 39 = .ok (.iload 8, 2) := by decide +kernel
theorem dX8_turns_41 : decode cX8_turns 41 = .ok (.iload_n 3, 1) := by decide +kernel
theorem dX8_turns_42 : decode cX8_turns 42 = .ok (.if_icmp .ge 36, 3) := by decide +kernel
theorem dX8_turns_45 : decode cX8_turns 45 = .ok (.iload 7, 2) := by decide +kernel
theorem dX8_turns_47 : decode cX8_turns 47 = .ok (.aload_n 0, 1) := by decide +kernel
theorem dX8_turns_48 : decode cX8_turns 48 = .ok (.aload_n 0, 1) := by decide +kernel
theorem dX8_turns_49 : decode cX8_turns 49 = .ok (.iload_n 1, 1) := by decide +kernel
theorem dX8_turns_50 : decode cX8_turns 50 = .ok (.iload_n 2, 1) := by decide +kernel
theorem dX8_turns_51 : decode cX8_turns 51 = .ok (.iload 8, 2) := by decide +kernel
theorem dX8_turns_53 : decode cX8_turns 53 = .ok (.invokevirtual 406, 3) := by decide +kernel
theorem dX8_turns_56 : decode cX8_turns 56 = .ok (.iload 6, 2) := by decide +kernel
theorem dX8_turns_58 : decode cX8_turns 58 = .ok (.invokevirtual 508, 3) := by decide +kernel
theorem dX8_turns_61 : decode cX8_turns 61 = .ok (.ifCond .eq 7, 3) := by decide +kernel
theorem dX8_turns_64 : decode cX8_turns 64 = .ok (.iconst 1, 1) := by decide +kernel
theorem dX8_turns_65 : decode cX8_turns 65 = .ok (.goto 4, 3) := by decide +kernel
theorem dX8_turns_68 : decode cX8_turns 68 = .ok (.iconst 0, 1) := by decide +kernel
theorem dX8_turns_69 : decode cX8_turns 69 = .ok (.iadd, 1) := by decide +kernel
theorem dX8_turns_70 : decode cX8_turns 70 = .ok (.istore 7, 2) := by decide +kernel
theorem dX8_turns_72 : decode cX8_turns 72 = .ok (.iinc 8 1, 3) := by decide +kernel
theorem dX8_turns_75 : decode cX8_turns 75 = .ok (.goto (-36), 3) := by decide +kernel
theorem dX8_turns_78 : decode cX8_turns 78 = .ok (.aload_n 0, 1) := by decide +kernel
theorem dX8_turns_79 : decode cX8_turns 79 = .ok (.getfield 130, 3) := by decide +kernel
theorem dX8_turns_82 : decode cX8_turns 82 = .ok (.iload 7, 2) := by decide +kernel
theorem dX8_turns_84 : decode cX8_turns 84 = .ok (.iload 6, 2) := by decide +kernel
theorem dX8_turns_86 : decode cX8_turns 86 = .ok (.iastore, 1) := by decide +kernel
theorem dX8_turns_87 : decode cX8_turns 87 = .ok (.iload 4, 2) := by decide +kernel
theorem dX8_turns_89 : decode cX8_turns 89 = .ok (.iload 7, 2) := by decide +kernel
theorem dX8_turns_91 : decode cX8_turns 91 = .ok (.iload 5, 2) := by decide +kernel
theorem dX8_turns_93 : decode cX8_turns 93 = .ok (.if_icmp .ne 7, 3) := by decide +kernel
theorem dX8_turns_96 : decode cX8_turns 96 = .ok (.iconst 0, 1) := by decide +kernel
theorem dX8_turns_97 : decode cX8_turns 97 = .ok (.goto 4, 3) := by decide +kernel
theorem dX8_turns_100 : decode cX8_turns 100 = .ok (.iconst 1, 1) := by decide +kernel
theorem dX8_turns_101 : decode cX8_turns 101 = .ok (.iadd, 1) := by decide +kernel
theorem dX8_turns_102 : decode cX8_turns 102 = .ok (.istore 4, 2) := by decide +kernel
theorem dX8_turns_104 : decode cX8_turns 104 = .ok (.iinc 5 1, 3) := by decide +kernel
theorem dX8_turns_107 : decode cX8_turns 107 = .ok (.goto (-90), 3) := by decide +kernel
theorem dX8_turns_110 : decode cX8_turns 110 = .ok (.iconst 0, 1) := by decide +kernel
theorem dX8_turns_111 : decode cX8_turns 111 = .ok (.istore 5, 2) := by decide +kernel
theorem dX8_turns_113 : decode cX8_turns 113 = .ok (.iload 5, 2) := by decide +kernel
theorem dX8_turns_115 : decode cX8_turns 115 = .ok (.iload_n 3, 1) := by decide +kernel
theorem dX8_turns_116 : decode cX8_turns 116 = .ok (.if_icmp .ge 33, 3) := by decide +kernel
theorem dX8_turns_119 : decode cX8_turns 119 = .ok (.aload_n 0, 1) := by decide +kernel
theorem dX8_turns_120 : decode cX8_turns 120 = .ok (.getfield 100, 3) := by decide +kernel
theorem dX8_turns_123 : decode cX8_turns 123 = .ok (.bipush 50, 2) := by decide +kernel
theorem dX8_turns_125 : decode cX8_turns 125 = .ok (.iload_n 1, 1) := by decide +kernel
theorem dX8_turns_126 : decode cX8_turns 126 = .ok (.imul, 1) := by decide +kernel
theorem dX8_turns_127 : decode cX8_turns 127 = .ok (.bipush 10, 2) := by decide +kernel
theorem dX8_turns_129 : decode cX8_turns 129 = .ok (.iload_n 2, 1) := by decide +kernel
theorem dX8_turns_130 : decode cX8_turns 130 = .ok (.imul, 1) := by decide +kernel
theorem dX8_turns_131 : decode cX8_turns 131 = .ok (.iadd, 1) := by decide +kernel
theorem dX8_turns_132 : decode cX8_turns 132 = .ok (.iload 5, 2) := by decide +kernel
theorem dX8_turns_134 : decode cX8_turns 134 = .ok (.iadd, 1) := by decide +kernel
theorem dX8_turns_135 : decode cX8_turns 135 = .ok (.aload_n 0, 1) := by decide +kernel
theorem dX8_turns_136 : decode cX8_turns 136 = .ok (.getfield 130, 3) := by decide +kernel
theorem dX8_turns_139 : decode cX8_turns 139 = .ok (.iload 5, 2) := by decide +kernel
theorem dX8_turns_141 : decode cX8_turns 141 = .ok (.iaload, 1) := by decide +kernel
theorem dX8_turns_142 : decode cX8_turns 142 = .ok (.iastore, 1) := by decide +kernel
theorem dX8_turns_143 : decode cX8_turns 143 = .ok (.iinc 5 1, 3) := by decide +kernel
theorem dX8_turns_146 : decode cX8_turns 146 = .ok (.goto (-33), 3) := by decide +kernel
theorem dX8_turns_149 : decode cX8_turns 149 = .ok (.iload 4, 2) := by decide +kernel
theorem dX8_turns_151 : decode cX8_turns 151 = .ok (.ireturn, 1) := by decide +kernel
theorem dX8_turn_0 : decode cX8_turn 0 = .ok (.aload_n 0, 1) := by decide +kernel
theorem dX8_turn_1 : decode cX8_turn 1 = .ok (.iconst 0, 1) := by decide +kernel
theorem dX8_turn_2 : decode cX8_turn 2 = .ok (.putfield 172, 3) := by decide +kernel
theorem dX8_turn_5 : decode cX8_turn 5 = .ok (.aload_n 0, 1) := by decide +kernel
theorem dX8_turn_6 : decode cX8_turn 6 = .ok (.iload_n 1, 1) := by decide +kernel
theorem dX8_turn_7 : decode cX8_turn 7 = .ok (.invokevirtual 500, 3) := by decide +kernel
theorem dX8_turn_10 : decode cX8_turn 10 = .ok (.ifCond .ne 5, 3) := by decide +kernel
theorem dX8_turn_13 : decode cX8_turn 13 = .ok (.iconst (-1), 1) := by decide +kernel
theorem dX8_turn_14 : decode cX8_turn 14 = .ok (.ireturn, 1) := by decide +kernel
theorem dX8_turn_15 : decode cX8_turn 15 = .ok (.aload_n 0, 1) := by decide +kernel
theorem dX8_turn_16 : decode cX8_turn 16 = .ok (.invokevirtual 511, 3) := by decide +kernel
theorem dX8_turn_19 : decode cX8_turn 19 = .ok (.aload_n 0, 1) := by decide +kernel
theorem dX8_turn_20 : decode cX8_turn 20 = .ok (.iconst 1, 1) := by decide +kernel
theorem dX8_turn_21 : decode cX8_turn 21 = .ok (.iload_n 1, 1) := by decide +kernel
theorem dX8_turn_22 : decode cX8_turn 22 = .ok (.invokevirtual 514, 3) := by decide +kernel
theorem dX8_turn_25 : decode cX8_turn 25 = .ok (.ifCond .ne 5, 3) := by decide +kernel
theorem dX8_turn_28 : decode cX8_turn 28 = .ok (.iconst 0, 1) := by decide +kernel
theorem dX8_turn_29 : decode cX8_turn 29 = .ok (.ireturn, 1) := by decide +kernel
theorem dX8_turn_30 : decode cX8_turn 30 = .ok (.aload_n 0, 1) := by decide +kernel
theorem dX8_turn_31 : decode cX8_turn 31 = .ok (.invokevirtual 505, 3) := by decide +kernel
theorem dX8_turn_34 : decode cX8_turn 34 = .ok (.aload_n 0, 1) := by decide +kernel
theorem dX8_turn_35 : decode cX8_turn 35 = .ok (.iconst 0, 1) := by decide +kernel
theorem dX8_turn_36 : decode cX8_turn 36 = .ok (.iload_n 1, 1) := by decide +kernel
theorem dX8_turn_37 : decode cX8_turn 37 = .ok (.invokevirtual 514, 3) := by decide +kernel
theorem dX8_turn_40 : decode cX8_turn 40 = .ok (.ireturn, 1) := by decide +kernel
theorem dX8_help_0 : decode cX8_help 0 = .ok (.aload_n 0, 1) := by decide +kernel
theorem dX8_help_1 : decode cX8_help 1 = .ok (.iconst 0, 1) := by decide +kernel
theorem dX8_help_2 : decode cX8_help 2 = .ok (.putfield 172, 3) := by decide +kernel
theorem dX8_help_5 : decode cX8_help 5 = .ok (.aload_n 0, 1) := by decide +kernel
theorem dX8_help_6 : decode cX8_help 6 = .ok (.iload_n 1, 1) := by decide +kernel
theorem dX8_help_7 : decode cX8_help 7 = .ok (.invokevirtual 491, 3) := by decide +kernel
theorem dX8_help_10 : decode cX8_help 10 = .ok (.ifCond .eq 23, 3) := by decide +kernel
theorem dX8_help_13 : decode cX8_help 13 = .ok (.iload_n 2, 1) := by decide +kernel
theorem dX8_help_14 : decode cX8_help 14 = .ok (.iconst 1, 1) := by decide +kernel

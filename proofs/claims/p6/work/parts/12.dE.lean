theorem dX8_thrown_0 : decode cX8_thrown 0 = .ok (.aload_n 0, 1) := by decide +kernel
theorem dX8_thrown_1 : decode cX8_thrown 1 = .ok (.getfield 172, 3) := by decide +kernel
theorem dX8_thrown_4 : decode cX8_thrown 4 = .ok (.ireturn, 1) := by decide +kernel
theorem dX8_feed_0 : decode cX8_feed 0 = .ok (.aload_n 0, 1) := by decide +kernel
theorem dX8_feed_1 : decode cX8_feed 1 = .ok (.iconst 0, 1) := by decide +kernel
theorem dX8_feed_2 : decode cX8_feed 2 = .ok (.putfield 172, 3) := by decide +kernel
theorem dX8_feed_5 : decode cX8_feed 5 = .ok (.aload_n 0, 1) := by decide +kernel
theorem dX8_feed_6 : decode cX8_feed 6 = .ok (.getfield 175, 3) := by decide +kernel
theorem dX8_feed_9 : decode cX8_feed 9 = .ok (.bipush 20, 2) := by decide +kernel
theorem dX8_feed_11 : decode cX8_feed 11 = .ok (.iadd, 1) := by decide +kernel
theorem dX8_feed_12 : decode cX8_feed 12 = .ok (.sipush 700, 3) := by decide +kernel
theorem dX8_feed_15 : decode cX8_feed 15 = .ok (.if_icmp .le 5, 3) := by decide +kernel
theorem dX8_feed_18 : decode cX8_feed 18 = .ok (.iconst (-1), 1) := by decide +kernel
theorem dX8_feed_19 : decode cX8_feed 19 = .ok (.ireturn, 1) := by decide +kernel
theorem dX8_feed_20 : decode cX8_feed 20 = .ok (.iconst 0, 1) := by decide +kernel
theorem dX8_feed_21 : decode cX8_feed 21 = .ok (.istore 6, 2) := by decide +kernel
theorem dX8_feed_23 : decode cX8_feed 23 = .ok (.iload 6, 2) := by decide +kernel
theorem dX8_feed_25 : decode cX8_feed 25 = .ok (.bipush 20, 2) := by decide +kernel
theorem dX8_feed_27 : decode cX8_feed 27 = .ok (.if_icmp .ge 86, 3) := by decide +kernel
theorem dX8_feed_30 : decode cX8_feed 30 = .ok (.iload 6, 2) := by decide +kernel
theorem dX8_feed_32 : decode cX8_feed 32 = .ok (.iconst 4, 1) := by decide +kernel
theorem dX8_feed_33 : decode cX8_feed 33 = .ok (.if_icmp .ge 7, 3) := by decide +kernel
theorem dX8_feed_36 : decode cX8_feed 36 = .ok (.iload_n 1, 1) := by decide +kernel
theorem dX8_feed_37 : decode cX8_feed 37 = .ok (.goto 39, 3) := by decide +kernel
theorem dX8_feed_40 : decode cX8_feed 40 = .ok (.iload 6, 2) := by decide +kernel
theorem dX8_feed_42 : decode cX8_feed 42 = .ok (.bipush 8, 2) := by decide +kernel
theorem dX8_feed_44 : decode cX8_feed 44 = .ok (.if_icmp .ge 7, 3) := by decide +kernel
theorem dX8_feed_47 : decode cX8_feed 47 = .ok (.iload_n 2, 1) := by decide +kernel
theorem dX8_feed_48 : decode cX8_feed 48 = .ok (.goto 28, 3) := by decide +kernel
theorem dX8_feed_51 : decode cX8_feed 51 = .ok (.iload 6, 2) := by decide +kernel
theorem dX8_feed_53 : decode cX8_feed 53 = .ok (.bipush 12, 2) := by decide +kernel
theorem dX8_feed_55 : decode cX8_feed 55 = .ok (.if_icmp .ge 7, 3) := by decide +kernel
theorem dX8_feed_58 : decode cX8_feed 58 = .ok (.iload_n 3, 1) := by decide +kernel
theorem dX8_feed_59 : decode cX8_feed 59 = .ok (.goto 17, 3) := by decide +kernel
theorem dX8_feed_62 : decode cX8_feed 62 = .ok (.iload 6, 2) := by decide +kernel
theorem dX8_feed_64 : decode cX8_feed 64 = .ok (.bipush 16, 2) := by decide +kernel
theorem dX8_feed_66 : decode cX8_feed 66 = .ok (.if_icmp .ge 8, 3) := by decide +kernel
theorem dX8_feed_69 : decode cX8_feed 69 = .ok (.iload 4, 2) := by decide +kernel
theorem dX8_feed_71 : decode cX8_feed 71 = .ok (.goto 5, 3) := by decide +kernel
theorem dX8_feed_74 : decode cX8_feed 74 = .ok (.iload 5, 2) := by decide +kernel
theorem dX8_feed_76 : decode cX8_feed 76 = .ok (.istore 7, 2) := by decide +kernel
theorem dX8_feed_78 : decode cX8_feed 78 = .ok (.aload_n 0, 1) := by decide +kernel
theorem dX8_feed_79 : decode cX8_feed 79 = .ok (.getfield 7, 3) := by decide +kernel
theorem dX8_feed_82 : decode cX8_feed 82 = .ok (.aload_n 0, 1) := by decide +kernel
theorem dX8_feed_83 : decode cX8_feed 83 = .ok (.getfield 175, 3) := by decide +kernel
theorem dX8_feed_86 : decode cX8_feed 86 = .ok (.iload 6, 2) := by decide +kernel
theorem dX8_feed_88 : decode cX8_feed 88 = .ok (.iadd, 1) := by decide +kernel
theorem dX8_feed_89 : decode cX8_feed 89 = .ok (.iload 7, 2) := by decide +kernel
theorem dX8_feed_91 : decode cX8_feed 91 = .ok (.bipush 24, 2) := by decide +kernel
theorem dX8_feed_93 : decode cX8_feed 93 = .ok (.bipush 8, 2) := by decide +kernel
theorem dX8_feed_95 : decode cX8_feed 95 = .ok (.iload 6, 2) := by decide +kernel
theorem dX8_feed_97 : decode cX8_feed 97 = .ok (.iconst 4, 1) := by decide +kernel
theorem dX8_feed_98 : decode cX8_feed 98 = .ok (.irem, 1) := by decide +kernel
theorem dX8_feed_99 : decode cX8_feed 99 = .ok (.imul, 1) := by decide +kernel
theorem dX8_feed_100 : decode cX8_feed 100 = .ok (.isub, 1) := by decide +kernel
theorem dX8_feed_101 : decode cX8_feed 101 = .ok (.ishr, 1) := by decide +kernel
theorem dX8_feed_102 : decode cX8_feed 102 = .ok (.sipush 255, 3) := by decide +kernel
theorem dX8_feed_105 : decode cX8_feed 105 = .ok (.iand, 1) := by decide +kernel
theorem dX8_feed_106 : decode cX8_feed 106 = .ok (.iastore, 1) := by decide +kernel
theorem dX8_feed_107 : decode cX8_feed 107 = .ok (.iinc 6 1, 3) := by decide +kernel
theorem dX8_feed_110 : decode cX8_feed 110 = .ok (.goto (-87), 3) := by decide +kernel
theorem dX8_feed_113 : decode cX8_feed 113 = .ok (.aload_n 0, 1) := by decide +kernel
theorem dX8_feed_114 : decode cX8_feed 114 = .ok (.dup, 1) := by decide +kernel
theorem dX8_feed_115 : decode cX8_feed 115 = .ok (.getfield 175, 3) := by decide +kernel
theorem dX8_feed_118 : decode cX8_feed 118 = .ok (.bipush 20, 2) := by decide +kernel
theorem dX8_feed_120 : decode cX8_feed 120 = .ok (.iadd, 1) := by decide +kernel
theorem dX8_feed_121 : decode cX8_feed 121 = .ok (.putfield 175, 3) := by decide +kernel
theorem dX8_feed_124 : decode cX8_feed 124 = .ok (.aload_n 0, 1) := by decide +kernel
theorem dX8_feed_125 : decode cX8_feed 125 = .ok (.getfield 175, 3) := by decide +kernel
theorem dX8_feed_128 : decode cX8_feed 128 = .ok (.ireturn, 1) := by decide +kernel
theorem dX8_isIn_0 : decode cX8_isIn 0 = .ok (.iload_n 0, 1) := by decide +kernel
theorem dX8_isIn_1 : decode cX8_isIn 1 = .ok (.iload_n 1, 1) := by decide +kernel
theorem dX8_isIn_2 : decode cX8_isIn 2 = .ok (.if_icmp .lt 12, 3) := by decide +kernel
theorem dX8_isIn_5 : decode cX8_isIn 5 = .ok (.iload_n 0, 1) := by decide +kernel
theorem dX8_isIn_6 : decode cX8_isIn 6 = .ok (.iload_n 2, 1) := by decide +kernel
theorem dX8_isIn_7 : decode cX8_isIn 7 = .ok (.if_icmp .gt 7, 3) := by decide +kernel
theorem dX8_isIn_10 : decode cX8_isIn 10 = .ok (.iconst 1, 1) := by decide +kernel
theorem dX8_isIn_11 : decode cX8_isIn 11 = .ok (.goto 4, 3) := by decide +kernel
theorem dX8_isIn_14 : decode cX8_isIn 14 = .ok (.iconst 0, 1) := by decide +kernel
theorem dX8_isIn_15 : decode cX8_isIn 15 = .ok (.ireturn, 1) := by decide +kernel
theorem dX8_wrong_0 : decode cX8_wrong 0 = .ok (.aload_n 0, 1) := by decide +kernel
theorem dX8_wrong_1 : decode cX8_wrong 1 = .ok (.iload_n 1, 1) := by decide +kernel
theorem dX8_wrong_2 : decode cX8_wrong 2 = .ok (.putfield 178, 3) := by decide +kernel
theorem dX8_wrong_5 : decode cX8_wrong 5 = .ok (.aload_n 0, 1) := by decide +kernel
theorem dX8_wrong_6 : decode cX8_wrong 6 = .ok (.aload_n 0, 1) := by decide +kernel
theorem dX8_wrong_7 : decode cX8_wrong 7 = .ok (.getfield 181, 3) := by decide +kernel
theorem dX8_wrong_10 : decode cX8_wrong 10 = .ok (.putfield 16, 3) := by decide +kernel
theorem dX8_wrong_13 : decode cX8_wrong 13 = .ok (.iconst 0, 1) := by decide +kernel
theorem dX8_wrong_14 : decode cX8_wrong 14 = .ok (.ireturn, 1) := by decide +kernel
theorem dX8_wordAt_0 : decode cX8_wordAt 0 = .ok (.iconst 0, 1) := by decide +kernel
theorem dX8_wordAt_1 : decode cX8_wordAt 1 = .ok (.istore_n 3, 1) := by decide +kernel
theorem dX8_wordAt_2 : decode cX8_wordAt 2 = .ok (.iconst 0, 1) := by decide +kernel
theorem dX8_wordAt_3 : decode cX8_wordAt 3 = .ok (.istore 4, 2) := by decide +kernel
theorem dX8_wordAt_5 : decode cX8_wordAt 5 = .ok (.iload 4, 2) := by decide +kernel
theorem dX8_wordAt_7 : decode cX8_wordAt 7 = .ok (.aload_n 0, 1) := by decide +kernel
theorem dX8_wordAt_8 : decode cX8_wordAt 8 = .ok (.getfield 13, 3) := by decide +kernel
theorem dX8_wordAt_11 : decode cX8_wordAt 11 = .ok (.arraylength, 1) := by decide +kernel
theorem dX8_wordAt_12 : decode cX8_wordAt 12 = .ok (.if_icmp .ge 114, 3) := by decide +kernel
theorem dX8_wordAt_15 : decode cX8_wordAt 15 = .ok (.iconst 0, 1) := by decide +kernel
theorem dX8_wordAt_16 : decode cX8_wordAt 16 = .ok (.istore 5, 2) := by decide +kernel
theorem dX8_wordAt_18 : decode cX8_wordAt 18 = .ok (.aload_n 0, 1) := by decide +kernel
theorem dX8_wordAt_19 : decode cX8_wordAt 19 = .ok (.getfield 13, 3) := by decide +kernel
theorem dX8_wordAt_22 : decode cX8_wordAt 22 = .ok (.iload 4, 2) := by decide +kernel
theorem dX8_wordAt_24 : decode cX8_wordAt 24 = .ok (.iload 5, 2) := by decide +kernel
theorem dX8_wordAt_26 : decode cX8_wordAt 26 = .ok (.iadd, 1) := by decide +kernel
theorem dX8_wordAt_27 : decode cX8_wordAt 27 = .ok (.iaload, 1) := by decide +kernel
theorem dX8_wordAt_28 : decode cX8_wordAt 28 = .ok (.bipush 32, 2) := by decide +kernel
theorem dX8_wordAt_30 : decode cX8_wordAt 30 = .ok (.if_icmp .eq 9, 3) := by decide +kernel
theorem dX8_wordAt_33 : decode cX8_wordAt 33 = .ok (.iinc 5 1, 3) := by decide +kernel
theorem dX8_wordAt_36 : decode cX8_wordAt 36 = .ok (.goto (-18), 3) := by decide +kernel
theorem dX8_wordAt_39 : decode cX8_wordAt 39 = .ok (.iload 5, 2) := by decide +kernel
theorem dX8_wordAt_41 : decode cX8_wordAt 41 = .ok (.iload_n 2, 1) := by decide +kernel
theorem dX8_wordAt_42 : decode cX8_wordAt 42 = .ok (.iload_n 1, 1) := by decide +kernel
theorem dX8_wordAt_43 : decode cX8_wordAt 43 = .ok (.isub, 1) := by decide +kernel
theorem dX8_wordAt_44 : decode cX8_wordAt 44 = .ok (.if_icmp .ne 7, 3) := by decide +kernel
theorem dX8_wordAt_47 : decode cX8_wordAt 47 = .ok (.iconst 1, 1) := by decide +kernel
theorem dX8_wordAt_48 : decode cX8_wordAt 48 = .ok (.goto 4, 3) := by decide +kernel
theorem dX8_wordAt_51 : decode cX8_wordAt 51 = .ok (.iconst 0, 1) := by decide +kernel
theorem dX8_wordAt_52 : decode cX8_wordAt 52 = .ok (.istore 6, 2) := by decide +kernel
theorem dX8_wordAt_54 : decode cX8_wordAt 54 = .ok (.iconst 0, 1) := by decide +kernel
theorem dX8_wordAt_55 : decode cX8_wordAt 55 = .ok (.istore 7, 2) := by decide +kernel
theorem dX8_wordAt_57 : decode cX8_wordAt 57 = .ok (.iload 7, 2) := by decide +kernel
theorem dX8_wordAt_59 : decode cX8_wordAt 59 = .ok (.iload 5, 2) := by decide +kernel
theorem dX8_wordAt_61 : decode cX8_wordAt 61 = .ok (.if_icmp .ge 43, 3) := by decide +kernel
theorem dX8_wordAt_64 : decode cX8_wordAt 64 = .ok (.iload 6, 2) := by decide +kernel
theorem dX8_wordAt_66 : decode cX8_wordAt 66 = .ok (.ifCond .eq 38, 3) := by decide +kernel
theorem dX8_wordAt_69 : decode cX8_wordAt 69 = .ok (.aload_n 0, 1) := by decide +kernel
theorem dX8_wordAt_70 : decode cX8_wordAt 70 = .ok (.getfield 13, 3) := by decide +kernel
theorem dX8_wordAt_73 : decode cX8_wordAt 73 = .ok (.iload 4, 2) := by decide +kernel
theorem dX8_wordAt_75 : decode cX8_wordAt 75 = .ok (.iload 7, 2) := by decide +kernel
theorem dX8_wordAt_77 : decode cX8_wordAt 77 = .ok (.iadd, 1) := by decide +kernel
theorem dX8_wordAt_78 : decode cX8_wordAt 78 = .ok (.iaload, 1) := by decide +kernel
theorem dX8_wordAt_79 : decode cX8_wordAt 79 = .ok (.aload_n 0, 1) := by decide +kernel
theorem dX8_wordAt_80 : decode cX8_wordAt 80 = .ok (.getfield 7, 3) := by decide +kernel
theorem dX8_wordAt_83 : decode cX8_wordAt 83 = .ok (.iload_n 1, 1) := by decide +kernel
theorem dX8_wordAt_84 : decode cX8_wordAt 84 = .ok (.iload 7, 2) := by decide +kernel
theorem dX8_wordAt_86 : decode cX8_wordAt 86 = .ok (.iadd, 1) := by decide +kernel
theorem dX8_wordAt_87 : decode cX8_wordAt 87 = .ok (.iaload, 1) := by decide +kernel
theorem dX8_wordAt_88 : decode cX8_wordAt 88 = .ok (.if_icmp .ne 7, 3) := by decide +kernel
theorem dX8_wordAt_91 : decode cX8_wordAt 91 = .ok (.iconst 1, 1) := by decide +kernel
theorem dX8_wordAt_92 : decode cX8_wordAt 92 = .ok (.goto 4, 3) := by decide +kernel
theorem dX8_wordAt_95 : decode cX8_wordAt 95 = .ok (.iconst 0, 1) := by decide +kernel
theorem dX8_wordAt_96 : decode cX8_wordAt 96 = .ok (.istore 6, 2) := by decide +kernel
theorem dX8_wordAt_98 : decode cX8_wordAt 98 = .ok (.iinc 7 1, 3) := by decide +kernel
theorem dX8_wordAt_101 : decode cX8_wordAt 101 = .ok (.goto (-44), 3) := by decide +kernel
theorem dX8_wordAt_104 : decode cX8_wordAt 104 = .ok (.iload 6, 2) := by decide +kernel
theorem dX8_wordAt_106 : decode cX8_wordAt 106 = .ok (.ifCond .eq 5, 3) := by decide +kernel
theorem dX8_wordAt_109 : decode cX8_wordAt 109 = .ok (.iload_n 3, 1) := by decide +kernel
theorem dX8_wordAt_110 : decode cX8_wordAt 110 = .ok (.ireturn, 1) := by decide +kernel
theorem dX8_wordAt_111 : decode cX8_wordAt 111 = .ok (.iload 4, 2) := by decide +kernel
theorem dX8_wordAt_113 : decode cX8_wordAt 113 = .ok (.iload 5, 2) := by decide +kernel
theorem dX8_wordAt_115 : decode cX8_wordAt 115 = .ok (.iconst 1, 1) := by decide +kernel
theorem dX8_wordAt_116 : decode cX8_wordAt 116 = .ok (.iadd, 1) := by decide +kernel
theorem dX8_wordAt_117 : decode cX8_wordAt 117 = .ok (.iadd, 1) := by decide +kernel
theorem dX8_wordAt_118 : decode cX8_wordAt 118 = .ok (.istore 4, 2) := by decide +kernel
theorem dX8_wordAt_120 : decode cX8_wordAt 120 = .ok (.iinc 3 1, 3) := by decide +kernel
theorem dX8_wordAt_123 : decode cX8_wordAt 123 = .ok (.goto (-118), 3) := by decide +kernel
theorem dX8_wordAt_126 : decode cX8_wordAt 126 = .ok (.iconst (-1), 1) := by decide +kernel
theorem dX8_wordAt_127 : decode cX8_wordAt 127 = .ok (.ireturn, 1) := by decide +kernel
theorem dX8_isSmall_0 : decode cX8_isSmall 0 = .ok (.iload_n 1, 1) := by decide +kernel
theorem dX8_isSmall_1 : decode cX8_isSmall 1 = .ok (.aload_n 0, 1) := by decide +kernel
theorem dX8_isSmall_2 : decode cX8_isSmall 2 = .ok (.getfield 184, 3) := by decide +kernel
theorem dX8_isSmall_5 : decode cX8_isSmall 5 = .ok (.if_icmp .ge 29, 3) := by decide +kernel
theorem dX8_isSmall_8 : decode cX8_isSmall 8 = .ok (.aload_n 0, 1) := by decide +kernel
theorem dX8_isSmall_9 : decode cX8_isSmall 9 = .ok (.getfield 7, 3) := by decide +kernel
theorem dX8_isSmall_12 : decode cX8_isSmall 12 = .ok (.iload_n 1, 1) := by decide +kernel
theorem dX8_isSmall_13 : decode cX8_isSmall 13 = .ok (.iaload, 1) := by decide +kernel
theorem dX8_isSmall_14 : decode cX8_isSmall 14 = .ok (.bipush 97, 2) := by decide +kernel
theorem dX8_isSmall_16 : decode cX8_isSmall 16 = .ok (.if_icmp .lt 18, 3) := by decide +kernel
theorem dX8_isSmall_19 : decode cX8_isSmall 19 = .ok (.aload_n 0, 1) := by decide +kernel
theorem dX8_isSmall_20 : decode cX8_isSmall 20 = .ok (.getfield 7, 3) := by decide +kernel
theorem dX8_isSmall_23 : decode cX8_isSmall 23 = .ok (.iload_n 1, 1) := by decide +kernel
theorem dX8_isSmall_24 : decode cX8_isSmall 24 = .ok (.iaload, 1) := by decide +kernel
theorem dX8_isSmall_25 : decode cX8_isSmall 25 = .ok (.bipush 122, 2) := by decide +kernel
theorem dX8_isSmall_27 : decode cX8_isSmall 27 = .ok (.if_icmp .gt 7, 3) := by decide +kernel
theorem dX8_isSmall_30 : decode cX8_isSmall 30 = .ok (.iconst 1, 1) := by decide +kernel
theorem dX8_isSmall_31 : decode cX8_isSmall 31 = .ok (.goto 4, 3) := by decide +kernel
theorem dX8_isSmall_34 : decode cX8_isSmall 34 = .ok (.iconst 0, 1) := by decide +kernel
theorem dX8_isSmall_35 : decode cX8_isSmall 35 = .ok (.ireturn, 1) := by decide +kernel
theorem dX8_isDigit_0 : decode cX8_isDigit 0 = .ok (.iload_n 1, 1) := by decide +kernel
theorem dX8_isDigit_1 : decode cX8_isDigit 1 = .ok (.aload_n 0, 1) := by decide +kernel
theorem dX8_isDigit_2 : decode cX8_isDigit 2 = .ok (.getfield 184, 3) := by decide +kernel
theorem dX8_isDigit_5 : decode cX8_isDigit 5 = .ok (.if_icmp .ge 29, 3) := by decide +kernel
theorem dX8_isDigit_8 : decode cX8_isDigit 8 = .ok (.aload_n 0, 1) := by decide +kernel
theorem dX8_isDigit_9 : decode cX8_isDigit 9 = .ok (.getfield 7, 3) := by decide +kernel
theorem dX8_isDigit_12 : decode cX8_isDigit 12 = .ok (.iload_n 1, 1) := by decide +kernel
theorem dX8_isDigit_13 : decode cX8_isDigit 13 = .ok (.iaload, 1) := by decide +kernel
theorem dX8_isDigit_14 : decode cX8_isDigit 14 = .ok (.bipush 48, 2) := by decide +kernel
theorem dX8_isDigit_16 : decode cX8_isDigit 16 = .ok (.if_icmp .lt 18, 3) := by decide +kernel
theorem dX8_isDigit_19 : decode cX8_isDigit 19 = .ok (.aload_n 0, 1) := by decide +kernel
theorem dX8_isDigit_20 : decode cX8_isDigit 20 = .ok (.getfield 7, 3) := by decide +kernel
theorem dX8_isDigit_23 : decode cX8_isDigit 23 = .ok (.iload_n 1, 1) := by decide +kernel
theorem dX8_isDigit_24 : decode cX8_isDigit 24 = .ok (.iaload, 1) := by decide +kernel
theorem dX8_isDigit_25 : decode cX8_isDigit 25 = .ok (.bipush 57, 2) := by decide +kernel
theorem dX8_isDigit_27 : decode cX8_isDigit 27 = .ok (.if_icmp .gt 7, 3) := by decide +kernel
theorem dX8_isDigit_30 : decode cX8_isDigit 30 = .ok (.iconst 1, 1) := by decide +kernel
theorem dX8_isDigit_31 : decode cX8_isDigit 31 = .ok (.goto 4, 3) := by decide +kernel
theorem dX8_isDigit_34 : decode cX8_isDigit 34 = .ok (.iconst 0, 1) := by decide +kernel
theorem dX8_isDigit_35 : decode cX8_isDigit 35 = .ok (.ireturn, 1) := by decide +kernel
theorem dX8_token_0 : decode cX8_token 0 = .ok (.aload_n 0, 1) := by decide +kernel
theorem dX8_token_1 : decode cX8_token 1 = .ok (.getfield 187, 3) := by decide +kernel
theorem dX8_token_4 : decode cX8_token 4 = .ok (.aload_n 0, 1) := by decide +kernel
theorem dX8_token_5 : decode cX8_token 5 = .ok (.getfield 184, 3) := by decide +kernel
theorem dX8_token_8 : decode cX8_token 8 = .ok (.if_icmp .ge 44, 3) := by decide +kernel
theorem dX8_token_11 : decode cX8_token 11 = .ok (.aload_n 0, 1) := by decide +kernel
theorem dX8_token_12 : decode cX8_token 12 = .ok (.getfield 7, 3) := by decide +kernel
theorem dX8_token_15 : decode cX8_token 15 = .ok (.aload_n 0, 1) := by decide +kernel
theorem dX8_token_16 : decode cX8_token 16 = .ok (.getfield 187, 3) := by decide +kernel
theorem dX8_token_19 : decode cX8_token 19 = .ok (.iaload, 1) := by decide +kernel
theorem dX8_token_20 : decode cX8_token 20 = .ok (.bipush 10, 2) := by decide +kernel
theorem dX8_token_22 : decode cX8_token 22 = .ok (.if_icmp .eq 17, 3) := by decide +kernel
theorem dX8_token_25 : decode cX8_token 25 = .ok (.aload_n 0, 1) := by decide +kernel
theorem dX8_token_26 : decode cX8_token 26 = .ok (.getfield 7, 3) := by decide +kernel
theorem dX8_token_29 : decode cX8_token 29 = .ok (.aload_n 0, 1) := by decide +kernel
theorem dX8_token_30 : decode cX8_token 30 = .ok (.getfield 187, 3) := by decide +kernel
theorem dX8_token_33 : decode cX8_token 33 = .ok (.iaload, 1) := by decide +kernel
theorem dX8_token_34 : decode cX8_token 34 = .ok (.bipush 32, 2) := by decide +kernel
theorem dX8_token_36 : decode cX8_token 36 = .ok (.if_icmp .ne 16, 3) := by decide +kernel
theorem dX8_token_39 : decode cX8_token 39 = .ok (.aload_n 0, 1) := by decide +kernel
theorem dX8_token_40 : decode cX8_token 40 = .ok (.dup, 1) := by decide +kernel
theorem dX8_token_41 : decode cX8_token 41 = .ok (.getfield 187, 3) := by decide +kernel
theorem dX8_token_44 : decode cX8_token 44 = .ok (.iconst 1, 1) := by decide +kernel
theorem dX8_token_45 : decode cX8_token 45 = .ok (.iadd, 1) := by decide +kernel
theorem dX8_token_46 : decode cX8_token 46 = .ok (.putfield 187, 3) := by decide +kernel
theorem dX8_token_49 : decode cX8_token 49 = .ok (.goto (-49), 3) := by decide +kernel
theorem dX8_token_52 : decode cX8_token 52 = .ok (.aload_n 0, 1) := by decide +kernel
theorem dX8_token_53 : decode cX8_token 53 = .ok (.aload_n 0, 1) := by decide +kernel
theorem dX8_token_54 : decode cX8_token 54 = .ok (.getfield 187, 3) := by decide +kernel
theorem dX8_token_57 : decode cX8_token 57 = .ok (.putfield 181, 3) := by decide +kernel
theorem dX8_token_60 : decode cX8_token 60 = .ok (.aload_n 0, 1) := by decide +kernel
theorem dX8_token_61 : decode cX8_token 61 = .ok (.getfield 187, 3) := by decide +kernel
theorem dX8_token_64 : decode cX8_token 64 = .ok (.aload_n 0, 1) := by decide +kernel
theorem dX8_token_65 : decode cX8_token 65 = .ok (.getfield 184, 3) := by decide +kernel
theorem dX8_token_68 : decode cX8_token 68 = .ok (.if_icmp .ne 11, 3) := by decide +kernel
theorem dX8_token_71 : decode cX8_token 71 = .ok (.aload_n 0, 1) := by decide +kernel
theorem dX8_token_72 : decode cX8_token 72 = .ok (.iconst 0, 1) := by decide +kernel
theorem dX8_token_73 : decode cX8_token 73 = .ok (.putfield 190, 3) := by decide +kernel
theorem dX8_token_76 : decode cX8_token 76 = .ok (.goto 205, 3) := by decide +kernel
theorem dX8_token_79 : decode cX8_token 79 = .ok (.aload_n 0, 1) := by decide +kernel
theorem dX8_token_80 : decode cX8_token 80 = .ok (.aload_n 0, 1) := by decide +kernel
theorem dX8_token_81 : decode cX8_token 81 = .ok (.getfield 187, 3) := by decide +kernel
theorem dX8_token_84 : decode cX8_token 84 = .ok (.invokevirtual 193, 3) := by decide +kernel
theorem dX8_token_87 : decode cX8_token 87 = .ok (.ifCond .eq 105, 3) := by decide +kernel
theorem dX8_token_90 : decode cX8_token 90 = .ok (.aload_n 0, 1) := by decide +kernel
theorem dX8_token_91 : decode cX8_token 91 = .ok (.aload_n 0, 1) := by decide +kernel
theorem dX8_token_92 : decode cX8_token 92 = .ok (.getfield 187, 3) := by decide +kernel
theorem dX8_token_95 : decode cX8_token 95 = .ok (.invokevirtual 193, 3) := by decide +kernel
theorem dX8_token_98 : decode cX8_token 98 = .ok (.ifCond .eq 16, 3) := by decide +kernel
theorem dX8_token_101 : decode cX8_token 101 = .ok (.aload_n 0, 1) := by decide +kernel
theorem dX8_token_102 : decode cX8_token 102 = .ok (.dup, 1) := by decide +kernel
theorem dX8_token_103 : decode cX8_token 103 = .ok (.getfield 187, 3) := by decide +kernel
theorem dX8_token_106 : decode cX8_token 106 = .ok (.iconst 1, 1) := by decide +kernel
theorem dX8_token_107 : decode cX8_token 107 = .ok (.iadd, 1) := by decide +kernel
theorem dX8_token_108 : decode cX8_token 108 = .ok (.putfield 187, 3) := by decide +kernel
theorem dX8_token_111 : decode cX8_token 111 = .ok (.goto (-21), 3) := by decide +kernel
theorem dX8_token_114 : decode cX8_token 114 = .ok (.aload_n 0, 1) := by decide +kernel
theorem dX8_token_115 : decode cX8_token 115 = .ok (.aload_n 0, 1) := by decide +kernel
theorem dX8_token_116 : decode cX8_token 116 = .ok (.aload_n 0, 1) := by decide +kernel
theorem dX8_token_117 : decode cX8_token 117 = .ok (.getfield 181, 3) := by decide +kernel
theorem dX8_token_120 : decode cX8_token 120 = .ok (.aload_n 0, 1) := by decide +kernel
theorem dX8_token_121 : decode cX8_token 121 = .ok (.getfield 187, 3) := by decide +kernel
theorem dX8_token_124 : decode cX8_token 124 = .ok (.invokevirtual 197, 3) := by decide +kernel
theorem dX8_token_127 : decode cX8_token 127 = .ok (.putfield 201, 3) := by decide +kernel
theorem dX8_token_130 : decode cX8_token 130 = .ok (.aload_n 0, 1) := by decide +kernel
theorem dX8_token_131 : decode cX8_token 131 = .ok (.aload_n 0, 1) := by decide +kernel
theorem dX8_token_132 : decode cX8_token 132 = .ok (.getfield 201, 3) := by decide +kernel
theorem dX8_token_135 : decode cX8_token 135 = .ok (.ifCond .lt 7, 3) := by decide +kernel
theorem dX8_token_138 : decode cX8_token 138 = .ok (.iconst 1, 1) := by decide +kernel
theorem dX8_token_139 : decode cX8_token 139 = .ok (.goto 23, 3) := by decide +kernel
theorem dX8_token_142 : decode cX8_token 142 = .ok (.aload_n 0, 1) := by decide +kernel
theorem dX8_token_143 : decode cX8_token 143 = .ok (.getfield 187, 3) := by decide +kernel
theorem dX8_token_146 : decode cX8_token 146 = .ok (.aload_n 0, 1) := by decide +kernel
theorem dX8_token_147 : decode cX8_token 147 = .ok (.getfield 181, 3) := by decide +kernel
theorem dX8_token_150 : decode cX8_token 150 = .ok (.isub, 1) := by decide +kernel
theorem dX8_token_151 : decode cX8_token 151 = .ok (.bipush 6, 2) := by decide +kernel
theorem dX8_token_153 : decode cX8_token 153 = .ok (.if_icmp .le 8, 3) := by decide +kernel
theorem dX8_token_156 : decode cX8_token 156 = .ok (.bipush 6, 2) := by decide +kernel
theorem dX8_token_158 : decode cX8_token 158 = .ok (.goto 4, 3) := by decide +kernel
theorem dX8_token_161 : decode cX8_token 161 = .ok (.iconst 2, 1) := by decide +kernel
theorem dX8_token_162 : decode cX8_token 162 = .ok (.putfield 190, 3) := by decide +kernel
theorem dX8_token_165 : decode cX8_token 165 = .ok (.aload_n 0, 1) := by decide +kernel
theorem dX8_token_166 : decode cX8_token 166 = .ok (.getfield 190, 3) := by decide +kernel
theorem dX8_token_169 : decode cX8_token 169 = .ok (.iconst 2, 1) := by decide +kernel
theorem dX8_token_170 : decode cX8_token 170 = .ok (.if_icmp .ne 111, 3) := by decide +kernel
theorem dX8_token_173 : decode cX8_token 173 = .ok (.aload_n 0, 1) := by decide +kernel
theorem dX8_token_174 : decode cX8_token 174 = .ok (.aload_n 0, 1) := by decide +kernel
theorem dX8_token_175 : decode cX8_token 175 = .ok (.aload_n 0, 1) := by decide +kernel
theorem dX8_token_176 : decode cX8_token 176 = .ok (.getfield 181, 3) := by decide +kernel
theorem dX8_token_179 : decode cX8_token 179 = .ok (.aload_n 0, 1) := by decide +kernel
theorem dX8_token_180 : decode cX8_token 180 = .ok (.getfield 187, 3) := by decide +kernel
theorem dX8_token_183 : decode cX8_token 183 = .ok (.invokevirtual 204, 3) := by decide +kernel
theorem dX8_token_186 : decode cX8_token 186 = .ok (.putfield 201, 3) := by decide +kernel
theorem dX8_token_189 : decode cX8_token 189 = .ok (.goto 92, 3) := by decide +kernel
theorem dX8_token_192 : decode cX8_token 192 = .ok (.aload_n 0, 1) := by decide +kernel
theorem dX8_token_193 : decode cX8_token 193 = .ok (.aload_n 0, 1) := by decide +kernel
theorem dX8_token_194 : decode cX8_token 194 = .ok (.getfield 187, 3) := by decide +kernel
theorem dX8_token_197 : decode cX8_token 197 = .ok (.invokevirtual 207, 3) := by decide +kernel
theorem dX8_token_200 : decode cX8_token 200 = .ok (.ifCond .eq 77, 3) := by decide +kernel
theorem dX8_token_203 : decode cX8_token 203 = .ok (.aload_n 0, 1) := by decide +kernel
theorem dX8_token_204 : decode cX8_token 204 = .ok (.iconst 3, 1) := by decide +kernel
theorem dX8_token_205 : decode cX8_token 205 = .ok (.putfield 190, 3) := by decide +kernel
theorem dX8_token_208 : decode cX8_token 208 = .ok (.aload_n 0, 1) := by decide +kernel
theorem dX8_token_209 : decode cX8_token 209 = .ok (.iconst 0, 1) := by decide +kernel
theorem dX8_token_210 : decode cX8_token 210 = .ok (.putfield 201, 3) := by decide +kernel
theorem dX8_token_213 : decode cX8_token 213 = .ok (.aload_n 0, 1) := by decide +kernel
theorem dX8_token_214 : decode cX8_token 214 = .ok (.aload_n 0, 1) := by decide +kernel
theorem dX8_token_215 : decode cX8_token 215 = .ok (.getfield 187, 3) := by decide +kernel
theorem dX8_token_218 : decode cX8_token 218 = .ok (.invokevirtual 207, 3) := by decide +kernel
theorem dX8_token_221 : decode cX8_token 221 = .ok (.ifCond .eq 60, 3) := by decide +kernel
theorem dX8_token_224 : decode cX8_token 224 = .ok (.aload_n 0, 1) := by decide +kernel
theorem dX8_token_225 : decode cX8_token 225 = .ok (.aload_n 0, 1) := by decide +kernel
theorem dX8_token_226 : decode cX8_token 226 = .ok (.getfield 201, 3) := by decide +kernel
theorem dX8_token_229 : decode cX8_token 229 = .ok (.ldc 210, 2) := by decide +kernel
theorem dX8_token_231 : decode cX8_token 231 = .ok (.if_icmp .le 10, 3) := by decide +kernel
theorem dX8_token_234 : decode cX8_token 234 = .ok (.aload_n 0, 1) := by decide +kernel
theorem dX8_token_235 : decode cX8_token 235 = .ok (.getfield 201, 3) := by decide +kernel
theorem dX8_token_238 : decode cX8_token 238 = .ok (.goto 23, 3) := by decide +kernel
theorem dX8_token_241 : decode cX8_token 241 = .ok (.bipush 10, 2) := by decide +kernel
theorem dX8_token_243 : decode cX8_token 243 = .ok (.aload_n 0, 1) := by decide +kernel
theorem dX8_token_244 : decode cX8_token 244 = .ok (.getfield 201, 3) := by decide +kernel
theorem dX8_token_247 : decode cX8_token 247 = .ok (.imul, 1) := by decide +kernel
theorem dX8_token_248 : decode cX8_token 248 = .ok (.aload_n 0, 1) := by decide +kernel
theorem dX8_token_249 : decode cX8_token 249 = .ok (.getfield 7, 3) := by decide +kernel
theorem dX8_token_252 : decode cX8_token 252 = .ok (.aload_n 0, 1) := by decide +kernel
theorem dX8_token_253 : decode cX8_token 253 = .ok (.getfield 187, 3) := by decide +kernel
theorem dX8_token_256 : decode cX8_token 256 = .ok (.iaload, 1) := by decide +kernel
theorem dX8_token_257 : decode cX8_token 257 = .ok (.iadd, 1) := by decide +kernel
theorem dX8_token_258 : decode cX8_token 258 = .ok (.bipush 48, 2) := by decide +kernel
theorem dX8_token_260 : decode cX8_token 260 = .ok (.isub, 1) := by decide +kernel
theorem dX8_token_261 : decode cX8_token 261 = .ok (.putfield 201, 3) := by decide +kernel
theorem dX8_token_264 : decode cX8_token 264 = .ok (.aload_n 0, 1) := by decide +kernel
theorem dX8_token_265 : decode cX8_token 265 = .ok (.dup, 1) := by decide +kernel
theorem dX8_token_266 : decode cX8_token 266 = .ok (.getfield 187, 3) := by decide +kernel
theorem dX8_token_269 : decode cX8_token 269 = .ok (.iconst 1, 1) := by decide +kernel
theorem dX8_token_270 : decode cX8_token 270 = .ok (.iadd, 1) := by decide +kernel
theorem dX8_token_271 : decode cX8_token 271 = .ok (.putfield 187, 3) := by decide +kernel
theorem dX8_token_274 : decode cX8_token 274 = .ok (.goto (-61), 3) := by decide +kernel
theorem dX8_token_277 : decode cX8_token 277 = .ok (.aload_n 0, 1) := by decide +kernel
theorem dX8_token_278 : decode cX8_token 278 = .ok (.invokevirtual 211, 3) := by decide +kernel
theorem dX8_token_281 : decode cX8_token 281 = .ok (.return_, 1) := by decide +kernel
theorem dX8_signToken_0 : decode cX8_signToken 0 = .ok (.aload_n 0, 1) := by decide +kernel
theorem dX8_signToken_1 : decode cX8_signToken 1 = .ok (.aload_n 0, 1) := by decide +kernel
theorem dX8_signToken_2 : decode cX8_signToken 2 = .ok (.getfield 7, 3) := by decide +kernel
theorem dX8_signToken_5 : decode cX8_signToken 5 = .ok (.aload_n 0, 1) := by decide +kernel
theorem dX8_signToken_6 : decode cX8_signToken 6 = .ok (.getfield 187, 3) := by decide +kernel
theorem dX8_signToken_9 : decode cX8_signToken 9 = .ok (.iaload, 1) := by decide +kernel
theorem dX8_signToken_10 : decode cX8_signToken 10 = .ok (.putfield 201, 3) := by decide +kernel
theorem dX8_signToken_13 : decode cX8_signToken 13 = .ok (.aload_n 0, 1) := by decide +kernel
theorem dX8_signToken_14 : decode cX8_signToken 14 = .ok (.dup, 1) := by decide +kernel
theorem dX8_signToken_15 : decode cX8_signToken 15 = .ok (.getfield 187, 3) := by decide +kernel
theorem dX8_signToken_18 : decode cX8_signToken 18 = .ok (.iconst 1, 1) := by decide +kernel
theorem dX8_signToken_19 : decode cX8_signToken 19 = .ok (.iadd, 1) := by decide +kernel
theorem dX8_signToken_20 : decode cX8_signToken 20 = .ok (.putfield 187, 3) := by decide +kernel
theorem dX8_signToken_23 : decode cX8_signToken 23 = .ok (.aload_n 0, 1) := by decide +kernel
theorem dX8_signToken_24 : decode cX8_signToken 24 = .ok (.getfield 201, 3) := by decide +kernel
theorem dX8_signToken_27 : decode cX8_signToken 27 = .ok (.bipush 60, 2) := by decide +kernel
theorem dX8_signToken_29 : decode cX8_signToken 29 = .ok (.if_icmp .eq 21, 3) := by decide +kernel
theorem dX8_signToken_32 : decode cX8_signToken 32 = .ok (.aload_n 0, 1) := by decide +kernel
theorem dX8_signToken_33 : decode cX8_signToken 33 = .ok (.getfield 201, 3) := by decide +kernel
theorem dX8_signToken_36 : decode cX8_signToken 36 = .ok (.bipush 62, 2) := by decide +kernel
theorem dX8_signToken_38 : decode cX8_signToken 38 = .ok (.if_icmp .eq 12, 3) := by decide +kernel
theorem dX8_signToken_41 : decode cX8_signToken 41 = .ok (.aload_n 0, 1) := by decide +kernel
theorem dX8_signToken_42 : decode cX8_signToken 42 = .ok (.getfield 201, 3) := by decide +kernel
theorem dX8_signToken_45 : decode cX8_signToken 45 = .ok (.bipush 61, 2) := by decide +kernel
theorem dX8_signToken_47 : decode cX8_signToken 47 = .ok (.if_icmp .ne 151, 3) := by decide +kernel
theorem dX8_signToken_50 : decode cX8_signToken 50 = .ok (.aload_n 0, 1) := by decide +kernel
theorem dX8_signToken_51 : decode cX8_signToken 51 = .ok (.getfield 187, 3) := by decide +kernel
theorem dX8_signToken_54 : decode cX8_signToken 54 = .ok (.aload_n 0, 1) := by decide +kernel
theorem dX8_signToken_55 : decode cX8_signToken 55 = .ok (.getfield 184, 3) := by decide +kernel
theorem dX8_signToken_58 : decode cX8_signToken 58 = .ok (.if_icmp .ge 15, 3) := by decide +kernel
theorem dX8_signToken_61 : decode cX8_signToken 61 = .ok (.aload_n 0, 1) := by decide +kernel
theorem dX8_signToken_62 : decode cX8_signToken 62 = .ok (.getfield 7, 3) := by decide +kernel
theorem dX8_signToken_65 : decode cX8_signToken 65 = .ok (.aload_n 0, 1) := by decide +kernel
theorem dX8_signToken_66 : decode cX8_signToken 66 = .ok (.getfield 187, 3) := by decide +kernel
theorem dX8_signToken_69 : decode cX8_signToken 69 = .ok (.iaload, 1) := by decide +kernel
theorem dX8_signToken_70 : decode cX8_signToken 70 = .ok (.goto 4, 3) := by decide +kernel
theorem dX8_signToken_73 : decode cX8_signToken 73 = .ok (.iconst 0, 1) := by decide +kernel
theorem dX8_signToken_74 : decode cX8_signToken 74 = .ok (.istore_n 1, 1) := by decide +kernel
theorem dX8_signToken_75 : decode cX8_signToken 75 = .ok (.aload_n 0, 1) := by decide +kernel
theorem dX8_signToken_76 : decode cX8_signToken 76 = .ok (.getfield 201, 3) := by decide +kernel
theorem dX8_signToken_79 : decode cX8_signToken 79 = .ok (.bipush 61, 2) := by decide +kernel
theorem dX8_signToken_81 : decode cX8_signToken 81 = .ok (.if_icmp .eq 13, 3) := by decide +kernel
theorem dX8_signToken_84 : decode cX8_signToken 84 = .ok (.iload_n 1, 1) := by decide +kernel
theorem dX8_signToken_85 : decode cX8_signToken 85 = .ok (.bipush 61, 2) := by decide +kernel
theorem dX8_signToken_87 : decode cX8_signToken 87 = .ok (.if_icmp .ne 7, 3) := by decide +kernel
theorem dX8_signToken_90 : decode cX8_signToken 90 = .ok (.iconst 1, 1) := by decide +kernel
theorem dX8_signToken_91 : decode cX8_signToken 91 = .ok (.goto 4, 3) := by decide +kernel
theorem dX8_signToken_94 : decode cX8_signToken 94 = .ok (.iconst 0, 1) := by decide +kernel
theorem dX8_signToken_95 : decode cX8_signToken 95 = .ok (.istore_n 2, 1) := by decide +kernel
theorem dX8_signToken_96 : decode cX8_signToken 96 = .ok (.aload_n 0, 1) := by decide +kernel
theorem dX8_signToken_97 : decode cX8_signToken 97 = .ok (.getfield 201, 3) := by decide +kernel
theorem dX8_signToken_100 : decode cX8_signToken 100 = .ok (.bipush 60, 2) := by decide +kernel
theorem dX8_signToken_102 : decode cX8_signToken 102 = .ok (.if_icmp .ne 13, 3) := by decide +kernel
theorem dX8_signToken_105 : decode cX8_signToken 105 = .ok (.iload_n 1, 1) := by decide +kernel
theorem dX8_signToken_106 : decode cX8_signToken 106 = .ok (.bipush 62, 2) := by decide +kernel
theorem dX8_signToken_108 : decode cX8_signToken 108 = .ok (.if_icmp .ne 7, 3) := by decide +kernel
theorem dX8_signToken_111 : decode cX8_signToken 111 = .ok (.iconst 1, 1) := by decide +kernel
theorem dX8_signToken_112 : decode cX8_signToken 112 = .ok (.goto 4, 3) := by decide +kernel
theorem dX8_signToken_115 : decode cX8_signToken 115 = .ok (.iconst 0, 1) := by decide +kernel
theorem dX8_signToken_116 : decode cX8_signToken 116 = .ok (.istore_n 3, 1) := by decide +kernel
theorem dX8_signToken_117 : decode cX8_signToken 117 = .ok (.iload_n 2, 1) := by decide +kernel
theorem dX8_signToken_118 : decode cX8_signToken 118 = .ok (.ifCond .ne 7, 3) := by decide +kernel
theorem dX8_signToken_121 : decode cX8_signToken 121 = .ok (.iload_n 3, 1) := by decide +kernel
theorem dX8_signToken_122 : decode cX8_signToken 122 = .ok (.ifCond .eq 13, 3) := by decide +kernel
theorem dX8_signToken_125 : decode cX8_signToken 125 = .ok (.aload_n 0, 1) := by decide +kernel
theorem dX8_signToken_126 : decode cX8_signToken 126 = .ok (.dup, 1) := by decide +kernel
theorem dX8_signToken_127 : decode cX8_signToken 127 = .ok (.getfield 187, 3) := by decide +kernel
theorem dX8_signToken_130 : decode cX8_signToken 130 = .ok (.iconst 1, 1) := by decide +kernel
theorem dX8_signToken_131 : decode cX8_signToken 131 = .ok (.iadd, 1) := by decide +kernel
theorem dX8_signToken_132 : decode cX8_signToken 132 = .ok (.putfield 187, 3) := by decide +kernel
theorem dX8_signToken_135 : decode cX8_signToken 135 = .ok (.aload_n 0, 1) := by decide +kernel
theorem dX8_signToken_136 : decode cX8_signToken 136 = .ok (.iconst 5, 1) := by decide +kernel
theorem dX8_signToken_137 : decode cX8_signToken 137 = .ok (.putfield 190, 3) := by decide +kernel
theorem dX8_signToken_140 : decode cX8_signToken 140 = .ok (.aload_n 0, 1) := by decide +kernel
theorem dX8_signToken_141 : decode cX8_signToken 141 = .ok (.aload_n 0, 1) := by decide +kernel
theorem dX8_signToken_142 : decode cX8_signToken 142 = .ok (.getfield 201, 3) := by decide +kernel
theorem dX8_signToken_145 : decode cX8_signToken 145 = .ok (.bipush 61, 2) := by decide +kernel
theorem dX8_signToken_147 : decode cX8_signToken 147 = .ok (.if_icmp .ne 7, 3) := by decide +kernel
theorem dX8_signToken_150 : decode cX8_signToken 150 = .ok (.iconst 2, 1) := by decide +kernel
theorem dX8_signToken_151 : decode cX8_signToken 151 = .ok (.goto 41, 3) := by decide +kernel
theorem dX8_signToken_154 : decode cX8_signToken 154 = .ok (.aload_n 0, 1) := by decide +kernel
theorem dX8_signToken_155 : decode cX8_signToken 155 = .ok (.getfield 201, 3) := by decide +kernel
theorem dX8_signToken_158 : decode cX8_signToken 158 = .ok (.bipush 60, 2) := by decide +kernel
theorem dX8_signToken_160 : decode cX8_signToken 160 = .ok (.if_icmp .ne 23, 3) := by decide +kernel
theorem dX8_signToken_163 : decode cX8_signToken 163 = .ok (.iload_n 2, 1) := by decide +kernel
theorem dX8_signToken_164 : decode cX8_signToken 164 = .ok (.ifCond .eq 7, 3) := by decide +kernel
theorem dX8_signToken_167 : decode cX8_signToken 167 = .ok (.iconst 1, 1) := by decide +kernel
theorem dX8_signToken_168 : decode cX8_signToken 168 = .ok (.goto 24, 3) := by decide +kernel
theorem dX8_signToken_171 : decode cX8_signToken 171 = .ok (.iload_n 3, 1) := by decide +kernel
theorem dX8_signToken_172 : decode cX8_signToken 172 = .ok (.ifCond .eq 7, 3) := by decide +kernel
theorem dX8_signToken_175 : decode cX8_signToken 175 = .ok (.iconst 3, 1) := by decide +kernel
theorem dX8_signToken_176 : decode cX8_signToken 176 = .ok (.goto 16, 3) := by decide +kernel
theorem dX8_signToken_179 : decode cX8_signToken 179 = .ok (.iconst 0, 1) := by decide +kernel
theorem dX8_signToken_180 : decode cX8_signToken 180 = .ok (.goto 12, 3) := by decide +kernel
theorem dX8_signToken_183 : decode cX8_signToken 183 = .ok (.iload_n 2, 1) := by decide +kernel
theorem dX8_signToken_184 : decode cX8_signToken 184 = .ok (.ifCond .eq 7, 3) := by decide +kernel
theorem dX8_signToken_187 : decode cX8_signToken 187 = .ok (.iconst 4, 1) := by decide +kernel
theorem dX8_signToken_188 : decode cX8_signToken 188 = .ok (.goto 4, 3) := by decide +kernel
theorem dX8_signToken_191 : decode cX8_signToken 191 = .ok (.iconst 5, 1) := by decide +kernel
theorem dX8_signToken_192 : decode cX8_signToken 192 = .ok (.putfield 201, 3) := by decide +kernel
theorem dX8_signToken_195 : decode cX8_signToken 195 = .ok (.goto 95, 3) := by decide +kernel
theorem dX8_signToken_198 : decode cX8_signToken 198 = .ok (.aload_n 0, 1) := by decide +kernel
theorem dX8_signToken_199 : decode cX8_signToken 199 = .ok (.getfield 201, 3) := by decide +kernel
theorem dX8_signToken_202 : decode cX8_signToken 202 = .ok (.bipush 59, 2) := by decide +kernel
theorem dX8_signToken_204 : decode cX8_signToken 204 = .ok (.if_icmp .eq 66, 3) := by decide +kernel
theorem dX8_signToken_207 : decode cX8_signToken 207 = .ok (.aload_n 0, 1) := by decide +kernel
theorem dX8_signToken_208 : decode cX8_signToken 208 = .ok (.getfield 201, 3) := by decide +kernel
theorem dX8_signToken_211 : decode cX8_signToken 211 = .ok (.bipush 40, 2) := by decide +kernel
theorem dX8_signToken_213 : decode cX8_signToken 213 = .ok (.if_icmp .eq 57, 3) := by decide +kernel
theorem dX8_signToken_216 : decode cX8_signToken 216 = .ok (.aload_n 0, 1) := by decide +kernel
theorem dX8_signToken_217 : decode cX8_signToken 217 = .ok (.getfield 201, 3) := by decide +kernel
theorem dX8_signToken_220 : decode cX8_signToken 220 = .ok (.bipush 41, 2) := by decide +kernel
theorem dX8_signToken_222 : decode cX8_signToken 222 = .ok (.if_icmp .eq 48, 3) := by decide +kernel
theorem dX8_signToken_225 : decode cX8_signToken 225 = .ok (.aload_n 0, 1) := by decide +kernel
theorem dX8_signToken_226 : decode cX8_signToken 226 = .ok (.getfield 201, 3) := by decide +kernel
theorem dX8_signToken_229 : decode cX8_signToken 229 = .ok (.bipush 43, 2) := by decide +kernel
theorem dX8_signToken_231 : decode cX8_signToken 231 = .ok (.if_icmp .eq 39, 3) := by decide +kernel
theorem dX8_signToken_234 : decode cX8_signToken 234 = .ok (.aload_n 0, 1) := by decide +kernel
theorem dX8_signToken_235 : decode cX8_signToken 235 = .ok (.getfield 201, 3) := by decide +kernel
theorem dX8_signToken_238 : decode cX8_signToken 238 = .ok (.bipush 45, 2) := by decide +kernel
theorem dX8_signToken_240 : decode cX8_signToken 240 = .ok (.if_icmp .eq 30, 3) := by decide +kernel
theorem dX8_signToken_243 : decode cX8_signToken 243 = .ok (.aload_n 0, 1) := by decide +kernel
theorem dX8_signToken_244 : decode cX8_signToken 244 = .ok (.getfield 201, 3) := by decide +kernel
theorem dX8_signToken_247 : decode cX8_signToken 247 = .ok (.bipush 42, 2) := by decide +kernel
theorem dX8_signToken_249 : decode cX8_signToken 249 = .ok (.if_icmp .eq 21, 3) := by decide +kernel
theorem dX8_signToken_252 : decode cX8_signToken 252 = .ok (.aload_n 0, 1) := by decide +kernel
theorem dX8_signToken_253 : decode cX8_signToken 253 = .ok (.getfield 201, 3) := by decide +kernel
theorem dX8_signToken_256 : decode cX8_signToken 256 = .ok (.bipush 47, 2) := by decide +kernel
theorem dX8_signToken_258 : decode cX8_signToken 258 = .ok (.if_icmp .eq 12, 3) := by decide +kernel
theorem dX8_signToken_261 : decode cX8_signToken 261 = .ok (.aload_n 0, 1) := by decide +kernel
theorem dX8_signToken_262 : decode cX8_signToken 262 = .ok (.getfield 201, 3) := by decide +kernel
theorem dX8_signToken_265 : decode cX8_signToken 265 = .ok (.bipush 37, 2) := by decide +kernel
theorem dX8_signToken_267 : decode cX8_signToken 267 = .ok (.if_icmp .ne 7, 3) := by decide +kernel
theorem dX8_signToken_270 : decode cX8_signToken 270 = .ok (.iconst 1, 1) := by decide +kernel
theorem dX8_signToken_271 : decode cX8_signToken 271 = .ok (.goto 4, 3) := by decide +kernel
theorem dX8_signToken_274 : decode cX8_signToken 274 = .ok (.iconst 0, 1) := by decide +kernel
theorem dX8_signToken_275 : decode cX8_signToken 275 = .ok (.istore_n 1, 1) := by decide +kernel
theorem dX8_signToken_276 : decode cX8_signToken 276 = .ok (.aload_n 0, 1) := by decide +kernel
theorem dX8_signToken_277 : decode cX8_signToken 277 = .ok (.iload_n 1, 1) := by decide +kernel
theorem dX8_signToken_278 : decode cX8_signToken 278 = .ok (.ifCond .eq 7, 3) := by decide +kernel
theorem dX8_signToken_281 : decode cX8_signToken 281 = .ok (.iconst 4, 1) := by decide +kernel
theorem dX8_signToken_282 : decode cX8_signToken 282 = .ok (.goto 5, 3) := by decide +kernel
theorem dX8_signToken_285 : decode cX8_signToken 285 = .ok (.bipush 6, 2) := by decide +kernel
theorem dX8_signToken_287 : decode cX8_signToken 287 = .ok (.putfield 190, 3) := by decide +kernel
theorem dX8_signToken_290 : decode cX8_signToken 290 = .ok (.return_, 1) := by decide +kernel
theorem dX8_packed_0 : decode cX8_packed 0 = .ok (.iconst 0, 1) := by decide +kernel
theorem dX8_packed_1 : decode cX8_packed 1 = .ok (.istore_n 3, 1) := by decide +kernel
theorem dX8_packed_2 : decode cX8_packed 2 = .ok (.iload_n 1, 1) := by decide +kernel
theorem dX8_packed_3 : decode cX8_packed 3 = .ok (.istore 4, 2) := by decide +kernel
theorem dX8_packed_5 : decode cX8_packed 5 = .ok (.iload 4, 2) := by decide +kernel
theorem dX8_packed_7 : decode cX8_packed 7 = .ok (.iload_n 1, 1) := by decide +kernel
theorem dX8_packed_8 : decode cX8_packed 8 = .ok (.bipush 6, 2) := by decide +kernel
theorem dX8_packed_10 : decode cX8_packed 10 = .ok (.iadd, 1) := by decide +kernel
theorem dX8_packed_11 : decode cX8_packed 11 = .ok (.if_icmp .ge 34, 3) := by decide +kernel
theorem dX8_packed_14 : decode cX8_packed 14 = .ok (.iload_n 3, 1) := by decide +kernel
theorem dX8_packed_15 : decode cX8_packed 15 = .ok (.iconst 5, 1) := by decide +kernel
theorem dX8_packed_16 : decode cX8_packed 16 = .ok (.ishl, 1) := by decide +kernel
theorem dX8_packed_17 : decode cX8_packed 17 = .ok (.iload 4, 2) := by decide +kernel
theorem dX8_packed_19 : decode cX8_packed 19 = .ok (.iload_n 2, 1) := by decide +kernel
theorem dX8_packed_20 : decode cX8_packed 20 = .ok (.if_icmp .ge 16, 3) := by decide +kernel
theorem dX8_packed_23 : decode cX8_packed 23 = .ok (.aload_n 0, 1) := by decide +kernel
theorem dX8_packed_24 : decode cX8_packed 24 = .ok (.getfield 7, 3) := by decide +kernel
theorem dX8_packed_27 : decode cX8_packed 27 = .ok (.iload 4, 2) := by decide +kernel
theorem dX8_packed_29 : decode cX8_packed 29 = .ok (.iaload, 1) := by decide +kernel
theorem dX8_packed_30 : decode cX8_packed 30 = .ok (.bipush 96, 2) := by decide +kernel
theorem dX8_packed_32 : decode cX8_packed 32 = .ok (.isub, 1) := by decide +kernel
theorem dX8_packed_33 : decode cX8_packed 33 = .ok (.goto 4, 3) := by decide +kernel
theorem dX8_packed_36 : decode cX8_packed 36 = .ok (.iconst 0, 1) := by decide +kernel
theorem dX8_packed_37 : decode cX8_packed 37 = .ok (.ior, 1) := by decide +kernel
theorem dX8_packed_38 : decode cX8_packed 38 = .ok (.istore_n 3, 1) := by decide +kernel
theorem dX8_packed_39 : decode cX8_packed 39 = .ok (.iinc 4 1, 3) := by decide +kernel
theorem dX8_packed_42 : decode cX8_packed 42 = .ok (.goto (-37), 3) := by decide +kernel
theorem dX8_packed_45 : decode cX8_packed 45 = .ok (.iload_n 3, 1) := by decide +kernel
theorem dX8_packed_46 : decode cX8_packed 46 = .ok (.ireturn, 1) := by decide +kernel
theorem dX8_isKey_0 : decode cX8_isKey 0 = .ok (.aload_n 0, 1) := by decide +kernel
theorem dX8_isKey_1 : decode cX8_isKey 1 = .ok (.getfield 190, 3) := by decide +kernel
theorem dX8_isKey_4 : decode cX8_isKey 4 = .ok (.iconst 1, 1) := by decide +kernel
theorem dX8_isKey_5 : decode cX8_isKey 5 = .ok (.if_icmp .ne 15, 3) := by decide +kernel
theorem dX8_isKey_8 : decode cX8_isKey 8 = .ok (.aload_n 0, 1) := by decide +kernel
theorem dX8_isKey_9 : decode cX8_isKey 9 = .ok (.getfield 201, 3) := by decide +kernel
theorem dX8_isKey_12 : decode cX8_isKey 12 = .ok (.iload_n 1, 1) := by decide +kernel
theorem dX8_isKey_13 : decode cX8_isKey 13 = .ok (.if_icmp .ne 7, 3) := by decide +kernel
theorem dX8_isKey_16 : decode cX8_isKey 16 = .ok (.iconst 1, 1) := by decide +kernel
theorem dX8_isKey_17 : decode cX8_isKey 17 = .ok (.goto 4, 3) := by decide +kernel
theorem dX8_isKey_20 : decode cX8_isKey 20 = .ok (.iconst 0, 1) := by decide +kernel
theorem dX8_isKey_21 : decode cX8_isKey 21 = .ok (.ireturn, 1) := by decide +kernel
theorem dX8_isSign_0 : decode cX8_isSign 0 = .ok (.aload_n 0, 1) := by decide +kernel
theorem dX8_isSign_1 : decode cX8_isSign 1 = .ok (.getfield 190, 3) := by decide +kernel
theorem dX8_isSign_4 : decode cX8_isSign 4 = .ok (.iconst 4, 1) := by decide +kernel
theorem dX8_isSign_5 : decode cX8_isSign 5 = .ok (.if_icmp .ne 15, 3) := by decide +kernel
theorem dX8_isSign_8 : decode cX8_isSign 8 = .ok (.aload_n 0, 1) := by decide +kernel
theorem dX8_isSign_9 : decode cX8_isSign 9 = .ok (.getfield 201, 3) := by decide +kernel
theorem dX8_isSign_12 : decode cX8_isSign 12 = .ok (.iload_n 1, 1) := by decide +kernel
theorem dX8_isSign_13 : decode cX8_isSign 13 = .ok (.if_icmp .ne 7, 3) := by decide +kernel
theorem dX8_isSign_16 : decode cX8_isSign 16 = .ok (.iconst 1, 1) := by decide +kernel
theorem dX8_isSign_17 : decode cX8_isSign 17 = .ok (.goto 4, 3) := by decide +kernel
theorem dX8_isSign_20 : decode cX8_isSign 20 = .ok (.iconst 0, 1) := by decide +kernel
theorem dX8_isSign_21 : decode cX8_isSign 21 = .ok (.ireturn, 1) := by decide +kernel
theorem dX8_number_0 : decode cX8_number 0 = .ok (.aload_n 0, 1) := by decide +kernel
theorem dX8_number_1 : decode cX8_number 1 = .ok (.getfield 190, 3) := by decide +kernel
theorem dX8_number_4 : decode cX8_number 4 = .ok (.iconst 3, 1) := by decide +kernel
theorem dX8_number_5 : decode cX8_number 5 = .ok (.if_icmp .eq 9, 3) := by decide +kernel
theorem dX8_number_8 : decode cX8_number 8 = .ok (.aload_n 0, 1) := by decide +kernel
theorem dX8_number_9 : decode cX8_number 9 = .ok (.iconst 1, 1) := by decide +kernel
theorem dX8_number_10 : decode cX8_number 10 = .ok (.invokevirtual 214, 3) := by decide +kernel
theorem dX8_number_13 : decode cX8_number 13 = .ok (.ireturn, 1) := by decide +kernel
theorem dX8_number_14 : decode cX8_number 14 = .ok (.aload_n 0, 1) := by decide +kernel
theorem dX8_number_15 : decode cX8_number 15 = .ok (.getfield 201, 3) := by decide +kernel
theorem dX8_number_18 : decode cX8_number 18 = .ok (.iload_n 1, 1) := by decide +kernel
theorem dX8_number_19 : decode cX8_number 19 = .ok (.iload_n 2, 1) := by decide +kernel
theorem dX8_number_20 : decode cX8_number 20 = .ok (.invokestatic 217, 3) := by decide +kernel
theorem dX8_number_23 : decode cX8_number 23 = .ok (.ifCond .ne 9, 3) := by decide +kernel
theorem dX8_number_26 : decode cX8_number 26 = .ok (.aload_n 0, 1) := by decide +kernel
theorem dX8_number_27 : decode cX8_number 27 = .ok (.iconst 2, 1) := by decide +kernel
theorem dX8_number_28 : decode cX8_number 28 = .ok (.invokevirtual 214, 3) := by decide +kernel
theorem dX8_number_31 : decode cX8_number 31 = .ok (.ireturn, 1) := by decide +kernel
theorem dX8_number_32 : decode cX8_number 32 = .ok (.aload_n 0, 1) := by decide +kernel
theorem dX8_number_33 : decode cX8_number 33 = .ok (.aload_n 0, 1) := by decide +kernel
theorem dX8_number_34 : decode cX8_number 34 = .ok (.getfield 201, 3) := by decide +kernel
theorem dX8_number_37 : decode cX8_number 37 = .ok (.putfield 221, 3) := by decide +kernel
theorem dX8_number_40 : decode cX8_number 40 = .ok (.aload_n 0, 1) := by decide +kernel
theorem dX8_number_41 : decode cX8_number 41 = .ok (.invokevirtual 224, 3) := by decide +kernel
theorem dX8_number_44 : decode cX8_number 44 = .ok (.iconst 1, 1) := by decide +kernel
theorem dX8_number_45 : decode cX8_number 45 = .ok (.ireturn, 1) := by decide +kernel
theorem dX8_plain_0 : decode cX8_plain 0 = .ok (.aload_n 0, 1) := by decide +kernel
theorem dX8_plain_1 : decode cX8_plain 1 = .ok (.iconst 0, 1) := by decide +kernel
theorem dX8_plain_2 : decode cX8_plain 2 = .ok (.putfield 234, 3) := by decide +kernel
theorem dX8_plain_5 : decode cX8_plain 5 = .ok (.aload_n 0, 1) := by decide +kernel
theorem dX8_plain_6 : decode cX8_plain 6 = .ok (.iconst 0, 1) := by decide +kernel
theorem dX8_plain_7 : decode cX8_plain 7 = .ok (.putfield 237, 3) := by decide +kernel
theorem dX8_plain_10 : decode cX8_plain 10 = .ok (.aload_n 0, 1) := by decide +kernel
theorem dX8_plain_11 : decode cX8_plain 11 = .ok (.iconst 0, 1) := by decide +kernel
theorem dX8_plain_12 : decode cX8_plain 12 = .ok (.putfield 240, 3) := by decide +kernel
theorem dX8_plain_15 : decode cX8_plain 15 = .ok (.aload_n 0, 1) := by decide +kernel
theorem dX8_plain_16 : decode cX8_plain 16 = .ok (.iconst 0, 1) := by decide +kernel
theorem dX8_plain_17 : decode cX8_plain 17 = .ok (.putfield 243, 3) := by decide +kernel
theorem dX8_plain_20 : decode cX8_plain 20 = .ok (.aload_n 0, 1) := by decide +kernel
theorem dX8_plain_21 : decode cX8_plain 21 = .ok (.iconst 0, 1) := by decide +kernel
theorem dX8_plain_22 : decode cX8_plain 22 = .ok (.putfield 246, 3) := by decide +kernel
theorem dX8_plain_25 : decode cX8_plain 25 = .ok (.aload_n 0, 1) := by decide +kernel
theorem dX8_plain_26 : decode cX8_plain 26 = .ok (.iconst 0, 1) := by decide +kernel
theorem dX8_plain_27 : decode cX8_plain 27 = .ok (.putfield 249, 3) := by decide +kernel
theorem dX8_plain_30 : decode cX8_plain 30 = .ok (.iconst 0, 1) := by decide +kernel
theorem dX8_plain_31 : decode cX8_plain 31 = .ok (.istore_n 1, 1) := by decide +kernel
theorem dX8_plain_32 : decode cX8_plain 32 = .ok (.iload_n 1, 1) := by decide +kernel
theorem dX8_plain_33 : decode cX8_plain 33 = .ok (.iconst 3, 1) := by decide +kernel
theorem dX8_plain_34 : decode cX8_plain 34 = .ok (.if_icmp .ge 34, 3) := by decide +kernel
theorem dX8_plain_37 : decode cX8_plain 37 = .ok (.aload_n 0, 1) := by decide +kernel
theorem dX8_plain_38 : decode cX8_plain 38 = .ok (.getfield 20, 3) := by decide +kernel
theorem dX8_plain_41 : decode cX8_plain 41 = .ok (.iload_n 1, 1) := by decide +kernel
theorem dX8_plain_42 : decode cX8_plain 42 = .ok (.iconst 0, 1) := by decide +kernel
theorem dX8_plain_43 : decode cX8_plain 43 = .ok (.bastore, 1) := by decide +kernel
theorem dX8_plain_44 : decode cX8_plain 44 = .ok (.aload_n 0, 1) := by decide +kernel
theorem dX8_plain_45 : decode cX8_plain 45 = .ok (.getfield 24, 3) := by decide +kernel
theorem dX8_plain_48 : decode cX8_plain 48 = .ok (.iconst 3, 1) := by decide +kernel
theorem dX8_plain_49 : decode cX8_plain 49 = .ok (.iload_n 1, 1) := by decide +kernel
theorem dX8_plain_50 : decode cX8_plain 50 = .ok (.iadd, 1) := by decide +kernel
theorem dX8_plain_51 : decode cX8_plain 51 = .ok (.iconst 0, 1) := by decide +kernel
theorem dX8_plain_52 : decode cX8_plain 52 = .ok (.iastore, 1) := by decide +kernel
theorem dX8_plain_53 : decode cX8_plain 53 = .ok (.aload_n 0, 1) := by decide +kernel
theorem dX8_plain_54 : decode cX8_plain 54 = .ok (.getfield 63, 3) := by decide +kernel
theorem dX8_plain_57 : decode cX8_plain 57 = .ok (.iconst 3, 1) := by decide +kernel
theorem dX8_plain_58 : decode cX8_plain 58 = .ok (.iload_n 1, 1) := by decide +kernel
theorem dX8_plain_59 : decode cX8_plain 59 = .ok (.iadd, 1) := by decide +kernel
theorem dX8_plain_60 : decode cX8_plain 60 = .ok (.iconst 0, 1) := by decide +kernel
theorem dX8_plain_61 : decode cX8_plain 61 = .ok (.bastore, 1) := by decide +kernel
theorem dX8_plain_62 : decode cX8_plain 62 = .ok (.iinc 1 1, 3) := by decide +kernel
theorem dX8_plain_65 : decode cX8_plain 65 = .ok (.goto (-33), 3) := by decide +kernel
theorem dX8_plain_68 : decode cX8_plain 68 = .ok (.iconst 0, 1) := by decide +kernel
theorem dX8_plain_69 : decode cX8_plain 69 = .ok (.istore_n 1, 1) := by decide +kernel
theorem dX8_plain_70 : decode cX8_plain 70 = .ok (.iload_n 1, 1) := by decide +kernel
theorem dX8_plain_71 : decode cX8_plain 71 = .ok (.bipush 21, 2) := by decide +kernel
theorem dX8_plain_73 : decode cX8_plain 73 = .ok (.if_icmp .ge 27, 3) := by decide +kernel
theorem dX8_plain_76 : decode cX8_plain 76 = .ok (.aload_n 0, 1) := by decide +kernel
theorem dX8_plain_77 : decode cX8_plain 77 = .ok (.getfield 57, 3) := by decide +kernel
theorem dX8_plain_80 : decode cX8_plain 80 = .ok (.bipush 21, 2) := by decide +kernel
theorem dX8_plain_82 : decode cX8_plain 82 = .ok (.iload_n 1, 1) := by decide +kernel
theorem dX8_plain_83 : decode cX8_plain 83 = .ok (.iadd, 1) := by decide +kernel
theorem dX8_plain_84 : decode cX8_plain 84 = .ok (.bipush 60, 2) := by decide +kernel
theorem dX8_plain_86 : decode cX8_plain 86 = .ok (.iastore, 1) := by decide +kernel
theorem dX8_plain_87 : decode cX8_plain 87 = .ok (.aload_n 0, 1) := by decide +kernel
theorem dX8_plain_88 : decode cX8_plain 88 = .ok (.getfield 60, 3) := by decide +kernel
theorem dX8_plain_91 : decode cX8_plain 91 = .ok (.iload_n 1, 1) := by decide +kernel
theorem dX8_plain_92 : decode cX8_plain 92 = .ok (.iconst 0, 1) := by decide +kernel
theorem dX8_plain_93 : decode cX8_plain 93 = .ok (.bastore, 1) := by decide +kernel
theorem dX8_plain_94 : decode cX8_plain 94 = .ok (.iinc 1 1, 3) := by decide +kernel
theorem dX8_plain_97 : decode cX8_plain 97 = .ok (.goto (-27), 3) := by decide +kernel
theorem dX8_plain_100 : decode cX8_plain 100 = .ok (.return_, 1) := by decide +kernel
theorem dX8_copies_0 : decode cX8_copies 0 = .ok (.iconst 0, 1) := by decide +kernel
theorem dX8_copies_1 : decode cX8_copies 1 = .ok (.istore_n 2, 1) := by decide +kernel
theorem dX8_copies_2 : decode cX8_copies 2 = .ok (.iload_n 2, 1) := by decide +kernel
theorem dX8_copies_3 : decode cX8_copies 3 = .ok (.iload_n 1, 1) := by decide +kernel
theorem dX8_copies_4 : decode cX8_copies 4 = .ok (.if_icmp .ge 17, 3) := by decide +kernel
theorem dX8_copies_7 : decode cX8_copies 7 = .ok (.aload_n 0, 1) := by decide +kernel
theorem dX8_copies_8 : decode cX8_copies 8 = .ok (.iload_n 2, 1) := by decide +kernel
theorem dX8_copies_9 : decode cX8_copies 9 = .ok (.aload_n 0, 1) := by decide +kernel
theorem dX8_copies_10 : decode cX8_copies 10 = .ok (.iload_n 1, 1) := by decide +kernel
theorem dX8_copies_11 : decode cX8_copies 11 = .ok (.iload_n 2, 1) := by decide +kernel
theorem dX8_copies_12 : decode cX8_copies 12 = .ok (.iadd, 1) := by decide +kernel
theorem dX8_copies_13 : decode cX8_copies 13 = .ok (.iaload, 1) := by decide +kernel
theorem dX8_copies_14 : decode cX8_copies 14 = .ok (.iastore, 1) := by decide +kernel
theorem dX8_copies_15 : decode cX8_copies 15 = .ok (.iinc 2 1, 3) := by decide +kernel
theorem dX8_copies_18 : decode cX8_copies 18 = .ok (.goto (-16), 3) := by decide +kernel
theorem dX8_copies_21 : decode cX8_copies 21 = .ok (.return_, 1) := by decide +kernel
theorem dX8_keepText_0 : decode cX8_keepText 0 = .ok (.aload_n 0, 1) := by decide +kernel
theorem dX8_keepText_1 : decode cX8_keepText 1 = .ok (.aload_n 0, 1) := by decide +kernel
theorem dX8_keepText_2 : decode cX8_keepText 2 = .ok (.getfield 234, 3) := by decide +kernel
theorem dX8_keepText_5 : decode cX8_keepText 5 = .ok (.putfield 252, 3) := by decide +kernel
theorem dX8_keepText_8 : decode cX8_keepText 8 = .ok (.aload_n 0, 1) := by decide +kernel
theorem dX8_keepText_9 : decode cX8_keepText 9 = .ok (.aload_n 0, 1) := by decide +kernel
theorem dX8_keepText_10 : decode cX8_keepText 10 = .ok (.getfield 237, 3) := by decide +kernel
theorem dX8_keepText_13 : decode cX8_keepText 13 = .ok (.putfield 255, 3) := by decide +kernel
theorem dX8_keepText_16 : decode cX8_keepText 16 = .ok (.aload_n 0, 1) := by decide +kernel
theorem dX8_keepText_17 : decode cX8_keepText 17 = .ok (.aload_n 0, 1) := by decide +kernel
theorem dX8_keepText_18 : decode cX8_keepText 18 = .ok (.getfield 240, 3) := by decide +kernel
theorem dX8_keepText_21 : decode cX8_keepText 21 = .ok (.putfield 258, 3) := by decide +kernel
theorem dX8_keepText_24 : decode cX8_keepText 24 = .ok (.aload_n 0, 1) := by decide +kernel
theorem dX8_keepText_25 : decode cX8_keepText 25 = .ok (.aload_n 0, 1) := by decide +kernel
theorem dX8_keepText_26 : decode cX8_keepText 26 = .ok (.getfield 243, 3) := by decide +kernel
theorem dX8_keepText_29 : decode cX8_keepText 29 = .ok (.putfield 261, 3) := by decide +kernel
theorem dX8_keepText_32 : decode cX8_keepText 32 = .ok (.aload_n 0, 1) := by decide +kernel
theorem dX8_keepText_33 : decode cX8_keepText 33 = .ok (.getfield 24, 3) := by decide +kernel
theorem dX8_keepText_36 : decode cX8_keepText 36 = .ok (.iconst 3, 1) := by decide +kernel
theorem dX8_keepText_37 : decode cX8_keepText 37 = .ok (.invokestatic 264, 3) := by decide +kernel
theorem dX8_keepText_40 : decode cX8_keepText 40 = .ok (.aload_n 0, 1) := by decide +kernel
theorem dX8_keepText_41 : decode cX8_keepText 41 = .ok (.getfield 27, 3) := by decide +kernel
theorem dX8_keepText_44 : decode cX8_keepText 44 = .ok (.iconst 5, 1) := by decide +kernel
theorem dX8_keepText_45 : decode cX8_keepText 45 = .ok (.invokestatic 264, 3) := by decide +kernel
theorem dX8_keepText_48 : decode cX8_keepText 48 = .ok (.aload_n 0, 1) := by decide +kernel
theorem dX8_keepText_49 : decode cX8_keepText 49 = .ok (.getfield 30, 3) := by decide +kernel
theorem dX8_keepText_52 : decode cX8_keepText 52 = .ok (.iconst 5, 1) := by decide +kernel
theorem dX8_keepText_53 : decode cX8_keepText 53 = .ok (.invokestatic 264, 3) := by decide +kernel
theorem dX8_keepText_56 : decode cX8_keepText 56 = .ok (.aload_n 0, 1) := by decide +kernel
theorem dX8_keepText_57 : decode cX8_keepText 57 = .ok (.getfield 33, 3) := by decide +kernel
theorem dX8_keepText_60 : decode cX8_keepText 60 = .ok (.bipush 6, 2) := by decide +kernel
theorem dX8_keepText_62 : decode cX8_keepText 62 = .ok (.invokestatic 264, 3) := by decide +kernel
theorem dX8_keepText_65 : decode cX8_keepText 65 = .ok (.aload_n 0, 1) := by decide +kernel
theorem dX8_keepText_66 : decode cX8_keepText 66 = .ok (.getfield 36, 3) := by decide +kernel
theorem dX8_keepText_69 : decode cX8_keepText 69 = .ok (.bipush 6, 2) := by decide +kernel
theorem dX8_keepText_71 : decode cX8_keepText 71 = .ok (.invokestatic 264, 3) := by decide +kernel
theorem dX8_keepText_74 : decode cX8_keepText 74 = .ok (.aload_n 0, 1) := by decide +kernel
theorem dX8_keepText_75 : decode cX8_keepText 75 = .ok (.getfield 39, 3) := by decide +kernel
theorem dX8_keepText_78 : decode cX8_keepText 78 = .ok (.bipush 6, 2) := by decide +kernel
theorem dX8_keepText_80 : decode cX8_keepText 80 = .ok (.invokestatic 264, 3) := by decide +kernel
theorem dX8_keepText_83 : decode cX8_keepText 83 = .ok (.aload_n 0, 1) := by decide +kernel
theorem dX8_keepText_84 : decode cX8_keepText 84 = .ok (.getfield 42, 3) := by decide +kernel
theorem dX8_keepText_87 : decode cX8_keepText 87 = .ok (.bipush 6, 2) := by decide +kernel
theorem dX8_keepText_89 : decode cX8_keepText 89 = .ok (.invokestatic 264, 3) := by decide +kernel
theorem dX8_keepText_92 : decode cX8_keepText 92 = .ok (.aload_n 0, 1) := by decide +kernel
theorem dX8_keepText_93 : decode cX8_keepText 93 = .ok (.getfield 45, 3) := by decide +kernel
theorem dX8_keepText_96 : decode cX8_keepText 96 = .ok (.bipush 10, 2) := by decide +kernel
theorem dX8_keepText_98 : decode cX8_keepText 98 = .ok (.invokestatic 264, 3) := by decide +kernel
theorem dX8_keepText_101 : decode cX8_keepText 101 = .ok (.aload_n 0, 1) := by decide +kernel
theorem dX8_keepText_102 : decode cX8_keepText 102 = .ok (.getfield 48, 3) := by decide +kernel
theorem dX8_keepText_105 : decode cX8_keepText 105 = .ok (.bipush 10, 2) := by decide +kernel
theorem dX8_keepText_107 : decode cX8_keepText 107 = .ok (.invokestatic 264, 3) := by decide +kernel
theorem dX8_keepText_110 : decode cX8_keepText 110 = .ok (.aload_n 0, 1) := by decide +kernel
theorem dX8_keepText_111 : decode cX8_keepText 111 = .ok (.getfield 51, 3) := by decide +kernel
theorem dX8_keepText_114 : decode cX8_keepText 114 = .ok (.bipush 10, 2) := by decide +kernel
theorem dX8_keepText_116 : decode cX8_keepText 116 = .ok (.invokestatic 264, 3) := by decide +kernel
theorem dX8_keepText_119 : decode cX8_keepText 119 = .ok (.aload_n 0, 1) := by decide +kernel
theorem dX8_keepText_120 : decode cX8_keepText 120 = .ok (.getfield 54, 3) := by decide +kernel
theorem dX8_keepText_123 : decode cX8_keepText 123 = .ok (.bipush 10, 2) := by decide +kernel
theorem dX8_keepText_125 : decode cX8_keepText 125 = .ok (.invokestatic 264, 3) := by decide +kernel
theorem dX8_keepText_128 : decode cX8_keepText 128 = .ok (.aload_n 0, 1) := by decide +kernel
theorem dX8_keepText_129 : decode cX8_keepText 129 = .ok (.getfield 57, 3) := by decide +kernel
theorem dX8_keepText_132 : decode cX8_keepText 132 = .ok (.bipush 21, 2) := by decide +kernel
theorem dX8_keepText_134 : decode cX8_keepText 134 = .ok (.invokestatic 264, 3) := by decide +kernel
theorem dX8_keepText_137 : decode cX8_keepText 137 = .ok (.iconst 0, 1) := by decide +kernel
theorem dX8_keepText_138 : decode cX8_keepText 138 = .ok (.istore_n 1, 1) := by decide +kernel
theorem dX8_keepText_139 : decode cX8_keepText 139 = .ok (.iload_n 1, 1) := by decide +kernel
theorem dX8_keepText_140 : decode cX8_keepText 140 = .ok (.iconst 3, 1) := by decide +kernel
theorem dX8_keepText_141 : decode cX8_keepText 141 = .ok (.if_icmp .ge 23, 3) := by decide +kernel
theorem dX8_keepText_144 : decode cX8_keepText 144 = .ok (.aload_n 0, 1) := by decide +kernel
theorem dX8_keepText_145 : decode cX8_keepText 145 = .ok (.getfield 63, 3) := by decide +kernel
theorem dX8_keepText_148 : decode cX8_keepText 148 = .ok (.iload_n 1, 1) := by decide +kernel
theorem dX8_keepText_149 : decode cX8_keepText 149 = .ok (.aload_n 0, 1) := by decide +kernel
theorem dX8_keepText_150 : decode cX8_keepText 150 = .ok (.getfield 63, 3) := by decide +kernel
theorem dX8_keepText_153 : decode cX8_keepText 153 = .ok (.iconst 3, 1) := by decide +kernel
theorem dX8_keepText_154 : decode cX8_keepText 154 = .ok (.iload_n 1, 1) := by decide +kernel
theorem dX8_keepText_155 : decode cX8_keepText 155 = .ok (.iadd, 1) := by decide +kernel
theorem dX8_keepText_156 : decode cX8_keepText 156 = .ok (.baload, 1) := by decide +kernel
theorem dX8_keepText_157 : decode cX8_keepText 157 = .ok (.bastore, 1) := by decide +kernel
theorem dX8_keepText_158 : decode cX8_keepText 158 = .ok (.iinc 1 1, 3) := by decide +kernel
theorem dX8_keepText_161 : decode cX8_keepText 161 = .ok (.goto (-22), 3) := by decide +kernel
theorem dX8_keepText_164 : decode cX8_keepText 164 = .ok (.aload_n 0, 1) := by decide +kernel
theorem dX8_keepText_165 : decode cX8_keepText 165 = .ok (.getfield 66, 3) := by decide +kernel
theorem dX8_keepText_168 : decode cX8_keepText 168 = .ok (.iconst 3, 1) := by decide +kernel
theorem dX8_keepText_169 : decode cX8_keepText 169 = .ok (.invokestatic 264, 3) := by decide +kernel
theorem dX8_keepText_172 : decode cX8_keepText 172 = .ok (.aload_n 0, 1) := by decide +kernel
theorem dX8_keepText_173 : decode cX8_keepText 173 = .ok (.getfield 69, 3) := by decide +kernel
theorem dX8_keepText_176 : decode cX8_keepText 176 = .ok (.iconst 3, 1) := by decide +kernel
theorem dX8_keepText_177 : decode cX8_keepText 177 = .ok (.invokestatic 264, 3) := by decide +kernel
theorem dX8_keepText_180 : decode cX8_keepText 180 = .ok (.aload_n 0, 1) := by decide +kernel
theorem dX8_keepText_181 : decode cX8_keepText 181 = .ok (.getfield 72, 3) := by decide +kernel
theorem dX8_keepText_184 : decode cX8_keepText 184 = .ok (.bipush 64, 2) := by decide +kernel
theorem dX8_keepText_186 : decode cX8_keepText 186 = .ok (.invokestatic 264, 3) := by decide +kernel
theorem dX8_keepText_189 : decode cX8_keepText 189 = .ok (.aload_n 0, 1) := by decide +kernel
theorem dX8_keepText_190 : decode cX8_keepText 190 = .ok (.getfield 75, 3) := by decide +kernel
theorem dX8_keepText_193 : decode cX8_keepText 193 = .ok (.bipush 64, 2) := by decide +kernel
theorem dX8_keepText_195 : decode cX8_keepText 195 = .ok (.invokestatic 264, 3) := by decide +kernel
theorem dX8_keepText_198 : decode cX8_keepText 198 = .ok (.aload_n 0, 1) := by decide +kernel
theorem dX8_keepText_199 : decode cX8_keepText 199 = .ok (.getfield 78, 3) := by decide +kernel
theorem dX8_keepText_202 : decode cX8_keepText 202 = .ok (.bipush 64, 2) := by decide +kernel
theorem dX8_keepText_204 : decode cX8_keepText 204 = .ok (.invokestatic 264, 3) := by decide +kernel
theorem dX8_keepText_207 : decode cX8_keepText 207 = .ok (.aload_n 0, 1) := by decide +kernel
theorem dX8_keepText_208 : decode cX8_keepText 208 = .ok (.invokevirtual 268, 3) := by decide +kernel
theorem dX8_keepText_211 : decode cX8_keepText 211 = .ok (.return_, 1) := by decide +kernel
theorem dX8_find_0 : decode cX8_find 0 = .ok (.iconst 0, 1) := by decide +kernel
theorem dX8_find_1 : decode cX8_find 1 = .ok (.istore 4, 2) := by decide +kernel
theorem dX8_find_3 : decode cX8_find 3 = .ok (.iload 4, 2) := by decide +kernel
theorem dX8_find_5 : decode cX8_find 5 = .ok (.iload_n 2, 1) := by decide +kernel
theorem dX8_find_6 : decode cX8_find 6 = .ok (.if_icmp .ge 22, 3) := by decide +kernel
theorem dX8_find_9 : decode cX8_find 9 = .ok (.aload_n 0, 1) := by decide +kernel
theorem dX8_find_10 : decode cX8_find 10 = .ok (.iload_n 1, 1) := by decide +kernel
theorem dX8_find_11 : decode cX8_find 11 = .ok (.iload 4, 2) := by decide +kernel
theorem dX8_find_13 : decode cX8_find 13 = .ok (.iadd, 1) := by decide +kernel
theorem dX8_find_14 : decode cX8_find 14 = .ok (.iaload, 1) := by decide +kernel
theorem dX8_find_15 : decode cX8_find 15 = .ok (.iload_n 3, 1) := by decide +kernel
theorem dX8_find_16 : decode cX8_find 16 = .ok (.if_icmp .ne 6, 3) := by decide +kernel
theorem dX8_find_19 : decode cX8_find 19 = .ok (.iload 4, 2) := by decide +kernel
theorem dX8_find_21 : decode cX8_find 21 = .ok (.ireturn, 1) := by decide +kernel
theorem dX8_find_22 : decode cX8_find 22 = .ok (.iinc 4 1, 3) := by decide +kernel
theorem dX8_find_25 : decode cX8_find 25 = .ok (.goto (-22), 3) := by decide +kernel
theorem dX8_find_28 : decode cX8_find 28 = .ok (.iconst (-1), 1) := by decide +kernel
theorem dX8_find_29 : decode cX8_find 29 = .ok (.ireturn, 1) := by decide +kernel
theorem dX8_placeLine_0 : decode cX8_placeLine 0 = .ok (.aload_n 0, 1) := by decide +kernel
theorem dX8_placeLine_1 : decode cX8_placeLine 1 = .ok (.getfield 234, 3) := by decide +kernel
theorem dX8_placeLine_4 : decode cX8_placeLine 4 = .ok (.iconst 5, 1) := by decide +kernel
theorem dX8_placeLine_5 : decode cX8_placeLine 5 = .ok (.if_icmp .ne 9, 3) := by decide +kernel
theorem dX8_placeLine_8 : decode cX8_placeLine 8 = .ok (.aload_n 0, 1) := by decide +kernel
theorem dX8_placeLine_9 : decode cX8_placeLine 9 = .ok (.iconst 2, 1) := by decide +kernel
theorem dX8_placeLine_10 : decode cX8_placeLine 10 = .ok (.invokevirtual 214, 3) := by decide +kernel
theorem dX8_placeLine_13 : decode cX8_placeLine 13 = .ok (.ireturn, 1) := by decide +kernel
theorem dX8_placeLine_14 : decode cX8_placeLine 14 = .ok (.aload_n 0, 1) := by decide +kernel
theorem dX8_placeLine_15 : decode cX8_placeLine 15 = .ok (.invokevirtual 224, 3) := by decide +kernel
theorem dX8_placeLine_18 : decode cX8_placeLine 18 = .ok (.aload_n 0, 1) := by decide +kernel
theorem dX8_placeLine_19 : decode cX8_placeLine 19 = .ok (.getfield 190, 3) := by decide +kernel
theorem dX8_placeLine_22 : decode cX8_placeLine 22 = .ok (.iconst 1, 1) := by decide +kernel
theorem dX8_placeLine_23 : decode cX8_placeLine 23 = .ok (.if_icmp .ne 21, 3) := by decide +kernel
theorem dX8_placeLine_26 : decode cX8_placeLine 26 = .ok (.aload_n 0, 1) := by decide +kernel
theorem dX8_placeLine_27 : decode cX8_placeLine 27 = .ok (.getfield 201, 3) := by decide +kernel
theorem dX8_placeLine_30 : decode cX8_placeLine 30 = .ok (.bipush 8, 2) := by decide +kernel
theorem dX8_placeLine_32 : decode cX8_placeLine 32 = .ok (.if_icmp .lt 12, 3) := by decide +kernel
theorem dX8_placeLine_35 : decode cX8_placeLine 35 = .ok (.aload_n 0, 1) := by decide +kernel
theorem dX8_placeLine_36 : decode cX8_placeLine 36 = .ok (.getfield 201, 3) := by decide +kernel
theorem dX8_placeLine_39 : decode cX8_placeLine 39 = .ok (.bipush 12, 2) := by decide +kernel
theorem dX8_placeLine_41 : decode cX8_placeLine 41 = .ok (.if_icmp .le 9, 3) := by decide +kernel
theorem dX8_placeLine_44 : decode cX8_placeLine 44 = .ok (.aload_n 0, 1) := by decide +kernel
theorem dX8_placeLine_45 : decode cX8_placeLine 45 = .ok (.iconst 1, 1) := by decide +kernel
theorem dX8_placeLine_46 : decode cX8_placeLine 46 = .ok (.invokevirtual 214, 3) := by decide +kernel
theorem dX8_placeLine_49 : decode cX8_placeLine 49 = .ok (.ireturn, 1) := by decide +kernel
theorem dX8_placeLine_50 : decode cX8_placeLine 50 = .ok (.aload_n 0, 1) := by decide +kernel
theorem dX8_placeLine_51 : decode cX8_placeLine 51 = .ok (.getfield 27, 3) := by decide +kernel
theorem dX8_placeLine_54 : decode cX8_placeLine 54 = .ok (.iconst 5, 1) := by decide +kernel
theorem dX8_placeLine_55 : decode cX8_placeLine 55 = .ok (.aload_n 0, 1) := by decide +kernel
theorem dX8_placeLine_56 : decode cX8_placeLine 56 = .ok (.getfield 234, 3) := by decide +kernel
theorem dX8_placeLine_59 : decode cX8_placeLine 59 = .ok (.iadd, 1) := by decide +kernel
theorem dX8_placeLine_60 : decode cX8_placeLine 60 = .ok (.aload_n 0, 1) := by decide +kernel
theorem dX8_placeLine_61 : decode cX8_placeLine 61 = .ok (.getfield 201, 3) := by decide +kernel
theorem dX8_placeLine_64 : decode cX8_placeLine 64 = .ok (.bipush 8, 2) := by decide +kernel
theorem dX8_placeLine_66 : decode cX8_placeLine 66 = .ok (.isub, 1) := by decide +kernel
theorem dX8_placeLine_67 : decode cX8_placeLine 67 = .ok (.iastore, 1) := by decide +kernel
theorem dX8_placeLine_68 : decode cX8_placeLine 68 = .ok (.aload_n 0, 1) := by decide +kernel
theorem dX8_placeLine_69 : decode cX8_placeLine 69 = .ok (.invokevirtual 224, 3) := by decide +kernel
theorem dX8_placeLine_72 : decode cX8_placeLine 72 = .ok (.aload_n 0, 1) := by decide +kernel
theorem dX8_placeLine_73 : decode cX8_placeLine 73 = .ok (.iconst 0, 1) := by decide +kernel
theorem dX8_placeLine_74 : decode cX8_placeLine 74 = .ok (.sipush 999, 3) := by decide +kernel
theorem dX8_placeLine_77 : decode cX8_placeLine 77 = .ok (.invokevirtual 230, 3) := by decide +kernel
theorem dX8_placeLine_80 : decode cX8_placeLine 80 = .ok (.ifCond .ne 5, 3) := by decide +kernel
theorem dX8_placeLine_83 : decode cX8_placeLine 83 = .ok (.iconst 0, 1) := by decide +kernel
theorem dX8_placeLine_84 : decode cX8_placeLine 84 = .ok (.ireturn, 1) := by decide +kernel
theorem dX8_placeLine_85 : decode cX8_placeLine 85 = .ok (.aload_n 0, 1) := by decide +kernel
theorem dX8_placeLine_86 : decode cX8_placeLine 86 = .ok (.getfield 30, 3) := by decide +kernel
theorem dX8_placeLine_89 : decode cX8_placeLine 89 = .ok (.iconst 5, 1) := by decide +kernel
theorem dX8_placeLine_90 : decode cX8_placeLine 90 = .ok (.aload_n 0, 1) := by decide +kernel
theorem dX8_placeLine_91 : decode cX8_placeLine 91 = .ok (.getfield 234, 3) := by decide +kernel
theorem dX8_placeLine_94 : decode cX8_placeLine 94 = .ok (.iadd, 1) := by decide +kernel
theorem dX8_placeLine_95 : decode cX8_placeLine 95 = .ok (.aload_n 0, 1) := by decide +kernel
theorem dX8_placeLine_96 : decode cX8_placeLine 96 = .ok (.getfield 221, 3) := by decide +kernel
theorem dX8_placeLine_99 : decode cX8_placeLine 99 = .ok (.iastore, 1) := by decide +kernel
theorem dX8_placeLine_100 : decode cX8_placeLine 100 = .ok (.aload_n 0, 1) := by decide +kernel
theorem dX8_placeLine_101 : decode cX8_placeLine 101 = .ok (.dup, 1) := by decide +kernel
theorem dX8_placeLine_102 : decode cX8_placeLine 102 = .ok (.getfield 234, 3) := by decide +kernel
theorem dX8_placeLine_105 : decode cX8_placeLine 105 = .ok (.iconst 1, 1) := by decide +kernel
theorem dX8_placeLine_106 : decode cX8_placeLine 106 = .ok (.iadd, 1) := by decide +kernel
theorem dX8_placeLine_107 : decode cX8_placeLine 107 = .ok (.putfield 234, 3) := by decide +kernel
theorem dX8_placeLine_110 : decode cX8_placeLine 110 = .ok (.iconst 1, 1) := by decide +kernel
theorem dX8_placeLine_111 : decode cX8_placeLine 111 = .ok (.ireturn, 1) := by decide +kernel
theorem dX8_personLine_0 : decode cX8_personLine 0 = .ok (.aload_n 0, 1) := by decide +kernel
theorem dX8_personLine_1 : decode cX8_personLine 1 = .ok (.getfield 237, 3) := by decide +kernel
theorem dX8_personLine_4 : decode cX8_personLine 4 = .ok (.bipush 6, 2) := by decide +kernel
theorem dX8_personLine_6 : decode cX8_personLine 6 = .ok (.if_icmp .ne 9, 3) := by decide +kernel
theorem dX8_personLine_9 : decode cX8_personLine 9 = .ok (.aload_n 0, 1) := by decide +kernel
theorem dX8_personLine_10 : decode cX8_personLine 10 = .ok (.iconst 2, 1) := by decide +kernel
theorem dX8_personLine_11 : decode cX8_personLine 11 = .ok (.invokevirtual 214, 3) := by decide +kernel
theorem dX8_personLine_14 : decode cX8_personLine 14 = .ok (.ireturn, 1) := by decide +kernel
theorem dX8_personLine_15 : decode cX8_personLine 15 = .ok (.aload_n 0, 1) := by decide +kernel
theorem dX8_personLine_16 : decode cX8_personLine 16 = .ok (.invokevirtual 224, 3) := by decide +kernel
theorem dX8_personLine_19 : decode cX8_personLine 19 = .ok (.aload_n 0, 1) := by decide +kernel
theorem dX8_personLine_20 : decode cX8_personLine 20 = .ok (.getfield 190, 3) := by decide +kernel
theorem dX8_personLine_23 : decode cX8_personLine 23 = .ok (.iconst 2, 1) := by decide +kernel
theorem dX8_personLine_24 : decode cX8_personLine 24 = .ok (.if_icmp .eq 9, 3) := by decide +kernel
theorem dX8_personLine_27 : decode cX8_personLine 27 = .ok (.aload_n 0, 1) := by decide +kernel
theorem dX8_personLine_28 : decode cX8_personLine 28 = .ok (.iconst 1, 1) := by decide +kernel
theorem dX8_personLine_29 : decode cX8_personLine 29 = .ok (.invokevirtual 214, 3) := by decide +kernel
theorem dX8_personLine_32 : decode cX8_personLine 32 = .ok (.ireturn, 1) := by decide +kernel
theorem dX8_personLine_33 : decode cX8_personLine 33 = .ok (.aload_n 0, 1) := by decide +kernel
theorem dX8_personLine_34 : decode cX8_personLine 34 = .ok (.getfield 33, 3) := by decide +kernel
theorem dX8_personLine_37 : decode cX8_personLine 37 = .ok (.bipush 6, 2) := by decide +kernel
theorem dX8_personLine_39 : decode cX8_personLine 39 = .ok (.aload_n 0, 1) := by decide +kernel
theorem dX8_personLine_40 : decode cX8_personLine 40 = .ok (.getfield 237, 3) := by decide +kernel
theorem dX8_personLine_43 : decode cX8_personLine 43 = .ok (.aload_n 0, 1) := by decide +kernel
theorem dX8_personLine_44 : decode cX8_personLine 44 = .ok (.getfield 201, 3) := by decide +kernel
theorem dX8_personLine_47 : decode cX8_personLine 47 = .ok (.invokestatic 271, 3) := by decide +kernel
theorem dX8_personLine_50 : decode cX8_personLine 50 = .ok (.ifCond .lt 9, 3) := by decide +kernel
theorem dX8_personLine_53 : decode cX8_personLine 53 = .ok (.aload_n 0, 1) := by decide +kernel
theorem dX8_personLine_54 : decode cX8_personLine 54 = .ok (.iconst 3, 1) := by decide +kernel
theorem dX8_personLine_55 : decode cX8_personLine 55 = .ok (.invokevirtual 214, 3) := by decide +kernel
theorem dX8_personLine_58 : decode cX8_personLine 58 = .ok (.ireturn, 1) := by decide +kernel
theorem dX8_personLine_59 : decode cX8_personLine 59 = .ok (.bipush 6, 2) := by decide +kernel
theorem dX8_personLine_61 : decode cX8_personLine 61 = .ok (.aload_n 0, 1) := by decide +kernel
theorem dX8_personLine_62 : decode cX8_personLine 62 = .ok (.getfield 237, 3) := by decide +kernel
theorem dX8_personLine_65 : decode cX8_personLine 65 = .ok (.iadd, 1) := by decide +kernel
theorem dX8_personLine_66 : decode cX8_personLine 66 = .ok (.istore_n 1, 1) := by decide +kernel
theorem dX8_personLine_67 : decode cX8_personLine 67 = .ok (.aload_n 0, 1) := by decide +kernel
theorem dX8_personLine_68 : decode cX8_personLine 68 = .ok (.getfield 33, 3) := by decide +kernel
theorem dX8_personLine_71 : decode cX8_personLine 71 = .ok (.iload_n 1, 1) := by decide +kernel
theorem dX8_personLine_72 : decode cX8_personLine 72 = .ok (.aload_n 0, 1) := by decide +kernel
theorem dX8_personLine_73 : decode cX8_personLine 73 = .ok (.getfield 201, 3) := by decide +kernel
theorem dX8_personLine_76 : decode cX8_personLine 76 = .ok (.iastore, 1) := by decide +kernel
theorem dX8_personLine_77 : decode cX8_personLine 77 = .ok (.aload_n 0, 1) := by decide +kernel
theorem dX8_personLine_78 : decode cX8_personLine 78 = .ok (.invokevirtual 224, 3) := by decide +kernel
theorem dX8_personLine_81 : decode cX8_personLine 81 = .ok (.aload_n 0, 1) := by decide +kernel
theorem dX8_personLine_82 : decode cX8_personLine 82 = .ok (.iconst 0, 1) := by decide +kernel
theorem dX8_personLine_83 : decode cX8_personLine 83 = .ok (.bipush 19, 2) := by decide +kernel
theorem dX8_personLine_85 : decode cX8_personLine 85 = .ok (.invokevirtual 230, 3) := by decide +kernel
theorem dX8_personLine_88 : decode cX8_personLine 88 = .ok (.ifCond .ne 5, 3) := by decide +kernel
theorem dX8_personLine_91 : decode cX8_personLine 91 = .ok (.iconst 0, 1) := by decide +kernel
theorem dX8_personLine_92 : decode cX8_personLine 92 = .ok (.ireturn, 1) := by decide +kernel
theorem dX8_personLine_93 : decode cX8_personLine 93 = .ok (.aload_n 0, 1) := by decide +kernel
theorem dX8_personLine_94 : decode cX8_personLine 94 = .ok (.getfield 36, 3) := by decide +kernel
theorem dX8_personLine_97 : decode cX8_personLine 97 = .ok (.iload_n 1, 1) := by decide +kernel
theorem dX8_personLine_98 : decode cX8_personLine 98 = .ok (.aload_n 0, 1) := by decide +kernel
theorem dX8_personLine_99 : decode cX8_personLine 99 = .ok (.getfield 221, 3) := by decide +kernel
theorem dX8_personLine_102 : decode cX8_personLine 102 = .ok (.iastore, 1) := by decide +kernel
theorem dX8_personLine_103 : decode cX8_personLine 103 = .ok (.aload_n 0, 1) := by decide +kernel
theorem dX8_personLine_104 : decode cX8_personLine 104 = .ok (.aload_n 0, 1) := by decide +kernel
theorem dX8_personLine_105 : decode cX8_personLine 105 = .ok (.getfield 36, 3) := by decide +kernel
theorem dX8_personLine_108 : decode cX8_personLine 108 = .ok (.iload_n 1, 1) := by decide +kernel
theorem dX8_personLine_109 : decode cX8_personLine 109 = .ok (.iaload, 1) := by decide +kernel
theorem dX8_personLine_110 : decode cX8_personLine 110 = .ok (.iconst 1, 1) := by decide +kernel
theorem dX8_personLine_111 : decode cX8_personLine 111 = .ok (.iadd, 1) := by decide +kernel
theorem dX8_personLine_112 : decode cX8_personLine 112 = .ok (.bipush 20, 2) := by decide +kernel
theorem dX8_personLine_114 : decode cX8_personLine 114 = .ok (.invokevirtual 230, 3) := by decide +kernel
theorem dX8_personLine_117 : decode cX8_personLine 117 = .ok (.ifCond .ne 5, 3) := by decide +kernel
theorem dX8_personLine_120 : decode cX8_personLine 120 = .ok (.iconst 0, 1) := by decide +kernel
theorem dX8_personLine_121 : decode cX8_personLine 121 = .ok (.ireturn, 1) := by decide +kernel
theorem dX8_personLine_122 : decode cX8_personLine 122 = .ok (.aload_n 0, 1) := by decide +kernel
theorem dX8_personLine_123 : decode cX8_personLine 123 = .ok (.getfield 39, 3) := by decide +kernel
theorem dX8_personLine_126 : decode cX8_personLine 126 = .ok (.iload_n 1, 1) := by decide +kernel
theorem dX8_personLine_127 : decode cX8_personLine 127 = .ok (.aload_n 0, 1) := by decide +kernel
theorem dX8_personLine_128 : decode cX8_personLine 128 = .ok (.getfield 221, 3) := by decide +kernel
theorem dX8_personLine_131 : decode cX8_personLine 131 = .ok (.iastore, 1) := by decide +kernel
theorem dX8_personLine_132 : decode cX8_personLine 132 = .ok (.aload_n 0, 1) := by decide +kernel
theorem dX8_personLine_133 : decode cX8_personLine 133 = .ok (.iconst 1, 1) := by decide +kernel
theorem dX8_personLine_134 : decode cX8_personLine 134 = .ok (.bipush 99, 2) := by decide +kernel
theorem dX8_personLine_136 : decode cX8_personLine 136 = .ok (.invokevirtual 230, 3) := by decide +kernel
theorem dX8_personLine_139 : decode cX8_personLine 139 = .ok (.ifCond .ne 5, 3) := by decide +kernel
theorem dX8_personLine_142 : decode cX8_personLine 142 = .ok (.iconst 0, 1) := by decide +kernel
theorem dX8_personLine_143 : decode cX8_personLine 143 = .ok (.ireturn, 1) := by decide +kernel
theorem dX8_personLine_144 : decode cX8_personLine 144 = .ok (.aload_n 0, 1) := by decide +kernel
theorem dX8_personLine_145 : decode cX8_personLine 145 = .ok (.getfield 42, 3) := by decide +kernel
theorem dX8_personLine_148 : decode cX8_personLine 148 = .ok (.iload_n 1, 1) := by decide +kernel
theorem dX8_personLine_149 : decode cX8_personLine 149 = .ok (.aload_n 0, 1) := by decide +kernel
theorem dX8_personLine_150 : decode cX8_personLine 150 = .ok (.getfield 221, 3) := by decide +kernel
theorem dX8_personLine_153 : decode cX8_personLine 153 = .ok (.iastore, 1) := by decide +kernel
theorem dX8_personLine_154 : decode cX8_personLine 154 = .ok (.aload_n 0, 1) := by decide +kernel
theorem dX8_personLine_155 : decode cX8_personLine 155 = .ok (.dup, 1) := by decide +kernel
theorem dX8_personLine_156 : decode cX8_personLine 156 = .ok (.getfield 237, 3) := by decide +kernel
theorem dX8_personLine_159 : decode cX8_personLine 159 = .ok (.iconst 1, 1) := by decide +kernel
theorem dX8_personLine_160 : decode cX8_personLine 160 = .ok (.iadd, 1) := by decide +kernel
theorem dX8_personLine_161 : decode cX8_personLine 161 = .ok (.putfield 237, 3) := by decide +kernel
theorem dX8_personLine_164 : decode cX8_personLine 164 = .ok (.iconst 1, 1) := by decide +kernel
theorem dX8_personLine_165 : decode cX8_personLine 165 = .ok (.ireturn, 1) := by decide +kernel
theorem dX8_pieceLine_0 : decode cX8_pieceLine 0 = .ok (.aload_n 0, 1) := by decide +kernel
theorem dX8_pieceLine_1 : decode cX8_pieceLine 1 = .ok (.getfield 240, 3) := by decide +kernel
theorem dX8_pieceLine_4 : decode cX8_pieceLine 4 = .ok (.bipush 10, 2) := by decide +kernel
theorem dX8_pieceLine_6 : decode cX8_pieceLine 6 = .ok (.if_icmp .ne 9, 3) := by decide +kernel
theorem dX8_pieceLine_9 : decode cX8_pieceLine 9 = .ok (.aload_n 0, 1) := by decide +kernel
theorem dX8_pieceLine_10 : decode cX8_pieceLine 10 = .ok (.iconst 2, 1) := by decide +kernel
theorem dX8_pieceLine_11 : decode cX8_pieceLine 11 = .ok (.invokevirtual 214, 3) := by decide +kernel
theorem dX8_pieceLine_14 : decode cX8_pieceLine 14 = .ok (.ireturn, 1) := by decide +kernel
theorem dX8_pieceLine_15 : decode cX8_pieceLine 15 = .ok (.aload_n 0, 1) := by decide +kernel
theorem dX8_pieceLine_16 : decode cX8_pieceLine 16 = .ok (.invokevirtual 224, 3) := by decide +kernel
theorem dX8_pieceLine_19 : decode cX8_pieceLine 19 = .ok (.aload_n 0, 1) := by decide +kernel
theorem dX8_pieceLine_20 : decode cX8_pieceLine 20 = .ok (.getfield 190, 3) := by decide +kernel
theorem dX8_pieceLine_23 : decode cX8_pieceLine 23 = .ok (.iconst 2, 1) := by decide +kernel
theorem dX8_pieceLine_24 : decode cX8_pieceLine 24 = .ok (.if_icmp .eq 9, 3) := by decide +kernel
theorem dX8_pieceLine_27 : decode cX8_pieceLine 27 = .ok (.aload_n 0, 1) := by decide +kernel
theorem dX8_pieceLine_28 : decode cX8_pieceLine 28 = .ok (.iconst 1, 1) := by decide +kernel
theorem dX8_pieceLine_29 : decode cX8_pieceLine 29 = .ok (.invokevirtual 214, 3) := by decide +kernel
theorem dX8_pieceLine_32 : decode cX8_pieceLine 32 = .ok (.ireturn, 1) := by decide +kernel
theorem dX8_pieceLine_33 : decode cX8_pieceLine 33 = .ok (.aload_n 0, 1) := by decide +kernel
theorem dX8_pieceLine_34 : decode cX8_pieceLine 34 = .ok (.getfield 33, 3) := by decide +kernel
theorem dX8_pieceLine_37 : decode cX8_pieceLine 37 = .ok (.bipush 6, 2) := by decide +kernel
theorem dX8_pieceLine_39 : decode cX8_pieceLine 39 = .ok (.aload_n 0, 1) := by decide +kernel
theorem dX8_pieceLine_40 : decode cX8_pieceLine 40 = .ok (.getfield 237, 3) := by decide +kernel
theorem dX8_pieceLine_43 : decode cX8_pieceLine 43 = .ok (.aload_n 0, 1) := by decide +kernel
theorem dX8_pieceLine_44 : decode cX8_pieceLine 44 = .ok (.getfield 201, 3) := by decide +kernel
theorem dX8_pieceLine_47 : decode cX8_pieceLine 47 = .ok (.invokestatic 271, 3) := by decide +kernel
theorem dX8_pieceLine_50 : decode cX8_pieceLine 50 = .ok (.istore_n 1, 1) := by decide +kernel
theorem dX8_pieceLine_51 : decode cX8_pieceLine 51 = .ok (.iload_n 1, 1) := by decide +kernel
theorem dX8_pieceLine_52 : decode cX8_pieceLine 52 = .ok (.ifCond .ge 9, 3) := by decide +kernel
theorem dX8_pieceLine_55 : decode cX8_pieceLine 55 = .ok (.aload_n 0, 1) := by decide +kernel
theorem dX8_pieceLine_56 : decode cX8_pieceLine 56 = .ok (.iconst 4, 1) := by decide +kernel
theorem dX8_pieceLine_57 : decode cX8_pieceLine 57 = .ok (.invokevirtual 214, 3) := by decide +kernel
theorem dX8_pieceLine_60 : decode cX8_pieceLine 60 = .ok (.ireturn, 1) := by decide +kernel
theorem dX8_pieceLine_61 : decode cX8_pieceLine 61 = .ok (.bipush 10, 2) := by decide +kernel
theorem dX8_pieceLine_63 : decode cX8_pieceLine 63 = .ok (.aload_n 0, 1) := by decide +kernel
theorem dX8_pieceLine_64 : decode cX8_pieceLine 64 = .ok (.getfield 240, 3) := by decide +kernel
theorem dX8_pieceLine_67 : decode cX8_pieceLine 67 = .ok (.iadd, 1) := by decide +kernel
theorem dX8_pieceLine_68 : decode cX8_pieceLine 68 = .ok (.istore_n 2, 1) := by decide +kernel
theorem dX8_pieceLine_69 : decode cX8_pieceLine 69 = .ok (.aload_n 0, 1) := by decide +kernel
theorem dX8_pieceLine_70 : decode cX8_pieceLine 70 = .ok (.getfield 45, 3) := by decide +kernel
theorem dX8_pieceLine_73 : decode cX8_pieceLine 73 = .ok (.iload_n 2, 1) := by decide +kernel
theorem dX8_pieceLine_74 : decode cX8_pieceLine 74 = .ok (.iload_n 1, 1) := by decide +kernel
theorem dX8_pieceLine_75 : decode cX8_pieceLine 75 = .ok (.iastore, 1) := by decide +kernel
theorem dX8_pieceLine_76 : decode cX8_pieceLine 76 = .ok (.aload_n 0, 1) := by decide +kernel
theorem dX8_pieceLine_77 : decode cX8_pieceLine 77 = .ok (.invokevirtual 224, 3) := by decide +kernel
theorem dX8_pieceLine_80 : decode cX8_pieceLine 80 = .ok (.aload_n 0, 1) := by decide +kernel
theorem dX8_pieceLine_81 : decode cX8_pieceLine 81 = .ok (.iconst 1, 1) := by decide +kernel
theorem dX8_pieceLine_82 : decode cX8_pieceLine 82 = .ok (.bipush 99, 2) := by decide +kernel
theorem dX8_pieceLine_84 : decode cX8_pieceLine 84 = .ok (.invokevirtual 230, 3) := by decide +kernel
theorem dX8_pieceLine_87 : decode cX8_pieceLine 87 = .ok (.ifCond .ne 5, 3) := by decide +kernel
theorem dX8_pieceLine_90 : decode cX8_pieceLine 90 = .ok (.iconst 0, 1) := by decide +kernel
theorem dX8_pieceLine_91 : decode cX8_pieceLine 91 = .ok (.ireturn, 1) := by decide +kernel
theorem dX8_pieceLine_92 : decode cX8_pieceLine 92 = .ok (.aload_n 0, 1) := by decide +kernel
theorem dX8_pieceLine_93 : decode cX8_pieceLine 93 = .ok (.getfield 48, 3) := by decide +kernel
theorem dX8_pieceLine_96 : decode cX8_pieceLine 96 = .ok (.iload_n 2, 1) := by decide +kernel
theorem dX8_pieceLine_97 : decode cX8_pieceLine 97 = .ok (.aload_n 0, 1) := by decide +kernel
theorem dX8_pieceLine_98 : decode cX8_pieceLine 98 = .ok (.getfield 221, 3) := by decide +kernel
theorem dX8_pieceLine_101 : decode cX8_pieceLine 101 = .ok (.iastore, 1) := by decide +kernel
theorem dX8_pieceLine_102 : decode cX8_pieceLine 102 = .ok (.aload_n 0, 1) := by decide +kernel
theorem dX8_pieceLine_103 : decode cX8_pieceLine 103 = .ok (.iconst 0, 1) := by decide +kernel
theorem dX8_pieceLine_104 : decode cX8_pieceLine 104 = .ok (.bipush 9, 2) := by decide +kernel
theorem dX8_pieceLine_106 : decode cX8_pieceLine 106 = .ok (.invokevirtual 230, 3) := by decide +kernel
theorem dX8_pieceLine_109 : decode cX8_pieceLine 109 = .ok (.ifCond .ne 5, 3) := by decide +kernel
theorem dX8_pieceLine_112 : decode cX8_pieceLine 112 = .ok (.iconst 0, 1) := by decide +kernel
theorem dX8_pieceLine_113 : decode cX8_pieceLine 113 = .ok (.ireturn, 1) := by decide +kernel
theorem dX8_pieceLine_114 : decode cX8_pieceLine 114 = .ok (.aload_n 0, 1) := by decide +kernel
theorem dX8_pieceLine_115 : decode cX8_pieceLine 115 = .ok (.getfield 51, 3) := by decide +kernel
theorem dX8_pieceLine_118 : decode cX8_pieceLine 118 = .ok (.iload_n 2, 1) := by decide +kernel
theorem dX8_pieceLine_119 : decode cX8_pieceLine 119 = .ok (.aload_n 0, 1) := by decide +kernel
theorem dX8_pieceLine_120 : decode cX8_pieceLine 120 = .ok (.getfield 221, 3) := by decide +kernel
theorem dX8_pieceLine_123 : decode cX8_pieceLine 123 = .ok (.iastore, 1) := by decide +kernel
theorem dX8_pieceLine_124 : decode cX8_pieceLine 124 = .ok (.aload_n 0, 1) := by decide +kernel
theorem dX8_pieceLine_125 : decode cX8_pieceLine 125 = .ok (.getfield 54, 3) := by decide +kernel
theorem dX8_pieceLine_128 : decode cX8_pieceLine 128 = .ok (.iload_n 2, 1) := by decide +kernel
theorem dX8_pieceLine_129 : decode cX8_pieceLine 129 = .ok (.iconst (-1), 1) := by decide +kernel
theorem dX8_pieceLine_130 : decode cX8_pieceLine 130 = .ok (.iastore, 1) := by decide +kernel
theorem dX8_pieceLine_131 : decode cX8_pieceLine 131 = .ok (.aload_n 0, 1) := by decide +kernel
theorem dX8_pieceLine_132 : decode cX8_pieceLine 132 = .ok (.getfield 190, 3) := by decide +kernel
theorem dX8_pieceLine_135 : decode cX8_pieceLine 135 = .ok (.iconst 3, 1) := by decide +kernel
theorem dX8_pieceLine_136 : decode cX8_pieceLine 136 = .ok (.if_icmp .ne 34, 3) := by decide +kernel
theorem dX8_pieceLine_139 : decode cX8_pieceLine 139 = .ok (.aload_n 0, 1) := by decide +kernel
theorem dX8_pieceLine_140 : decode cX8_pieceLine 140 = .ok (.getfield 201, 3) := by decide +kernel
theorem dX8_pieceLine_143 : decode cX8_pieceLine 143 = .ok (.aload_n 0, 1) := by decide +kernel
theorem dX8_pieceLine_144 : decode cX8_pieceLine 144 = .ok (.getfield 234, 3) := by decide +kernel
theorem dX8_pieceLine_147 : decode cX8_pieceLine 147 = .ok (.if_icmp .lt 9, 3) := by decide +kernel
theorem dX8_pieceLine_150 : decode cX8_pieceLine 150 = .ok (.aload_n 0, 1) := by decide +kernel
theorem dX8_pieceLine_151 : decode cX8_pieceLine 151 = .ok (.iconst 4, 1) := by decide +kernel
theorem dX8_pieceLine_152 : decode cX8_pieceLine 152 = .ok (.invokevirtual 214, 3) := by decide +kernel
theorem dX8_pieceLine_155 : decode cX8_pieceLine 155 = .ok (.ireturn, 1) := by decide +kernel
theorem dX8_pieceLine_156 : decode cX8_pieceLine 156 = .ok (.aload_n 0, 1) := by decide +kernel
theorem dX8_pieceLine_157 : decode cX8_pieceLine 157 = .ok (.getfield 54, 3) := by decide +kernel
theorem dX8_pieceLine_160 : decode cX8_pieceLine 160 = .ok (.iload_n 2, 1) := by decide +kernel
theorem dX8_pieceLine_161 : decode cX8_pieceLine 161 = .ok (.aload_n 0, 1) := by decide +kernel
theorem dX8_pieceLine_162 : decode cX8_pieceLine 162 = .ok (.getfield 201, 3) := by decide +kernel
theorem dX8_pieceLine_165 : decode cX8_pieceLine 165 = .ok (.iastore, 1) := by decide +kernel
theorem dX8_pieceLine_166 : decode cX8_pieceLine 166 = .ok (.aload_n 0, 1) := by decide +kernel
theorem dX8_pieceLine_167 : decode cX8_pieceLine 167 = .ok (.invokevirtual 224, 3) := by decide +kernel
theorem dX8_pieceLine_170 : decode cX8_pieceLine 170 = .ok (.aload_n 0, 1) := by decide +kernel
theorem dX8_pieceLine_171 : decode cX8_pieceLine 171 = .ok (.dup, 1) := by decide +kernel
theorem dX8_pieceLine_172 : decode cX8_pieceLine 172 = .ok (.getfield 240, 3) := by decide +kernel
theorem dX8_pieceLine_175 : decode cX8_pieceLine 175 = .ok (.iconst 1, 1) := by decide +kernel
theorem dX8_pieceLine_176 : decode cX8_pieceLine 176 = .ok (.iadd, 1) := by decide +kernel
theorem dX8_pieceLine_177 : decode cX8_pieceLine 177 = .ok (.putfield 240, 3) := by decide +kernel
theorem dX8_pieceLine_180 : decode cX8_pieceLine 180 = .ok (.iconst 1, 1) := by decide +kernel
theorem dX8_pieceLine_181 : decode cX8_pieceLine 181 = .ok (.ireturn, 1) := by decide +kernel
theorem dX8_waitLine_0 : decode cX8_waitLine 0 = .ok (.aload_n 0, 1) := by decide +kernel
theorem dX8_waitLine_1 : decode cX8_waitLine 1 = .ok (.getfield 246, 3) := by decide +kernel
theorem dX8_waitLine_4 : decode cX8_waitLine 4 = .ok (.bipush 10, 2) := by decide +kernel
theorem dX8_waitLine_6 : decode cX8_waitLine 6 = .ok (.if_icmp .ne 9, 3) := by decide +kernel
theorem dX8_waitLine_9 : decode cX8_waitLine 9 = .ok (.aload_n 0, 1) := by decide +kernel
theorem dX8_waitLine_10 : decode cX8_waitLine 10 = .ok (.iconst 2, 1) := by decide +kernel
theorem dX8_waitLine_11 : decode cX8_waitLine 11 = .ok (.invokevirtual 214, 3) := by decide +kernel
theorem dX8_waitLine_14 : decode cX8_waitLine 14 = .ok (.ireturn, 1) := by decide +kernel
theorem dX8_waitLine_15 : decode cX8_waitLine 15 = .ok (.aload_n 0, 1) := by decide +kernel
theorem dX8_waitLine_16 : decode cX8_waitLine 16 = .ok (.invokevirtual 224, 3) := by decide +kernel
theorem dX8_waitLine_19 : decode cX8_waitLine 19 = .ok (.aload_n 0, 1) := by decide +kernel
theorem dX8_waitLine_20 : decode cX8_waitLine 20 = .ok (.getfield 181, 3) := by decide +kernel
theorem dX8_waitLine_23 : decode cX8_waitLine 23 = .ok (.istore_n 1, 1) := by decide +kernel
theorem dX8_waitLine_24 : decode cX8_waitLine 24 = .ok (.aload_n 0, 1) := by decide +kernel
theorem dX8_waitLine_25 : decode cX8_waitLine 25 = .ok (.iconst 0, 1) := by decide +kernel
theorem dX8_waitLine_26 : decode cX8_waitLine 26 = .ok (.bipush 19, 2) := by decide +kernel
theorem dX8_waitLine_28 : decode cX8_waitLine 28 = .ok (.invokevirtual 230, 3) := by decide +kernel
theorem dX8_waitLine_31 : decode cX8_waitLine 31 = .ok (.ifCond .ne 5, 3) := by decide +kernel
theorem dX8_waitLine_34 : decode cX8_waitLine 34 = .ok (.iconst 0, 1) := by decide +kernel
theorem dX8_waitLine_35 : decode cX8_waitLine 35 = .ok (.ireturn, 1) := by decide +kernel
theorem dX8_waitLine_36 : decode cX8_waitLine 36 = .ok (.aload_n 0, 1) := by decide +kernel
theorem dX8_waitLine_37 : decode cX8_waitLine 37 = .ok (.getfield 221, 3) := by decide +kernel
theorem dX8_waitLine_40 : decode cX8_waitLine 40 = .ok (.istore_n 2, 1) := by decide +kernel
theorem dX8_waitLine_41 : decode cX8_waitLine 41 = .ok (.aload_n 0, 1) := by decide +kernel
theorem dX8_waitLine_42 : decode cX8_waitLine 42 = .ok (.getfield 60, 3) := by decide +kernel
theorem dX8_waitLine_45 : decode cX8_waitLine 45 = .ok (.iload_n 2, 1) := by decide +kernel
theorem dX8_waitLine_46 : decode cX8_waitLine 46 = .ok (.baload, 1) := by decide +kernel
theorem dX8_waitLine_47 : decode cX8_waitLine 47 = .ok (.ifCond .eq 14, 3) := by decide +kernel
theorem dX8_waitLine_50 : decode cX8_waitLine 50 = .ok (.aload_n 0, 1) := by decide +kernel
theorem dX8_waitLine_51 : decode cX8_waitLine 51 = .ok (.iload_n 1, 1) := by decide +kernel
theorem dX8_waitLine_52 : decode cX8_waitLine 52 = .ok (.putfield 181, 3) := by decide +kernel
theorem dX8_waitLine_55 : decode cX8_waitLine 55 = .ok (.aload_n 0, 1) := by decide +kernel
theorem dX8_waitLine_56 : decode cX8_waitLine 56 = .ok (.iconst 3, 1) := by decide +kernel
theorem dX8_waitLine_57 : decode cX8_waitLine 57 = .ok (.invokevirtual 214, 3) := by decide +kernel
theorem dX8_waitLine_60 : decode cX8_waitLine 60 = .ok (.ireturn, 1) := by decide +kernel
theorem dX8_waitLine_61 : decode cX8_waitLine 61 = .ok (.aload_n 0, 1) := by decide +kernel
theorem dX8_waitLine_62 : decode cX8_waitLine 62 = .ok (.getfield 60, 3) := by decide +kernel
theorem dX8_waitLine_65 : decode cX8_waitLine 65 = .ok (.iload_n 2, 1) := by decide +kernel
theorem dX8_waitLine_66 : decode cX8_waitLine 66 = .ok (.iconst 1, 1) := by decide +kernel
theorem dX8_waitLine_67 : decode cX8_waitLine 67 = .ok (.bastore, 1) := by decide +kernel
theorem dX8_waitLine_68 : decode cX8_waitLine 68 = .ok (.aload_n 0, 1) := by decide +kernel
theorem dX8_waitLine_69 : decode cX8_waitLine 69 = .ok (.iconst 0, 1) := by decide +kernel
theorem dX8_waitLine_70 : decode cX8_waitLine 70 = .ok (.sipush 999, 3) := by decide +kernel
theorem dX8_waitLine_73 : decode cX8_waitLine 73 = .ok (.invokevirtual 230, 3) := by decide +kernel
theorem dX8_waitLine_76 : decode cX8_waitLine 76 = .ok (.ifCond .ne 5, 3) := by decide +kernel
theorem dX8_waitLine_79 : decode cX8_waitLine 79 = .ok (.iconst 0, 1) := by decide +kernel
theorem dX8_waitLine_80 : decode cX8_waitLine 80 = .ok (.ireturn, 1) := by decide +kernel
theorem dX8_waitLine_81 : decode cX8_waitLine 81 = .ok (.aload_n 0, 1) := by decide +kernel
theorem dX8_waitLine_82 : decode cX8_waitLine 82 = .ok (.getfield 57, 3) := by decide +kernel
theorem dX8_waitLine_85 : decode cX8_waitLine 85 = .ok (.bipush 21, 2) := by decide +kernel
theorem dX8_waitLine_87 : decode cX8_waitLine 87 = .ok (.iload_n 2, 1) := by decide +kernel
theorem dX8_waitLine_88 : decode cX8_waitLine 88 = .ok (.iadd, 1) := by decide +kernel
theorem dX8_waitLine_89 : decode cX8_waitLine 89 = .ok (.aload_n 0, 1) := by decide +kernel
theorem dX8_waitLine_90 : decode cX8_waitLine 90 = .ok (.getfield 221, 3) := by decide +kernel
theorem dX8_waitLine_93 : decode cX8_waitLine 93 = .ok (.iastore, 1) := by decide +kernel
theorem dX8_waitLine_94 : decode cX8_waitLine 94 = .ok (.aload_n 0, 1) := by decide +kernel
theorem dX8_waitLine_95 : decode cX8_waitLine 95 = .ok (.dup, 1) := by decide +kernel
theorem dX8_waitLine_96 : decode cX8_waitLine 96 = .ok (.getfield 246, 3) := by decide +kernel
theorem dX8_waitLine_99 : decode cX8_waitLine 99 = .ok (.iconst 1, 1) := by decide +kernel
theorem dX8_waitLine_100 : decode cX8_waitLine 100 = .ok (.iadd, 1) := by decide +kernel
theorem dX8_waitLine_101 : decode cX8_waitLine 101 = .ok (.putfield 246, 3) := by decide +kernel
theorem dX8_waitLine_104 : decode cX8_waitLine 104 = .ok (.iconst 1, 1) := by decide +kernel
theorem dX8_waitLine_105 : decode cX8_waitLine 105 = .ok (.ireturn, 1) := by decide +kernel
theorem dX8_isOnce_0 : decode cX8_isOnce 0 = .ok (.aload_n 0, 1) := by decide +kernel
theorem dX8_isOnce_1 : decode cX8_isOnce 1 = .ok (.getfield 20, 3) := by decide +kernel
theorem dX8_isOnce_4 : decode cX8_isOnce 4 = .ok (.iload_n 1, 1) := by decide +kernel
theorem dX8_isOnce_5 : decode cX8_isOnce 5 = .ok (.baload, 1) := by decide +kernel
theorem dX8_isOnce_6 : decode cX8_isOnce 6 = .ok (.ifCond .eq 9, 3) := by decide +kernel
theorem dX8_isOnce_9 : decode cX8_isOnce 9 = .ok (.aload_n 0, 1) := by decide +kernel
theorem dX8_isOnce_10 : decode cX8_isOnce 10 = .ok (.iconst 3, 1) := by decide +kernel
theorem dX8_isOnce_11 : decode cX8_isOnce 11 = .ok (.invokevirtual 214, 3) := by decide +kernel
theorem dX8_isOnce_14 : decode cX8_isOnce 14 = .ok (.ireturn, 1) := by decide +kernel
theorem dX8_isOnce_15 : decode cX8_isOnce 15 = .ok (.aload_n 0, 1) := by decide +kernel
theorem dX8_isOnce_16 : decode cX8_isOnce 16 = .ok (.getfield 20, 3) := by decide +kernel
theorem dX8_isOnce_19 : decode cX8_isOnce 19 = .ok (.iload_n 1, 1) := by decide +kernel
theorem dX8_isOnce_20 : decode cX8_isOnce 20 = .ok (.iconst 1, 1) := by decide +kernel
theorem dX8_isOnce_21 : decode cX8_isOnce 21 = .ok (.bastore, 1) := by decide +kernel
theorem dX8_isOnce_22 : decode cX8_isOnce 22 = .ok (.aload_n 0, 1) := by decide +kernel
theorem dX8_isOnce_23 : decode cX8_isOnce 23 = .ok (.invokevirtual 224, 3) := by decide +kernel
theorem dX8_isOnce_26 : decode cX8_isOnce 26 = .ok (.iconst 1, 1) := by decide +kernel
theorem dX8_isOnce_27 : decode cX8_isOnce 27 = .ok (.ireturn, 1) := by decide +kernel
theorem dX8_lineRead_0 : decode cX8_lineRead 0 = .ok (.aload_n 0, 1) := by decide +kernel
theorem dX8_lineRead_1 : decode cX8_lineRead 1 = .ok (.getfield 190, 3) := by decide +kernel
theorem dX8_lineRead_4 : decode cX8_lineRead 4 = .ok (.iconst 1, 1) := by decide +kernel
theorem dX8_lineRead_5 : decode cX8_lineRead 5 = .ok (.if_icmp .ne 12, 3) := by decide +kernel
theorem dX8_lineRead_8 : decode cX8_lineRead 8 = .ok (.aload_n 0, 1) := by decide +kernel
theorem dX8_lineRead_9 : decode cX8_lineRead 9 = .ok (.getfield 201, 3) := by decide +kernel
theorem dX8_lineRead_12 : decode cX8_lineRead 12 = .ok (.bipush 7, 2) := by decide +kernel
theorem dX8_lineRead_14 : decode cX8_lineRead 14 = .ok (.if_icmp .le 9, 3) := by decide +kernel
theorem dX8_lineRead_17 : decode cX8_lineRead 17 = .ok (.aload_n 0, 1) := by decide +kernel
theorem dX8_lineRead_18 : decode cX8_lineRead 18 = .ok (.iconst 1, 1) := by decide +kernel
theorem dX8_lineRead_19 : decode cX8_lineRead 19 = .ok (.invokevirtual 214, 3) := by decide +kernel
theorem dX8_lineRead_22 : decode cX8_lineRead 22 = .ok (.ireturn, 1) := by decide +kernel
theorem dX8_lineRead_23 : decode cX8_lineRead 23 = .ok (.aload_n 0, 1) := by decide +kernel
theorem dX8_lineRead_24 : decode cX8_lineRead 24 = .ok (.getfield 201, 3) := by decide +kernel
theorem dX8_lineRead_27 : decode cX8_lineRead 27 = .ok (.tableswitch 219 0 6 #[41, 49, 57, 65, 73, 137, 178], 41) := by decide +kernel
theorem dX8_lineRead_68 : decode cX8_lineRead 68 = .ok (.aload_n 0, 1) := by decide +kernel
theorem dX8_lineRead_69 : decode cX8_lineRead 69 = .ok (.invokevirtual 275, 3) := by decide +kernel
theorem dX8_lineRead_72 : decode cX8_lineRead 72 = .ok (.istore_n 1, 1) := by decide +kernel
theorem dX8_lineRead_73 : decode cX8_lineRead 73 = .ok (.goto 270, 3) := by decide +kernel
theorem dX8_lineRead_76 : decode cX8_lineRead 76 = .ok (.aload_n 0, 1) := by decide +kernel
theorem dX8_lineRead_77 : decode cX8_lineRead 77 = .ok (.invokevirtual 279, 3) := by decide +kernel
theorem dX8_lineRead_80 : decode cX8_lineRead 80 = .ok (.istore_n 1, 1) := by decide +kernel
theorem dX8_lineRead_81 : decode cX8_lineRead 81 = .ok (.goto 262, 3) := by decide +kernel
theorem dX8_lineRead_84 : decode cX8_lineRead 84 = .ok (.aload_n 0, 1) := by decide +kernel
theorem dX8_lineRead_85 : decode cX8_lineRead 85 = .ok (.invokevirtual 282, 3) := by decide +kernel
theorem dX8_lineRead_88 : decode cX8_lineRead 88 = .ok (.istore_n 1, 1) := by decide +kernel
theorem dX8_lineRead_89 : decode cX8_lineRead 89 = .ok (.goto 254, 3) := by decide +kernel
theorem dX8_lineRead_92 : decode cX8_lineRead 92 = .ok (.aload_n 0, 1) := by decide +kernel
theorem dX8_lineRead_93 : decode cX8_lineRead 93 = .ok (.invokevirtual 285, 3) := by decide +kernel
theorem dX8_lineRead_96 : decode cX8_lineRead 96 = .ok (.istore_n 1, 1) := by decide +kernel
theorem dX8_lineRead_97 : decode cX8_lineRead 97 = .ok (.goto 246, 3) := by decide +kernel
theorem dX8_lineRead_100 : decode cX8_lineRead 100 = .ok (.aload_n 0, 1) := by decide +kernel
theorem dX8_lineRead_101 : decode cX8_lineRead 101 = .ok (.iconst 0, 1) := by decide +kernel
theorem dX8_lineRead_102 : decode cX8_lineRead 102 = .ok (.invokevirtual 288, 3) := by decide +kernel
theorem dX8_lineRead_105 : decode cX8_lineRead 105 = .ok (.ifCond .ne 5, 3) := by decide +kernel
theorem dX8_lineRead_108 : decode cX8_lineRead 108 = .ok (.iconst 0, 1) := by decide +kernel
theorem dX8_lineRead_109 : decode cX8_lineRead 109 = .ok (.ireturn, 1) := by decide +kernel
theorem dX8_lineRead_110 : decode cX8_lineRead 110 = .ok (.aload_n 0, 1) := by decide +kernel
theorem dX8_lineRead_111 : decode cX8_lineRead 111 = .ok (.getfield 190, 3) := by decide +kernel
theorem dX8_lineRead_114 : decode cX8_lineRead 114 = .ok (.iconst 1, 1) := by decide +kernel
theorem dX8_lineRead_115 : decode cX8_lineRead 115 = .ok (.if_icmp .ne 21, 3) := by decide +kernel
theorem dX8_lineRead_118 : decode cX8_lineRead 118 = .ok (.aload_n 0, 1) := by decide +kernel
theorem dX8_lineRead_119 : decode cX8_lineRead 119 = .ok (.getfield 201, 3) := by decide +kernel
theorem dX8_lineRead_122 : decode cX8_lineRead 122 = .ok (.bipush 13, 2) := by decide +kernel
theorem dX8_lineRead_124 : decode cX8_lineRead 124 = .ok (.if_icmp .lt 12, 3) := by decide +kernel
theorem dX8_lineRead_127 : decode cX8_lineRead 127 = .ok (.aload_n 0, 1) := by decide +kernel
theorem dX8_lineRead_128 : decode cX8_lineRead 128 = .ok (.getfield 201, 3) := by decide +kernel
theorem dX8_lineRead_131 : decode cX8_lineRead 131 = .ok (.bipush 15, 2) := by decide +kernel
theorem dX8_lineRead_133 : decode cX8_lineRead 133 = .ok (.if_icmp .le 9, 3) := by decide +kernel
theorem dX8_lineRead_136 : decode cX8_lineRead 136 = .ok (.aload_n 0, 1) := by decide +kernel
theorem dX8_lineRead_137 : decode cX8_lineRead 137 = .ok (.iconst 1, 1) := by decide +kernel
theorem dX8_lineRead_138 : decode cX8_lineRead 138 = .ok (.invokevirtual 214, 3) := by decide +kernel
theorem dX8_lineRead_141 : decode cX8_lineRead 141 = .ok (.ireturn, 1) := by decide +kernel
theorem dX8_lineRead_142 : decode cX8_lineRead 142 = .ok (.aload_n 0, 1) := by decide +kernel
theorem dX8_lineRead_143 : decode cX8_lineRead 143 = .ok (.getfield 24, 3) := by decide +kernel
theorem dX8_lineRead_146 : decode cX8_lineRead 146 = .ok (.iconst 3, 1) := by decide +kernel
theorem dX8_lineRead_147 : decode cX8_lineRead 147 = .ok (.aload_n 0, 1) := by decide +kernel
theorem dX8_lineRead_148 : decode cX8_lineRead 148 = .ok (.getfield 201, 3) := by decide +kernel
theorem dX8_lineRead_151 : decode cX8_lineRead 151 = .ok (.bipush 13, 2) := by decide +kernel
theorem dX8_lineRead_153 : decode cX8_lineRead 153 = .ok (.isub, 1) := by decide +kernel
theorem dX8_lineRead_154 : decode cX8_lineRead 154 = .ok (.iastore, 1) := by decide +kernel
theorem dX8_lineRead_155 : decode cX8_lineRead 155 = .ok (.aload_n 0, 1) := by decide +kernel
theorem dX8_lineRead_156 : decode cX8_lineRead 156 = .ok (.invokevirtual 224, 3) := by decide +kernel
theorem dX8_lineRead_159 : decode cX8_lineRead 159 = .ok (.iconst 1, 1) := by decide +kernel
theorem dX8_lineRead_160 : decode cX8_lineRead 160 = .ok (.istore_n 1, 1) := by decide +kernel
theorem dX8_lineRead_161 : decode cX8_lineRead 161 = .ok (.goto 182, 3) := by decide +kernel
theorem dX8_lineRead_164 : decode cX8_lineRead 164 = .ok (.aload_n 0, 1) := by decide +kernel
theorem dX8_lineRead_165 : decode cX8_lineRead 165 = .ok (.iconst 1, 1) := by decide +kernel
theorem dX8_lineRead_166 : decode cX8_lineRead 166 = .ok (.invokevirtual 288, 3) := by decide +kernel
theorem dX8_lineRead_169 : decode cX8_lineRead 169 = .ok (.ifCond .eq 17, 3) := by decide +kernel
theorem dX8_lineRead_172 : decode cX8_lineRead 172 = .ok (.aload_n 0, 1) := by decide +kernel
theorem dX8_lineRead_173 : decode cX8_lineRead 173 = .ok (.iconst 0, 1) := by decide +kernel
theorem dX8_lineRead_174 : decode cX8_lineRead 174 = .ok (.bipush 99, 2) := by decide +kernel
theorem dX8_lineRead_176 : decode cX8_lineRead 176 = .ok (.invokevirtual 230, 3) := by decide +kernel
theorem dX8_lineRead_179 : decode cX8_lineRead 179 = .ok (.ifCond .eq 7, 3) := by decide +kernel
theorem dX8_lineRead_182 : decode cX8_lineRead 182 = .ok (.iconst 1, 1) := by decide +kernel
theorem dX8_lineRead_183 : decode cX8_lineRead 183 = .ok (.goto 4, 3) := by decide +kernel
theorem dX8_lineRead_186 : decode cX8_lineRead 186 = .ok (.iconst 0, 1) := by decide +kernel
theorem dX8_lineRead_187 : decode cX8_lineRead 187 = .ok (.istore_n 1, 1) := by decide +kernel
theorem dX8_lineRead_188 : decode cX8_lineRead 188 = .ok (.iload_n 1, 1) := by decide +kernel
theorem dX8_lineRead_189 : decode cX8_lineRead 189 = .ok (.ifCond .eq 154, 3) := by decide +kernel
theorem dX8_lineRead_192 : decode cX8_lineRead 192 = .ok (.aload_n 0, 1) := by decide +kernel
theorem dX8_lineRead_193 : decode cX8_lineRead 193 = .ok (.getfield 24, 3) := by decide +kernel
theorem dX8_lineRead_196 : decode cX8_lineRead 196 = .ok (.iconst 4, 1) := by decide +kernel
theorem dX8_lineRead_197 : decode cX8_lineRead 197 = .ok (.aload_n 0, 1) := by decide +kernel
theorem dX8_lineRead_198 : decode cX8_lineRead 198 = .ok (.getfield 221, 3) := by decide +kernel
theorem dX8_lineRead_201 : decode cX8_lineRead 201 = .ok (.iastore, 1) := by decide +kernel
theorem dX8_lineRead_202 : decode cX8_lineRead 202 = .ok (.goto 141, 3) := by decide +kernel
theorem dX8_lineRead_205 : decode cX8_lineRead 205 = .ok (.aload_n 0, 1) := by decide +kernel
theorem dX8_lineRead_206 : decode cX8_lineRead 206 = .ok (.iconst 2, 1) := by decide +kernel
theorem dX8_lineRead_207 : decode cX8_lineRead 207 = .ok (.invokevirtual 288, 3) := by decide +kernel
theorem dX8_lineRead_210 : decode cX8_lineRead 210 = .ok (.ifCond .eq 17, 3) := by decide +kernel
theorem dX8_lineRead_213 : decode cX8_lineRead 213 = .ok (.aload_n 0, 1) := by decide +kernel
theorem dX8_lineRead_214 : decode cX8_lineRead 214 = .ok (.iconst 0, 1) := by decide +kernel
theorem dX8_lineRead_215 : decode cX8_lineRead 215 = .ok (.ldc 210, 2) := by decide +kernel
theorem dX8_lineRead_217 : decode cX8_lineRead 217 = .ok (.invokevirtual 230, 3) := by decide +kernel
theorem dX8_lineRead_220 : decode cX8_lineRead 220 = .ok (.ifCond .eq 7, 3) := by decide +kernel
theorem dX8_lineRead_223 : decode cX8_lineRead 223 = .ok (.iconst 1, 1) := by decide +kernel
theorem dX8_lineRead_224 : decode cX8_lineRead 224 = .ok (.goto 4, 3) := by decide +kernel
theorem dX8_lineRead_227 : decode cX8_lineRead 227 = .ok (.iconst 0, 1) := by decide +kernel
theorem dX8_lineRead_228 : decode cX8_lineRead 228 = .ok (.istore_n 1, 1) := by decide +kernel
theorem dX8_lineRead_229 : decode cX8_lineRead 229 = .ok (.iload_n 1, 1) := by decide +kernel
theorem dX8_lineRead_230 : decode cX8_lineRead 230 = .ok (.ifCond .eq 113, 3) := by decide +kernel
theorem dX8_lineRead_233 : decode cX8_lineRead 233 = .ok (.aload_n 0, 1) := by decide +kernel
theorem dX8_lineRead_234 : decode cX8_lineRead 234 = .ok (.getfield 24, 3) := by decide +kernel
theorem dX8_lineRead_237 : decode cX8_lineRead 237 = .ok (.iconst 5, 1) := by decide +kernel
theorem dX8_lineRead_238 : decode cX8_lineRead 238 = .ok (.aload_n 0, 1) := by decide +kernel
theorem dX8_lineRead_239 : decode cX8_lineRead 239 = .ok (.getfield 221, 3) := by decide +kernel
theorem dX8_lineRead_242 : decode cX8_lineRead 242 = .ok (.iastore, 1) := by decide +kernel
theorem dX8_lineRead_243 : decode cX8_lineRead 243 = .ok (.goto 100, 3) := by decide +kernel
theorem dX8_lineRead_246 : decode cX8_lineRead 246 = .ok (.aload_n 0, 1) := by decide +kernel
theorem dX8_lineRead_247 : decode cX8_lineRead 247 = .ok (.invokevirtual 224, 3) := by decide +kernel
theorem dX8_lineRead_250 : decode cX8_lineRead 250 = .ok (.aload_n 0, 1) := by decide +kernel
theorem dX8_lineRead_251 : decode cX8_lineRead 251 = .ok (.getfield 190, 3) := by decide +kernel
theorem dX8_lineRead_254 : decode cX8_lineRead 254 = .ok (.iconst 1, 1) := by decide +kernel
theorem dX8_lineRead_255 : decode cX8_lineRead 255 = .ok (.if_icmp .ne 21, 3) := by decide +kernel
theorem dX8_lineRead_258 : decode cX8_lineRead 258 = .ok (.aload_n 0, 1) := by decide +kernel
theorem dX8_lineRead_259 : decode cX8_lineRead 259 = .ok (.getfield 201, 3) := by decide +kernel
theorem dX8_lineRead_262 : decode cX8_lineRead 262 = .ok (.bipush 16, 2) := by decide +kernel
theorem dX8_lineRead_264 : decode cX8_lineRead 264 = .ok (.if_icmp .lt 12, 3) := by decide +kernel
theorem dX8_lineRead_267 : decode cX8_lineRead 267 = .ok (.aload_n 0, 1) := by decide +kernel
theorem dX8_lineRead_268 : decode cX8_lineRead 268 = .ok (.getfield 201, 3) := by decide +kernel
theorem dX8_lineRead_271 : decode cX8_lineRead 271 = .ok (.bipush 18, 2) := by decide +kernel
theorem dX8_lineRead_273 : decode cX8_lineRead 273 = .ok (.if_icmp .le 9, 3) := by decide +kernel
theorem dX8_lineRead_276 : decode cX8_lineRead 276 = .ok (.aload_n 0, 1) := by decide +kernel
theorem dX8_lineRead_277 : decode cX8_lineRead 277 = .ok (.iconst 1, 1) := by decide +kernel
theorem dX8_lineRead_278 : decode cX8_lineRead 278 = .ok (.invokevirtual 214, 3) := by decide +kernel
theorem dX8_lineRead_281 : decode cX8_lineRead 281 = .ok (.ireturn, 1) := by decide +kernel
theorem dX8_lineRead_282 : decode cX8_lineRead 282 = .ok (.iconst 3, 1) := by decide +kernel
theorem dX8_lineRead_283 : decode cX8_lineRead 283 = .ok (.aload_n 0, 1) := by decide +kernel
theorem dX8_lineRead_284 : decode cX8_lineRead 284 = .ok (.getfield 201, 3) := by decide +kernel
theorem dX8_lineRead_287 : decode cX8_lineRead 287 = .ok (.iadd, 1) := by decide +kernel
theorem dX8_lineRead_288 : decode cX8_lineRead 288 = .ok (.bipush 16, 2) := by decide +kernel
theorem dX8_lineRead_290 : decode cX8_lineRead 290 = .ok (.isub, 1) := by decide +kernel
theorem dX8_lineRead_291 : decode cX8_lineRead 291 = .ok (.istore_n 2, 1) := by decide +kernel
theorem dX8_lineRead_292 : decode cX8_lineRead 292 = .ok (.aload_n 0, 1) := by decide +kernel
theorem dX8_lineRead_293 : decode cX8_lineRead 293 = .ok (.getfield 63, 3) := by decide +kernel
theorem dX8_lineRead_296 : decode cX8_lineRead 296 = .ok (.iload_n 2, 1) := by decide +kernel
theorem dX8_lineRead_297 : decode cX8_lineRead 297 = .ok (.baload, 1) := by decide +kernel
theorem dX8_lineRead_298 : decode cX8_lineRead 298 = .ok (.ifCond .eq 9, 3) := by decide +kernel
theorem dX8_lineRead_301 : decode cX8_lineRead 301 = .ok (.aload_n 0, 1) := by decide +kernel
theorem dX8_lineRead_302 : decode cX8_lineRead 302 = .ok (.iconst 3, 1) := by decide +kernel
theorem dX8_lineRead_303 : decode cX8_lineRead 303 = .ok (.invokevirtual 214, 3) := by decide +kernel
theorem dX8_lineRead_306 : decode cX8_lineRead 306 = .ok (.ireturn, 1) := by decide +kernel
theorem dX8_lineRead_307 : decode cX8_lineRead 307 = .ok (.aload_n 0, 1) := by decide +kernel
theorem dX8_lineRead_308 : decode cX8_lineRead 308 = .ok (.getfield 63, 3) := by decide +kernel
theorem dX8_lineRead_311 : decode cX8_lineRead 311 = .ok (.iload_n 2, 1) := by decide +kernel
theorem dX8_lineRead_312 : decode cX8_lineRead 312 = .ok (.iconst 1, 1) := by decide +kernel
theorem dX8_lineRead_313 : decode cX8_lineRead 313 = .ok (.bastore, 1) := by decide +kernel
theorem dX8_lineRead_314 : decode cX8_lineRead 314 = .ok (.aload_n 0, 1) := by decide +kernel
theorem dX8_lineRead_315 : decode cX8_lineRead 315 = .ok (.invokevirtual 224, 3) := by decide +kernel
theorem dX8_lineRead_318 : decode cX8_lineRead 318 = .ok (.aload_n 0, 1) := by decide +kernel
theorem dX8_lineRead_319 : decode cX8_lineRead 319 = .ok (.getfield 66, 3) := by decide +kernel
theorem dX8_lineRead_322 : decode cX8_lineRead 322 = .ok (.iload_n 2, 1) := by decide +kernel
theorem dX8_lineRead_323 : decode cX8_lineRead 323 = .ok (.aload_n 0, 1) := by decide +kernel
theorem dX8_lineRead_324 : decode cX8_lineRead 324 = .ok (.getfield 243, 3) := by decide +kernel
theorem dX8_lineRead_327 : decode cX8_lineRead 327 = .ok (.iastore, 1) := by decide +kernel
theorem dX8_lineRead_328 : decode cX8_lineRead 328 = .ok (.aload_n 0, 1) := by decide +kernel
theorem dX8_lineRead_329 : decode cX8_lineRead 329 = .ok (.invokevirtual 291, 3) := by decide +kernel
theorem dX8_lineRead_332 : decode cX8_lineRead 332 = .ok (.istore_n 1, 1) := by decide +kernel
theorem dX8_lineRead_333 : decode cX8_lineRead 333 = .ok (.aload_n 0, 1) := by decide +kernel
theorem dX8_lineRead_334 : decode cX8_lineRead 334 = .ok (.getfield 69, 3) := by decide +kernel
theorem dX8_lineRead_337 : decode cX8_lineRead 337 = .ok (.iload_n 2, 1) := by decide +kernel
theorem dX8_lineRead_338 : decode cX8_lineRead 338 = .ok (.aload_n 0, 1) := by decide +kernel
theorem dX8_lineRead_339 : decode cX8_lineRead 339 = .ok (.getfield 243, 3) := by decide +kernel
theorem dX8_lineRead_342 : decode cX8_lineRead 342 = .ok (.iastore, 1) := by decide +kernel
theorem dX8_lineRead_343 : decode cX8_lineRead 343 = .ok (.iload_n 1, 1) := by decide +kernel
theorem dX8_lineRead_344 : decode cX8_lineRead 344 = .ok (.ifCond .ne 5, 3) := by decide +kernel
theorem dX8_lineRead_347 : decode cX8_lineRead 347 = .ok (.iconst 0, 1) := by decide +kernel
theorem dX8_lineRead_348 : decode cX8_lineRead 348 = .ok (.ireturn, 1) := by decide +kernel
theorem dX8_lineRead_349 : decode cX8_lineRead 349 = .ok (.aload_n 0, 1) := by decide +kernel
theorem dX8_lineRead_350 : decode cX8_lineRead 350 = .ok (.bipush 59, 2) := by decide +kernel
theorem dX8_lineRead_352 : decode cX8_lineRead 352 = .ok (.invokevirtual 227, 3) := by decide +kernel
theorem dX8_lineRead_355 : decode cX8_lineRead 355 = .ok (.ifCond .ne 9, 3) := by decide +kernel
theorem dX8_lineRead_358 : decode cX8_lineRead 358 = .ok (.aload_n 0, 1) := by decide +kernel
theorem dX8_lineRead_359 : decode cX8_lineRead 359 = .ok (.iconst 1, 1) := by decide +kernel
theorem dX8_lineRead_360 : decode cX8_lineRead 360 = .ok (.invokevirtual 214, 3) := by decide +kernel
theorem dX8_lineRead_363 : decode cX8_lineRead 363 = .ok (.ireturn, 1) := by decide +kernel
theorem dX8_lineRead_364 : decode cX8_lineRead 364 = .ok (.aload_n 0, 1) := by decide +kernel
theorem dX8_lineRead_365 : decode cX8_lineRead 365 = .ok (.invokevirtual 224, 3) := by decide +kernel
theorem dX8_lineRead_368 : decode cX8_lineRead 368 = .ok (.iconst 1, 1) := by decide +kernel
theorem dX8_lineRead_369 : decode cX8_lineRead 369 = .ok (.ireturn, 1) := by decide +kernel
theorem dX8_text_0 : decode cX8_text 0 = .ok (.aload_n 0, 1) := by decide +kernel
theorem dX8_text_1 : decode cX8_text 1 = .ok (.iconst 0, 1) := by decide +kernel
theorem dX8_text_2 : decode cX8_text 2 = .ok (.putfield 172, 3) := by decide +kernel
theorem dX8_text_5 : decode cX8_text 5 = .ok (.iload_n 1, 1) := by decide +kernel
theorem dX8_text_6 : decode cX8_text 6 = .ok (.ifCond .lt 11, 3) := by decide +kernel
theorem dX8_text_9 : decode cX8_text 9 = .ok (.iload_n 1, 1) := by decide +kernel
theorem dX8_text_10 : decode cX8_text 10 = .ok (.aload_n 0, 1) := by decide +kernel
theorem dX8_text_11 : decode cX8_text 11 = .ok (.getfield 175, 3) := by decide +kernel
theorem dX8_text_14 : decode cX8_text 14 = .ok (.if_icmp .le 6, 3) := by decide +kernel
theorem dX8_text_17 : decode cX8_text 17 = .ok (.bipush (-2), 2) := by decide +kernel
theorem dX8_text_19 : decode cX8_text 19 = .ok (.ireturn, 1) := by decide +kernel
theorem dX8_text_20 : decode cX8_text 20 = .ok (.aload_n 0, 1) := by decide +kernel
theorem dX8_text_21 : decode cX8_text 21 = .ok (.iload_n 1, 1) := by decide +kernel
theorem dX8_text_22 : decode cX8_text 22 = .ok (.putfield 184, 3) := by decide +kernel
theorem dX8_text_25 : decode cX8_text 25 = .ok (.aload_n 0, 1) := by decide +kernel
theorem dX8_text_26 : decode cX8_text 26 = .ok (.iconst 0, 1) := by decide +kernel
theorem dX8_text_27 : decode cX8_text 27 = .ok (.putfield 175, 3) := by decide +kernel
theorem dX8_text_30 : decode cX8_text 30 = .ok (.aload_n 0, 1) := by decide +kernel
theorem dX8_text_31 : decode cX8_text 31 = .ok (.iconst 0, 1) := by decide +kernel
theorem dX8_text_32 : decode cX8_text 32 = .ok (.putfield 178, 3) := by decide +kernel
theorem dX8_text_35 : decode cX8_text 35 = .ok (.aload_n 0, 1) := by decide +kernel
theorem dX8_text_36 : decode cX8_text 36 = .ok (.iconst (-1), 1) := by decide +kernel
theorem dX8_text_37 : decode cX8_text 37 = .ok (.putfield 16, 3) := by decide +kernel
theorem dX8_text_40 : decode cX8_text 40 = .ok (.aload_n 0, 1) := by decide +kernel
theorem dX8_text_41 : decode cX8_text 41 = .ok (.iconst 0, 1) := by decide +kernel
theorem dX8_text_42 : decode cX8_text 42 = .ok (.putfield 187, 3) := by decide +kernel
theorem dX8_text_45 : decode cX8_text 45 = .ok (.aload_n 0, 1) := by decide +kernel
theorem dX8_text_46 : decode cX8_text 46 = .ok (.invokevirtual 166, 3) := by decide +kernel
theorem dX8_text_49 : decode cX8_text 49 = .ok (.aload_n 0, 1) := by decide +kernel
theorem dX8_text_50 : decode cX8_text 50 = .ok (.invokevirtual 224, 3) := by decide +kernel
theorem dX8_text_53 : decode cX8_text 53 = .ok (.iconst 0, 1) := by decide +kernel
theorem dX8_text_54 : decode cX8_text 54 = .ok (.istore_n 2, 1) := by decide +kernel
theorem dX8_text_55 : decode cX8_text 55 = .ok (.aload_n 0, 1) := by decide +kernel
theorem dX8_text_56 : decode cX8_text 56 = .ok (.getfield 190, 3) := by decide +kernel
theorem dX8_text_59 : decode cX8_text 59 = .ok (.ifCond .eq 18, 3) := by decide +kernel
theorem dX8_text_62 : decode cX8_text 62 = .ok (.aload_n 0, 1) := by decide +kernel
theorem dX8_text_63 : decode cX8_text 63 = .ok (.invokevirtual 294, 3) := by decide +kernel
theorem dX8_text_66 : decode cX8_text 66 = .ok (.ifCond .ne 5, 3) := by decide +kernel
theorem dX8_text_69 : decode cX8_text 69 = .ok (.iconst (-1), 1) := by decide +kernel
theorem dX8_text_70 : decode cX8_text 70 = .ok (.ireturn, 1) := by decide +kernel
theorem dX8_text_71 : decode cX8_text 71 = .ok (.iinc 2 1, 3) := by decide +kernel
theorem dX8_text_74 : decode cX8_text 74 = .ok (.goto (-19), 3) := by decide +kernel
theorem dX8_text_77 : decode cX8_text 77 = .ok (.aload_n 0, 1) := by decide +kernel
theorem dX8_text_78 : decode cX8_text 78 = .ok (.invokevirtual 169, 3) := by decide +kernel
theorem dX8_text_81 : decode cX8_text 81 = .ok (.iload_n 2, 1) := by decide +kernel
theorem dX8_text_82 : decode cX8_text 82 = .ok (.ireturn, 1) := by decide +kernel
theorem dX8_fault_0 : decode cX8_fault 0 = .ok (.aload_n 0, 1) := by decide +kernel
theorem dX8_fault_1 : decode cX8_fault 1 = .ok (.iconst 0, 1) := by decide +kernel
theorem dX8_fault_2 : decode cX8_fault 2 = .ok (.putfield 172, 3) := by decide +kernel
theorem dX8_fault_5 : decode cX8_fault 5 = .ok (.iload_n 1, 1) := by decide +kernel
theorem dX8_fault_6 : decode cX8_fault 6 = .ok (.ifCond .ne 10, 3) := by decide +kernel
theorem dX8_fault_9 : decode cX8_fault 9 = .ok (.aload_n 0, 1) := by decide +kernel
theorem dX8_fault_10 : decode cX8_fault 10 = .ok (.getfield 178, 3) := by decide +kernel
theorem dX8_fault_13 : decode cX8_fault 13 = .ok (.goto 16, 3) := by decide +kernel
theorem dX8_fault_16 : decode cX8_fault 16 = .ok (.iload_n 1, 1) := by decide +kernel
theorem dX8_fault_17 : decode cX8_fault 17 = .ok (.iconst 1, 1) := by decide +kernel
theorem dX8_fault_18 : decode cX8_fault 18 = .ok (.if_icmp .ne 10, 3) := by decide +kernel
theorem dX8_fault_21 : decode cX8_fault 21 = .ok (.aload_n 0, 1) := by decide +kernel
theorem dX8_fault_22 : decode cX8_fault 22 = .ok (.getfield 16, 3) := by decide +kernel
theorem dX8_fault_25 : decode cX8_fault 25 = .ok (.goto 4, 3) := by decide +kernel
theorem dX8_fault_28 : decode cX8_fault 28 = .ok (.iconst (-1), 1) := by decide +kernel
theorem dX8_fault_29 : decode cX8_fault 29 = .ok (.ireturn, 1) := by decide +kernel
theorem dX8_named_0 : decode cX8_named 0 = .ok (.aload_n 0, 1) := by decide +kernel
theorem dX8_named_1 : decode cX8_named 1 = .ok (.iconst 0, 1) := by decide +kernel
theorem dX8_named_2 : decode cX8_named 2 = .ok (.putfield 172, 3) := by decide +kernel
theorem dX8_named_5 : decode cX8_named 5 = .ok (.aload_n 0, 1) := by decide +kernel
theorem dX8_named_6 : decode cX8_named 6 = .ok (.getfield 33, 3) := by decide +kernel
theorem dX8_named_9 : decode cX8_named 9 = .ok (.iconst 0, 1) := by decide +kernel
theorem dX8_named_10 : decode cX8_named 10 = .ok (.aload_n 0, 1) := by decide +kernel
theorem dX8_named_11 : decode cX8_named 11 = .ok (.getfield 255, 3) := by decide +kernel
theorem dX8_named_14 : decode cX8_named 14 = .ok (.iload_n 1, 1) := by decide +kernel
theorem dX8_named_15 : decode cX8_named 15 = .ok (.invokestatic 271, 3) := by decide +kernel
theorem dX8_named_18 : decode cX8_named 18 = .ok (.ireturn, 1) := by decide +kernel
theorem dX8_rank_0 : decode cX8_rank 0 = .ok (.iload_n 0, 1) := by decide +kernel
theorem dX8_rank_1 : decode cX8_rank 1 = .ok (.bipush 13, 2) := by decide +kernel
theorem dX8_rank_3 : decode cX8_rank 3 = .ok (.if_icmp .lt 8, 3) := by decide +kernel
theorem dX8_rank_6 : decode cX8_rank 6 = .ok (.bipush 6, 2) := by decide +kernel
theorem dX8_rank_8 : decode cX8_rank 8 = .ok (.goto 50, 3) := by decide +kernel
theorem dX8_rank_11 : decode cX8_rank 11 = .ok (.iload_n 0, 1) := by decide +kernel
theorem dX8_rank_12 : decode cX8_rank 12 = .ok (.bipush 11, 2) := by decide +kernel
theorem dX8_rank_14 : decode cX8_rank 14 = .ok (.if_icmp .lt 7, 3) := by decide +kernel
theorem dX8_rank_17 : decode cX8_rank 17 = .ok (.iconst 5, 1) := by decide +kernel
theorem dX8_rank_18 : decode cX8_rank 18 = .ok (.goto 40, 3) := by decide +kernel
theorem dX8_rank_21 : decode cX8_rank 21 = .ok (.iload_n 0, 1) := by decide +kernel
theorem dX8_rank_22 : decode cX8_rank 22 = .ok (.iconst 5, 1) := by decide +kernel
theorem dX8_rank_23 : decode cX8_rank 23 = .ok (.if_icmp .lt 7, 3) := by decide +kernel
theorem dX8_rank_26 : decode cX8_rank 26 = .ok (.iconst 4, 1) := by decide +kernel
theorem dX8_rank_27 : decode cX8_rank 27 = .ok (.goto 31, 3) := by decide +kernel
theorem dX8_rank_30 : decode cX8_rank 30 = .ok (.iload_n 0, 1) := by decide +kernel
theorem dX8_rank_31 : decode cX8_rank 31 = .ok (.iconst 2, 1) := by decide +kernel
theorem dX8_rank_32 : decode cX8_rank 32 = .ok (.if_icmp .ne 7, 3) := by decide +kernel
theorem dX8_rank_35 : decode cX8_rank 35 = .ok (.iconst 3, 1) := by decide +kernel
theorem dX8_rank_36 : decode cX8_rank 36 = .ok (.goto 22, 3) := by decide +kernel
theorem dX8_rank_39 : decode cX8_rank 39 = .ok (.iload_n 0, 1) := by decide +kernel
theorem dX8_rank_40 : decode cX8_rank 40 = .ok (.iconst 3, 1) := by decide +kernel
theorem dX8_rank_41 : decode cX8_rank 41 = .ok (.if_icmp .ne 7, 3) := by decide +kernel
theorem dX8_rank_44 : decode cX8_rank 44 = .ok (.iconst 2, 1) := by decide +kernel
theorem dX8_rank_45 : decode cX8_rank 45 = .ok (.goto 13, 3) := by decide +kernel
theorem dX8_rank_48 : decode cX8_rank 48 = .ok (.iload_n 0, 1) := by decide +kernel
theorem dX8_rank_49 : decode cX8_rank 49 = .ok (.iconst 4, 1) := by decide +kernel
theorem dX8_rank_50 : decode cX8_rank 50 = .ok (.if_icmp .ne 7, 3) := by decide +kernel
theorem dX8_rank_53 : decode cX8_rank 53 = .ok (.iconst 1, 1) := by decide +kernel
theorem dX8_rank_54 : decode cX8_rank 54 = .ok (.goto 4, 3) := by decide +kernel
theorem dX8_rank_57 : decode cX8_rank 57 = .ok (.iconst 0, 1) := by decide +kernel
theorem dX8_rank_58 : decode cX8_rank 58 = .ok (.ireturn, 1) := by decide +kernel
theorem dX8_grown_0 : decode cX8_grown 0 = .ok (.aload_n 0, 1) := by decide +kernel
theorem dX8_grown_1 : decode cX8_grown 1 = .ok (.getfield 72, 3) := by decide +kernel
theorem dX8_grown_4 : decode cX8_grown 4 = .ok (.bipush 64, 2) := by decide +kernel
theorem dX8_grown_6 : decode cX8_grown 6 = .ok (.aload_n 0, 1) := by decide +kernel
theorem dX8_grown_7 : decode cX8_grown 7 = .ok (.getfield 243, 3) := by decide +kernel
theorem dX8_grown_10 : decode cX8_grown 10 = .ok (.iadd, 1) := by decide +kernel
theorem dX8_grown_11 : decode cX8_grown 11 = .ok (.iload_n 1, 1) := by decide +kernel
theorem dX8_grown_12 : decode cX8_grown 12 = .ok (.iastore, 1) := by decide +kernel
theorem dX8_grown_13 : decode cX8_grown 13 = .ok (.aload_n 0, 1) := by decide +kernel
theorem dX8_grown_14 : decode cX8_grown 14 = .ok (.getfield 75, 3) := by decide +kernel
theorem dX8_grown_17 : decode cX8_grown 17 = .ok (.bipush 64, 2) := by decide +kernel
theorem dX8_grown_19 : decode cX8_grown 19 = .ok (.aload_n 0, 1) := by decide +kernel
theorem dX8_grown_20 : decode cX8_grown 20 = .ok (.getfield 243, 3) := by decide +kernel
theorem dX8_grown_23 : decode cX8_grown 23 = .ok (.iadd, 1) := by decide +kernel
theorem dX8_grown_24 : decode cX8_grown 24 = .ok (.iload_n 2, 1) := by decide +kernel
theorem dX8_grown_25 : decode cX8_grown 25 = .ok (.iastore, 1) := by decide +kernel
theorem dX8_grown_26 : decode cX8_grown 26 = .ok (.aload_n 0, 1) := by decide +kernel
theorem dX8_grown_27 : decode cX8_grown 27 = .ok (.getfield 78, 3) := by decide +kernel
theorem dX8_grown_30 : decode cX8_grown 30 = .ok (.bipush 64, 2) := by decide +kernel
theorem dX8_grown_32 : decode cX8_grown 32 = .ok (.aload_n 0, 1) := by decide +kernel
theorem dX8_grown_33 : decode cX8_grown 33 = .ok (.getfield 243, 3) := by decide +kernel
theorem dX8_grown_36 : decode cX8_grown 36 = .ok (.iadd, 1) := by decide +kernel
theorem dX8_grown_37 : decode cX8_grown 37 = .ok (.iload_n 3, 1) := by decide +kernel
theorem dX8_grown_38 : decode cX8_grown 38 = .ok (.iastore, 1) := by decide +kernel
theorem dX8_grown_39 : decode cX8_grown 39 = .ok (.aload_n 0, 1) := by decide +kernel
theorem dX8_grown_40 : decode cX8_grown 40 = .ok (.getfield 84, 3) := by decide +kernel
theorem dX8_grown_43 : decode cX8_grown 43 = .ok (.aload_n 0, 1) := by decide +kernel
theorem dX8_grown_44 : decode cX8_grown 44 = .ok (.getfield 297, 3) := by decide +kernel
theorem dX8_grown_47 : decode cX8_grown 47 = .ok (.aload_n 0, 1) := by decide +kernel
theorem dX8_grown_48 : decode cX8_grown 48 = .ok (.getfield 243, 3) := by decide +kernel
theorem dX8_grown_51 : decode cX8_grown 51 = .ok (.iastore, 1) := by decide +kernel
theorem dX8_grown_52 : decode cX8_grown 52 = .ok (.aload_n 0, 1) := by decide +kernel
theorem dX8_grown_53 : decode cX8_grown 53 = .ok (.dup, 1) := by decide +kernel
theorem dX8_grown_54 : decode cX8_grown 54 = .ok (.getfield 297, 3) := by decide +kernel
theorem dX8_grown_57 : decode cX8_grown 57 = .ok (.iconst 1, 1) := by decide +kernel
theorem dX8_grown_58 : decode cX8_grown 58 = .ok (.iadd, 1) := by decide +kernel
theorem dX8_grown_59 : decode cX8_grown 59 = .ok (.putfield 297, 3) := by decide +kernel
theorem dX8_grown_62 : decode cX8_grown 62 = .ok (.aload_n 0, 1) := by decide +kernel
theorem dX8_grown_63 : decode cX8_grown 63 = .ok (.dup, 1) := by decide +kernel
theorem dX8_grown_64 : decode cX8_grown 64 = .ok (.getfield 243, 3) := by decide +kernel
theorem dX8_grown_67 : decode cX8_grown 67 = .ok (.iconst 1, 1) := by decide +kernel
theorem dX8_grown_68 : decode cX8_grown 68 = .ok (.iadd, 1) := by decide +kernel
theorem dX8_grown_69 : decode cX8_grown 69 = .ok (.putfield 243, 3) := by decide +kernel
theorem dX8_grown_72 : decode cX8_grown 72 = .ok (.return_, 1) := by decide +kernel
theorem dX8_dropHeld_0 : decode cX8_dropHeld 0 = .ok (.aload_n 0, 1) := by decide +kernel
theorem dX8_dropHeld_1 : decode cX8_dropHeld 1 = .ok (.dup, 1) := by decide +kernel
theorem dX8_dropHeld_2 : decode cX8_dropHeld 2 = .ok (.getfield 297, 3) := by decide +kernel
theorem dX8_dropHeld_5 : decode cX8_dropHeld 5 = .ok (.iconst 1, 1) := by decide +kernel
theorem dX8_dropHeld_6 : decode cX8_dropHeld 6 = .ok (.isub, 1) := by decide +kernel
theorem dX8_dropHeld_7 : decode cX8_dropHeld 7 = .ok (.putfield 297, 3) := by decide +kernel
theorem dX8_dropHeld_10 : decode cX8_dropHeld 10 = .ok (.aload_n 0, 1) := by decide +kernel
theorem dX8_dropHeld_11 : decode cX8_dropHeld 11 = .ok (.getfield 84, 3) := by decide +kernel
theorem dX8_dropHeld_14 : decode cX8_dropHeld 14 = .ok (.aload_n 0, 1) := by decide +kernel
theorem dX8_dropHeld_15 : decode cX8_dropHeld 15 = .ok (.getfield 297, 3) := by decide +kernel
theorem dX8_dropHeld_18 : decode cX8_dropHeld 18 = .ok (.iaload, 1) := by decide +kernel
theorem dX8_dropHeld_19 : decode cX8_dropHeld 19 = .ok (.ireturn, 1) := by decide +kernel
theorem dX8_bind_0 : decode cX8_bind 0 = .ok (.aload_n 0, 1) := by decide +kernel
theorem dX8_bind_1 : decode cX8_bind 1 = .ok (.getfield 300, 3) := by decide +kernel
theorem dX8_bind_4 : decode cX8_bind 4 = .ok (.ifCond .le 72, 3) := by decide +kernel
theorem dX8_bind_7 : decode cX8_bind 7 = .ok (.aload_n 0, 1) := by decide +kernel
theorem dX8_bind_8 : decode cX8_bind 8 = .ok (.getfield 81, 3) := by decide +kernel
theorem dX8_bind_11 : decode cX8_bind 11 = .ok (.aload_n 0, 1) := by decide +kernel
theorem dX8_bind_12 : decode cX8_bind 12 = .ok (.getfield 300, 3) := by decide +kernel
theorem dX8_bind_15 : decode cX8_bind 15 = .ok (.iconst 1, 1) := by decide +kernel
theorem dX8_bind_16 : decode cX8_bind 16 = .ok (.isub, 1) := by decide +kernel
theorem dX8_bind_17 : decode cX8_bind 17 = .ok (.iaload, 1) := by decide +kernel
theorem dX8_bind_18 : decode cX8_bind 18 = .ok (.invokestatic 303, 3) := by decide +kernel
theorem dX8_bind_21 : decode cX8_bind 21 = .ok (.iload_n 1, 1) := by decide +kernel
theorem dX8_bind_22 : decode cX8_bind 22 = .ok (.if_icmp .lt 54, 3) := by decide +kernel
theorem dX8_bind_25 : decode cX8_bind 25 = .ok (.aload_n 0, 1) := by decide +kernel
theorem dX8_bind_26 : decode cX8_bind 26 = .ok (.dup, 1) := by decide +kernel
theorem dX8_bind_27 : decode cX8_bind 27 = .ok (.getfield 300, 3) := by decide +kernel
theorem dX8_bind_30 : decode cX8_bind 30 = .ok (.iconst 1, 1) := by decide +kernel
theorem dX8_bind_31 : decode cX8_bind 31 = .ok (.isub, 1) := by decide +kernel
theorem dX8_bind_32 : decode cX8_bind 32 = .ok (.putfield 300, 3) := by decide +kernel
theorem dX8_bind_35 : decode cX8_bind 35 = .ok (.aload_n 0, 1) := by decide +kernel
theorem dX8_bind_36 : decode cX8_bind 36 = .ok (.getfield 81, 3) := by decide +kernel
theorem dX8_bind_39 : decode cX8_bind 39 = .ok (.aload_n 0, 1) := by decide +kernel
theorem dX8_bind_40 : decode cX8_bind 40 = .ok (.getfield 300, 3) := by decide +kernel
theorem dX8_bind_43 : decode cX8_bind 43 = .ok (.iaload, 1) := by decide +kernel
theorem dX8_bind_44 : decode cX8_bind 44 = .ok (.istore_n 2, 1) := by decide +kernel
theorem dX8_bind_45 : decode cX8_bind 45 = .ok (.iload_n 2, 1) := by decide +kernel
theorem dX8_bind_46 : decode cX8_bind 46 = .ok (.iconst 2, 1) := by decide +kernel
theorem dX8_bind_47 : decode cX8_bind 47 = .ok (.if_icmp .ne 7, 3) := by decide +kernel
theorem dX8_bind_50 : decode cX8_bind 50 = .ok (.iconst (-1), 1) := by decide +kernel
theorem dX8_bind_51 : decode cX8_bind 51 = .ok (.goto 7, 3) := by decide +kernel
theorem dX8_bind_54 : decode cX8_bind 54 = .ok (.aload_n 0, 1) := by decide +kernel
theorem dX8_bind_55 : decode cX8_bind 55 = .ok (.invokevirtual 307, 3) := by decide +kernel
theorem dX8_bind_58 : decode cX8_bind 58 = .ok (.istore_n 3, 1) := by decide +kernel
theorem dX8_bind_59 : decode cX8_bind 59 = .ok (.aload_n 0, 1) := by decide +kernel
theorem dX8_bind_60 : decode cX8_bind 60 = .ok (.invokevirtual 307, 3) := by decide +kernel
theorem dX8_bind_63 : decode cX8_bind 63 = .ok (.istore 4, 2) := by decide +kernel
theorem dX8_bind_65 : decode cX8_bind 65 = .ok (.aload_n 0, 1) := by decide +kernel
theorem dX8_bind_66 : decode cX8_bind 66 = .ok (.iload_n 2, 1) := by decide +kernel
theorem dX8_bind_67 : decode cX8_bind 67 = .ok (.iload 4, 2) := by decide +kernel
theorem dX8_bind_69 : decode cX8_bind 69 = .ok (.iload_n 3, 1) := by decide +kernel
theorem dX8_bind_70 : decode cX8_bind 70 = .ok (.invokevirtual 311, 3) := by decide +kernel
theorem dX8_bind_73 : decode cX8_bind 73 = .ok (.goto (-73), 3) := by decide +kernel
theorem dX8_bind_76 : decode cX8_bind 76 = .ok (.return_, 1) := by decide +kernel
theorem dX8_isCounted_0 : decode cX8_isCounted 0 = .ok (.aload_n 0, 1) := by decide +kernel
theorem dX8_isCounted_1 : decode cX8_isCounted 1 = .ok (.getfield 249, 3) := by decide +kernel
theorem dX8_isCounted_4 : decode cX8_isCounted 4 = .ok (.bipush 64, 2) := by decide +kernel
theorem dX8_isCounted_6 : decode cX8_isCounted 6 = .ok (.if_icmp .ne 9, 3) := by decide +kernel
theorem dX8_isCounted_9 : decode cX8_isCounted 9 = .ok (.aload_n 0, 1) := by decide +kernel
theorem dX8_isCounted_10 : decode cX8_isCounted 10 = .ok (.iconst 2, 1) := by decide +kernel
theorem dX8_isCounted_11 : decode cX8_isCounted 11 = .ok (.invokevirtual 214, 3) := by decide +kernel
theorem dX8_isCounted_14 : decode cX8_isCounted 14 = .ok (.ireturn, 1) := by decide +kernel
theorem dX8_isCounted_15 : decode cX8_isCounted 15 = .ok (.aload_n 0, 1) := by decide +kernel
theorem dX8_isCounted_16 : decode cX8_isCounted 16 = .ok (.dup, 1) := by decide +kernel
theorem dX8_isCounted_17 : decode cX8_isCounted 17 = .ok (.getfield 249, 3) := by decide +kernel
theorem dX8_isCounted_20 : decode cX8_isCounted 20 = .ok (.iconst 1, 1) := by decide +kernel
theorem dX8_isCounted_21 : decode cX8_isCounted 21 = .ok (.iadd, 1) := by decide +kernel
theorem dX8_isCounted_22 : decode cX8_isCounted 22 = .ok (.putfield 249, 3) := by decide +kernel
theorem dX8_isCounted_25 : decode cX8_isCounted 25 = .ok (.iconst 1, 1) := by decide +kernel
theorem dX8_isCounted_26 : decode cX8_isCounted 26 = .ok (.ireturn, 1) := by decide +kernel
theorem dX8_waitsFor_0 : decode cX8_waitsFor 0 = .ok (.aload_n 0, 1) := by decide +kernel
theorem dX8_waitsFor_1 : decode cX8_waitsFor 1 = .ok (.getfield 81, 3) := by decide +kernel
theorem dX8_waitsFor_4 : decode cX8_waitsFor 4 = .ok (.aload_n 0, 1) := by decide +kernel
theorem dX8_waitsFor_5 : decode cX8_waitsFor 5 = .ok (.getfield 300, 3) := by decide +kernel
theorem dX8_waitsFor_8 : decode cX8_waitsFor 8 = .ok (.iload_n 1, 1) := by decide +kernel
theorem dX8_waitsFor_9 : decode cX8_waitsFor 9 = .ok (.iastore, 1) := by decide +kernel
theorem dX8_waitsFor_10 : decode cX8_waitsFor 10 = .ok (.aload_n 0, 1) := by decide +kernel
theorem dX8_waitsFor_11 : decode cX8_waitsFor 11 = .ok (.dup, 1) := by decide +kernel
theorem dX8_waitsFor_12 : decode cX8_waitsFor 12 = .ok (.getfield 300, 3) := by decide +kernel
theorem dX8_waitsFor_15 : decode cX8_waitsFor 15 = .ok (.iconst 1, 1) := by decide +kernel
theorem dX8_waitsFor_16 : decode cX8_waitsFor 16 = .ok (.iadd, 1) := by decide +kernel
theorem dX8_waitsFor_17 : decode cX8_waitsFor 17 = .ok (.putfield 300, 3) := by decide +kernel
theorem dX8_waitsFor_20 : decode cX8_waitsFor 20 = .ok (.return_, 1) := by decide +kernel
theorem dX8_nameMet_0 : decode cX8_nameMet 0 = .ok (.aload_n 0, 1) := by decide +kernel
theorem dX8_nameMet_1 : decode cX8_nameMet 1 = .ok (.getfield 190, 3) := by decide +kernel
theorem dX8_nameMet_4 : decode cX8_nameMet 4 = .ok (.iconst 1, 1) := by decide +kernel
theorem dX8_nameMet_5 : decode cX8_nameMet 5 = .ok (.if_icmp .ne 22, 3) := by decide +kernel
theorem dX8_nameMet_8 : decode cX8_nameMet 8 = .ok (.aload_n 0, 1) := by decide +kernel
theorem dX8_nameMet_9 : decode cX8_nameMet 9 = .ok (.getfield 201, 3) := by decide +kernel
theorem dX8_nameMet_12 : decode cX8_nameMet 12 = .ok (.bipush 22, 2) := by decide +kernel
theorem dX8_nameMet_14 : decode cX8_nameMet 14 = .ok (.if_icmp .lt 13, 3) := by decide +kernel
theorem dX8_nameMet_17 : decode cX8_nameMet 17 = .ok (.aload_n 0, 1) := by decide +kernel
theorem dX8_nameMet_18 : decode cX8_nameMet 18 = .ok (.getfield 201, 3) := by decide +kernel
theorem dX8_nameMet_21 : decode cX8_nameMet 21 = .ok (.bipush 22, 2) := by decide +kernel
theorem dX8_nameMet_23 : decode cX8_nameMet 23 = .ok (.isub, 1) := by decide +kernel
theorem dX8_nameMet_24 : decode cX8_nameMet 24 = .ok (.goto 4, 3) := by decide +kernel
theorem dX8_nameMet_27 : decode cX8_nameMet 27 = .ok (.iconst (-1), 1) := by decide +kernel
theorem dX8_nameMet_28 : decode cX8_nameMet 28 = .ok (.ireturn, 1) := by decide +kernel
theorem dX8_leafRead_0 : decode cX8_leafRead 0 = .ok (.aload_n 0, 1) := by decide +kernel
theorem dX8_leafRead_1 : decode cX8_leafRead 1 = .ok (.bipush 40, 2) := by decide +kernel
theorem dX8_leafRead_3 : decode cX8_leafRead 3 = .ok (.invokevirtual 227, 3) := by decide +kernel
theorem dX8_leafRead_6 : decode cX8_leafRead 6 = .ok (.ifCond .eq 44, 3) := by decide +kernel
theorem dX8_leafRead_9 : decode cX8_leafRead 9 = .ok (.aload_n 0, 1) := by decide +kernel
theorem dX8_leafRead_10 : decode cX8_leafRead 10 = .ok (.getfield 315, 3) := by decide +kernel
theorem dX8_leafRead_13 : decode cX8_leafRead 13 = .ok (.bipush 8, 2) := by decide +kernel
theorem dX8_leafRead_15 : decode cX8_leafRead 15 = .ok (.if_icmp .ne 9, 3) := by decide +kernel
theorem dX8_leafRead_18 : decode cX8_leafRead 18 = .ok (.aload_n 0, 1) := by decide +kernel
theorem dX8_leafRead_19 : decode cX8_leafRead 19 = .ok (.iconst 2, 1) := by decide +kernel
theorem dX8_leafRead_20 : decode cX8_leafRead 20 = .ok (.invokevirtual 214, 3) := by decide +kernel
theorem dX8_leafRead_23 : decode cX8_leafRead 23 = .ok (.ireturn, 1) := by decide +kernel
theorem dX8_leafRead_24 : decode cX8_leafRead 24 = .ok (.aload_n 0, 1) := by decide +kernel
theorem dX8_leafRead_25 : decode cX8_leafRead 25 = .ok (.dup, 1) := by decide +kernel
theorem dX8_leafRead_26 : decode cX8_leafRead 26 = .ok (.getfield 315, 3) := by decide +kernel
theorem dX8_leafRead_29 : decode cX8_leafRead 29 = .ok (.iconst 1, 1) := by decide +kernel
theorem dX8_leafRead_30 : decode cX8_leafRead 30 = .ok (.iadd, 1) := by decide +kernel
theorem dX8_leafRead_31 : decode cX8_leafRead 31 = .ok (.putfield 315, 3) := by decide +kernel
theorem dX8_leafRead_34 : decode cX8_leafRead 34 = .ok (.aload_n 0, 1) := by decide +kernel
theorem dX8_leafRead_35 : decode cX8_leafRead 35 = .ok (.iconst 0, 1) := by decide +kernel
theorem dX8_leafRead_36 : decode cX8_leafRead 36 = .ok (.invokevirtual 318, 3) := by decide +kernel
theorem dX8_leafRead_39 : decode cX8_leafRead 39 = .ok (.aload_n 0, 1) := by decide +kernel
theorem dX8_leafRead_40 : decode cX8_leafRead 40 = .ok (.iconst 1, 1) := by decide +kernel
theorem dX8_leafRead_41 : decode cX8_leafRead 41 = .ok (.putfield 322, 3) := by decide +kernel
theorem dX8_leafRead_44 : decode cX8_leafRead 44 = .ok (.aload_n 0, 1) := by decide +kernel
theorem dX8_leafRead_45 : decode cX8_leafRead 45 = .ok (.invokevirtual 224, 3) := by decide +kernel
theorem dX8_leafRead_48 : decode cX8_leafRead 48 = .ok (.iconst 1, 1) := by decide +kernel
theorem dX8_leafRead_49 : decode cX8_leafRead 49 = .ok (.ireturn, 1) := by decide +kernel
theorem dX8_leafRead_50 : decode cX8_leafRead 50 = .ok (.aload_n 0, 1) := by decide +kernel
theorem dX8_leafRead_51 : decode cX8_leafRead 51 = .ok (.bipush 21, 2) := by decide +kernel
theorem dX8_leafRead_53 : decode cX8_leafRead 53 = .ok (.invokevirtual 326, 3) := by decide +kernel
theorem dX8_leafRead_56 : decode cX8_leafRead 56 = .ok (.ifCond .eq 30, 3) := by decide +kernel
theorem dX8_leafRead_59 : decode cX8_leafRead 59 = .ok (.aload_n 0, 1) := by decide +kernel
theorem dX8_leafRead_60 : decode cX8_leafRead 60 = .ok (.getfield 322, 3) := by decide +kernel
theorem dX8_leafRead_63 : decode cX8_leafRead 63 = .ok (.ifCond .eq 23, 3) := by decide +kernel
theorem dX8_leafRead_66 : decode cX8_leafRead 66 = .ok (.aload_n 0, 1) := by decide +kernel
theorem dX8_leafRead_67 : decode cX8_leafRead 67 = .ok (.invokevirtual 329, 3) := by decide +kernel
theorem dX8_leafRead_70 : decode cX8_leafRead 70 = .ok (.ifCond .ne 5, 3) := by decide +kernel
theorem dX8_leafRead_73 : decode cX8_leafRead 73 = .ok (.iconst 0, 1) := by decide +kernel
theorem dX8_leafRead_74 : decode cX8_leafRead 74 = .ok (.ireturn, 1) := by decide +kernel
theorem dX8_leafRead_75 : decode cX8_leafRead 75 = .ok (.aload_n 0, 1) := by decide +kernel
theorem dX8_leafRead_76 : decode cX8_leafRead 76 = .ok (.iconst 2, 1) := by decide +kernel
theorem dX8_leafRead_77 : decode cX8_leafRead 77 = .ok (.invokevirtual 318, 3) := by decide +kernel
theorem dX8_leafRead_80 : decode cX8_leafRead 80 = .ok (.aload_n 0, 1) := by decide +kernel
theorem dX8_leafRead_81 : decode cX8_leafRead 81 = .ok (.invokevirtual 224, 3) := by decide +kernel
theorem dX8_leafRead_84 : decode cX8_leafRead 84 = .ok (.iconst 1, 1) := by decide +kernel
theorem dX8_leafRead_85 : decode cX8_leafRead 85 = .ok (.ireturn, 1) := by decide +kernel
theorem dX8_leafRead_86 : decode cX8_leafRead 86 = .ok (.aload_n 0, 1) := by decide +kernel
theorem dX8_leafRead_87 : decode cX8_leafRead 87 = .ok (.invokevirtual 332, 3) := by decide +kernel
theorem dX8_leafRead_90 : decode cX8_leafRead 90 = .ok (.istore_n 1, 1) := by decide +kernel
theorem dX8_leafRead_91 : decode cX8_leafRead 91 = .ok (.iload_n 1, 1) := by decide +kernel
theorem dX8_leafRead_92 : decode cX8_leafRead 92 = .ok (.ifCond .ge 17, 3) := by decide +kernel
theorem dX8_leafRead_95 : decode cX8_leafRead 95 = .ok (.aload_n 0, 1) := by decide +kernel
theorem dX8_leafRead_96 : decode cX8_leafRead 96 = .ok (.getfield 190, 3) := by decide +kernel
theorem dX8_leafRead_99 : decode cX8_leafRead 99 = .ok (.iconst 3, 1) := by decide +kernel
theorem dX8_leafRead_100 : decode cX8_leafRead 100 = .ok (.if_icmp .eq 9, 3) := by decide +kernel
theorem dX8_leafRead_103 : decode cX8_leafRead 103 = .ok (.aload_n 0, 1) := by decide +kernel
theorem dX8_leafRead_104 : decode cX8_leafRead 104 = .ok (.iconst 1, 1) := by decide +kernel
theorem dX8_leafRead_105 : decode cX8_leafRead 105 = .ok (.invokevirtual 214, 3) := by decide +kernel
theorem dX8_leafRead_108 : decode cX8_leafRead 108 = .ok (.ireturn, 1) := by decide +kernel
theorem dX8_leafRead_109 : decode cX8_leafRead 109 = .ok (.iload_n 1, 1) := by decide +kernel
theorem dX8_leafRead_110 : decode cX8_leafRead 110 = .ok (.ifCond .ge 19, 3) := by decide +kernel
theorem dX8_leafRead_113 : decode cX8_leafRead 113 = .ok (.aload_n 0, 1) := by decide +kernel
theorem dX8_leafRead_114 : decode cX8_leafRead 114 = .ok (.getfield 201, 3) := by decide +kernel
theorem dX8_leafRead_117 : decode cX8_leafRead 117 = .ok (.sipush 9999, 3) := by decide +kernel
theorem dX8_leafRead_120 : decode cX8_leafRead 120 = .ok (.if_icmp .le 9, 3) := by decide +kernel
theorem dX8_leafRead_123 : decode cX8_leafRead 123 = .ok (.aload_n 0, 1) := by decide +kernel
theorem dX8_leafRead_124 : decode cX8_leafRead 124 = .ok (.iconst 2, 1) := by decide +kernel
theorem dX8_leafRead_125 : decode cX8_leafRead 125 = .ok (.invokevirtual 214, 3) := by decide +kernel
theorem dX8_leafRead_128 : decode cX8_leafRead 128 = .ok (.ireturn, 1) := by decide +kernel
theorem dX8_leafRead_129 : decode cX8_leafRead 129 = .ok (.aload_n 0, 1) := by decide +kernel
theorem dX8_leafRead_130 : decode cX8_leafRead 130 = .ok (.invokevirtual 329, 3) := by decide +kernel
theorem dX8_leafRead_133 : decode cX8_leafRead 133 = .ok (.ifCond .ne 5, 3) := by decide +kernel
theorem dX8_leafRead_136 : decode cX8_leafRead 136 = .ok (.iconst 0, 1) := by decide +kernel
theorem dX8_leafRead_137 : decode cX8_leafRead 137 = .ok (.ireturn, 1) := by decide +kernel
theorem dX8_leafRead_138 : decode cX8_leafRead 138 = .ok (.aload_n 0, 1) := by decide +kernel
theorem dX8_leafRead_139 : decode cX8_leafRead 139 = .ok (.iload_n 1, 1) := by decide +kernel
theorem dX8_leafRead_140 : decode cX8_leafRead 140 = .ok (.ifCond .lt 7, 3) := by decide +kernel
theorem dX8_leafRead_143 : decode cX8_leafRead 143 = .ok (.iconst 1, 1) := by decide +kernel
theorem dX8_leafRead_144 : decode cX8_leafRead 144 = .ok (.goto 4, 3) := by decide +kernel
theorem dX8_leafRead_147 : decode cX8_leafRead 147 = .ok (.iconst 0, 1) := by decide +kernel
theorem dX8_leafRead_148 : decode cX8_leafRead 148 = .ok (.iload_n 1, 1) := by decide +kernel
theorem dX8_leafRead_149 : decode cX8_leafRead 149 = .ok (.ifCond .lt 7, 3) := by decide +kernel
theorem dX8_leafRead_152 : decode cX8_leafRead 152 = .ok (.iload_n 1, 1) := by decide +kernel
theorem dX8_leafRead_153 : decode cX8_leafRead 153 = .ok (.goto 7, 3) := by decide +kernel
theorem dX8_leafRead_156 : decode cX8_leafRead 156 = .ok (.aload_n 0, 1) := by decide +kernel
theorem dX8_leafRead_157 : decode cX8_leafRead 157 = .ok (.getfield 201, 3) := by decide +kernel
theorem dX8_leafRead_160 : decode cX8_leafRead 160 = .ok (.iconst 0, 1) := by decide +kernel
theorem dX8_leafRead_161 : decode cX8_leafRead 161 = .ok (.invokevirtual 311, 3) := by decide +kernel
theorem dX8_leafRead_164 : decode cX8_leafRead 164 = .ok (.aload_n 0, 1) := by decide +kernel
theorem dX8_leafRead_165 : decode cX8_leafRead 165 = .ok (.iconst 0, 1) := by decide +kernel
theorem dX8_leafRead_166 : decode cX8_leafRead 166 = .ok (.putfield 335, 3) := by decide +kernel
theorem dX8_leafRead_169 : decode cX8_leafRead 169 = .ok (.aload_n 0, 1) := by decide +kernel
theorem dX8_leafRead_170 : decode cX8_leafRead 170 = .ok (.invokevirtual 224, 3) := by decide +kernel
theorem dX8_leafRead_173 : decode cX8_leafRead 173 = .ok (.iconst 1, 1) := by decide +kernel
theorem dX8_leafRead_174 : decode cX8_leafRead 174 = .ok (.ireturn, 1) := by decide +kernel
theorem dX8_signs_0 : decode cX8_signs 0 = .ok (.aload_n 0, 1) := by decide +kernel
theorem dX8_signs_1 : decode cX8_signs 1 = .ok (.bipush 41, 2) := by decide +kernel
theorem dX8_signs_3 : decode cX8_signs 3 = .ok (.invokevirtual 227, 3) := by decide +kernel
theorem dX8_signs_6 : decode cX8_signs 6 = .ok (.ifCond .eq 41, 3) := by decide +kernel
theorem dX8_signs_9 : decode cX8_signs 9 = .ok (.aload_n 0, 1) := by decide +kernel
theorem dX8_signs_10 : decode cX8_signs 10 = .ok (.getfield 315, 3) := by decide +kernel
theorem dX8_signs_13 : decode cX8_signs 13 = .ok (.ifCond .le 34, 3) := by decide +kernel
theorem dX8_signs_16 : decode cX8_signs 16 = .ok (.aload_n 0, 1) := by decide +kernel
theorem dX8_signs_17 : decode cX8_signs 17 = .ok (.iconst 1, 1) := by decide +kernel
theorem dX8_signs_18 : decode cX8_signs 18 = .ok (.invokevirtual 338, 3) := by decide +kernel
theorem dX8_signs_21 : decode cX8_signs 21 = .ok (.aload_n 0, 1) := by decide +kernel
theorem dX8_signs_22 : decode cX8_signs 22 = .ok (.dup, 1) := by decide +kernel
theorem dX8_signs_23 : decode cX8_signs 23 = .ok (.getfield 300, 3) := by decide +kernel
theorem dX8_signs_26 : decode cX8_signs 26 = .ok (.iconst 1, 1) := by decide +kernel
theorem dX8_signs_27 : decode cX8_signs 27 = .ok (.isub, 1) := by decide +kernel
theorem dX8_signs_28 : decode cX8_signs 28 = .ok (.putfield 300, 3) := by decide +kernel
theorem dX8_signs_31 : decode cX8_signs 31 = .ok (.aload_n 0, 1) := by decide +kernel
theorem dX8_signs_32 : decode cX8_signs 32 = .ok (.dup, 1) := by decide +kernel
theorem dX8_signs_33 : decode cX8_signs 33 = .ok (.getfield 315, 3) := by decide +kernel
theorem dX8_signs_36 : decode cX8_signs 36 = .ok (.iconst 1, 1) := by decide +kernel
theorem dX8_signs_37 : decode cX8_signs 37 = .ok (.isub, 1) := by decide +kernel
theorem dX8_signs_38 : decode cX8_signs 38 = .ok (.putfield 315, 3) := by decide +kernel
theorem dX8_signs_41 : decode cX8_signs 41 = .ok (.aload_n 0, 1) := by decide +kernel
theorem dX8_signs_42 : decode cX8_signs 42 = .ok (.invokevirtual 224, 3) := by decide +kernel
theorem dX8_signs_45 : decode cX8_signs 45 = .ok (.iconst 1, 1) := by decide +kernel
theorem dX8_signs_46 : decode cX8_signs 46 = .ok (.ireturn, 1) := by decide +kernel
theorem dX8_signs_47 : decode cX8_signs 47 = .ok (.aload_n 0, 1) := by decide +kernel
theorem dX8_signs_48 : decode cX8_signs 48 = .ok (.bipush 19, 2) := by decide +kernel
theorem dX8_signs_50 : decode cX8_signs 50 = .ok (.invokevirtual 326, 3) := by decide +kernel
theorem dX8_signs_53 : decode cX8_signs 53 = .ok (.ifCond .eq 7, 3) := by decide +kernel
theorem dX8_signs_56 : decode cX8_signs 56 = .ok (.iconst 3, 1) := by decide +kernel
theorem dX8_signs_57 : decode cX8_signs 57 = .ok (.goto 90, 3) := by decide +kernel
theorem dX8_signs_60 : decode cX8_signs 60 = .ok (.aload_n 0, 1) := by decide +kernel
theorem dX8_signs_61 : decode cX8_signs 61 = .ok (.bipush 20, 2) := by decide +kernel
theorem dX8_signs_63 : decode cX8_signs 63 = .ok (.invokevirtual 326, 3) := by decide +kernel
theorem dX8_signs_66 : decode cX8_signs 66 = .ok (.ifCond .eq 7, 3) := by decide +kernel
theorem dX8_signs_69 : decode cX8_signs 69 = .ok (.iconst 4, 1) := by decide +kernel
theorem dX8_signs_70 : decode cX8_signs 70 = .ok (.goto 77, 3) := by decide +kernel
theorem dX8_signs_73 : decode cX8_signs 73 = .ok (.aload_n 0, 1) := by decide +kernel
theorem dX8_signs_74 : decode cX8_signs 74 = .ok (.getfield 190, 3) := by decide +kernel
theorem dX8_signs_77 : decode cX8_signs 77 = .ok (.iconst 5, 1) := by decide +kernel
theorem dX8_signs_78 : decode cX8_signs 78 = .ok (.if_icmp .ne 12, 3) := by decide +kernel
theorem dX8_signs_81 : decode cX8_signs 81 = .ok (.iconst 5, 1) := by decide +kernel
theorem dX8_signs_82 : decode cX8_signs 82 = .ok (.aload_n 0, 1) := by decide +kernel
theorem dX8_signs_83 : decode cX8_signs 83 = .ok (.getfield 201, 3) := by decide +kernel
theorem dX8_signs_86 : decode cX8_signs 86 = .ok (.iadd, 1) := by decide +kernel
theorem dX8_signs_87 : decode cX8_signs 87 = .ok (.goto 60, 3) := by decide +kernel
theorem dX8_signs_90 : decode cX8_signs 90 = .ok (.aload_n 0, 1) := by decide +kernel
theorem dX8_signs_91 : decode cX8_signs 91 = .ok (.bipush 43, 2) := by decide +kernel
theorem dX8_signs_93 : decode cX8_signs 93 = .ok (.invokevirtual 227, 3) := by decide +kernel
theorem dX8_signs_96 : decode cX8_signs 96 = .ok (.ifCond .eq 8, 3) := by decide +kernel
theorem dX8_signs_99 : decode cX8_signs 99 = .ok (.bipush 11, 2) := by decide +kernel
theorem dX8_signs_101 : decode cX8_signs 101 = .ok (.goto 46, 3) := by decide +kernel
theorem dX8_signs_104 : decode cX8_signs 104 = .ok (.aload_n 0, 1) := by decide +kernel
theorem dX8_signs_105 : decode cX8_signs 105 = .ok (.bipush 45, 2) := by decide +kernel
theorem dX8_signs_107 : decode cX8_signs 107 = .ok (.invokevirtual 227, 3) := by decide +kernel
theorem dX8_signs_110 : decode cX8_signs 110 = .ok (.ifCond .eq 8, 3) := by decide +kernel
theorem dX8_signs_113 : decode cX8_signs 113 = .ok (.bipush 12, 2) := by decide +kernel
theorem dX8_signs_115 : decode cX8_signs 115 = .ok (.goto 32, 3) := by decide +kernel
theorem dX8_signs_118 : decode cX8_signs 118 = .ok (.aload_n 0, 1) := by decide +kernel
theorem dX8_signs_119 : decode cX8_signs 119 = .ok (.bipush 42, 2) := by decide +kernel
theorem dX8_signs_121 : decode cX8_signs 121 = .ok (.invokevirtual 227, 3) := by decide +kernel
theorem dX8_signs_124 : decode cX8_signs 124 = .ok (.ifCond .eq 8, 3) := by decide +kernel
theorem dX8_signs_127 : decode cX8_signs 127 = .ok (.bipush 13, 2) := by decide +kernel
theorem dX8_signs_129 : decode cX8_signs 129 = .ok (.goto 18, 3) := by decide +kernel
theorem dX8_signs_132 : decode cX8_signs 132 = .ok (.aload_n 0, 1) := by decide +kernel
theorem dX8_signs_133 : decode cX8_signs 133 = .ok (.bipush 47, 2) := by decide +kernel
theorem dX8_signs_135 : decode cX8_signs 135 = .ok (.invokevirtual 227, 3) := by decide +kernel
theorem dX8_signs_138 : decode cX8_signs 138 = .ok (.ifCond .eq 8, 3) := by decide +kernel
theorem dX8_signs_141 : decode cX8_signs 141 = .ok (.bipush 14, 2) := by decide +kernel
theorem dX8_signs_143 : decode cX8_signs 143 = .ok (.goto 4, 3) := by decide +kernel
theorem dX8_signs_146 : decode cX8_signs 146 = .ok (.iconst 0, 1) := by decide +kernel
theorem dX8_signs_147 : decode cX8_signs 147 = .ok (.istore_n 1, 1) := by decide +kernel
theorem dX8_signs_148 : decode cX8_signs 148 = .ok (.iload_n 1, 1) := by decide +kernel
theorem dX8_signs_149 : decode cX8_signs 149 = .ok (.ifCond .ne 9, 3) := by decide +kernel
theorem dX8_signs_152 : decode cX8_signs 152 = .ok (.aload_n 0, 1) := by decide +kernel
theorem dX8_signs_153 : decode cX8_signs 153 = .ok (.iconst 1, 1) := by decide +kernel
theorem dX8_signs_154 : decode cX8_signs 154 = .ok (.invokevirtual 214, 3) := by decide +kernel
theorem dX8_signs_157 : decode cX8_signs 157 = .ok (.ireturn, 1) := by decide +kernel
theorem dX8_signs_158 : decode cX8_signs 158 = .ok (.aload_n 0, 1) := by decide +kernel
theorem dX8_signs_159 : decode cX8_signs 159 = .ok (.iload_n 1, 1) := by decide +kernel
theorem dX8_signs_160 : decode cX8_signs 160 = .ok (.invokestatic 303, 3) := by decide +kernel
theorem dX8_signs_163 : decode cX8_signs 163 = .ok (.iconst 4, 1) := by decide +kernel
theorem dX8_signs_164 : decode cX8_signs 164 = .ok (.if_icmp .ne 7, 3) := by decide +kernel
theorem dX8_signs_167 : decode cX8_signs 167 = .ok (.iconst 5, 1) := by decide +kernel
theorem dX8_signs_168 : decode cX8_signs 168 = .ok (.goto 7, 3) := by decide +kernel
theorem dX8_signs_171 : decode cX8_signs 171 = .ok (.iload_n 1, 1) := by decide +kernel
theorem dX8_signs_172 : decode cX8_signs 172 = .ok (.invokestatic 303, 3) := by decide +kernel
theorem dX8_signs_175 : decode cX8_signs 175 = .ok (.invokevirtual 338, 3) := by decide +kernel
theorem dX8_signs_178 : decode cX8_signs 178 = .ok (.iload_n 1, 1) := by decide +kernel
theorem dX8_signs_179 : decode cX8_signs 179 = .ok (.invokestatic 303, 3) := by decide +kernel
theorem dX8_signs_182 : decode cX8_signs 182 = .ok (.iconst 4, 1) := by decide +kernel
theorem dX8_signs_183 : decode cX8_signs 183 = .ok (.if_icmp .ne 34, 3) := by decide +kernel
theorem dX8_signs_186 : decode cX8_signs 186 = .ok (.aload_n 0, 1) := by decide +kernel
theorem dX8_signs_187 : decode cX8_signs 187 = .ok (.getfield 300, 3) := by decide +kernel
theorem dX8_signs_190 : decode cX8_signs 190 = .ok (.ifCond .le 27, 3) := by decide +kernel
theorem dX8_signs_193 : decode cX8_signs 193 = .ok (.aload_n 0, 1) := by decide +kernel
theorem dX8_signs_194 : decode cX8_signs 194 = .ok (.getfield 81, 3) := by decide +kernel
theorem dX8_signs_197 : decode cX8_signs 197 = .ok (.aload_n 0, 1) := by decide +kernel
theorem dX8_signs_198 : decode cX8_signs 198 = .ok (.getfield 300, 3) := by decide +kernel
theorem dX8_signs_201 : decode cX8_signs 201 = .ok (.iconst 1, 1) := by decide +kernel
theorem dX8_signs_202 : decode cX8_signs 202 = .ok (.isub, 1) := by decide +kernel
theorem dX8_signs_203 : decode cX8_signs 203 = .ok (.iaload, 1) := by decide +kernel
theorem dX8_signs_204 : decode cX8_signs 204 = .ok (.invokestatic 303, 3) := by decide +kernel
theorem dX8_signs_207 : decode cX8_signs 207 = .ok (.iconst 4, 1) := by decide +kernel
theorem dX8_signs_208 : decode cX8_signs 208 = .ok (.if_icmp .ne 9, 3) := by decide +kernel
theorem dX8_signs_211 : decode cX8_signs 211 = .ok (.aload_n 0, 1) := by decide +kernel
theorem dX8_signs_212 : decode cX8_signs 212 = .ok (.iconst 1, 1) := by decide +kernel
theorem dX8_signs_213 : decode cX8_signs 213 = .ok (.invokevirtual 214, 3) := by decide +kernel
theorem dX8_signs_216 : decode cX8_signs 216 = .ok (.ireturn, 1) := by decide +kernel
theorem dX8_signs_217 : decode cX8_signs 217 = .ok (.aload_n 0, 1) := by decide +kernel
theorem dX8_signs_218 : decode cX8_signs 218 = .ok (.invokevirtual 329, 3) := by decide +kernel
theorem dX8_signs_221 : decode cX8_signs 221 = .ok (.ifCond .ne 5, 3) := by decide +kernel
theorem dX8_signs_224 : decode cX8_signs 224 = .ok (.iconst 0, 1) := by decide +kernel
theorem dX8_signs_225 : decode cX8_signs 225 = .ok (.ireturn, 1) := by decide +kernel
theorem dX8_signs_226 : decode cX8_signs 226 = .ok (.aload_n 0, 1) := by decide +kernel
theorem dX8_signs_227 : decode cX8_signs 227 = .ok (.iload_n 1, 1) := by decide +kernel
theorem dX8_signs_228 : decode cX8_signs 228 = .ok (.invokevirtual 318, 3) := by decide +kernel
theorem dX8_signs_231 : decode cX8_signs 231 = .ok (.aload_n 0, 1) := by decide +kernel
theorem dX8_signs_232 : decode cX8_signs 232 = .ok (.iconst 1, 1) := by decide +kernel
theorem dX8_signs_233 : decode cX8_signs 233 = .ok (.putfield 335, 3) := by decide +kernel
theorem dX8_signs_236 : decode cX8_signs 236 = .ok (.aload_n 0, 1) := by decide +kernel
theorem dX8_signs_237 : decode cX8_signs 237 = .ok (.iload_n 1, 1) := by decide +kernel
theorem dX8_signs_238 : decode cX8_signs 238 = .ok (.invokestatic 303, 3) := by decide +kernel
theorem dX8_signs_241 : decode cX8_signs 241 = .ok (.iconst 3, 1) := by decide +kernel
theorem dX8_signs_242 : decode cX8_signs 242 = .ok (.if_icmp .ge 7, 3) := by decide +kernel
theorem dX8_signs_245 : decode cX8_signs 245 = .ok (.iconst 1, 1) := by decide +kernel
theorem dX8_signs_246 : decode cX8_signs 246 = .ok (.goto 4, 3) := by decide +kernel
theorem dX8_signs_249 : decode cX8_signs 249 = .ok (.iconst 0, 1) := by decide +kernel
theorem dX8_signs_250 : decode cX8_signs 250 = .ok (.putfield 322, 3) := by decide +kernel
theorem dX8_signs_253 : decode cX8_signs 253 = .ok (.aload_n 0, 1) := by decide +kernel
theorem dX8_signs_254 : decode cX8_signs 254 = .ok (.invokevirtual 224, 3) := by decide +kernel
theorem dX8_signs_257 : decode cX8_signs 257 = .ok (.iconst 1, 1) := by decide +kernel
theorem dX8_signs_258 : decode cX8_signs 258 = .ok (.ireturn, 1) := by decide +kernel
theorem dX8_sumRead_0 : decode cX8_sumRead 0 = .ok (.aload_n 0, 1) := by decide +kernel
theorem dX8_sumRead_1 : decode cX8_sumRead 1 = .ok (.iconst 0, 1) := by decide +kernel
theorem dX8_sumRead_2 : decode cX8_sumRead 2 = .ok (.putfield 300, 3) := by decide +kernel
theorem dX8_sumRead_5 : decode cX8_sumRead 5 = .ok (.aload_n 0, 1) := by decide +kernel
theorem dX8_sumRead_6 : decode cX8_sumRead 6 = .ok (.iconst 0, 1) := by decide +kernel
theorem dX8_sumRead_7 : decode cX8_sumRead 7 = .ok (.putfield 297, 3) := by decide +kernel
theorem dX8_sumRead_10 : decode cX8_sumRead 10 = .ok (.aload_n 0, 1) := by decide +kernel
theorem dX8_sumRead_11 : decode cX8_sumRead 11 = .ok (.iconst 0, 1) := by decide +kernel
theorem dX8_sumRead_12 : decode cX8_sumRead 12 = .ok (.putfield 315, 3) := by decide +kernel
theorem dX8_sumRead_15 : decode cX8_sumRead 15 = .ok (.aload_n 0, 1) := by decide +kernel
theorem dX8_sumRead_16 : decode cX8_sumRead 16 = .ok (.iconst 1, 1) := by decide +kernel
theorem dX8_sumRead_17 : decode cX8_sumRead 17 = .ok (.putfield 335, 3) := by decide +kernel
theorem dX8_sumRead_20 : decode cX8_sumRead 20 = .ok (.aload_n 0, 1) := by decide +kernel
theorem dX8_sumRead_21 : decode cX8_sumRead 21 = .ok (.iconst 1, 1) := by decide +kernel
theorem dX8_sumRead_22 : decode cX8_sumRead 22 = .ok (.putfield 322, 3) := by decide +kernel
theorem dX8_sumRead_25 : decode cX8_sumRead 25 = .ok (.aload_n 0, 1) := by decide +kernel
theorem dX8_sumRead_26 : decode cX8_sumRead 26 = .ok (.bipush 59, 2) := by decide +kernel
theorem dX8_sumRead_28 : decode cX8_sumRead 28 = .ok (.invokevirtual 227, 3) := by decide +kernel
theorem dX8_sumRead_31 : decode cX8_sumRead 31 = .ok (.ifCond .eq 17, 3) := by decide +kernel
theorem dX8_sumRead_34 : decode cX8_sumRead 34 = .ok (.aload_n 0, 1) := by decide +kernel
theorem dX8_sumRead_35 : decode cX8_sumRead 35 = .ok (.getfield 335, 3) := by decide +kernel
theorem dX8_sumRead_38 : decode cX8_sumRead 38 = .ok (.ifCond .ne 10, 3) := by decide +kernel
theorem dX8_sumRead_41 : decode cX8_sumRead 41 = .ok (.aload_n 0, 1) := by decide +kernel
theorem dX8_sumRead_42 : decode cX8_sumRead 42 = .ok (.getfield 315, 3) := by decide +kernel
theorem dX8_sumRead_45 : decode cX8_sumRead 45 = .ok (.ifCond .le 29, 3) := by decide +kernel
theorem dX8_sumRead_48 : decode cX8_sumRead 48 = .ok (.aload_n 0, 1) := by decide +kernel
theorem dX8_sumRead_49 : decode cX8_sumRead 49 = .ok (.getfield 335, 3) := by decide +kernel
theorem dX8_sumRead_52 : decode cX8_sumRead 52 = .ok (.ifCond .eq 13, 3) := by decide +kernel
theorem dX8_sumRead_55 : decode cX8_sumRead 55 = .ok (.aload_n 0, 1) := by decide +kernel
theorem dX8_sumRead_56 : decode cX8_sumRead 56 = .ok (.invokevirtual 341, 3) := by decide +kernel
theorem dX8_sumRead_59 : decode cX8_sumRead 59 = .ok (.ifCond .eq 13, 3) := by decide +kernel
theorem dX8_sumRead_62 : decode cX8_sumRead 62 = .ok (.goto (-37), 3) := by decide +kernel
theorem dX8_sumRead_65 : decode cX8_sumRead 65 = .ok (.aload_n 0, 1) := by decide +kernel
theorem dX8_sumRead_66 : decode cX8_sumRead 66 = .ok (.invokevirtual 344, 3) := by decide +kernel
theorem dX8_sumRead_69 : decode cX8_sumRead 69 = .ok (.ifCond .ne (-44), 3) := by decide +kernel
theorem dX8_sumRead_72 : decode cX8_sumRead 72 = .ok (.iconst 0, 1) := by decide +kernel
theorem dX8_sumRead_73 : decode cX8_sumRead 73 = .ok (.ireturn, 1) := by decide +kernel
theorem dX8_sumRead_74 : decode cX8_sumRead 74 = .ok (.aload_n 0, 1) := by decide +kernel
theorem dX8_sumRead_75 : decode cX8_sumRead 75 = .ok (.iconst 1, 1) := by decide +kernel
theorem dX8_sumRead_76 : decode cX8_sumRead 76 = .ok (.invokevirtual 338, 3) := by decide +kernel
theorem dX8_sumRead_79 : decode cX8_sumRead 79 = .ok (.iconst 1, 1) := by decide +kernel
theorem dX8_sumRead_80 : decode cX8_sumRead 80 = .ok (.ireturn, 1) := by decide +kernel
theorem dX8_bounded_0 : decode cX8_bounded 0 = .ok (.aload_n 0, 1) := by decide +kernel
theorem dX8_bounded_1 : decode cX8_bounded 1 = .ok (.aload_n 0, 1) := by decide +kernel
theorem dX8_bounded_2 : decode cX8_bounded 2 = .ok (.getfield 347, 3) := by decide +kernel
theorem dX8_bounded_5 : decode cX8_bounded 5 = .ok (.ifCond .ne 19, 3) := by decide +kernel
theorem dX8_bounded_8 : decode cX8_bounded 8 = .ok (.lload_n 1, 1) := by decide +kernel
theorem dX8_bounded_9 : decode cX8_bounded 9 = .ok (.ldc2_w 350, 3) := by decide +kernel
theorem dX8_bounded_12 : decode cX8_bounded 12 = .ok (.lcmp, 1) := by decide +kernel
theorem dX8_bounded_13 : decode cX8_bounded 13 = .ok (.ifCond .gt 11, 3) := by decide +kernel
theorem dX8_bounded_16 : decode cX8_bounded 16 = .ok (.lload_n 1, 1) := by decide +kernel
theorem dX8_bounded_17 : decode cX8_bounded 17 = .ok (.ldc2_w 352, 3) := by decide +kernel
theorem dX8_bounded_20 : decode cX8_bounded 20 = .ok (.lcmp, 1) := by decide +kernel
theorem dX8_bounded_21 : decode cX8_bounded 21 = .ok (.ifCond .ge 7, 3) := by decide +kernel
theorem dX8_bounded_24 : decode cX8_bounded 24 = .ok (.iconst 1, 1) := by decide +kernel
theorem dX8_bounded_25 : decode cX8_bounded 25 = .ok (.goto 4, 3) := by decide +kernel
theorem dX8_bounded_28 : decode cX8_bounded 28 = .ok (.iconst 0, 1) := by decide +kernel
theorem dX8_bounded_29 : decode cX8_bounded 29 = .ok (.putfield 347, 3) := by decide +kernel
theorem dX8_bounded_32 : decode cX8_bounded 32 = .ok (.aload_n 0, 1) := by decide +kernel
theorem dX8_bounded_33 : decode cX8_bounded 33 = .ok (.getfield 347, 3) := by decide +kernel
theorem dX8_bounded_36 : decode cX8_bounded 36 = .ok (.ifCond .eq 7, 3) := by decide +kernel
theorem dX8_bounded_39 : decode cX8_bounded 39 = .ok (.lconst 0, 1) := by decide +kernel
theorem dX8_bounded_40 : decode cX8_bounded 40 = .ok (.goto 4, 3) := by decide +kernel
theorem dX8_bounded_43 : decode cX8_bounded 43 = .ok (.lload_n 1, 1) := by decide +kernel
theorem dX8_bounded_44 : decode cX8_bounded 44 = .ok (.lreturn, 1) := by decide +kernel
theorem dX8_compares_0 : decode cX8_compares 0 = .ok (.iload_n 0, 1) := by decide +kernel
theorem dX8_compares_1 : decode cX8_compares 1 = .ok (.tableswitch 95 5 9 #[35, 47, 59, 71, 83], 35) := by decide +kernel
theorem dX8_compares_36 : decode cX8_compares 36 = .ok (.lload_n 1, 1) := by decide +kernel
theorem dX8_compares_37 : decode cX8_compares 37 = .ok (.lload_n 3, 1) := by decide +kernel
theorem dX8_compares_38 : decode cX8_compares 38 = .ok (.lcmp, 1) := by decide +kernel
theorem dX8_compares_39 : decode cX8_compares 39 = .ok (.ifCond .ge 7, 3) := by decide +kernel
theorem dX8_compares_42 : decode cX8_compares 42 = .ok (.iconst 1, 1) := by decide +kernel
theorem dX8_compares_43 : decode cX8_compares 43 = .ok (.goto 4, 3) := by decide +kernel
theorem dX8_compares_46 : decode cX8_compares 46 = .ok (.iconst 0, 1) := by decide +kernel
theorem dX8_compares_47 : decode cX8_compares 47 = .ok (.ireturn, 1) := by decide +kernel
theorem dX8_compares_48 : decode cX8_compares 48 = .ok (.lload_n 1, 1) := by decide +kernel
theorem dX8_compares_49 : decode cX8_compares 49 = .ok (.lload_n 3, 1) := by decide +kernel
theorem dX8_compares_50 : decode cX8_compares 50 = .ok (.lcmp, 1) := by decide +kernel
theorem dX8_compares_51 : decode cX8_compares 51 = .ok (.ifCond .gt 7, 3) := by decide +kernel
theorem dX8_compares_54 : decode cX8_compares 54 = .ok (.iconst 1, 1) := by decide +kernel
theorem dX8_compares_55 : decode cX8_compares 55 = .ok (.goto 4, 3) := by decide +kernel
theorem dX8_compares_58 : decode cX8_compares 58 = .ok (.iconst 0, 1) := by decide +kernel
theorem dX8_compares_59 : decode cX8_compares 59 = .ok (.ireturn, 1) := by decide +kernel
theorem dX8_compares_60 : decode cX8_compares 60 = .ok (.lload_n 1, 1) := by decide +kernel
theorem dX8_compares_61 : decode cX8_compares 61 = .ok (.lload_n 3, 1) := by decide +kernel
theorem dX8_compares_62 : decode cX8_compares 62 = .ok (.lcmp, 1) := by decide +kernel
theorem dX8_compares_63 : decode cX8_compares 63 = .ok (.ifCond .ne 7, 3) := by decide +kernel
theorem dX8_compares_66 : decode cX8_compares 66 = .ok (.iconst 1, 1) := by decide +kernel
theorem dX8_compares_67 : decode cX8_compares 67 = .ok (.goto 4, 3) := by decide +kernel
theorem dX8_compares_70 : decode cX8_compares 70 = .ok (.iconst 0, 1) := by decide +kernel
theorem dX8_compares_71 : decode cX8_compares 71 = .ok (.ireturn, 1) := by decide +kernel
theorem dX8_compares_72 : decode cX8_compares 72 = .ok (.lload_n 1, 1) := by decide +kernel
theorem dX8_compares_73 : decode cX8_compares 73 = .ok (.lload_n 3, 1) := by decide +kernel
theorem dX8_compares_74 : decode cX8_compares 74 = .ok (.lcmp, 1) := by decide +kernel
theorem dX8_compares_75 : decode cX8_compares 75 = .ok (.ifCond .eq 7, 3) := by decide +kernel
theorem dX8_compares_78 : decode cX8_compares 78 = .ok (.iconst 1, 1) := by decide +kernel
theorem dX8_compares_79 : decode cX8_compares 79 = .ok (.goto 4, 3) := by decide +kernel
theorem dX8_compares_82 : decode cX8_compares 82 = .ok (.iconst 0, 1) := by decide +kernel
theorem dX8_compares_83 : decode cX8_compares 83 = .ok (.ireturn, 1) := by decide +kernel
theorem dX8_compares_84 : decode cX8_compares 84 = .ok (.lload_n 1, 1) := by decide +kernel
theorem dX8_compares_85 : decode cX8_compares 85 = .ok (.lload_n 3, 1) := by decide +kernel
theorem dX8_compares_86 : decode cX8_compares 86 = .ok (.lcmp, 1) := by decide +kernel
theorem dX8_compares_87 : decode cX8_compares 87 = .ok (.ifCond .lt 7, 3) := by decide +kernel
theorem dX8_compares_90 : decode cX8_compares 90 = .ok (.iconst 1, 1) := by decide +kernel
theorem dX8_compares_91 : decode cX8_compares 91 = .ok (.goto 4, 3) := by decide +kernel
theorem dX8_compares_94 : decode cX8_compares 94 = .ok (.iconst 0, 1) := by decide +kernel
theorem dX8_compares_95 : decode cX8_compares 95 = .ok (.ireturn, 1) := by decide +kernel
theorem dX8_compares_96 : decode cX8_compares 96 = .ok (.lload_n 1, 1) := by decide +kernel
theorem dX8_compares_97 : decode cX8_compares 97 = .ok (.lload_n 3, 1) := by decide +kernel
theorem dX8_compares_98 : decode cX8_compares 98 = .ok (.lcmp, 1) := by decide +kernel
theorem dX8_compares_99 : decode cX8_compares 99 = .ok (.ifCond .le 7, 3) := by decide +kernel
theorem dX8_compares_102 : decode cX8_compares 102 = .ok (.iconst 1, 1) := by decide +kernel
theorem dX8_compares_103 : decode cX8_compares 103 = .ok (.goto 4, 3) := by decide +kernel
theorem dX8_compares_106 : decode cX8_compares 106 = .ok (.iconst 0, 1) := by decide +kernel
theorem dX8_compares_107 : decode cX8_compares 107 = .ok (.ireturn, 1) := by decide +kernel
theorem dX8_times_0 : decode cX8_times 0 = .ok (.lload_n 1, 1) := by decide +kernel
theorem dX8_times_1 : decode cX8_times 1 = .ok (.lconst 0, 1) := by decide +kernel
theorem dX8_times_2 : decode cX8_times 2 = .ok (.lcmp, 1) := by decide +kernel
theorem dX8_times_3 : decode cX8_times 3 = .ok (.ifCond .eq 45, 3) := by decide +kernel
theorem dX8_times_6 : decode cX8_times 6 = .ok (.lload_n 3, 1) := by decide +kernel
theorem dX8_times_7 : decode cX8_times 7 = .ok (.lconst 0, 1) := by decide +kernel
theorem dX8_times_8 : decode cX8_times 8 = .ok (.lcmp, 1) := by decide +kernel
theorem dX8_times_9 : decode cX8_times 9 = .ok (.ifCond .eq 39, 3) := by decide +kernel
theorem dX8_times_12 : decode cX8_times 12 = .ok (.lload_n 3, 1) := by decide +kernel
theorem dX8_times_13 : decode cX8_times 13 = .ok (.lconst 0, 1) := by decide +kernel
theorem dX8_times_14 : decode cX8_times 14 = .ok (.lcmp, 1) := by decide +kernel
theorem dX8_times_15 : decode cX8_times 15 = .ok (.ifCond .ge 8, 3) := by decide +kernel
theorem dX8_times_18 : decode cX8_times 18 = .ok (.lload_n 3, 1) := by decide +kernel
theorem dX8_times_19 : decode cX8_times 19 = .ok (.lneg, 1) := by decide +kernel
theorem dX8_times_20 : decode cX8_times 20 = .ok (.goto 4, 3) := by decide +kernel
theorem dX8_times_23 : decode cX8_times 23 = .ok (.lload_n 3, 1) := by decide +kernel
theorem dX8_times_24 : decode cX8_times 24 = .ok (.ldc2_w 350, 3) := by decide +kernel
theorem dX8_times_27 : decode cX8_times 27 = .ok (.lload_n 1, 1) := by decide +kernel
theorem dX8_times_28 : decode cX8_times 28 = .ok (.lconst 0, 1) := by decide +kernel
theorem dX8_times_29 : decode cX8_times 29 = .ok (.lcmp, 1) := by decide +kernel
theorem dX8_times_30 : decode cX8_times 30 = .ok (.ifCond .ge 8, 3) := by decide +kernel
theorem dX8_times_33 : decode cX8_times 33 = .ok (.lload_n 1, 1) := by decide +kernel
theorem dX8_times_34 : decode cX8_times 34 = .ok (.lneg, 1) := by decide +kernel
theorem dX8_times_35 : decode cX8_times 35 = .ok (.goto 4, 3) := by decide +kernel
theorem dX8_times_38 : decode cX8_times 38 = .ok (.lload_n 1, 1) := by decide +kernel
theorem dX8_times_39 : decode cX8_times 39 = .ok (.ldiv, 1) := by decide +kernel
theorem dX8_times_40 : decode cX8_times 40 = .ok (.lcmp, 1) := by decide +kernel
theorem dX8_times_41 : decode cX8_times 41 = .ok (.ifCond .le 7, 3) := by decide +kernel
theorem dX8_times_44 : decode cX8_times 44 = .ok (.iconst 1, 1) := by decide +kernel
theorem dX8_times_45 : decode cX8_times 45 = .ok (.goto 4, 3) := by decide +kernel
theorem dX8_times_48 : decode cX8_times 48 = .ok (.iconst 0, 1) := by decide +kernel
theorem dX8_times_49 : decode cX8_times 49 = .ok (.istore 5, 2) := by decide +kernel
theorem dX8_times_51 : decode cX8_times 51 = .ok (.aload_n 0, 1) := by decide +kernel
theorem dX8_times_52 : decode cX8_times 52 = .ok (.aload_n 0, 1) := by decide +kernel
theorem dX8_times_53 : decode cX8_times 53 = .ok (.getfield 347, 3) := by decide +kernel
theorem dX8_times_56 : decode cX8_times 56 = .ok (.ifCond .ne 8, 3) := by decide +kernel
theorem dX8_times_59 : decode cX8_times 59 = .ok (.iload 5, 2) := by decide +kernel
theorem dX8_times_61 : decode cX8_times 61 = .ok (.ifCond .eq 7, 3) := by decide +kernel
theorem dX8_times_64 : decode cX8_times 64 = .ok (.iconst 1, 1) := by decide +kernel
theorem dX8_times_65 : decode cX8_times 65 = .ok (.goto 4, 3) := by decide +kernel
theorem dX8_times_68 : decode cX8_times 68 = .ok (.iconst 0, 1) := by decide +kernel
theorem dX8_times_69 : decode cX8_times 69 = .ok (.putfield 347, 3) := by decide +kernel
theorem dX8_times_72 : decode cX8_times 72 = .ok (.aload_n 0, 1) := by decide +kernel
theorem dX8_times_73 : decode cX8_times 73 = .ok (.getfield 347, 3) := by decide +kernel
theorem dX8_times_76 : decode cX8_times 76 = .ok (.ifCond .eq 7, 3) := by decide +kernel
theorem dX8_times_79 : decode cX8_times 79 = .ok (.lconst 0, 1) := by decide +kernel
theorem dX8_times_80 : decode cX8_times 80 = .ok (.goto 6, 3) := by decide +kernel
theorem dX8_times_83 : decode cX8_times 83 = .ok (.lload_n 1, 1) := by decide +kernel
theorem dX8_times_84 : decode cX8_times 84 = .ok (.lload_n 3, 1) := by decide +kernel
theorem dX8_times_85 : decode cX8_times 85 = .ok (.lmul, 1) := by decide +kernel
theorem dX8_times_86 : decode cX8_times 86 = .ok (.lreturn, 1) := by decide +kernel
theorem dX8_valueOf_0 : decode cX8_valueOf 0 = .ok (.aload_n 0, 1) := by decide +kernel
theorem dX8_valueOf_1 : decode cX8_valueOf 1 = .ok (.getfield 72, 3) := by decide +kernel
theorem dX8_valueOf_4 : decode cX8_valueOf 4 = .ok (.iload_n 1, 1) := by decide +kernel
theorem dX8_valueOf_5 : decode cX8_valueOf 5 = .ok (.iaload, 1) := by decide +kernel
theorem dX8_valueOf_6 : decode cX8_valueOf 6 = .ok (.ifCond .ne 11, 3) := by decide +kernel
theorem dX8_valueOf_9 : decode cX8_valueOf 9 = .ok (.aload_n 0, 1) := by decide +kernel
theorem dX8_valueOf_10 : decode cX8_valueOf 10 = .ok (.getfield 75, 3) := by decide +kernel
theorem dX8_valueOf_13 : decode cX8_valueOf 13 = .ok (.iload_n 1, 1) := by decide +kernel
theorem dX8_valueOf_14 : decode cX8_valueOf 14 = .ok (.iaload, 1) := by decide +kernel
theorem dX8_valueOf_15 : decode cX8_valueOf 15 = .ok (.i2l, 1) := by decide +kernel
theorem dX8_valueOf_16 : decode cX8_valueOf 16 = .ok (.lreturn, 1) := by decide +kernel
theorem dX8_valueOf_17 : decode cX8_valueOf 17 = .ok (.aload_n 0, 1) := by decide +kernel
theorem dX8_valueOf_18 : decode cX8_valueOf 18 = .ok (.getfield 72, 3) := by decide +kernel
theorem dX8_valueOf_21 : decode cX8_valueOf 21 = .ok (.iload_n 1, 1) := by decide +kernel
theorem dX8_valueOf_22 : decode cX8_valueOf 22 = .ok (.iaload, 1) := by decide +kernel
theorem dX8_valueOf_23 : decode cX8_valueOf 23 = .ok (.iconst 1, 1) := by decide +kernel
theorem dX8_valueOf_24 : decode cX8_valueOf 24 = .ok (.if_icmp .ne 15, 3) := by decide +kernel
theorem dX8_valueOf_27 : decode cX8_valueOf 27 = .ok (.aload_n 0, 1) := by decide +kernel
theorem dX8_valueOf_28 : decode cX8_valueOf 28 = .ok (.getfield 87, 3) := by decide +kernel
theorem dX8_valueOf_31 : decode cX8_valueOf 31 = .ok (.aload_n 0, 1) := by decide +kernel
theorem dX8_valueOf_32 : decode cX8_valueOf 32 = .ok (.getfield 75, 3) := by decide +kernel
theorem dX8_valueOf_35 : decode cX8_valueOf 35 = .ok (.iload_n 1, 1) := by decide +kernel
theorem dX8_valueOf_36 : decode cX8_valueOf 36 = .ok (.iaload, 1) := by decide +kernel
theorem dX8_valueOf_37 : decode cX8_valueOf 37 = .ok (.laload, 1) := by decide +kernel
theorem dX8_valueOf_38 : decode cX8_valueOf 38 = .ok (.lreturn, 1) := by decide +kernel
theorem dX8_valueOf_39 : decode cX8_valueOf 39 = .ok (.aload_n 0, 1) := by decide +kernel
theorem dX8_valueOf_40 : decode cX8_valueOf 40 = .ok (.getfield 91, 3) := by decide +kernel
theorem dX8_valueOf_43 : decode cX8_valueOf 43 = .ok (.aload_n 0, 1) := by decide +kernel
theorem dX8_valueOf_44 : decode cX8_valueOf 44 = .ok (.getfield 75, 3) := by decide +kernel
theorem dX8_valueOf_47 : decode cX8_valueOf 47 = .ok (.iload_n 1, 1) := by decide +kernel
theorem dX8_valueOf_48 : decode cX8_valueOf 48 = .ok (.iaload, 1) := by decide +kernel
theorem dX8_valueOf_49 : decode cX8_valueOf 49 = .ok (.laload, 1) := by decide +kernel

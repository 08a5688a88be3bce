theorem dX8_help_15 : decode cX8_help 15 = .ok (.bipush 99, 2) := by decide +kernel
theorem dX8_help_17 : decode cX8_help 17 = .ok (.invokestatic 217, 3) := by decide +kernel
theorem dX8_help_20 : decode cX8_help 20 = .ok (.ifCond .eq 13, 3) := by decide +kernel
theorem dX8_help_23 : decode cX8_help 23 = .ok (.aload_n 0, 1) := by decide +kernel
theorem dX8_help_24 : decode cX8_help 24 = .ok (.getfield 109, 3) := by decide +kernel
theorem dX8_help_27 : decode cX8_help 27 = .ok (.iload_n 1, 1) := by decide +kernel
theorem dX8_help_28 : decode cX8_help 28 = .ok (.iaload, 1) := by decide +kernel
theorem dX8_help_29 : decode cX8_help 29 = .ok (.iload_n 2, 1) := by decide +kernel
theorem dX8_help_30 : decode cX8_help 30 = .ok (.if_icmp .ne 5, 3) := by decide +kernel
theorem dX8_help_33 : decode cX8_help 33 = .ok (.iconst 0, 1) := by decide +kernel
theorem dX8_help_34 : decode cX8_help 34 = .ok (.ireturn, 1) := by decide +kernel
theorem dX8_help_35 : decode cX8_help 35 = .ok (.aload_n 0, 1) := by decide +kernel
theorem dX8_help_36 : decode cX8_help 36 = .ok (.invokevirtual 505, 3) := by decide +kernel
theorem dX8_help_39 : decode cX8_help 39 = .ok (.aload_n 0, 1) := by decide +kernel
theorem dX8_help_40 : decode cX8_help 40 = .ok (.getfield 109, 3) := by decide +kernel
theorem dX8_help_43 : decode cX8_help 43 = .ok (.iload_n 1, 1) := by decide +kernel
theorem dX8_help_44 : decode cX8_help 44 = .ok (.iload_n 2, 1) := by decide +kernel
theorem dX8_help_45 : decode cX8_help 45 = .ok (.iastore, 1) := by decide +kernel
theorem dX8_help_46 : decode cX8_help 46 = .ok (.iconst 1, 1) := by decide +kernel
theorem dX8_help_47 : decode cX8_help 47 = .ok (.ireturn, 1) := by decide +kernel
theorem dX8_go_0 : decode cX8_go 0 = .ok (.aload_n 0, 1) := by decide +kernel
theorem dX8_go_1 : decode cX8_go 1 = .ok (.iconst 0, 1) := by decide +kernel
theorem dX8_go_2 : decode cX8_go 2 = .ok (.putfield 172, 3) := by decide +kernel
theorem dX8_go_5 : decode cX8_go 5 = .ok (.iload_n 1, 1) := by decide +kernel
theorem dX8_go_6 : decode cX8_go 6 = .ok (.iconst 0, 1) := by decide +kernel
theorem dX8_go_7 : decode cX8_go 7 = .ok (.bipush 21, 2) := by decide +kernel
theorem dX8_go_9 : decode cX8_go 9 = .ok (.invokestatic 217, 3) := by decide +kernel
theorem dX8_go_12 : decode cX8_go 12 = .ok (.ifCond .eq 16, 3) := by decide +kernel
theorem dX8_go_15 : decode cX8_go 15 = .ok (.aload_n 0, 1) := by decide +kernel
theorem dX8_go_16 : decode cX8_go 16 = .ok (.getfield 121, 3) := by decide +kernel
theorem dX8_go_19 : decode cX8_go 19 = .ok (.iconst 0, 1) := by decide +kernel
theorem dX8_go_20 : decode cX8_go 20 = .ok (.iaload, 1) := by decide +kernel
theorem dX8_go_21 : decode cX8_go 21 = .ok (.iload_n 1, 1) := by decide +kernel
theorem dX8_go_22 : decode cX8_go 22 = .ok (.iadd, 1) := by decide +kernel
theorem dX8_go_23 : decode cX8_go 23 = .ok (.bipush 21, 2) := by decide +kernel
theorem dX8_go_25 : decode cX8_go 25 = .ok (.if_icmp .le 5, 3) := by decide +kernel
theorem dX8_go_28 : decode cX8_go 28 = .ok (.iconst (-1), 1) := by decide +kernel
theorem dX8_go_29 : decode cX8_go 29 = .ok (.ireturn, 1) := by decide +kernel
theorem dX8_go_30 : decode cX8_go 30 = .ok (.aload_n 0, 1) := by decide +kernel
theorem dX8_go_31 : decode cX8_go 31 = .ok (.invokevirtual 373, 3) := by decide +kernel
theorem dX8_go_34 : decode cX8_go 34 = .ok (.aload_n 0, 1) := by decide +kernel
theorem dX8_go_35 : decode cX8_go 35 = .ok (.iconst 1, 1) := by decide +kernel
theorem dX8_go_36 : decode cX8_go 36 = .ok (.putfield 388, 3) := by decide +kernel
theorem dX8_go_39 : decode cX8_go 39 = .ok (.iconst 0, 1) := by decide +kernel
theorem dX8_go_40 : decode cX8_go 40 = .ok (.istore_n 2, 1) := by decide +kernel
theorem dX8_go_41 : decode cX8_go 41 = .ok (.iload_n 2, 1) := by decide +kernel
theorem dX8_go_42 : decode cX8_go 42 = .ok (.iload_n 1, 1) := by decide +kernel
theorem dX8_go_43 : decode cX8_go 43 = .ok (.if_icmp .ge 14, 3) := by decide +kernel
theorem dX8_go_46 : decode cX8_go 46 = .ok (.aload_n 0, 1) := by decide +kernel
theorem dX8_go_47 : decode cX8_go 47 = .ok (.iconst 0, 1) := by decide +kernel
theorem dX8_go_48 : decode cX8_go 48 = .ok (.invokevirtual 488, 3) := by decide +kernel
theorem dX8_go_51 : decode cX8_go 51 = .ok (.iinc 2 1, 3) := by decide +kernel
theorem dX8_go_54 : decode cX8_go 54 = .ok (.goto (-13), 3) := by decide +kernel
theorem dX8_go_57 : decode cX8_go 57 = .ok (.aload_n 0, 1) := by decide +kernel
theorem dX8_go_58 : decode cX8_go 58 = .ok (.iconst 0, 1) := by decide +kernel
theorem dX8_go_59 : decode cX8_go 59 = .ok (.putfield 388, 3) := by decide +kernel
theorem dX8_go_62 : decode cX8_go 62 = .ok (.aload_n 0, 1) := by decide +kernel
theorem dX8_go_63 : decode cX8_go 63 = .ok (.iload_n 1, 1) := by decide +kernel
theorem dX8_go_64 : decode cX8_go 64 = .ok (.ifCond .le 7, 3) := by decide +kernel
theorem dX8_go_67 : decode cX8_go 67 = .ok (.iconst 0, 1) := by decide +kernel
theorem dX8_go_68 : decode cX8_go 68 = .ok (.goto 7, 3) := by decide +kernel
theorem dX8_go_71 : decode cX8_go 71 = .ok (.aload_n 0, 1) := by decide +kernel
theorem dX8_go_72 : decode cX8_go 72 = .ok (.getfield 379, 3) := by decide +kernel
theorem dX8_go_75 : decode cX8_go 75 = .ok (.putfield 379, 3) := by decide +kernel
theorem dX8_go_78 : decode cX8_go 78 = .ok (.aload_n 0, 1) := by decide +kernel
theorem dX8_go_79 : decode cX8_go 79 = .ok (.getfield 121, 3) := by decide +kernel
theorem dX8_go_82 : decode cX8_go 82 = .ok (.iconst 0, 1) := by decide +kernel
theorem dX8_go_83 : decode cX8_go 83 = .ok (.iaload, 1) := by decide +kernel
theorem dX8_go_84 : decode cX8_go 84 = .ok (.ireturn, 1) := by decide +kernel
theorem dX8_isComing_0 : decode cX8_isComing 0 = .ok (.aload_n 0, 1) := by decide +kernel
theorem dX8_isComing_1 : decode cX8_isComing 1 = .ok (.getfield 94, 3) := by decide +kernel
theorem dX8_isComing_4 : decode cX8_isComing 4 = .ok (.iload_n 1, 1) := by decide +kernel
theorem dX8_isComing_5 : decode cX8_isComing 5 = .ok (.iaload, 1) := by decide +kernel
theorem dX8_isComing_6 : decode cX8_isComing 6 = .ok (.ifCond .ne 41, 3) := by decide +kernel
theorem dX8_isComing_9 : decode cX8_isComing 9 = .ok (.aload_n 0, 1) := by decide +kernel
theorem dX8_isComing_10 : decode cX8_isComing 10 = .ok (.getfield 106, 3) := by decide +kernel
theorem dX8_isComing_13 : decode cX8_isComing 13 = .ok (.aload_n 0, 1) := by decide +kernel
theorem dX8_isComing_14 : decode cX8_isComing 14 = .ok (.getfield 45, 3) := by decide +kernel
theorem dX8_isComing_17 : decode cX8_isComing 17 = .ok (.iload_n 1, 1) := by decide +kernel
theorem dX8_isComing_18 : decode cX8_isComing 18 = .ok (.iaload, 1) := by decide +kernel
theorem dX8_isComing_19 : decode cX8_isComing 19 = .ok (.iaload, 1) := by decide +kernel
theorem dX8_isComing_20 : decode cX8_isComing 20 = .ok (.aload_n 0, 1) := by decide +kernel
theorem dX8_isComing_21 : decode cX8_isComing 21 = .ok (.getfield 121, 3) := by decide +kernel
theorem dX8_isComing_24 : decode cX8_isComing 24 = .ok (.iconst 0, 1) := by decide +kernel
theorem dX8_isComing_25 : decode cX8_isComing 25 = .ok (.iaload, 1) := by decide +kernel
theorem dX8_isComing_26 : decode cX8_isComing 26 = .ok (.if_icmp .ne 21, 3) := by decide +kernel
theorem dX8_isComing_29 : decode cX8_isComing 29 = .ok (.aload_n 0, 1) := by decide +kernel
theorem dX8_isComing_30 : decode cX8_isComing 30 = .ok (.getfield 112, 3) := by decide +kernel
theorem dX8_isComing_33 : decode cX8_isComing 33 = .ok (.aload_n 0, 1) := by decide +kernel
theorem dX8_isComing_34 : decode cX8_isComing 34 = .ok (.getfield 45, 3) := by decide +kernel
theorem dX8_isComing_37 : decode cX8_isComing 37 = .ok (.iload_n 1, 1) := by decide +kernel
theorem dX8_isComing_38 : decode cX8_isComing 38 = .ok (.iaload, 1) := by decide +kernel
theorem dX8_isComing_39 : decode cX8_isComing 39 = .ok (.iaload, 1) := by decide +kernel
theorem dX8_isComing_40 : decode cX8_isComing 40 = .ok (.ifCond .ne 7, 3) := by decide +kernel
theorem dX8_isComing_43 : decode cX8_isComing 43 = .ok (.iconst 1, 1) := by decide +kernel
theorem dX8_isComing_44 : decode cX8_isComing 44 = .ok (.goto 4, 3) := by decide +kernel
theorem dX8_isComing_47 : decode cX8_isComing 47 = .ok (.iconst 0, 1) := by decide +kernel
theorem dX8_isComing_48 : decode cX8_isComing 48 = .ok (.ireturn, 1) := by decide +kernel
theorem dX8_more_0 : decode cX8_more 0 = .ok (.aload_n 0, 1) := by decide +kernel
theorem dX8_more_1 : decode cX8_more 1 = .ok (.getfield 118, 3) := by decide +kernel
theorem dX8_more_4 : decode cX8_more 4 = .ok (.iconst 1, 1) := by decide +kernel
theorem dX8_more_5 : decode cX8_more 5 = .ok (.iaload, 1) := by decide +kernel
theorem dX8_more_6 : decode cX8_more 6 = .ok (.aload_n 0, 1) := by decide +kernel
theorem dX8_more_7 : decode cX8_more 7 = .ok (.getfield 118, 3) := by decide +kernel
theorem dX8_more_10 : decode cX8_more 10 = .ok (.iconst 0, 1) := by decide +kernel
theorem dX8_more_11 : decode cX8_more 11 = .ok (.iaload, 1) := by decide +kernel
theorem dX8_more_12 : decode cX8_more 12 = .ok (.isub, 1) := by decide +kernel
theorem dX8_more_13 : decode cX8_more 13 = .ok (.ireturn, 1) := by decide +kernel
theorem dX8_powerOf_0 : decode cX8_powerOf 0 = .ok (.iconst 1, 1) := by decide +kernel
theorem dX8_powerOf_1 : decode cX8_powerOf 1 = .ok (.istore_n 2, 1) := by decide +kernel
theorem dX8_powerOf_2 : decode cX8_powerOf 2 = .ok (.iconst 0, 1) := by decide +kernel
theorem dX8_powerOf_3 : decode cX8_powerOf 3 = .ok (.istore_n 3, 1) := by decide +kernel
theorem dX8_powerOf_4 : decode cX8_powerOf 4 = .ok (.iload_n 3, 1) := by decide +kernel
theorem dX8_powerOf_5 : decode cX8_powerOf 5 = .ok (.iload_n 1, 1) := by decide +kernel
theorem dX8_powerOf_6 : decode cX8_powerOf 6 = .ok (.if_icmp .ge 13, 3) := by decide +kernel
theorem dX8_powerOf_9 : decode cX8_powerOf 9 = .ok (.iload_n 2, 1) := by decide +kernel
theorem dX8_powerOf_10 : decode cX8_powerOf 10 = .ok (.iload_n 0, 1) := by decide +kernel
theorem dX8_powerOf_11 : decode cX8_powerOf 11 = .ok (.imul, 1) := by decide +kernel
theorem dX8_powerOf_12 : decode cX8_powerOf 12 = .ok (.istore_n 2, 1) := by decide +kernel
theorem dX8_powerOf_13 : decode cX8_powerOf 13 = .ok (.iinc 3 1, 3) := by decide +kernel
theorem dX8_powerOf_16 : decode cX8_powerOf 16 = .ok (.goto (-12), 3) := by decide +kernel
theorem dX8_powerOf_19 : decode cX8_powerOf 19 = .ok (.iload_n 2, 1) := by decide +kernel
theorem dX8_powerOf_20 : decode cX8_powerOf 20 = .ok (.ireturn, 1) := by decide +kernel
theorem dX8_least_0 : decode cX8_least 0 = .ok (.aload_n 0, 1) := by decide +kernel
theorem dX8_least_1 : decode cX8_least 1 = .ok (.iconst 0, 1) := by decide +kernel
theorem dX8_least_2 : decode cX8_least 2 = .ok (.putfield 172, 3) := by decide +kernel
theorem dX8_least_5 : decode cX8_least 5 = .ok (.iload_n 1, 1) := by decide +kernel
theorem dX8_least_6 : decode cX8_least 6 = .ok (.iconst 0, 1) := by decide +kernel
theorem dX8_least_7 : decode cX8_least 7 = .ok (.iconst 4, 1) := by decide +kernel
theorem dX8_least_8 : decode cX8_least 8 = .ok (.invokestatic 217, 3) := by decide +kernel
theorem dX8_least_11 : decode cX8_least 11 = .ok (.ifCond .eq 14, 3) := by decide +kernel
theorem dX8_least_14 : decode cX8_least 14 = .ok (.aload_n 0, 1) := by decide +kernel
theorem dX8_least_15 : decode cX8_least 15 = .ok (.getfield 121, 3) := by decide +kernel
theorem dX8_least_18 : decode cX8_least 18 = .ok (.iconst 0, 1) := by decide +kernel
theorem dX8_least_19 : decode cX8_least 19 = .ok (.iaload, 1) := by decide +kernel
theorem dX8_least_20 : decode cX8_least 20 = .ok (.bipush 21, 2) := by decide +kernel
theorem dX8_least_22 : decode cX8_least 22 = .ok (.if_icmp .lt 5, 3) := by decide +kernel
theorem dX8_least_25 : decode cX8_least 25 = .ok (.iconst (-1), 1) := by decide +kernel
theorem dX8_least_26 : decode cX8_least 26 = .ok (.ireturn, 1) := by decide +kernel
theorem dX8_least_27 : decode cX8_least 27 = .ok (.iconst 0, 1) := by decide +kernel
theorem dX8_least_28 : decode cX8_least 28 = .ok (.istore_n 2, 1) := by decide +kernel
theorem dX8_least_29 : decode cX8_least 29 = .ok (.iconst 0, 1) := by decide +kernel
theorem dX8_least_30 : decode cX8_least 30 = .ok (.istore_n 3, 1) := by decide +kernel
theorem dX8_least_31 : decode cX8_least 31 = .ok (.iload_n 3, 1) := by decide +kernel
theorem dX8_least_32 : decode cX8_least 32 = .ok (.aload_n 0, 1) := by decide +kernel
theorem dX8_least_33 : decode cX8_least 33 = .ok (.getfield 258, 3) := by decide +kernel
theorem dX8_least_36 : decode cX8_least 36 = .ok (.if_icmp .ge 38, 3) := by decide +kernel
theorem dX8_least_39 : decode cX8_least 39 = .ok (.aload_n 0, 1) := by decide +kernel
theorem dX8_least_40 : decode cX8_least 40 = .ok (.iload_n 3, 1) := by decide +kernel
theorem dX8_least_41 : decode cX8_least 41 = .ok (.invokevirtual 517, 3) := by decide +kernel
theorem dX8_least_44 : decode cX8_least 44 = .ok (.ifCond .ne 6, 3) := by decide +kernel
theorem dX8_least_47 : decode cX8_least 47 = .ok (.goto 21, 3) := by decide +kernel
theorem dX8_least_50 : decode cX8_least 50 = .ok (.iload_n 2, 1) := by decide +kernel
theorem dX8_least_51 : decode cX8_least 51 = .ok (.iconst 4, 1) := by decide +kernel
theorem dX8_least_52 : decode cX8_least 52 = .ok (.if_icmp .ne 6, 3) := by decide +kernel
theorem dX8_least_55 : decode cX8_least 55 = .ok (.bipush (-4), 2) := by decide +kernel
theorem dX8_least_57 : decode cX8_least 57 = .ok (.ireturn, 1) := by decide +kernel
theorem dX8_least_58 : decode cX8_least 58 = .ok (.aload_n 0, 1) := by decide +kernel
theorem dX8_least_59 : decode cX8_least 59 = .ok (.getfield 133, 3) := by decide +kernel
theorem dX8_least_62 : decode cX8_least 62 = .ok (.iload_n 2, 1) := by decide +kernel
theorem dX8_least_63 : decode cX8_least 63 = .ok (.iload_n 3, 1) := by decide +kernel
theorem dX8_least_64 : decode cX8_least 64 = .ok (.iastore, 1) := by decide +kernel
theorem dX8_least_65 : decode cX8_least 65 = .ok (.iinc 2 1, 3) := by decide +kernel
theorem dX8_least_68 : decode cX8_least 68 = .ok (.iinc 3 1, 3) := by decide +kernel
theorem dX8_least_71 : decode cX8_least 71 = .ok (.goto (-40), 3) := by decide +kernel
theorem dX8_least_74 : decode cX8_least 74 = .ok (.iconst (-1), 1) := by decide +kernel
theorem dX8_least_75 : decode cX8_least 75 = .ok (.istore_n 3, 1) := by decide +kernel
theorem dX8_least_76 : decode cX8_least 76 = .ok (.iconst 0, 1) := by decide +kernel
theorem dX8_least_77 : decode cX8_least 77 = .ok (.istore 4, 2) := by decide +kernel
theorem dX8_least_79 : decode cX8_least 79 = .ok (.iload 4, 2) := by decide +kernel
theorem dX8_least_81 : decode cX8_least 81 = .ok (.aload_n 0, 1) := by decide +kernel
theorem dX8_least_82 : decode cX8_least 82 = .ok (.getfield 252, 3) := by decide +kernel
theorem dX8_least_85 : decode cX8_least 85 = .ok (.iload_n 2, 1) := by decide +kernel
theorem dX8_least_86 : decode cX8_least 86 = .ok (.invokestatic 520, 3) := by decide +kernel
theorem dX8_least_89 : decode cX8_least 89 = .ok (.if_icmp .ge 190, 3) := by decide +kernel
theorem dX8_least_92 : decode cX8_least 92 = .ok (.aload_n 0, 1) := by decide +kernel
theorem dX8_least_93 : decode cX8_least 93 = .ok (.invokevirtual 511, 3) := by decide +kernel
theorem dX8_least_96 : decode cX8_least 96 = .ok (.iconst 0, 1) := by decide +kernel
theorem dX8_least_97 : decode cX8_least 97 = .ok (.istore 5, 2) := by decide +kernel
theorem dX8_least_99 : decode cX8_least 99 = .ok (.iload 5, 2) := by decide +kernel
theorem dX8_least_101 : decode cX8_least 101 = .ok (.iload_n 2, 1) := by decide +kernel
theorem dX8_least_102 : decode cX8_least 102 = .ok (.if_icmp .ge 42, 3) := by decide +kernel
theorem dX8_least_105 : decode cX8_least 105 = .ok (.aload_n 0, 1) := by decide +kernel
theorem dX8_least_106 : decode cX8_least 106 = .ok (.getfield 127, 3) := by decide +kernel
theorem dX8_least_109 : decode cX8_least 109 = .ok (.aload_n 0, 1) := by decide +kernel
theorem dX8_least_110 : decode cX8_least 110 = .ok (.getfield 133, 3) := by decide +kernel
theorem dX8_least_113 : decode cX8_least 113 = .ok (.iload 5, 2) := by decide +kernel
theorem dX8_least_115 : decode cX8_least 115 = .ok (.iaload, 1) := by decide +kernel
theorem dX8_least_116 : decode cX8_least 116 = .ok (.iload 4, 2) := by decide +kernel
theorem dX8_least_118 : decode cX8_least 118 = .ok (.aload_n 0, 1) := by decide +kernel
theorem dX8_least_119 : decode cX8_least 119 = .ok (.getfield 252, 3) := by decide +kernel
theorem dX8_least_122 : decode cX8_least 122 = .ok (.iload_n 2, 1) := by decide +kernel
theorem dX8_least_123 : decode cX8_least 123 = .ok (.iconst 1, 1) := by decide +kernel
theorem dX8_least_124 : decode cX8_least 124 = .ok (.isub, 1) := by decide +kernel
theorem dX8_least_125 : decode cX8_least 125 = .ok (.iload 5, 2) := by decide +kernel
theorem dX8_least_127 : decode cX8_least 127 = .ok (.isub, 1) := by decide +kernel
theorem dX8_least_128 : decode cX8_least 128 = .ok (.invokestatic 520, 3) := by decide +kernel
theorem dX8_least_131 : decode cX8_least 131 = .ok (.idiv, 1) := by decide +kernel
theorem dX8_least_132 : decode cX8_least 132 = .ok (.aload_n 0, 1) := by decide +kernel
theorem dX8_least_133 : decode cX8_least 133 = .ok (.getfield 252, 3) := by decide +kernel
theorem dX8_least_136 : decode cX8_least 136 = .ok (.irem, 1) := by decide +kernel
theorem dX8_least_137 : decode cX8_least 137 = .ok (.iastore, 1) := by decide +kernel
theorem dX8_least_138 : decode cX8_least 138 = .ok (.iinc 5 1, 3) := by decide +kernel
theorem dX8_least_141 : decode cX8_least 141 = .ok (.goto (-42), 3) := by decide +kernel
theorem dX8_least_144 : decode cX8_least 144 = .ok (.aload_n 0, 1) := by decide +kernel
theorem dX8_least_145 : decode cX8_least 145 = .ok (.iconst 1, 1) := by decide +kernel
theorem dX8_least_146 : decode cX8_least 146 = .ok (.invokevirtual 488, 3) := by decide +kernel
theorem dX8_least_149 : decode cX8_least 149 = .ok (.iconst 1, 1) := by decide +kernel
theorem dX8_least_150 : decode cX8_least 150 = .ok (.istore 5, 2) := by decide +kernel
theorem dX8_least_152 : decode cX8_least 152 = .ok (.iconst 0, 1) := by decide +kernel
theorem dX8_least_153 : decode cX8_least 153 = .ok (.istore 6, 2) := by decide +kernel
theorem dX8_least_155 : decode cX8_least 155 = .ok (.iload 6, 2) := by decide +kernel
theorem dX8_least_157 : decode cX8_least 157 = .ok (.iload_n 2, 1) := by decide +kernel
theorem dX8_least_158 : decode cX8_least 158 = .ok (.if_icmp .ge 40, 3) := by decide +kernel
theorem dX8_least_161 : decode cX8_least 161 = .ok (.iload 5, 2) := by decide +kernel
theorem dX8_least_163 : decode cX8_least 163 = .ok (.ifCond .eq 26, 3) := by decide +kernel
theorem dX8_least_166 : decode cX8_least 166 = .ok (.aload_n 0, 1) := by decide +kernel
theorem dX8_least_167 : decode cX8_least 167 = .ok (.getfield 94, 3) := by decide +kernel
theorem dX8_least_170 : decode cX8_least 170 = .ok (.bipush 10, 2) := by decide +kernel
theorem dX8_least_172 : decode cX8_least 172 = .ok (.aload_n 0, 1) := by decide +kernel
theorem dX8_least_173 : decode cX8_least 173 = .ok (.getfield 133, 3) := by decide +kernel
theorem dX8_least_176 : decode cX8_least 176 = .ok (.iload 6, 2) := by decide +kernel
theorem dX8_least_178 : decode cX8_least 178 = .ok (.iaload, 1) := by decide +kernel
theorem dX8_least_179 : decode cX8_least 179 = .ok (.iadd, 1) := by decide +kernel
theorem dX8_least_180 : decode cX8_least 180 = .ok (.iaload, 1) := by decide +kernel
theorem dX8_least_181 : decode cX8_least 181 = .ok (.iconst 5, 1) := by decide +kernel
theorem dX8_least_182 : decode cX8_least 182 = .ok (.if_icmp .eq 7, 3) := by decide +kernel
theorem dX8_least_185 : decode cX8_least 185 = .ok (.iconst 1, 1) := by decide +kernel
theorem dX8_least_186 : decode cX8_least 186 = .ok (.goto 4, 3) := by decide +kernel
theorem dX8_least_189 : decode cX8_least 189 = .ok (.iconst 0, 1) := by decide +kernel
theorem dX8_least_190 : decode cX8_least 190 = .ok (.istore 5, 2) := by decide +kernel
theorem dX8_least_192 : decode cX8_least 192 = .ok (.iinc 6 1, 3) := by decide +kernel
theorem dX8_least_195 : decode cX8_least 195 = .ok (.goto (-40), 3) := by decide +kernel
theorem dX8_least_198 : decode cX8_least 198 = .ok (.iload 5, 2) := by decide +kernel
theorem dX8_least_200 : decode cX8_least 200 = .ok (.ifCond .ne 6, 3) := by decide +kernel
theorem dX8_least_203 : decode cX8_least 203 = .ok (.goto 70, 3) := by decide +kernel
theorem dX8_least_206 : decode cX8_least 206 = .ok (.aload_n 0, 1) := by decide +kernel
theorem dX8_least_207 : decode cX8_least 207 = .ok (.invokevirtual 523, 3) := by decide +kernel
theorem dX8_least_210 : decode cX8_least 210 = .ok (.iload_n 3, 1) := by decide +kernel
theorem dX8_least_211 : decode cX8_least 211 = .ok (.ifCond .lt 14, 3) := by decide +kernel
theorem dX8_least_214 : decode cX8_least 214 = .ok (.aload_n 0, 1) := by decide +kernel
theorem dX8_least_215 : decode cX8_least 215 = .ok (.invokevirtual 526, 3) := by decide +kernel
theorem dX8_least_218 : decode cX8_least 218 = .ok (.iload_n 3, 1) := by decide +kernel
theorem dX8_least_219 : decode cX8_least 219 = .ok (.if_icmp .lt 6, 3) := by decide +kernel
theorem dX8_least_222 : decode cX8_least 222 = .ok (.goto 51, 3) := by decide +kernel
theorem dX8_least_225 : decode cX8_least 225 = .ok (.aload_n 0, 1) := by decide +kernel
theorem dX8_least_226 : decode cX8_least 226 = .ok (.invokevirtual 526, 3) := by decide +kernel
theorem dX8_least_229 : decode cX8_least 229 = .ok (.istore_n 3, 1) := by decide +kernel
theorem dX8_least_230 : decode cX8_least 230 = .ok (.iconst 0, 1) := by decide +kernel
theorem dX8_least_231 : decode cX8_least 231 = .ok (.istore 6, 2) := by decide +kernel
theorem dX8_least_233 : decode cX8_least 233 = .ok (.iload 6, 2) := by decide +kernel
theorem dX8_least_235 : decode cX8_least 235 = .ok (.iload_n 2, 1) := by decide +kernel
theorem dX8_least_236 : decode cX8_least 236 = .ok (.if_icmp .ge 37, 3) := by decide +kernel
theorem dX8_least_239 : decode cX8_least 239 = .ok (.aload_n 0, 1) := by decide +kernel
theorem dX8_least_240 : decode cX8_least 240 = .ok (.getfield 136, 3) := by decide +kernel
theorem dX8_least_243 : decode cX8_least 243 = .ok (.iload 6, 2) := by decide +kernel
theorem dX8_least_245 : decode cX8_least 245 = .ok (.iload 4, 2) := by decide +kernel
theorem dX8_least_247 : decode cX8_least 247 = .ok (.aload_n 0, 1) := by decide +kernel
theorem dX8_least_248 : decode cX8_least 248 = .ok (.getfield 252, 3) := by decide +kernel
theorem dX8_least_251 : decode cX8_least 251 = .ok (.iload_n 2, 1) := by decide +kernel
theorem dX8_least_252 : decode cX8_least 252 = .ok (.iconst 1, 1) := by decide +kernel
theorem dX8_least_253 : decode cX8_least 253 = .ok (.isub, 1) := by decide +kernel
theorem dX8_least_254 : decode cX8_least 254 = .ok (.iload 6, 2) := by decide +kernel
theorem dX8_least_256 : decode cX8_least 256 = .ok (.isub, 1) := by decide +kernel
theorem dX8_least_257 : decode cX8_least 257 = .ok (.invokestatic 520, 3) := by decide +kernel
theorem dX8_least_260 : decode cX8_least 260 = .ok (.idiv, 1) := by decide +kernel
theorem dX8_least_261 : decode cX8_least 261 = .ok (.aload_n 0, 1) := by decide +kernel
theorem dX8_least_262 : decode cX8_least 262 = .ok (.getfield 252, 3) := by decide +kernel
theorem dX8_least_265 : decode cX8_least 265 = .ok (.irem, 1) := by decide +kernel
theorem dX8_least_266 : decode cX8_least 266 = .ok (.iastore, 1) := by decide +kernel
theorem dX8_least_267 : decode cX8_least 267 = .ok (.iinc 6 1, 3) := by decide +kernel
theorem dX8_least_270 : decode cX8_least 270 = .ok (.goto (-37), 3) := by decide +kernel
theorem dX8_least_273 : decode cX8_least 273 = .ok (.iinc 4 1, 3) := by decide +kernel
theorem dX8_least_276 : decode cX8_least 276 = .ok (.goto (-197), 3) := by decide +kernel
theorem dX8_least_279 : decode cX8_least 279 = .ok (.iload_n 3, 1) := by decide +kernel
theorem dX8_least_280 : decode cX8_least 280 = .ok (.ifCond .ge 8, 3) := by decide +kernel
theorem dX8_least_283 : decode cX8_least 283 = .ok (.bipush (-3), 2) := by decide +kernel
theorem dX8_least_285 : decode cX8_least 285 = .ok (.goto 29, 3) := by decide +kernel
theorem dX8_least_288 : decode cX8_least 288 = .ok (.iload_n 1, 1) := by decide +kernel
theorem dX8_least_289 : decode cX8_least 289 = .ok (.ifCond .ne 7, 3) := by decide +kernel
theorem dX8_least_292 : decode cX8_least 292 = .ok (.iload_n 3, 1) := by decide +kernel
theorem dX8_least_293 : decode cX8_least 293 = .ok (.goto 21, 3) := by decide +kernel
theorem dX8_least_296 : decode cX8_least 296 = .ok (.iload_n 1, 1) := by decide +kernel
theorem dX8_least_297 : decode cX8_least 297 = .ok (.iload_n 2, 1) := by decide +kernel
theorem dX8_least_298 : decode cX8_least 298 = .ok (.if_icmp .le 8, 3) := by decide +kernel
theorem dX8_least_301 : decode cX8_least 301 = .ok (.bipush (-2), 2) := by decide +kernel
theorem dX8_least_303 : decode cX8_least 303 = .ok (.goto 11, 3) := by decide +kernel
theorem dX8_least_306 : decode cX8_least 306 = .ok (.aload_n 0, 1) := by decide +kernel
theorem dX8_least_307 : decode cX8_least 307 = .ok (.getfield 136, 3) := by decide +kernel
theorem dX8_least_310 : decode cX8_least 310 = .ok (.iload_n 1, 1) := by decide +kernel
theorem dX8_least_311 : decode cX8_least 311 = .ok (.iconst 1, 1) := by decide +kernel
theorem dX8_least_312 : decode cX8_least 312 = .ok (.isub, 1) := by decide +kernel
theorem dX8_least_313 : decode cX8_least 313 = .ok (.iaload, 1) := by decide +kernel
theorem dX8_least_314 : decode cX8_least 314 = .ok (.ireturn, 1) := by decide +kernel
theorem dX8_mine_0 : decode cX8_mine 0 = .ok (.aload_n 0, 1) := by decide +kernel
theorem dX8_mine_1 : decode cX8_mine 1 = .ok (.iconst 0, 1) := by decide +kernel
theorem dX8_mine_2 : decode cX8_mine 2 = .ok (.putfield 172, 3) := by decide +kernel
theorem dX8_mine_5 : decode cX8_mine 5 = .ok (.aload_n 0, 1) := by decide +kernel
theorem dX8_mine_6 : decode cX8_mine 6 = .ok (.iload_n 1, 1) := by decide +kernel
theorem dX8_mine_7 : decode cX8_mine 7 = .ok (.invokevirtual 497, 3) := by decide +kernel
theorem dX8_mine_10 : decode cX8_mine 10 = .ok (.ifCond .eq 31, 3) := by decide +kernel
theorem dX8_mine_13 : decode cX8_mine 13 = .ok (.iload_n 2, 1) := by decide +kernel
theorem dX8_mine_14 : decode cX8_mine 14 = .ok (.iconst 0, 1) := by decide +kernel
theorem dX8_mine_15 : decode cX8_mine 15 = .ok (.iconst 3, 1) := by decide +kernel
theorem dX8_mine_16 : decode cX8_mine 16 = .ok (.invokestatic 217, 3) := by decide +kernel
theorem dX8_mine_19 : decode cX8_mine 19 = .ok (.ifCond .eq 22, 3) := by decide +kernel
theorem dX8_mine_22 : decode cX8_mine 22 = .ok (.aload_n 0, 1) := by decide +kernel
theorem dX8_mine_23 : decode cX8_mine 23 = .ok (.getfield 121, 3) := by decide +kernel
theorem dX8_mine_26 : decode cX8_mine 26 = .ok (.iconst 0, 1) := by decide +kernel
theorem dX8_mine_27 : decode cX8_mine 27 = .ok (.iaload, 1) := by decide +kernel
theorem dX8_mine_28 : decode cX8_mine 28 = .ok (.bipush 21, 2) := by decide +kernel
theorem dX8_mine_30 : decode cX8_mine 30 = .ok (.if_icmp .ge 11, 3) := by decide +kernel
theorem dX8_mine_33 : decode cX8_mine 33 = .ok (.aload_n 0, 1) := by decide +kernel
theorem dX8_mine_34 : decode cX8_mine 34 = .ok (.iload_n 1, 1) := by decide +kernel
theorem dX8_mine_35 : decode cX8_mine 35 = .ok (.invokevirtual 517, 3) := by decide +kernel
theorem dX8_mine_38 : decode cX8_mine 38 = .ok (.ifCond .ne 5, 3) := by decide +kernel
theorem dX8_mine_41 : decode cX8_mine 41 = .ok (.iconst (-1), 1) := by decide +kernel
theorem dX8_mine_42 : decode cX8_mine 42 = .ok (.ireturn, 1) := by decide +kernel
theorem dX8_mine_43 : decode cX8_mine 43 = .ok (.bipush (-2), 2) := by decide +kernel
theorem dX8_mine_45 : decode cX8_mine 45 = .ok (.istore_n 3, 1) := by decide +kernel
theorem dX8_mine_46 : decode cX8_mine 46 = .ok (.bipush (-2), 2) := by decide +kernel
theorem dX8_mine_48 : decode cX8_mine 48 = .ok (.istore 4, 2) := by decide +kernel
theorem dX8_mine_50 : decode cX8_mine 50 = .ok (.iconst 0, 1) := by decide +kernel
theorem dX8_mine_51 : decode cX8_mine 51 = .ok (.istore 5, 2) := by decide +kernel
theorem dX8_mine_53 : decode cX8_mine 53 = .ok (.iload 5, 2) := by decide +kernel
theorem dX8_mine_55 : decode cX8_mine 55 = .ok (.aload_n 0, 1) := by decide +kernel
theorem dX8_mine_56 : decode cX8_mine 56 = .ok (.getfield 252, 3) := by decide +kernel
theorem dX8_mine_59 : decode cX8_mine 59 = .ok (.if_icmp .ge 107, 3) := by decide +kernel
theorem dX8_mine_62 : decode cX8_mine 62 = .ok (.aload_n 0, 1) := by decide +kernel
theorem dX8_mine_63 : decode cX8_mine 63 = .ok (.invokevirtual 511, 3) := by decide +kernel
theorem dX8_mine_66 : decode cX8_mine 66 = .ok (.aload_n 0, 1) := by decide +kernel
theorem dX8_mine_67 : decode cX8_mine 67 = .ok (.getfield 127, 3) := by decide +kernel
theorem dX8_mine_70 : decode cX8_mine 70 = .ok (.iload_n 1, 1) := by decide +kernel
theorem dX8_mine_71 : decode cX8_mine 71 = .ok (.iload 5, 2) := by decide +kernel
theorem dX8_mine_73 : decode cX8_mine 73 = .ok (.iastore, 1) := by decide +kernel
theorem dX8_mine_74 : decode cX8_mine 74 = .ok (.aload_n 0, 1) := by decide +kernel
theorem dX8_mine_75 : decode cX8_mine 75 = .ok (.iconst 1, 1) := by decide +kernel
theorem dX8_mine_76 : decode cX8_mine 76 = .ok (.invokevirtual 488, 3) := by decide +kernel
theorem dX8_mine_79 : decode cX8_mine 79 = .ok (.aload_n 0, 1) := by decide +kernel
theorem dX8_mine_80 : decode cX8_mine 80 = .ok (.getfield 94, 3) := by decide +kernel
theorem dX8_mine_83 : decode cX8_mine 83 = .ok (.bipush 10, 2) := by decide +kernel
theorem dX8_mine_85 : decode cX8_mine 85 = .ok (.iload_n 1, 1) := by decide +kernel
theorem dX8_mine_86 : decode cX8_mine 86 = .ok (.iadd, 1) := by decide +kernel
theorem dX8_mine_87 : decode cX8_mine 87 = .ok (.iaload, 1) := by decide +kernel
theorem dX8_mine_88 : decode cX8_mine 88 = .ok (.iconst 5, 1) := by decide +kernel
theorem dX8_mine_89 : decode cX8_mine 89 = .ok (.if_icmp .ne 6, 3) := by decide +kernel
theorem dX8_mine_92 : decode cX8_mine 92 = .ok (.goto 68, 3) := by decide +kernel
theorem dX8_mine_95 : decode cX8_mine 95 = .ok (.aload_n 0, 1) := by decide +kernel
theorem dX8_mine_96 : decode cX8_mine 96 = .ok (.invokevirtual 523, 3) := by decide +kernel
theorem dX8_mine_99 : decode cX8_mine 99 = .ok (.iload_n 2, 1) := by decide +kernel
theorem dX8_mine_100 : decode cX8_mine 100 = .ok (.iconst 2, 1) := by decide +kernel
theorem dX8_mine_101 : decode cX8_mine 101 = .ok (.if_icmp .ge 32, 3) := by decide +kernel
theorem dX8_mine_104 : decode cX8_mine 104 = .ok (.aload_n 0, 1) := by decide +kernel
theorem dX8_mine_105 : decode cX8_mine 105 = .ok (.getfield 115, 3) := by decide +kernel
theorem dX8_mine_108 : decode cX8_mine 108 = .ok (.bipush 6, 2) := by decide +kernel
theorem dX8_mine_110 : decode cX8_mine 110 = .ok (.aload_n 0, 1) := by decide +kernel
theorem dX8_mine_111 : decode cX8_mine 111 = .ok (.getfield 45, 3) := by decide +kernel
theorem dX8_mine_114 : decode cX8_mine 114 = .ok (.iload_n 1, 1) := by decide +kernel
theorem dX8_mine_115 : decode cX8_mine 115 = .ok (.iaload, 1) := by decide +kernel
theorem dX8_mine_116 : decode cX8_mine 116 = .ok (.iadd, 1) := by decide +kernel
theorem dX8_mine_117 : decode cX8_mine 117 = .ok (.iaload, 1) := by decide +kernel
theorem dX8_mine_118 : decode cX8_mine 118 = .ok (.aload_n 0, 1) := by decide +kernel
theorem dX8_mine_119 : decode cX8_mine 119 = .ok (.getfield 115, 3) := by decide +kernel
theorem dX8_mine_122 : decode cX8_mine 122 = .ok (.aload_n 0, 1) := by decide +kernel
theorem dX8_mine_123 : decode cX8_mine 123 = .ok (.getfield 45, 3) := by decide +kernel
theorem dX8_mine_126 : decode cX8_mine 126 = .ok (.iload_n 1, 1) := by decide +kernel
theorem dX8_mine_127 : decode cX8_mine 127 = .ok (.iaload, 1) := by decide +kernel
theorem dX8_mine_128 : decode cX8_mine 128 = .ok (.iaload, 1) := by decide +kernel
theorem dX8_mine_129 : decode cX8_mine 129 = .ok (.isub, 1) := by decide +kernel
theorem dX8_mine_130 : decode cX8_mine 130 = .ok (.goto 7, 3) := by decide +kernel
theorem dX8_mine_133 : decode cX8_mine 133 = .ok (.aload_n 0, 1) := by decide +kernel
theorem dX8_mine_134 : decode cX8_mine 134 = .ok (.invokevirtual 526, 3) := by decide +kernel
theorem dX8_mine_137 : decode cX8_mine 137 = .ok (.istore 6, 2) := by decide +kernel
theorem dX8_mine_139 : decode cX8_mine 139 = .ok (.iload_n 3, 1) := by decide +kernel
theorem dX8_mine_140 : decode cX8_mine 140 = .ok (.ifCond .lt 13, 3) := by decide +kernel
theorem dX8_mine_143 : decode cX8_mine 143 = .ok (.iload 6, 2) := by decide +kernel
theorem dX8_mine_145 : decode cX8_mine 145 = .ok (.iload 4, 2) := by decide +kernel
theorem dX8_mine_147 : decode cX8_mine 147 = .ok (.if_icmp .lt 6, 3) := by decide +kernel
theorem dX8_mine_150 : decode cX8_mine 150 = .ok (.goto 10, 3) := by decide +kernel
theorem dX8_mine_153 : decode cX8_mine 153 = .ok (.iload 5, 2) := by decide +kernel
theorem dX8_mine_155 : decode cX8_mine 155 = .ok (.istore_n 3, 1) := by decide +kernel
theorem dX8_mine_156 : decode cX8_mine 156 = .ok (.iload 6, 2) := by decide +kernel
theorem dX8_mine_158 : decode cX8_mine 158 = .ok (.istore 4, 2) := by decide +kernel
theorem dX8_mine_160 : decode cX8_mine 160 = .ok (.iinc 5 1, 3) := by decide +kernel
theorem dX8_mine_163 : decode cX8_mine 163 = .ok (.goto (-110), 3) := by decide +kernel
theorem dX8_mine_166 : decode cX8_mine 166 = .ok (.iload_n 2, 1) := by decide +kernel
theorem dX8_mine_167 : decode cX8_mine 167 = .ok (.iconst 2, 1) := by decide +kernel
theorem dX8_mine_168 : decode cX8_mine 168 = .ok (.irem, 1) := by decide +kernel
theorem dX8_mine_169 : decode cX8_mine 169 = .ok (.ifCond .ne 7, 3) := by decide +kernel
theorem dX8_mine_172 : decode cX8_mine 172 = .ok (.iload_n 3, 1) := by decide +kernel
theorem dX8_mine_173 : decode cX8_mine 173 = .ok (.goto 5, 3) := by decide +kernel
theorem dX8_mine_176 : decode cX8_mine 176 = .ok (.iload 4, 2) := by decide +kernel
theorem dX8_mine_178 : decode cX8_mine 178 = .ok (.ireturn, 1) := by decide +kernel
theorem dX8_when_0 : decode cX8_when 0 = .ok (.aload_n 0, 1) := by decide +kernel
theorem dX8_when_1 : decode cX8_when 1 = .ok (.iconst 0, 1) := by decide +kernel
theorem dX8_when_2 : decode cX8_when 2 = .ok (.putfield 172, 3) := by decide +kernel
theorem dX8_when_5 : decode cX8_when 5 = .ok (.aload_n 0, 1) := by decide +kernel
theorem dX8_when_6 : decode cX8_when 6 = .ok (.iload_n 1, 1) := by decide +kernel
theorem dX8_when_7 : decode cX8_when 7 = .ok (.invokevirtual 500, 3) := by decide +kernel
theorem dX8_when_10 : decode cX8_when 10 = .ok (.ifCond .eq 12, 3) := by decide +kernel
theorem dX8_when_13 : decode cX8_when 13 = .ok (.iload_n 2, 1) := by decide +kernel
theorem dX8_when_14 : decode cX8_when 14 = .ok (.iconst 0, 1) := by decide +kernel
theorem dX8_when_15 : decode cX8_when 15 = .ok (.iconst 1, 1) := by decide +kernel
theorem dX8_when_16 : decode cX8_when 16 = .ok (.invokestatic 217, 3) := by decide +kernel
theorem dX8_when_19 : decode cX8_when 19 = .ok (.ifCond .ne 5, 3) := by decide +kernel
theorem dX8_when_22 : decode cX8_when 22 = .ok (.iconst (-1), 1) := by decide +kernel
theorem dX8_when_23 : decode cX8_when 23 = .ok (.ireturn, 1) := by decide +kernel
theorem dX8_when_24 : decode cX8_when 24 = .ok (.aload_n 0, 1) := by decide +kernel
theorem dX8_when_25 : decode cX8_when 25 = .ok (.invokevirtual 511, 3) := by decide +kernel
theorem dX8_when_28 : decode cX8_when 28 = .ok (.aload_n 0, 1) := by decide +kernel
theorem dX8_when_29 : decode cX8_when 29 = .ok (.invokevirtual 523, 3) := by decide +kernel
theorem dX8_when_32 : decode cX8_when 32 = .ok (.aload_n 0, 1) := by decide +kernel
theorem dX8_when_33 : decode cX8_when 33 = .ok (.invokevirtual 526, 3) := by decide +kernel
theorem dX8_when_36 : decode cX8_when 36 = .ok (.istore_n 3, 1) := by decide +kernel
theorem dX8_when_37 : decode cX8_when 37 = .ok (.bipush (-2), 2) := by decide +kernel
theorem dX8_when_39 : decode cX8_when 39 = .ok (.istore 4, 2) := by decide +kernel
theorem dX8_when_41 : decode cX8_when 41 = .ok (.bipush (-2), 2) := by decide +kernel
theorem dX8_when_43 : decode cX8_when 43 = .ok (.istore 5, 2) := by decide +kernel
theorem dX8_when_45 : decode cX8_when 45 = .ok (.aload_n 0, 1) := by decide +kernel
theorem dX8_when_46 : decode cX8_when 46 = .ok (.getfield 121, 3) := by decide +kernel
theorem dX8_when_49 : decode cX8_when 49 = .ok (.iconst 0, 1) := by decide +kernel
theorem dX8_when_50 : decode cX8_when 50 = .ok (.iaload, 1) := by decide +kernel
theorem dX8_when_51 : decode cX8_when 51 = .ok (.istore 6, 2) := by decide +kernel
theorem dX8_when_53 : decode cX8_when 53 = .ok (.iload 6, 2) := by decide +kernel
theorem dX8_when_55 : decode cX8_when 55 = .ok (.bipush 20, 2) := by decide +kernel
theorem dX8_when_57 : decode cX8_when 57 = .ok (.if_icmp .ge 85, 3) := by decide +kernel
theorem dX8_when_60 : decode cX8_when 60 = .ok (.aload_n 0, 1) := by decide +kernel
theorem dX8_when_61 : decode cX8_when 61 = .ok (.invokevirtual 511, 3) := by decide +kernel
theorem dX8_when_64 : decode cX8_when 64 = .ok (.aload_n 0, 1) := by decide +kernel
theorem dX8_when_65 : decode cX8_when 65 = .ok (.getfield 121, 3) := by decide +kernel
theorem dX8_when_68 : decode cX8_when 68 = .ok (.iconst 1, 1) := by decide +kernel
theorem dX8_when_69 : decode cX8_when 69 = .ok (.iaload, 1) := by decide +kernel
theorem dX8_when_70 : decode cX8_when 70 = .ok (.iload 6, 2) := by decide +kernel
theorem dX8_when_72 : decode cX8_when 72 = .ok (.if_icmp .ge 11, 3) := by decide +kernel
theorem dX8_when_75 : decode cX8_when 75 = .ok (.aload_n 0, 1) := by decide +kernel
theorem dX8_when_76 : decode cX8_when 76 = .ok (.iconst 1, 1) := by decide +kernel
theorem dX8_when_77 : decode cX8_when 77 = .ok (.invokevirtual 488, 3) := by decide +kernel
theorem dX8_when_80 : decode cX8_when 80 = .ok (.goto (-16), 3) := by decide +kernel
theorem dX8_when_83 : decode cX8_when 83 = .ok (.aload_n 0, 1) := by decide +kernel
theorem dX8_when_84 : decode cX8_when 84 = .ok (.getfield 103, 3) := by decide +kernel
theorem dX8_when_87 : decode cX8_when 87 = .ok (.iconst 5, 1) := by decide +kernel
theorem dX8_when_88 : decode cX8_when 88 = .ok (.iload_n 1, 1) := by decide +kernel
theorem dX8_when_89 : decode cX8_when 89 = .ok (.iadd, 1) := by decide +kernel
theorem dX8_when_90 : decode cX8_when 90 = .ok (.iaload, 1) := by decide +kernel
theorem dX8_when_91 : decode cX8_when 91 = .ok (.istore 7, 2) := by decide +kernel
theorem dX8_when_93 : decode cX8_when 93 = .ok (.aload_n 0, 1) := by decide +kernel
theorem dX8_when_94 : decode cX8_when 94 = .ok (.iconst 1, 1) := by decide +kernel
theorem dX8_when_95 : decode cX8_when 95 = .ok (.iload_n 1, 1) := by decide +kernel
theorem dX8_when_96 : decode cX8_when 96 = .ok (.invokevirtual 514, 3) := by decide +kernel
theorem dX8_when_99 : decode cX8_when 99 = .ok (.pop, 1) := by decide +kernel
theorem dX8_when_100 : decode cX8_when 100 = .ok (.aload_n 0, 1) := by decide +kernel
theorem dX8_when_101 : decode cX8_when 101 = .ok (.invokevirtual 523, 3) := by decide +kernel
theorem dX8_when_104 : decode cX8_when 104 = .ok (.aload_n 0, 1) := by decide +kernel
theorem dX8_when_105 : decode cX8_when 105 = .ok (.invokevirtual 526, 3) := by decide +kernel
theorem dX8_when_108 : decode cX8_when 108 = .ok (.iload 7, 2) := by decide +kernel
theorem dX8_when_110 : decode cX8_when 110 = .ok (.iadd, 1) := by decide +kernel
theorem dX8_when_111 : decode cX8_when 111 = .ok (.iload_n 3, 1) := by decide +kernel
theorem dX8_when_112 : decode cX8_when 112 = .ok (.if_icmp .lt 6, 3) := by decide +kernel
theorem dX8_when_115 : decode cX8_when 115 = .ok (.goto 21, 3) := by decide +kernel
theorem dX8_when_118 : decode cX8_when 118 = .ok (.aload_n 0, 1) := by decide +kernel
theorem dX8_when_119 : decode cX8_when 119 = .ok (.invokevirtual 526, 3) := by decide +kernel
theorem dX8_when_122 : decode cX8_when 122 = .ok (.iload 7, 2) := by decide +kernel
theorem dX8_when_124 : decode cX8_when 124 = .ok (.iadd, 1) := by decide +kernel
theorem dX8_when_125 : decode cX8_when 125 = .ok (.istore_n 3, 1) := by decide +kernel
theorem dX8_when_126 : decode cX8_when 126 = .ok (.iload 6, 2) := by decide +kernel
theorem dX8_when_128 : decode cX8_when 128 = .ok (.istore 4, 2) := by decide +kernel
theorem dX8_when_130 : decode cX8_when 130 = .ok (.aload_n 0, 1) := by decide +kernel
theorem dX8_when_131 : decode cX8_when 131 = .ok (.invokevirtual 526, 3) := by decide +kernel
theorem dX8_when_134 : decode cX8_when 134 = .ok (.istore 5, 2) := by decide +kernel
theorem dX8_when_136 : decode cX8_when 136 = .ok (.iinc 6 1, 3) := by decide +kernel
theorem dX8_when_139 : decode cX8_when 139 = .ok (.goto (-86), 3) := by decide +kernel
theorem dX8_when_142 : decode cX8_when 142 = .ok (.iload_n 2, 1) := by decide +kernel
theorem dX8_when_143 : decode cX8_when 143 = .ok (.ifCond .ne 8, 3) := by decide +kernel
theorem dX8_when_146 : decode cX8_when 146 = .ok (.iload 4, 2) := by decide +kernel
theorem dX8_when_148 : decode cX8_when 148 = .ok (.goto 5, 3) := by decide +kernel
theorem dX8_when_151 : decode cX8_when 151 = .ok (.iload 5, 2) := by decide +kernel
theorem dX8_when_153 : decode cX8_when 153 = .ok (.ireturn, 1) := by decide +kernel
theorem dX8_areTwo_0 : decode cX8_areTwo 0 = .ok (.aload_n 0, 1) := by decide +kernel
theorem dX8_areTwo_1 : decode cX8_areTwo 1 = .ok (.iload_n 1, 1) := by decide +kernel
theorem dX8_areTwo_2 : decode cX8_areTwo 2 = .ok (.invokevirtual 497, 3) := by decide +kernel
theorem dX8_areTwo_5 : decode cX8_areTwo 5 = .ok (.ifCond .eq 69, 3) := by decide +kernel
theorem dX8_areTwo_8 : decode cX8_areTwo 8 = .ok (.aload_n 0, 1) := by decide +kernel
theorem dX8_areTwo_9 : decode cX8_areTwo 9 = .ok (.iload_n 2, 1) := by decide +kernel
theorem dX8_areTwo_10 : decode cX8_areTwo 10 = .ok (.invokevirtual 497, 3) := by decide +kernel
theorem dX8_areTwo_13 : decode cX8_areTwo 13 = .ok (.ifCond .eq 61, 3) := by decide +kernel
theorem dX8_areTwo_16 : decode cX8_areTwo 16 = .ok (.iload_n 1, 1) := by decide +kernel
theorem dX8_areTwo_17 : decode cX8_areTwo 17 = .ok (.iload_n 2, 1) := by decide +kernel
theorem dX8_areTwo_18 : decode cX8_areTwo 18 = .ok (.if_icmp .eq 56, 3) := by decide +kernel
theorem dX8_areTwo_21 : decode cX8_areTwo 21 = .ok (.aload_n 0, 1) := by decide +kernel
theorem dX8_areTwo_22 : decode cX8_areTwo 22 = .ok (.getfield 45, 3) := by decide +kernel
theorem dX8_areTwo_25 : decode cX8_areTwo 25 = .ok (.iload_n 1, 1) := by decide +kernel
theorem dX8_areTwo_26 : decode cX8_areTwo 26 = .ok (.iaload, 1) := by decide +kernel
theorem dX8_areTwo_27 : decode cX8_areTwo 27 = .ok (.aload_n 0, 1) := by decide +kernel
theorem dX8_areTwo_28 : decode cX8_areTwo 28 = .ok (.getfield 45, 3) := by decide +kernel
theorem dX8_areTwo_31 : decode cX8_areTwo 31 = .ok (.iload_n 2, 1) := by decide +kernel
theorem dX8_areTwo_32 : decode cX8_areTwo 32 = .ok (.iaload, 1) := by decide +kernel
theorem dX8_areTwo_33 : decode cX8_areTwo 33 = .ok (.if_icmp .eq 41, 3) := by decide +kernel
theorem dX8_areTwo_36 : decode cX8_areTwo 36 = .ok (.aload_n 0, 1) := by decide +kernel
theorem dX8_areTwo_37 : decode cX8_areTwo 37 = .ok (.getfield 121, 3) := by decide +kernel
theorem dX8_areTwo_40 : decode cX8_areTwo 40 = .ok (.iconst 0, 1) := by decide +kernel
theorem dX8_areTwo_41 : decode cX8_areTwo 41 = .ok (.iaload, 1) := by decide +kernel
theorem dX8_areTwo_42 : decode cX8_areTwo 42 = .ok (.bipush 21, 2) := by decide +kernel
theorem dX8_areTwo_44 : decode cX8_areTwo 44 = .ok (.if_icmp .ge 30, 3) := by decide +kernel
theorem dX8_areTwo_47 : decode cX8_areTwo 47 = .ok (.aload_n 0, 1) := by decide +kernel
theorem dX8_areTwo_48 : decode cX8_areTwo 48 = .ok (.iload_n 1, 1) := by decide +kernel
theorem dX8_areTwo_49 : decode cX8_areTwo 49 = .ok (.invokevirtual 517, 3) := by decide +kernel
theorem dX8_areTwo_52 : decode cX8_areTwo 52 = .ok (.ifCond .eq 22, 3) := by decide +kernel
theorem dX8_areTwo_55 : decode cX8_areTwo 55 = .ok (.aload_n 0, 1) := by decide +kernel
theorem dX8_areTwo_56 : decode cX8_areTwo 56 = .ok (.iload_n 2, 1) := by decide +kernel
theorem dX8_areTwo_57 : decode cX8_areTwo 57 = .ok (.invokevirtual 517, 3) := by decide +kernel
theorem dX8_areTwo_60 : decode cX8_areTwo 60 = .ok (.ifCond .eq 14, 3) := by decide +kernel
theorem dX8_areTwo_63 : decode cX8_areTwo 63 = .ok (.aload_n 0, 1) := by decide +kernel
theorem dX8_areTwo_64 : decode cX8_areTwo 64 = .ok (.getfield 252, 3) := by decide +kernel
theorem dX8_areTwo_67 : decode cX8_areTwo 67 = .ok (.ifCond .le 7, 3) := by decide +kernel
theorem dX8_areTwo_70 : decode cX8_areTwo 70 = .ok (.iconst 1, 1) := by decide +kernel
theorem dX8_areTwo_71 : decode cX8_areTwo 71 = .ok (.goto 4, 3) := by decide +kernel
theorem dX8_areTwo_74 : decode cX8_areTwo 74 = .ok (.iconst 0, 1) := by decide +kernel
theorem dX8_areTwo_75 : decode cX8_areTwo 75 = .ok (.ireturn, 1) := by decide +kernel
theorem dX8_costOf_0 : decode cX8_costOf 0 = .ok (.aload_n 0, 1) := by decide +kernel
theorem dX8_costOf_1 : decode cX8_costOf 1 = .ok (.getfield 115, 3) := by decide +kernel
theorem dX8_costOf_4 : decode cX8_costOf 4 = .ok (.bipush 6, 2) := by decide +kernel
theorem dX8_costOf_6 : decode cX8_costOf 6 = .ok (.aload_n 0, 1) := by decide +kernel
theorem dX8_costOf_7 : decode cX8_costOf 7 = .ok (.getfield 45, 3) := by decide +kernel
theorem dX8_costOf_10 : decode cX8_costOf 10 = .ok (.iload_n 1, 1) := by decide +kernel
theorem dX8_costOf_11 : decode cX8_costOf 11 = .ok (.iaload, 1) := by decide +kernel
theorem dX8_costOf_12 : decode cX8_costOf 12 = .ok (.iadd, 1) := by decide +kernel
theorem dX8_costOf_13 : decode cX8_costOf 13 = .ok (.iaload, 1) := by decide +kernel
theorem dX8_costOf_14 : decode cX8_costOf 14 = .ok (.aload_n 0, 1) := by decide +kernel
theorem dX8_costOf_15 : decode cX8_costOf 15 = .ok (.getfield 115, 3) := by decide +kernel
theorem dX8_costOf_18 : decode cX8_costOf 18 = .ok (.aload_n 0, 1) := by decide +kernel
theorem dX8_costOf_19 : decode cX8_costOf 19 = .ok (.getfield 45, 3) := by decide +kernel
theorem dX8_costOf_22 : decode cX8_costOf 22 = .ok (.iload_n 1, 1) := by decide +kernel
theorem dX8_costOf_23 : decode cX8_costOf 23 = .ok (.iaload, 1) := by decide +kernel
theorem dX8_costOf_24 : decode cX8_costOf 24 = .ok (.iaload, 1) := by decide +kernel
theorem dX8_costOf_25 : decode cX8_costOf 25 = .ok (.isub, 1) := by decide +kernel
theorem dX8_costOf_26 : decode cX8_costOf 26 = .ok (.iload_n 2, 1) := by decide +kernel
theorem dX8_costOf_27 : decode cX8_costOf 27 = .ok (.ifCond .eq 9, 3) := by decide +kernel
theorem dX8_costOf_30 : decode cX8_costOf 30 = .ok (.sipush 999, 3) := by decide +kernel
theorem dX8_costOf_33 : decode cX8_costOf 33 = .ok (.goto 4, 3) := by decide +kernel
theorem dX8_costOf_36 : decode cX8_costOf 36 = .ok (.iconst 0, 1) := by decide +kernel
theorem dX8_costOf_37 : decode cX8_costOf 37 = .ok (.iadd, 1) := by decide +kernel
theorem dX8_costOf_38 : decode cX8_costOf 38 = .ok (.ireturn, 1) := by decide +kernel
theorem dX8_restAt_0 : decode cX8_restAt 0 = .ok (.iconst 0, 1) := by decide +kernel
theorem dX8_restAt_1 : decode cX8_restAt 1 = .ok (.istore 4, 2) := by decide +kernel
theorem dX8_restAt_3 : decode cX8_restAt 3 = .ok (.iload 4, 2) := by decide +kernel
theorem dX8_restAt_5 : decode cX8_restAt 5 = .ok (.aload_n 0, 1) := by decide +kernel
theorem dX8_restAt_6 : decode cX8_restAt 6 = .ok (.getfield 252, 3) := by decide +kernel
theorem dX8_restAt_9 : decode cX8_restAt 9 = .ok (.aload_n 0, 1) := by decide +kernel
theorem dX8_restAt_10 : decode cX8_restAt 10 = .ok (.getfield 252, 3) := by decide +kernel
theorem dX8_restAt_13 : decode cX8_restAt 13 = .ok (.imul, 1) := by decide +kernel
theorem dX8_restAt_14 : decode cX8_restAt 14 = .ok (.if_icmp .ge 116, 3) := by decide +kernel
theorem dX8_restAt_17 : decode cX8_restAt 17 = .ok (.aload_n 0, 1) := by decide +kernel
theorem dX8_restAt_18 : decode cX8_restAt 18 = .ok (.invokevirtual 511, 3) := by decide +kernel
theorem dX8_restAt_21 : decode cX8_restAt 21 = .ok (.aload_n 0, 1) := by decide +kernel
theorem dX8_restAt_22 : decode cX8_restAt 22 = .ok (.getfield 127, 3) := by decide +kernel
theorem dX8_restAt_25 : decode cX8_restAt 25 = .ok (.iload_n 1, 1) := by decide +kernel
theorem dX8_restAt_26 : decode cX8_restAt 26 = .ok (.iload 4, 2) := by decide +kernel
theorem dX8_restAt_28 : decode cX8_restAt 28 = .ok (.aload_n 0, 1) := by decide +kernel
theorem dX8_restAt_29 : decode cX8_restAt 29 = .ok (.getfield 252, 3) := by decide +kernel
theorem dX8_restAt_32 : decode cX8_restAt 32 = .ok (.idiv, 1) := by decide +kernel
theorem dX8_restAt_33 : decode cX8_restAt 33 = .ok (.iastore, 1) := by decide +kernel
theorem dX8_restAt_34 : decode cX8_restAt 34 = .ok (.aload_n 0, 1) := by decide +kernel
theorem dX8_restAt_35 : decode cX8_restAt 35 = .ok (.getfield 127, 3) := by decide +kernel
theorem dX8_restAt_38 : decode cX8_restAt 38 = .ok (.iload_n 2, 1) := by decide +kernel
theorem dX8_restAt_39 : decode cX8_restAt 39 = .ok (.iload 4, 2) := by decide +kernel
theorem dX8_restAt_41 : decode cX8_restAt 41 = .ok (.aload_n 0, 1) := by decide +kernel
theorem dX8_restAt_42 : decode cX8_restAt 42 = .ok (.getfield 252, 3) := by decide +kernel
theorem dX8_restAt_45 : decode cX8_restAt 45 = .ok (.irem, 1) := by decide +kernel
theorem dX8_restAt_46 : decode cX8_restAt 46 = .ok (.iastore, 1) := by decide +kernel
theorem dX8_restAt_47 : decode cX8_restAt 47 = .ok (.aload_n 0, 1) := by decide +kernel
theorem dX8_restAt_48 : decode cX8_restAt 48 = .ok (.iconst 1, 1) := by decide +kernel
theorem dX8_restAt_49 : decode cX8_restAt 49 = .ok (.invokevirtual 488, 3) := by decide +kernel
theorem dX8_restAt_52 : decode cX8_restAt 52 = .ok (.aload_n 0, 1) := by decide +kernel
theorem dX8_restAt_53 : decode cX8_restAt 53 = .ok (.getfield 94, 3) := by decide +kernel
theorem dX8_restAt_56 : decode cX8_restAt 56 = .ok (.bipush 10, 2) := by decide +kernel
theorem dX8_restAt_58 : decode cX8_restAt 58 = .ok (.iload_n 1, 1) := by decide +kernel
theorem dX8_restAt_59 : decode cX8_restAt 59 = .ok (.iadd, 1) := by decide +kernel
theorem dX8_restAt_60 : decode cX8_restAt 60 = .ok (.iaload, 1) := by decide +kernel
theorem dX8_restAt_61 : decode cX8_restAt 61 = .ok (.iconst 5, 1) := by decide +kernel
theorem dX8_restAt_62 : decode cX8_restAt 62 = .ok (.if_icmp .ne 7, 3) := by decide +kernel
theorem dX8_restAt_65 : decode cX8_restAt 65 = .ok (.iconst 1, 1) := by decide +kernel
theorem dX8_restAt_66 : decode cX8_restAt 66 = .ok (.goto 4, 3) := by decide +kernel
theorem dX8_restAt_69 : decode cX8_restAt 69 = .ok (.iconst 0, 1) := by decide +kernel
theorem dX8_restAt_70 : decode cX8_restAt 70 = .ok (.istore 5, 2) := by decide +kernel
theorem dX8_restAt_72 : decode cX8_restAt 72 = .ok (.aload_n 0, 1) := by decide +kernel
theorem dX8_restAt_73 : decode cX8_restAt 73 = .ok (.getfield 94, 3) := by decide +kernel
theorem dX8_restAt_76 : decode cX8_restAt 76 = .ok (.bipush 10, 2) := by decide +kernel
theorem dX8_restAt_78 : decode cX8_restAt 78 = .ok (.iload_n 2, 1) := by decide +kernel
theorem dX8_restAt_79 : decode cX8_restAt 79 = .ok (.iadd, 1) := by decide +kernel
theorem dX8_restAt_80 : decode cX8_restAt 80 = .ok (.iaload, 1) := by decide +kernel
theorem dX8_restAt_81 : decode cX8_restAt 81 = .ok (.iconst 5, 1) := by decide +kernel
theorem dX8_restAt_82 : decode cX8_restAt 82 = .ok (.if_icmp .ne 7, 3) := by decide +kernel
theorem dX8_restAt_85 : decode cX8_restAt 85 = .ok (.iconst 1, 1) := by decide +kernel
theorem dX8_restAt_86 : decode cX8_restAt 86 = .ok (.goto 4, 3) := by decide +kernel
theorem dX8_restAt_89 : decode cX8_restAt 89 = .ok (.iconst 0, 1) := by decide +kernel
theorem dX8_restAt_90 : decode cX8_restAt 90 = .ok (.istore 6, 2) := by decide +kernel
theorem dX8_restAt_92 : decode cX8_restAt 92 = .ok (.aload_n 0, 1) := by decide +kernel
theorem dX8_restAt_93 : decode cX8_restAt 93 = .ok (.invokevirtual 523, 3) := by decide +kernel
theorem dX8_restAt_96 : decode cX8_restAt 96 = .ok (.aload_n 0, 1) := by decide +kernel
theorem dX8_restAt_97 : decode cX8_restAt 97 = .ok (.getfield 139, 3) := by decide +kernel
theorem dX8_restAt_100 : decode cX8_restAt 100 = .ok (.iload 4, 2) := by decide +kernel
theorem dX8_restAt_102 : decode cX8_restAt 102 = .ok (.aload_n 0, 1) := by decide +kernel
theorem dX8_restAt_103 : decode cX8_restAt 103 = .ok (.iload_n 1, 1) := by decide +kernel
theorem dX8_restAt_104 : decode cX8_restAt 104 = .ok (.iload 5, 2) := by decide +kernel
theorem dX8_restAt_106 : decode cX8_restAt 106 = .ok (.invokevirtual 529, 3) := by decide +kernel
theorem dX8_restAt_109 : decode cX8_restAt 109 = .ok (.iastore, 1) := by decide +kernel
theorem dX8_restAt_110 : decode cX8_restAt 110 = .ok (.aload_n 0, 1) := by decide +kernel
theorem dX8_restAt_111 : decode cX8_restAt 111 = .ok (.getfield 142, 3) := by decide +kernel
theorem dX8_restAt_114 : decode cX8_restAt 114 = .ok (.iload 4, 2) := by decide +kernel
theorem dX8_restAt_116 : decode cX8_restAt 116 = .ok (.aload_n 0, 1) := by decide +kernel
theorem dX8_restAt_117 : decode cX8_restAt 117 = .ok (.iload_n 2, 1) := by decide +kernel
theorem dX8_restAt_118 : decode cX8_restAt 118 = .ok (.iload 6, 2) := by decide +kernel
theorem dX8_restAt_120 : decode cX8_restAt 120 = .ok (.invokevirtual 529, 3) := by decide +kernel
theorem dX8_restAt_123 : decode cX8_restAt 123 = .ok (.iastore, 1) := by decide +kernel
theorem dX8_restAt_124 : decode cX8_restAt 124 = .ok (.iinc 4 1, 3) := by decide +kernel
theorem dX8_restAt_127 : decode cX8_restAt 127 = .ok (.goto (-124), 3) := by decide +kernel
theorem dX8_restAt_130 : decode cX8_restAt 130 = .ok (.iconst 0, 1) := by decide +kernel
theorem dX8_restAt_131 : decode cX8_restAt 131 = .ok (.istore 4, 2) := by decide +kernel
theorem dX8_restAt_133 : decode cX8_restAt 133 = .ok (.iconst 0, 1) := by decide +kernel
theorem dX8_restAt_134 : decode cX8_restAt 134 = .ok (.istore 5, 2) := by decide +kernel
theorem dX8_restAt_136 : decode cX8_restAt 136 = .ok (.iload 5, 2) := by decide +kernel
theorem dX8_restAt_138 : decode cX8_restAt 138 = .ok (.aload_n 0, 1) := by decide +kernel
theorem dX8_restAt_139 : decode cX8_restAt 139 = .ok (.getfield 252, 3) := by decide +kernel
theorem dX8_restAt_142 : decode cX8_restAt 142 = .ok (.aload_n 0, 1) := by decide +kernel
theorem dX8_restAt_143 : decode cX8_restAt 143 = .ok (.getfield 252, 3) := by decide +kernel
theorem dX8_restAt_146 : decode cX8_restAt 146 = .ok (.imul, 1) := by decide +kernel
theorem dX8_restAt_147 : decode cX8_restAt 147 = .ok (.if_icmp .ge 138, 3) := by decide +kernel
theorem dX8_restAt_150 : decode cX8_restAt 150 = .ok (.iconst 1, 1) := by decide +kernel
theorem dX8_restAt_151 : decode cX8_restAt 151 = .ok (.istore 6, 2) := by decide +kernel
theorem dX8_restAt_153 : decode cX8_restAt 153 = .ok (.iconst 0, 1) := by decide +kernel
theorem dX8_restAt_154 : decode cX8_restAt 154 = .ok (.istore 7, 2) := by decide +kernel
theorem dX8_restAt_156 : decode cX8_restAt 156 = .ok (.iload 7, 2) := by decide +kernel
theorem dX8_restAt_158 : decode cX8_restAt 158 = .ok (.aload_n 0, 1) := by decide +kernel
theorem dX8_restAt_159 : decode cX8_restAt 159 = .ok (.getfield 252, 3) := by decide +kernel
theorem dX8_restAt_162 : decode cX8_restAt 162 = .ok (.if_icmp .ge 81, 3) := by decide +kernel
theorem dX8_restAt_165 : decode cX8_restAt 165 = .ok (.iload 6, 2) := by decide +kernel
theorem dX8_restAt_167 : decode cX8_restAt 167 = .ok (.ifCond .eq 67, 3) := by decide +kernel
theorem dX8_restAt_170 : decode cX8_restAt 170 = .ok (.aload_n 0, 1) := by decide +kernel
theorem dX8_restAt_171 : decode cX8_restAt 171 = .ok (.getfield 139, 3) := by decide +kernel
theorem dX8_restAt_174 : decode cX8_restAt 174 = .ok (.aload_n 0, 1) := by decide +kernel
theorem dX8_restAt_175 : decode cX8_restAt 175 = .ok (.getfield 252, 3) := by decide +kernel
theorem dX8_restAt_178 : decode cX8_restAt 178 = .ok (.iload 7, 2) := by decide +kernel
theorem dX8_restAt_180 : decode cX8_restAt 180 = .ok (.imul, 1) := by decide +kernel
theorem dX8_restAt_181 : decode cX8_restAt 181 = .ok (.iload 5, 2) := by decide +kernel
theorem dX8_restAt_183 : decode cX8_restAt 183 = .ok (.aload_n 0, 1) := by decide +kernel
theorem dX8_restAt_184 : decode cX8_restAt 184 = .ok (.getfield 252, 3) := by decide +kernel
theorem dX8_restAt_187 : decode cX8_restAt 187 = .ok (.irem, 1) := by decide +kernel
theorem dX8_restAt_188 : decode cX8_restAt 188 = .ok (.iadd, 1) := by decide +kernel
theorem dX8_restAt_189 : decode cX8_restAt 189 = .ok (.iaload, 1) := by decide +kernel
theorem dX8_restAt_190 : decode cX8_restAt 190 = .ok (.aload_n 0, 1) := by decide +kernel
theorem dX8_restAt_191 : decode cX8_restAt 191 = .ok (.getfield 139, 3) := by decide +kernel
theorem dX8_restAt_194 : decode cX8_restAt 194 = .ok (.iload 5, 2) := by decide +kernel
theorem dX8_restAt_196 : decode cX8_restAt 196 = .ok (.iaload, 1) := by decide +kernel
theorem dX8_restAt_197 : decode cX8_restAt 197 = .ok (.if_icmp .lt 37, 3) := by decide +kernel
theorem dX8_restAt_200 : decode cX8_restAt 200 = .ok (.aload_n 0, 1) := by decide +kernel
theorem dX8_restAt_201 : decode cX8_restAt 201 = .ok (.getfield 142, 3) := by decide +kernel
theorem dX8_restAt_204 : decode cX8_restAt 204 = .ok (.iload 5, 2) := by decide +kernel
theorem dX8_restAt_206 : decode cX8_restAt 206 = .ok (.aload_n 0, 1) := by decide +kernel
theorem dX8_restAt_207 : decode cX8_restAt 207 = .ok (.getfield 252, 3) := by decide +kernel
theorem dX8_restAt_210 : decode cX8_restAt 210 = .ok (.idiv, 1) := by decide +kernel
theorem dX8_restAt_211 : decode cX8_restAt 211 = .ok (.aload_n 0, 1) := by decide +kernel
theorem dX8_restAt_212 : decode cX8_restAt 212 = .ok (.getfield 252, 3) := by decide +kernel
theorem dX8_restAt_215 : decode cX8_restAt 215 = .ok (.imul, 1) := by decide +kernel
theorem dX8_restAt_216 : decode cX8_restAt 216 = .ok (.iload 7, 2) := by decide +kernel
theorem dX8_restAt_218 : decode cX8_restAt 218 = .ok (.iadd, 1) := by decide +kernel
theorem dX8_restAt_219 : decode cX8_restAt 219 = .ok (.iaload, 1) := by decide +kernel
theorem dX8_restAt_220 : decode cX8_restAt 220 = .ok (.aload_n 0, 1) := by decide +kernel
theorem dX8_restAt_221 : decode cX8_restAt 221 = .ok (.getfield 142, 3) := by decide +kernel
theorem dX8_restAt_224 : decode cX8_restAt 224 = .ok (.iload 5, 2) := by decide +kernel
theorem dX8_restAt_226 : decode cX8_restAt 226 = .ok (.iaload, 1) := by decide +kernel
theorem dX8_restAt_227 : decode cX8_restAt 227 = .ok (.if_icmp .lt 7, 3) := by decide +kernel
theorem dX8_restAt_230 : decode cX8_restAt 230 = .ok (.iconst 1, 1) := by decide +kernel
theorem dX8_restAt_231 : decode cX8_restAt 231 = .ok (.goto 4, 3) := by decide +kernel
theorem dX8_restAt_234 : decode cX8_restAt 234 = .ok (.iconst 0, 1) := by decide +kernel
theorem dX8_restAt_235 : decode cX8_restAt 235 = .ok (.istore 6, 2) := by decide +kernel
theorem dX8_restAt_237 : decode cX8_restAt 237 = .ok (.iinc 7 1, 3) := by decide +kernel
theorem dX8_restAt_240 : decode cX8_restAt 240 = .ok (.goto (-84), 3) := by decide +kernel
theorem dX8_restAt_243 : decode cX8_restAt 243 = .ok (.iload 6, 2) := by decide +kernel
theorem dX8_restAt_245 : decode cX8_restAt 245 = .ok (.ifCond .ne 6, 3) := by decide +kernel
theorem dX8_restAt_248 : decode cX8_restAt 248 = .ok (.goto 31, 3) := by decide +kernel
theorem dX8_restAt_251 : decode cX8_restAt 251 = .ok (.iload 4, 2) := by decide +kernel
theorem dX8_restAt_253 : decode cX8_restAt 253 = .ok (.iload_n 3, 1) := by decide +kernel
theorem dX8_restAt_254 : decode cX8_restAt 254 = .ok (.if_icmp .ne 22, 3) := by decide +kernel
theorem dX8_restAt_257 : decode cX8_restAt 257 = .ok (.bipush 10, 2) := by decide +kernel
theorem dX8_restAt_259 : decode cX8_restAt 259 = .ok (.iload 5, 2) := by decide +kernel
theorem dX8_restAt_261 : decode cX8_restAt 261 = .ok (.aload_n 0, 1) := by decide +kernel
theorem dX8_restAt_262 : decode cX8_restAt 262 = .ok (.getfield 252, 3) := by decide +kernel
theorem dX8_restAt_265 : decode cX8_restAt 265 = .ok (.idiv, 1) := by decide +kernel
theorem dX8_restAt_266 : decode cX8_restAt 266 = .ok (.imul, 1) := by decide +kernel
theorem dX8_restAt_267 : decode cX8_restAt 267 = .ok (.iload 5, 2) := by decide +kernel
theorem dX8_restAt_269 : decode cX8_restAt 269 = .ok (.aload_n 0, 1) := by decide +kernel
theorem dX8_restAt_270 : decode cX8_restAt 270 = .ok (.getfield 252, 3) := by decide +kernel
theorem dX8_restAt_273 : decode cX8_restAt 273 = .ok (.irem, 1) := by decide +kernel
theorem dX8_restAt_274 : decode cX8_restAt 274 = .ok (.iadd, 1) := by decide +kernel
theorem dX8_restAt_275 : decode cX8_restAt 275 = .ok (.ireturn, 1) := by decide +kernel
theorem dX8_restAt_276 : decode cX8_restAt 276 = .ok (.iinc 4 1, 3) := by decide +kernel
theorem dX8_restAt_279 : decode cX8_restAt 279 = .ok (.iinc 5 1, 3) := by decide +kernel
theorem dX8_restAt_282 : decode cX8_restAt 282 = .ok (.goto (-146), 3) := by decide +kernel
theorem dX8_restAt_285 : decode cX8_restAt 285 = .ok (.iload_n 3, 1) := by decide +kernel
theorem dX8_restAt_286 : decode cX8_restAt 286 = .ok (.ifCond .ge 8, 3) := by decide +kernel
theorem dX8_restAt_289 : decode cX8_restAt 289 = .ok (.iload 4, 2) := by decide +kernel
theorem dX8_restAt_291 : decode cX8_restAt 291 = .ok (.goto 5, 3) := by decide +kernel
theorem dX8_restAt_294 : decode cX8_restAt 294 = .ok (.bipush (-2), 2) := by decide +kernel
theorem dX8_restAt_296 : decode cX8_restAt 296 = .ok (.ireturn, 1) := by decide +kernel
theorem dX8_rests_0 : decode cX8_rests 0 = .ok (.aload_n 0, 1) := by decide +kernel
theorem dX8_rests_1 : decode cX8_rests 1 = .ok (.iconst 0, 1) := by decide +kernel
theorem dX8_rests_2 : decode cX8_rests 2 = .ok (.putfield 172, 3) := by decide +kernel
theorem dX8_rests_5 : decode cX8_rests 5 = .ok (.aload_n 0, 1) := by decide +kernel
theorem dX8_rests_6 : decode cX8_rests 6 = .ok (.iload_n 1, 1) := by decide +kernel
theorem dX8_rests_7 : decode cX8_rests 7 = .ok (.iload_n 2, 1) := by decide +kernel
theorem dX8_rests_8 : decode cX8_rests 8 = .ok (.invokevirtual 533, 3) := by decide +kernel
theorem dX8_rests_11 : decode cX8_rests 11 = .ok (.ifCond .eq 13, 3) := by decide +kernel
theorem dX8_rests_14 : decode cX8_rests 14 = .ok (.aload_n 0, 1) := by decide +kernel
theorem dX8_rests_15 : decode cX8_rests 15 = .ok (.iload_n 1, 1) := by decide +kernel
theorem dX8_rests_16 : decode cX8_rests 16 = .ok (.iload_n 2, 1) := by decide +kernel
theorem dX8_rests_17 : decode cX8_rests 17 = .ok (.iconst (-1), 1) := by decide +kernel
theorem dX8_rests_18 : decode cX8_rests 18 = .ok (.invokevirtual 536, 3) := by decide +kernel
theorem dX8_rests_21 : decode cX8_rests 21 = .ok (.goto 4, 3) := by decide +kernel
theorem dX8_rests_24 : decode cX8_rests 24 = .ok (.iconst (-1), 1) := by decide +kernel
theorem dX8_rests_25 : decode cX8_rests 25 = .ok (.ireturn, 1) := by decide +kernel
theorem dX8_rest_0 : decode cX8_rest 0 = .ok (.aload_n 0, 1) := by decide +kernel
theorem dX8_rest_1 : decode cX8_rest 1 = .ok (.iconst 0, 1) := by decide +kernel
theorem dX8_rest_2 : decode cX8_rest 2 = .ok (.putfield 172, 3) := by decide +kernel
theorem dX8_rest_5 : decode cX8_rest 5 = .ok (.aload_n 0, 1) := by decide +kernel
theorem dX8_rest_6 : decode cX8_rest 6 = .ok (.iload_n 1, 1) := by decide +kernel
theorem dX8_rest_7 : decode cX8_rest 7 = .ok (.iload_n 2, 1) := by decide +kernel
theorem dX8_rest_8 : decode cX8_rest 8 = .ok (.invokevirtual 533, 3) := by decide +kernel
theorem dX8_rest_11 : decode cX8_rest 11 = .ok (.ifCond .eq 17, 3) := by decide +kernel
theorem dX8_rest_14 : decode cX8_rest 14 = .ok (.iload_n 3, 1) := by decide +kernel
theorem dX8_rest_15 : decode cX8_rest 15 = .ok (.ifCond .lt 13, 3) := by decide +kernel
theorem dX8_rest_18 : decode cX8_rest 18 = .ok (.aload_n 0, 1) := by decide +kernel
theorem dX8_rest_19 : decode cX8_rest 19 = .ok (.iload_n 1, 1) := by decide +kernel
theorem dX8_rest_20 : decode cX8_rest 20 = .ok (.iload_n 2, 1) := by decide +kernel
theorem dX8_rest_21 : decode cX8_rest 21 = .ok (.iload_n 3, 1) := by decide +kernel
theorem dX8_rest_22 : decode cX8_rest 22 = .ok (.invokevirtual 536, 3) := by decide +kernel
theorem dX8_rest_25 : decode cX8_rest 25 = .ok (.goto 4, 3) := by decide +kernel
theorem dX8_rest_28 : decode cX8_rest 28 = .ok (.iconst (-1), 1) := by decide +kernel
theorem dX8_rest_29 : decode cX8_rest 29 = .ok (.ireturn, 1) := by decide +kernel
theorem dX8_liftsBy_0 : decode cX8_liftsBy 0 = .ok (.aload_n 0, 1) := by decide +kernel
theorem dX8_liftsBy_1 : decode cX8_liftsBy 1 = .ok (.invokevirtual 511, 3) := by decide +kernel
theorem dX8_liftsBy_4 : decode cX8_liftsBy 4 = .ok (.aload_n 0, 1) := by decide +kernel
theorem dX8_liftsBy_5 : decode cX8_liftsBy 5 = .ok (.iload_n 1, 1) := by decide +kernel
theorem dX8_liftsBy_6 : decode cX8_liftsBy 6 = .ok (.putfield 385, 3) := by decide +kernel
theorem dX8_liftsBy_9 : decode cX8_liftsBy 9 = .ok (.aload_n 0, 1) := by decide +kernel
theorem dX8_liftsBy_10 : decode cX8_liftsBy 10 = .ok (.invokevirtual 523, 3) := by decide +kernel
theorem dX8_liftsBy_13 : decode cX8_liftsBy 13 = .ok (.aload_n 0, 1) := by decide +kernel
theorem dX8_liftsBy_14 : decode cX8_liftsBy 14 = .ok (.invokevirtual 526, 3) := by decide +kernel
theorem dX8_liftsBy_17 : decode cX8_liftsBy 17 = .ok (.ireturn, 1) := by decide +kernel
theorem dX8_byRule_0 : decode cX8_byRule 0 = .ok (.aload_n 0, 1) := by decide +kernel
theorem dX8_byRule_1 : decode cX8_byRule 1 = .ok (.iconst 0, 1) := by decide +kernel
theorem dX8_byRule_2 : decode cX8_byRule 2 = .ok (.putfield 172, 3) := by decide +kernel
theorem dX8_byRule_5 : decode cX8_byRule 5 = .ok (.iload_n 1, 1) := by decide +kernel
theorem dX8_byRule_6 : decode cX8_byRule 6 = .ok (.iconst 0, 1) := by decide +kernel
theorem dX8_byRule_7 : decode cX8_byRule 7 = .ok (.iconst 2, 1) := by decide +kernel
theorem dX8_byRule_8 : decode cX8_byRule 8 = .ok (.invokestatic 217, 3) := by decide +kernel
theorem dX8_byRule_11 : decode cX8_byRule 11 = .ok (.ifCond .eq 11, 3) := by decide +kernel
theorem dX8_byRule_14 : decode cX8_byRule 14 = .ok (.aload_n 0, 1) := by decide +kernel
theorem dX8_byRule_15 : decode cX8_byRule 15 = .ok (.iload_n 1, 1) := by decide +kernel
theorem dX8_byRule_16 : decode cX8_byRule 16 = .ok (.invokevirtual 539, 3) := by decide +kernel
theorem dX8_byRule_19 : decode cX8_byRule 19 = .ok (.goto 4, 3) := by decide +kernel
theorem dX8_byRule_22 : decode cX8_byRule 22 = .ok (.iconst (-1), 1) := by decide +kernel
theorem dX8_byRule_23 : decode cX8_byRule 23 = .ok (.ireturn, 1) := by decide +kernel
theorem dX8_bestRule_0 : decode cX8_bestRule 0 = .ok (.aload_n 0, 1) := by decide +kernel
theorem dX8_bestRule_1 : decode cX8_bestRule 1 = .ok (.iconst 0, 1) := by decide +kernel
theorem dX8_bestRule_2 : decode cX8_bestRule 2 = .ok (.putfield 172, 3) := by decide +kernel
theorem dX8_bestRule_5 : decode cX8_bestRule 5 = .ok (.iconst 0, 1) := by decide +kernel
theorem dX8_bestRule_6 : decode cX8_bestRule 6 = .ok (.istore_n 1, 1) := by decide +kernel
theorem dX8_bestRule_7 : decode cX8_bestRule 7 = .ok (.iconst 1, 1) := by decide +kernel
theorem dX8_bestRule_8 : decode cX8_bestRule 8 = .ok (.istore_n 2, 1) := by decide +kernel
theorem dX8_bestRule_9 : decode cX8_bestRule 9 = .ok (.iload_n 2, 1) := by decide +kernel
theorem dX8_bestRule_10 : decode cX8_bestRule 10 = .ok (.iconst 3, 1) := by decide +kernel
theorem dX8_bestRule_11 : decode cX8_bestRule 11 = .ok (.if_icmp .ge 28, 3) := by decide +kernel
theorem dX8_bestRule_14 : decode cX8_bestRule 14 = .ok (.aload_n 0, 1) := by decide +kernel
theorem dX8_bestRule_15 : decode cX8_bestRule 15 = .ok (.iload_n 2, 1) := by decide +kernel
theorem dX8_bestRule_16 : decode cX8_bestRule 16 = .ok (.invokevirtual 539, 3) := by decide +kernel
theorem dX8_bestRule_19 : decode cX8_bestRule 19 = .ok (.aload_n 0, 1) := by decide +kernel
theorem dX8_bestRule_20 : decode cX8_bestRule 20 = .ok (.iload_n 1, 1) := by decide +kernel
theorem dX8_bestRule_21 : decode cX8_bestRule 21 = .ok (.invokevirtual 539, 3) := by decide +kernel
theorem dX8_bestRule_24 : decode cX8_bestRule 24 = .ok (.if_icmp .ge 7, 3) := by decide +kernel
theorem dX8_bestRule_27 : decode cX8_bestRule 27 = .ok (.iload_n 2, 1) := by decide +kernel
theorem dX8_bestRule_28 : decode cX8_bestRule 28 = .ok (.goto 4, 3) := by decide +kernel
theorem dX8_bestRule_31 : decode cX8_bestRule 31 = .ok (.iload_n 1, 1) := by decide +kernel
theorem dX8_bestRule_32 : decode cX8_bestRule 32 = .ok (.istore_n 1, 1) := by decide +kernel
theorem dX8_bestRule_33 : decode cX8_bestRule 33 = .ok (.iinc 2 1, 3) := by decide +kernel
theorem dX8_bestRule_36 : decode cX8_bestRule 36 = .ok (.goto (-27), 3) := by decide +kernel
theorem dX8_bestRule_39 : decode cX8_bestRule 39 = .ok (.iload_n 1, 1) := by decide +kernel
theorem dX8_bestRule_40 : decode cX8_bestRule 40 = .ok (.ireturn, 1) := by decide +kernel
theorem dX8_missed_0 : decode cX8_missed 0 = .ok (.aload_n 0, 1) := by decide +kernel
theorem dX8_missed_1 : decode cX8_missed 1 = .ok (.iconst 0, 1) := by decide +kernel
theorem dX8_missed_2 : decode cX8_missed 2 = .ok (.putfield 172, 3) := by decide +kernel
theorem dX8_missed_5 : decode cX8_missed 5 = .ok (.iload_n 1, 1) := by decide +kernel
theorem dX8_missed_6 : decode cX8_missed 6 = .ok (.iconst 0, 1) := by decide +kernel
theorem dX8_missed_7 : decode cX8_missed 7 = .ok (.iconst 1, 1) := by decide +kernel
theorem dX8_missed_8 : decode cX8_missed 8 = .ok (.invokestatic 217, 3) := by decide +kernel
theorem dX8_missed_11 : decode cX8_missed 11 = .ok (.ifCond .ne 5, 3) := by decide +kernel
theorem dX8_missed_14 : decode cX8_missed 14 = .ok (.iconst (-1), 1) := by decide +kernel
theorem dX8_missed_15 : decode cX8_missed 15 = .ok (.ireturn, 1) := by decide +kernel
theorem dX8_missed_16 : decode cX8_missed 16 = .ok (.aload_n 0, 1) := by decide +kernel
theorem dX8_missed_17 : decode cX8_missed 17 = .ok (.invokevirtual 511, 3) := by decide +kernel
theorem dX8_missed_20 : decode cX8_missed 20 = .ok (.bipush (-2), 2) := by decide +kernel
theorem dX8_missed_22 : decode cX8_missed 22 = .ok (.istore_n 2, 1) := by decide +kernel
theorem dX8_missed_23 : decode cX8_missed 23 = .ok (.aload_n 0, 1) := by decide +kernel
theorem dX8_missed_24 : decode cX8_missed 24 = .ok (.getfield 121, 3) := by decide +kernel
theorem dX8_missed_27 : decode cX8_missed 27 = .ok (.iconst 1, 1) := by decide +kernel
theorem dX8_missed_28 : decode cX8_missed 28 = .ok (.iaload, 1) := by decide +kernel
theorem dX8_missed_29 : decode cX8_missed 29 = .ok (.bipush 21, 2) := by decide +kernel
theorem dX8_missed_31 : decode cX8_missed 31 = .ok (.if_icmp .ge 93, 3) := by decide +kernel
theorem dX8_missed_34 : decode cX8_missed 34 = .ok (.iload_n 2, 1) := by decide +kernel
theorem dX8_missed_35 : decode cX8_missed 35 = .ok (.ifCond .ge 89, 3) := by decide +kernel
theorem dX8_missed_38 : decode cX8_missed 38 = .ok (.aload_n 0, 1) := by decide +kernel
theorem dX8_missed_39 : decode cX8_missed 39 = .ok (.iconst 1, 1) := by decide +kernel
theorem dX8_missed_40 : decode cX8_missed 40 = .ok (.invokevirtual 479, 3) := by decide +kernel
theorem dX8_missed_43 : decode cX8_missed 43 = .ok (.aload_n 0, 1) := by decide +kernel
theorem dX8_missed_44 : decode cX8_missed 44 = .ok (.getfield 255, 3) := by decide +kernel
theorem dX8_missed_47 : decode cX8_missed 47 = .ok (.iconst 1, 1) := by decide +kernel
theorem dX8_missed_48 : decode cX8_missed 48 = .ok (.isub, 1) := by decide +kernel
theorem dX8_missed_49 : decode cX8_missed 49 = .ok (.istore_n 3, 1) := by decide +kernel
theorem dX8_missed_50 : decode cX8_missed 50 = .ok (.iload_n 3, 1) := by decide +kernel
theorem dX8_missed_51 : decode cX8_missed 51 = .ok (.ifCond .lt 39, 3) := by decide +kernel
theorem dX8_missed_54 : decode cX8_missed 54 = .ok (.aload_n 0, 1) := by decide +kernel
theorem dX8_missed_55 : decode cX8_missed 55 = .ok (.getfield 39, 3) := by decide +kernel
theorem dX8_missed_58 : decode cX8_missed 58 = .ok (.iload_n 3, 1) := by decide +kernel
theorem dX8_missed_59 : decode cX8_missed 59 = .ok (.iaload, 1) := by decide +kernel
theorem dX8_missed_60 : decode cX8_missed 60 = .ok (.aload_n 0, 1) := by decide +kernel
theorem dX8_missed_61 : decode cX8_missed 61 = .ok (.getfield 121, 3) := by decide +kernel
theorem dX8_missed_64 : decode cX8_missed 64 = .ok (.iconst 1, 1) := by decide +kernel
theorem dX8_missed_65 : decode cX8_missed 65 = .ok (.iaload, 1) := by decide +kernel
theorem dX8_missed_66 : decode cX8_missed 66 = .ok (.if_icmp .ne 18, 3) := by decide +kernel
theorem dX8_missed_69 : decode cX8_missed 69 = .ok (.aload_n 0, 1) := by decide +kernel
theorem dX8_missed_70 : decode cX8_missed 70 = .ok (.getfield 112, 3) := by decide +kernel
theorem dX8_missed_73 : decode cX8_missed 73 = .ok (.bipush 6, 2) := by decide +kernel
theorem dX8_missed_75 : decode cX8_missed 75 = .ok (.iload_n 3, 1) := by decide +kernel
theorem dX8_missed_76 : decode cX8_missed 76 = .ok (.iadd, 1) := by decide +kernel
theorem dX8_missed_77 : decode cX8_missed 77 = .ok (.iaload, 1) := by decide +kernel
theorem dX8_missed_78 : decode cX8_missed 78 = .ok (.iconst 1, 1) := by decide +kernel
theorem dX8_missed_79 : decode cX8_missed 79 = .ok (.if_icmp .ne 5, 3) := by decide +kernel
theorem dX8_missed_82 : decode cX8_missed 82 = .ok (.iload_n 3, 1) := by decide +kernel
theorem dX8_missed_83 : decode cX8_missed 83 = .ok (.istore_n 2, 1) := by decide +kernel
theorem dX8_missed_84 : decode cX8_missed 84 = .ok (.iinc 3 (-1), 3) := by decide +kernel
theorem dX8_missed_87 : decode cX8_missed 87 = .ok (.goto (-37), 3) := by decide +kernel
theorem dX8_missed_90 : decode cX8_missed 90 = .ok (.aload_n 0, 1) := by decide +kernel
theorem dX8_missed_91 : decode cX8_missed 91 = .ok (.iconst 1, 1) := by decide +kernel
theorem dX8_missed_92 : decode cX8_missed 92 = .ok (.invokevirtual 482, 3) := by decide +kernel
theorem dX8_missed_95 : decode cX8_missed 95 = .ok (.aload_n 0, 1) := by decide +kernel
theorem dX8_missed_96 : decode cX8_missed 96 = .ok (.getfield 121, 3) := by decide +kernel
theorem dX8_missed_99 : decode cX8_missed 99 = .ok (.iconst 1, 1) := by decide +kernel
theorem dX8_missed_100 : decode cX8_missed 100 = .ok (.iaload, 1) := by decide +kernel
theorem dX8_missed_101 : decode cX8_missed 101 = .ok (.bipush 20, 2) := by decide +kernel
theorem dX8_missed_103 : decode cX8_missed 103 = .ok (.if_icmp .ge 8, 3) := by decide +kernel
theorem dX8_missed_106 : decode cX8_missed 106 = .ok (.aload_n 0, 1) := by decide +kernel
theorem dX8_missed_107 : decode cX8_missed 107 = .ok (.iconst 1, 1) := by decide +kernel
theorem dX8_missed_108 : decode cX8_missed 108 = .ok (.invokevirtual 485, 3) := by decide +kernel
theorem dX8_missed_111 : decode cX8_missed 111 = .ok (.aload_n 0, 1) := by decide +kernel
theorem dX8_missed_112 : decode cX8_missed 112 = .ok (.getfield 121, 3) := by decide +kernel
theorem dX8_missed_115 : decode cX8_missed 115 = .ok (.iconst 1, 1) := by decide +kernel
theorem dX8_missed_116 : decode cX8_missed 116 = .ok (.dup2, 1) := by decide +kernel
theorem dX8_missed_117 : decode cX8_missed 117 = .ok (.iaload, 1) := by decide +kernel
theorem dX8_missed_118 : decode cX8_missed 118 = .ok (.iconst 1, 1) := by decide +kernel
theorem dX8_missed_119 : decode cX8_missed 119 = .ok (.iadd, 1) := by decide +kernel
theorem dX8_missed_120 : decode cX8_missed 120 = .ok (.iastore, 1) := by decide +kernel
theorem dX8_missed_121 : decode cX8_missed 121 = .ok (.goto (-98), 3) := by decide +kernel
theorem dX8_missed_124 : decode cX8_missed 124 = .ok (.iload_n 2, 1) := by decide +kernel
theorem dX8_missed_125 : decode cX8_missed 125 = .ok (.ifCond .lt 7, 3) := by decide +kernel
theorem dX8_missed_128 : decode cX8_missed 128 = .ok (.iload_n 1, 1) := by decide +kernel
theorem dX8_missed_129 : decode cX8_missed 129 = .ok (.ifCond .ne 5, 3) := by decide +kernel
theorem dX8_missed_132 : decode cX8_missed 132 = .ok (.iload_n 2, 1) := by decide +kernel
theorem dX8_missed_133 : decode cX8_missed 133 = .ok (.ireturn, 1) := by decide +kernel
theorem dX8_missed_134 : decode cX8_missed 134 = .ok (.aload_n 0, 1) := by decide +kernel
theorem dX8_missed_135 : decode cX8_missed 135 = .ok (.getfield 39, 3) := by decide +kernel
theorem dX8_missed_138 : decode cX8_missed 138 = .ok (.iload_n 2, 1) := by decide +kernel
theorem dX8_missed_139 : decode cX8_missed 139 = .ok (.iaload, 1) := by decide +kernel
theorem dX8_missed_140 : decode cX8_missed 140 = .ok (.istore_n 3, 1) := by decide +kernel
theorem dX8_missed_141 : decode cX8_missed 141 = .ok (.aload_n 0, 1) := by decide +kernel
theorem dX8_missed_142 : decode cX8_missed 142 = .ok (.invokevirtual 511, 3) := by decide +kernel
theorem dX8_missed_145 : decode cX8_missed 145 = .ok (.aload_n 0, 1) := by decide +kernel
theorem dX8_missed_146 : decode cX8_missed 146 = .ok (.getfield 121, 3) := by decide +kernel
theorem dX8_missed_149 : decode cX8_missed 149 = .ok (.iconst 1, 1) := by decide +kernel
theorem dX8_missed_150 : decode cX8_missed 150 = .ok (.iaload, 1) := by decide +kernel
theorem dX8_missed_151 : decode cX8_missed 151 = .ok (.iload_n 3, 1) := by decide +kernel
theorem dX8_missed_152 : decode cX8_missed 152 = .ok (.if_icmp .ge 11, 3) := by decide +kernel
theorem dX8_missed_155 : decode cX8_missed 155 = .ok (.aload_n 0, 1) := by decide +kernel
theorem dX8_missed_156 : decode cX8_missed 156 = .ok (.iconst 1, 1) := by decide +kernel
theorem dX8_missed_157 : decode cX8_missed 157 = .ok (.invokevirtual 488, 3) := by decide +kernel
theorem dX8_missed_160 : decode cX8_missed 160 = .ok (.goto (-15), 3) := by decide +kernel
theorem dX8_missed_163 : decode cX8_missed 163 = .ok (.aload_n 0, 1) := by decide +kernel
theorem dX8_missed_164 : decode cX8_missed 164 = .ok (.iconst 1, 1) := by decide +kernel
theorem dX8_missed_165 : decode cX8_missed 165 = .ok (.putfield 403, 3) := by decide +kernel
theorem dX8_missed_168 : decode cX8_missed 168 = .ok (.aload_n 0, 1) := by decide +kernel
theorem dX8_missed_169 : decode cX8_missed 169 = .ok (.iconst 1, 1) := by decide +kernel
theorem dX8_missed_170 : decode cX8_missed 170 = .ok (.invokevirtual 479, 3) := by decide +kernel
theorem dX8_missed_173 : decode cX8_missed 173 = .ok (.aload_n 0, 1) := by decide +kernel
theorem dX8_missed_174 : decode cX8_missed 174 = .ok (.iconst 0, 1) := by decide +kernel
theorem dX8_missed_175 : decode cX8_missed 175 = .ok (.putfield 403, 3) := by decide +kernel
theorem dX8_missed_178 : decode cX8_missed 178 = .ok (.aload_n 0, 1) := by decide +kernel
theorem dX8_missed_179 : decode cX8_missed 179 = .ok (.getfield 438, 3) := by decide +kernel
theorem dX8_missed_182 : decode cX8_missed 182 = .ok (.aload_n 0, 1) := by decide +kernel
theorem dX8_missed_183 : decode cX8_missed 183 = .ok (.getfield 57, 3) := by decide +kernel
theorem dX8_missed_186 : decode cX8_missed 186 = .ok (.iload_n 3, 1) := by decide +kernel
theorem dX8_missed_187 : decode cX8_missed 187 = .ok (.iaload, 1) := by decide +kernel
theorem dX8_missed_188 : decode cX8_missed 188 = .ok (.isub, 1) := by decide +kernel
theorem dX8_missed_189 : decode cX8_missed 189 = .ok (.ireturn, 1) := by decide +kernel
theorem dX8_falls_0 : decode cX8_falls 0 = .ok (.aload_n 0, 1) := by decide +kernel
theorem dX8_falls_1 : decode cX8_falls 1 = .ok (.iconst 0, 1) := by decide +kernel
theorem dX8_falls_2 : decode cX8_falls 2 = .ok (.putfield 172, 3) := by decide +kernel
theorem dX8_falls_5 : decode cX8_falls 5 = .ok (.aload_n 0, 1) := by decide +kernel
theorem dX8_falls_6 : decode cX8_falls 6 = .ok (.getfield 121, 3) := by decide +kernel
theorem dX8_falls_9 : decode cX8_falls 9 = .ok (.iconst 0, 1) := by decide +kernel
theorem dX8_falls_10 : decode cX8_falls 10 = .ok (.iaload, 1) := by decide +kernel
theorem dX8_falls_11 : decode cX8_falls 11 = .ok (.bipush 21, 2) := by decide +kernel
theorem dX8_falls_13 : decode cX8_falls 13 = .ok (.if_icmp .lt 5, 3) := by decide +kernel
theorem dX8_falls_16 : decode cX8_falls 16 = .ok (.iconst 0, 1) := by decide +kernel
theorem dX8_falls_17 : decode cX8_falls 17 = .ok (.ireturn, 1) := by decide +kernel
theorem dX8_falls_18 : decode cX8_falls 18 = .ok (.aload_n 0, 1) := by decide +kernel
theorem dX8_falls_19 : decode cX8_falls 19 = .ok (.invokevirtual 511, 3) := by decide +kernel
theorem dX8_falls_22 : decode cX8_falls 22 = .ok (.aload_n 0, 1) := by decide +kernel
theorem dX8_falls_23 : decode cX8_falls 23 = .ok (.iconst 1, 1) := by decide +kernel
theorem dX8_falls_24 : decode cX8_falls 24 = .ok (.invokevirtual 488, 3) := by decide +kernel
theorem dX8_falls_27 : decode cX8_falls 27 = .ok (.iconst 0, 1) := by decide +kernel
theorem dX8_falls_28 : decode cX8_falls 28 = .ok (.istore_n 1, 1) := by decide +kernel
theorem dX8_falls_29 : decode cX8_falls 29 = .ok (.iconst 0, 1) := by decide +kernel
theorem dX8_falls_30 : decode cX8_falls 30 = .ok (.istore_n 2, 1) := by decide +kernel
theorem dX8_falls_31 : decode cX8_falls 31 = .ok (.iload_n 2, 1) := by decide +kernel
theorem dX8_falls_32 : decode cX8_falls 32 = .ok (.aload_n 0, 1) := by decide +kernel
theorem dX8_falls_33 : decode cX8_falls 33 = .ok (.getfield 258, 3) := by decide +kernel
theorem dX8_falls_36 : decode cX8_falls 36 = .ok (.if_icmp .ge 42, 3) := by decide +kernel
theorem dX8_falls_39 : decode cX8_falls 39 = .ok (.iload_n 1, 1) := by decide +kernel
theorem dX8_falls_40 : decode cX8_falls 40 = .ok (.aload_n 0, 1) := by decide +kernel
theorem dX8_falls_41 : decode cX8_falls 41 = .ok (.getfield 94, 3) := by decide +kernel
theorem dX8_falls_44 : decode cX8_falls 44 = .ok (.bipush 10, 2) := by decide +kernel
theorem dX8_falls_46 : decode cX8_falls 46 = .ok (.iload_n 2, 1) := by decide +kernel
theorem dX8_falls_47 : decode cX8_falls 47 = .ok (.iadd, 1) := by decide +kernel
theorem dX8_falls_48 : decode cX8_falls 48 = .ok (.iaload, 1) := by decide +kernel
theorem dX8_falls_49 : decode cX8_falls 49 = .ok (.iconst 3, 1) := by decide +kernel
theorem dX8_falls_50 : decode cX8_falls 50 = .ok (.if_icmp .ne 19, 3) := by decide +kernel
theorem dX8_falls_53 : decode cX8_falls 53 = .ok (.aload_n 0, 1) := by decide +kernel
theorem dX8_falls_54 : decode cX8_falls 54 = .ok (.getfield 94, 3) := by decide +kernel
theorem dX8_falls_57 : decode cX8_falls 57 = .ok (.iload_n 2, 1) := by decide +kernel
theorem dX8_falls_58 : decode cX8_falls 58 = .ok (.iaload, 1) := by decide +kernel
theorem dX8_falls_59 : decode cX8_falls 59 = .ok (.iconst 3, 1) := by decide +kernel
theorem dX8_falls_60 : decode cX8_falls 60 = .ok (.if_icmp .eq 9, 3) := by decide +kernel
theorem dX8_falls_63 : decode cX8_falls 63 = .ok (.iconst 1, 1) := by decide +kernel
theorem dX8_falls_64 : decode cX8_falls 64 = .ok (.iload_n 2, 1) := by decide +kernel
theorem dX8_falls_65 : decode cX8_falls 65 = .ok (.ishl, 1) := by decide +kernel
theorem dX8_falls_66 : decode cX8_falls 66 = .ok (.goto 4, 3) := by decide +kernel
theorem dX8_falls_69 : decode cX8_falls 69 = .ok (.iconst 0, 1) := by decide +kernel
theorem dX8_falls_70 : decode cX8_falls 70 = .ok (.ior, 1) := by decide +kernel
theorem dX8_falls_71 : decode cX8_falls 71 = .ok (.istore_n 1, 1) := by decide +kernel
theorem dX8_falls_72 : decode cX8_falls 72 = .ok (.iinc 2 1, 3) := by decide +kernel
theorem dX8_falls_75 : decode cX8_falls 75 = .ok (.goto (-44), 3) := by decide +kernel
theorem dX8_falls_78 : decode cX8_falls 78 = .ok (.iload_n 1, 1) := by decide +kernel
theorem dX8_falls_79 : decode cX8_falls 79 = .ok (.ireturn, 1) := by decide +kernel
theorem dX8_asking_0 : decode cX8_asking 0 = .ok (.aload_n 0, 1) := by decide +kernel
theorem dX8_asking_1 : decode cX8_asking 1 = .ok (.iconst 0, 1) := by decide +kernel
theorem dX8_asking_2 : decode cX8_asking 2 = .ok (.putfield 172, 3) := by decide +kernel
theorem dX8_asking_5 : decode cX8_asking 5 = .ok (.aload_n 0, 1) := by decide +kernel
theorem dX8_asking_6 : decode cX8_asking 6 = .ok (.aload_n 0, 1) := by decide +kernel
theorem dX8_asking_7 : decode cX8_asking 7 = .ok (.getfield 24, 3) := by decide +kernel
theorem dX8_asking_10 : decode cX8_asking 10 = .ok (.iconst 0, 1) := by decide +kernel
theorem dX8_asking_11 : decode cX8_asking 11 = .ok (.iaload, 1) := by decide +kernel
theorem dX8_asking_12 : decode cX8_asking 12 = .ok (.invokevirtual 539, 3) := by decide +kernel
theorem dX8_asking_15 : decode cX8_asking 15 = .ok (.istore_n 1, 1) := by decide +kernel
theorem dX8_asking_16 : decode cX8_asking 16 = .ok (.aload_n 0, 1) := by decide +kernel
theorem dX8_asking_17 : decode cX8_asking 17 = .ok (.invokevirtual 511, 3) := by decide +kernel
theorem dX8_asking_20 : decode cX8_asking 20 = .ok (.aload_n 0, 1) := by decide +kernel
theorem dX8_asking_21 : decode cX8_asking 21 = .ok (.getfield 121, 3) := by decide +kernel
theorem dX8_asking_24 : decode cX8_asking 24 = .ok (.iconst 1, 1) := by decide +kernel
theorem dX8_asking_25 : decode cX8_asking 25 = .ok (.iaload, 1) := by decide +kernel
theorem dX8_asking_26 : decode cX8_asking 26 = .ok (.bipush 21, 2) := by decide +kernel
theorem dX8_asking_28 : decode cX8_asking 28 = .ok (.if_icmp .ge 48, 3) := by decide +kernel
theorem dX8_asking_31 : decode cX8_asking 31 = .ok (.iconst 0, 1) := by decide +kernel
theorem dX8_asking_32 : decode cX8_asking 32 = .ok (.istore_n 2, 1) := by decide +kernel
theorem dX8_asking_33 : decode cX8_asking 33 = .ok (.iload_n 2, 1) := by decide +kernel
theorem dX8_asking_34 : decode cX8_asking 34 = .ok (.aload_n 0, 1) := by decide +kernel
theorem dX8_asking_35 : decode cX8_asking 35 = .ok (.getfield 252, 3) := by decide +kernel
theorem dX8_asking_38 : decode cX8_asking 38 = .ok (.if_icmp .ge 30, 3) := by decide +kernel
theorem dX8_asking_41 : decode cX8_asking 41 = .ok (.aload_n 0, 1) := by decide +kernel
theorem dX8_asking_42 : decode cX8_asking 42 = .ok (.getfield 27, 3) := by decide +kernel
theorem dX8_asking_45 : decode cX8_asking 45 = .ok (.iload_n 2, 1) := by decide +kernel
theorem dX8_asking_46 : decode cX8_asking 46 = .ok (.iaload, 1) := by decide +kernel
theorem dX8_asking_47 : decode cX8_asking 47 = .ok (.iconst 2, 1) := by decide +kernel
theorem dX8_asking_48 : decode cX8_asking 48 = .ok (.if_icmp .ge 12, 3) := by decide +kernel
theorem dX8_asking_51 : decode cX8_asking 51 = .ok (.aload_n 0, 1) := by decide +kernel
theorem dX8_asking_52 : decode cX8_asking 52 = .ok (.iconst 1, 1) := by decide +kernel
theorem dX8_asking_53 : decode cX8_asking 53 = .ok (.iload_n 2, 1) := by decide +kernel
theorem dX8_asking_54 : decode cX8_asking 54 = .ok (.invokevirtual 514, 3) := by decide +kernel
theorem dX8_asking_57 : decode cX8_asking 57 = .ok (.goto 4, 3) := by decide +kernel
theorem dX8_asking_60 : decode cX8_asking 60 = .ok (.iconst 0, 1) := by decide +kernel
theorem dX8_asking_61 : decode cX8_asking 61 = .ok (.istore_n 3, 1) := by decide +kernel
theorem dX8_asking_62 : decode cX8_asking 62 = .ok (.iinc 2 1, 3) := by decide +kernel
theorem dX8_asking_65 : decode cX8_asking 65 = .ok (.goto (-32), 3) := by decide +kernel
theorem dX8_asking_68 : decode cX8_asking 68 = .ok (.aload_n 0, 1) := by decide +kernel
theorem dX8_asking_69 : decode cX8_asking 69 = .ok (.iconst 1, 1) := by decide +kernel
theorem dX8_asking_70 : decode cX8_asking 70 = .ok (.invokevirtual 488, 3) := by decide +kernel
theorem dX8_asking_73 : decode cX8_asking 73 = .ok (.goto (-53), 3) := by decide +kernel
theorem dX8_asking_76 : decode cX8_asking 76 = .ok (.iload_n 1, 1) := by decide +kernel
theorem dX8_asking_77 : decode cX8_asking 77 = .ok (.aload_n 0, 1) := by decide +kernel
theorem dX8_asking_78 : decode cX8_asking 78 = .ok (.invokevirtual 526, 3) := by decide +kernel
theorem dX8_asking_81 : decode cX8_asking 81 = .ok (.if_icmp .le 12, 3) := by decide +kernel
theorem dX8_asking_84 : decode cX8_asking 84 = .ok (.iload_n 1, 1) := by decide +kernel
theorem dX8_asking_85 : decode cX8_asking 85 = .ok (.aload_n 0, 1) := by decide +kernel
theorem dX8_asking_86 : decode cX8_asking 86 = .ok (.invokevirtual 526, 3) := by decide +kernel
theorem dX8_asking_89 : decode cX8_asking 89 = .ok (.isub, 1) := by decide +kernel
theorem dX8_asking_90 : decode cX8_asking 90 = .ok (.goto 4, 3) := by decide +kernel
theorem dX8_asking_93 : decode cX8_asking 93 = .ok (.iconst 0, 1) := by decide +kernel
theorem dX8_asking_94 : decode cX8_asking 94 = .ok (.ireturn, 1) := by decide +kernel
theorem dX8_feet_0 : decode cX8_feet 0 = .ok (.aload_n 0, 1) := by decide +kernel
theorem dX8_feet_1 : decode cX8_feet 1 = .ok (.iconst 0, 1) := by decide +kernel
theorem dX8_feet_2 : decode cX8_feet 2 = .ok (.putfield 172, 3) := by decide +kernel
theorem dX8_feet_5 : decode cX8_feet 5 = .ok (.aload_n 0, 1) := by decide +kernel
theorem dX8_feet_6 : decode cX8_feet 6 = .ok (.invokevirtual 511, 3) := by decide +kernel
theorem dX8_feet_9 : decode cX8_feet 9 = .ok (.aload_n 0, 1) := by decide +kernel
theorem dX8_feet_10 : decode cX8_feet 10 = .ok (.invokevirtual 523, 3) := by decide +kernel
theorem dX8_feet_13 : decode cX8_feet 13 = .ok (.aload_n 0, 1) := by decide +kernel
theorem dX8_feet_14 : decode cX8_feet 14 = .ok (.getfield 124, 3) := by decide +kernel
theorem dX8_feet_17 : decode cX8_feet 17 = .ok (.iconst 1, 1) := by decide +kernel
theorem dX8_feet_18 : decode cX8_feet 18 = .ok (.iaload, 1) := by decide +kernel
theorem dX8_feet_19 : decode cX8_feet 19 = .ok (.ireturn, 1) := by decide +kernel
theorem dX8_noted_0 : decode cX8_noted 0 = .ok (.aload_n 0, 1) := by decide +kernel
theorem dX8_noted_1 : decode cX8_noted 1 = .ok (.getfield 148, 3) := by decide +kernel
theorem dX8_noted_4 : decode cX8_noted 4 = .ok (.iconst 4, 1) := by decide +kernel
theorem dX8_noted_5 : decode cX8_noted 5 = .ok (.aload_n 0, 1) := by decide +kernel
theorem dX8_noted_6 : decode cX8_noted 6 = .ok (.getfield 376, 3) := by decide +kernel
theorem dX8_noted_9 : decode cX8_noted 9 = .ok (.imul, 1) := by decide +kernel
theorem dX8_noted_10 : decode cX8_noted 10 = .ok (.iload_n 1, 1) := by decide +kernel
theorem dX8_noted_11 : decode cX8_noted 11 = .ok (.iastore, 1) := by decide +kernel
theorem dX8_noted_12 : decode cX8_noted 12 = .ok (.aload_n 0, 1) := by decide +kernel
theorem dX8_noted_13 : decode cX8_noted 13 = .ok (.getfield 148, 3) := by decide +kernel
theorem dX8_noted_16 : decode cX8_noted 16 = .ok (.iconst 4, 1) := by decide +kernel
theorem dX8_noted_17 : decode cX8_noted 17 = .ok (.aload_n 0, 1) := by decide +kernel
theorem dX8_noted_18 : decode cX8_noted 18 = .ok (.getfield 376, 3) := by decide +kernel
theorem dX8_noted_21 : decode cX8_noted 21 = .ok (.imul, 1) := by decide +kernel
theorem dX8_noted_22 : decode cX8_noted 22 = .ok (.iconst 1, 1) := by decide +kernel
theorem dX8_noted_23 : decode cX8_noted 23 = .ok (.iadd, 1) := by decide +kernel
theorem dX8_noted_24 : decode cX8_noted 24 = .ok (.iload_n 2, 1) := by decide +kernel
theorem dX8_noted_25 : decode cX8_noted 25 = .ok (.iastore, 1) := by decide +kernel
theorem dX8_noted_26 : decode cX8_noted 26 = .ok (.aload_n 0, 1) := by decide +kernel
theorem dX8_noted_27 : decode cX8_noted 27 = .ok (.getfield 148, 3) := by decide +kernel
theorem dX8_noted_30 : decode cX8_noted 30 = .ok (.iconst 4, 1) := by decide +kernel
theorem dX8_noted_31 : decode cX8_noted 31 = .ok (.aload_n 0, 1) := by decide +kernel
theorem dX8_noted_32 : decode cX8_noted 32 = .ok (.getfield 376, 3) := by decide +kernel
theorem dX8_noted_35 : decode cX8_noted 35 = .ok (.imul, 1) := by decide +kernel
theorem dX8_noted_36 : decode cX8_noted 36 = .ok (.iconst 2, 1) := by decide +kernel
theorem dX8_noted_37 : decode cX8_noted 37 = .ok (.iadd, 1) := by decide +kernel
theorem dX8_noted_38 : decode cX8_noted 38 = .ok (.iload_n 3, 1) := by decide +kernel
theorem dX8_noted_39 : decode cX8_noted 39 = .ok (.iastore, 1) := by decide +kernel
theorem dX8_noted_40 : decode cX8_noted 40 = .ok (.aload_n 0, 1) := by decide +kernel
theorem dX8_noted_41 : decode cX8_noted 41 = .ok (.getfield 148, 3) := by decide +kernel
theorem dX8_noted_44 : decode cX8_noted 44 = .ok (.iconst 4, 1) := by decide +kernel
theorem dX8_noted_45 : decode cX8_noted 45 = .ok (.aload_n 0, 1) := by decide +kernel
theorem dX8_noted_46 : decode cX8_noted 46 = .ok (.getfield 376, 3) := by decide +kernel
theorem dX8_noted_49 : decode cX8_noted 49 = .ok (.imul, 1) := by decide +kernel
theorem dX8_noted_50 : decode cX8_noted 50 = .ok (.iconst 3, 1) := by decide +kernel
theorem dX8_noted_51 : decode cX8_noted 51 = .ok (.iadd, 1) := by decide +kernel
theorem dX8_noted_52 : decode cX8_noted 52 = .ok (.iload 4, 2) := by decide +kernel
theorem dX8_noted_54 : decode cX8_noted 54 = .ok (.iastore, 1) := by decide +kernel
theorem dX8_noted_55 : decode cX8_noted 55 = .ok (.aload_n 0, 1) := by decide +kernel
theorem dX8_noted_56 : decode cX8_noted 56 = .ok (.dup, 1) := by decide +kernel
theorem dX8_noted_57 : decode cX8_noted 57 = .ok (.getfield 376, 3) := by decide +kernel
theorem dX8_noted_60 : decode cX8_noted 60 = .ok (.iconst 1, 1) := by decide +kernel
theorem dX8_noted_61 : decode cX8_noted 61 = .ok (.iadd, 1) := by decide +kernel
theorem dX8_noted_62 : decode cX8_noted 62 = .ok (.putfield 376, 3) := by decide +kernel
theorem dX8_noted_65 : decode cX8_noted 65 = .ok (.aload_n 0, 1) := by decide +kernel
theorem dX8_noted_66 : decode cX8_noted 66 = .ok (.getfield 376, 3) := by decide +kernel
theorem dX8_noted_69 : decode cX8_noted 69 = .ok (.iconst 1, 1) := by decide +kernel
theorem dX8_noted_70 : decode cX8_noted 70 = .ok (.isub, 1) := by decide +kernel
theorem dX8_noted_71 : decode cX8_noted 71 = .ok (.ireturn, 1) := by decide +kernel
theorem dX8_see_0 : decode cX8_see 0 = .ok (.aload_n 0, 1) := by decide +kernel
theorem dX8_see_1 : decode cX8_see 1 = .ok (.iconst 0, 1) := by decide +kernel
theorem dX8_see_2 : decode cX8_see 2 = .ok (.putfield 172, 3) := by decide +kernel
theorem dX8_see_5 : decode cX8_see 5 = .ok (.aload_n 0, 1) := by decide +kernel
theorem dX8_see_6 : decode cX8_see 6 = .ok (.getfield 376, 3) := by decide +kernel
theorem dX8_see_9 : decode cX8_see 9 = .ok (.bipush 24, 2) := by decide +kernel
theorem dX8_see_11 : decode cX8_see 11 = .ok (.if_icmp .eq 29, 3) := by decide +kernel
theorem dX8_see_14 : decode cX8_see 14 = .ok (.iload_n 1, 1) := by decide +kernel
theorem dX8_see_15 : decode cX8_see 15 = .ok (.iconst 0, 1) := by decide +kernel
theorem dX8_see_16 : decode cX8_see 16 = .ok (.bipush 19, 2) := by decide +kernel
theorem dX8_see_18 : decode cX8_see 18 = .ok (.invokestatic 217, 3) := by decide +kernel
theorem dX8_see_21 : decode cX8_see 21 = .ok (.ifCond .eq 19, 3) := by decide +kernel
theorem dX8_see_24 : decode cX8_see 24 = .ok (.aload_n 0, 1) := by decide +kernel
theorem dX8_see_25 : decode cX8_see 25 = .ok (.iload_n 2, 1) := by decide +kernel
theorem dX8_see_26 : decode cX8_see 26 = .ok (.invokevirtual 497, 3) := by decide +kernel
theorem dX8_see_29 : decode cX8_see 29 = .ok (.ifCond .eq 11, 3) := by decide +kernel
theorem dX8_see_32 : decode cX8_see 32 = .ok (.aload_n 0, 1) := by decide +kernel
theorem dX8_see_33 : decode cX8_see 33 = .ok (.iload_n 3, 1) := by decide +kernel
theorem dX8_see_34 : decode cX8_see 34 = .ok (.invokevirtual 500, 3) := by decide +kernel
theorem dX8_see_37 : decode cX8_see 37 = .ok (.ifCond .ne 7, 3) := by decide +kernel
theorem dX8_see_40 : decode cX8_see 40 = .ok (.iconst (-1), 1) := by decide +kernel
theorem dX8_see_41 : decode cX8_see 41 = .ok (.goto 20, 3) := by decide +kernel
theorem dX8_see_44 : decode cX8_see 44 = .ok (.aload_n 0, 1) := by decide +kernel
theorem dX8_see_45 : decode cX8_see 45 = .ok (.iload_n 1, 1) := by decide +kernel
theorem dX8_see_46 : decode cX8_see 46 = .ok (.iload_n 2, 1) := by decide +kernel
theorem dX8_see_47 : decode cX8_see 47 = .ok (.iload_n 3, 1) := by decide +kernel
theorem dX8_see_48 : decode cX8_see 48 = .ok (.iload 4, 2) := by decide +kernel
theorem dX8_see_50 : decode cX8_see 50 = .ok (.ifCond .eq 7, 3) := by decide +kernel
theorem dX8_see_53 : decode cX8_see 53 = .ok (.iconst 1, 1) := by decide +kernel
theorem dX8_see_54 : decode cX8_see 54 = .ok (.goto 4, 3) := by decide +kernel
theorem dX8_see_57 : decode cX8_see 57 = .ok (.iconst 0, 1) := by decide +kernel
theorem dX8_see_58 : decode cX8_see 58 = .ok (.invokevirtual 542, 3) := by decide +kernel
theorem dX8_see_61 : decode cX8_see 61 = .ok (.ireturn, 1) := by decide +kernel
theorem dX8_strike_0 : decode cX8_strike 0 = .ok (.aload_n 0, 1) := by decide +kernel
theorem dX8_strike_1 : decode cX8_strike 1 = .ok (.iconst 0, 1) := by decide +kernel
theorem dX8_strike_2 : decode cX8_strike 2 = .ok (.putfield 172, 3) := by decide +kernel
theorem dX8_strike_5 : decode cX8_strike 5 = .ok (.aload_n 0, 1) := by decide +kernel
theorem dX8_strike_6 : decode cX8_strike 6 = .ok (.getfield 376, 3) := by decide +kernel
theorem dX8_strike_9 : decode cX8_strike 9 = .ok (.bipush 24, 2) := by decide +kernel
theorem dX8_strike_11 : decode cX8_strike 11 = .ok (.if_icmp .eq 15, 3) := by decide +kernel
theorem dX8_strike_14 : decode cX8_strike 14 = .ok (.iload_n 1, 1) := by decide +kernel
theorem dX8_strike_15 : decode cX8_strike 15 = .ok (.ifCond .lt 11, 3) := by decide +kernel
theorem dX8_strike_18 : decode cX8_strike 18 = .ok (.iload_n 1, 1) := by decide +kernel
theorem dX8_strike_19 : decode cX8_strike 19 = .ok (.aload_n 0, 1) := by decide +kernel
theorem dX8_strike_20 : decode cX8_strike 20 = .ok (.getfield 376, 3) := by decide +kernel
theorem dX8_strike_23 : decode cX8_strike 23 = .ok (.if_icmp .lt 7, 3) := by decide +kernel
theorem dX8_strike_26 : decode cX8_strike 26 = .ok (.iconst (-1), 1) := by decide +kernel
theorem dX8_strike_27 : decode cX8_strike 27 = .ok (.goto 11, 3) := by decide +kernel
theorem dX8_strike_30 : decode cX8_strike 30 = .ok (.aload_n 0, 1) := by decide +kernel
theorem dX8_strike_31 : decode cX8_strike 31 = .ok (.iconst (-1), 1) := by decide +kernel
theorem dX8_strike_32 : decode cX8_strike 32 = .ok (.iload_n 1, 1) := by decide +kernel
theorem dX8_strike_33 : decode cX8_strike 33 = .ok (.iconst 0, 1) := by decide +kernel
theorem dX8_strike_34 : decode cX8_strike 34 = .ok (.iconst 0, 1) := by decide +kernel
theorem dX8_strike_35 : decode cX8_strike 35 = .ok (.invokevirtual 542, 3) := by decide +kernel
theorem dX8_strike_38 : decode cX8_strike 38 = .ok (.ireturn, 1) := by decide +kernel
theorem dX8_known_0 : decode cX8_known 0 = .ok (.aload_n 0, 1) := by decide +kernel
theorem dX8_known_1 : decode cX8_known 1 = .ok (.iconst 0, 1) := by decide +kernel
theorem dX8_known_2 : decode cX8_known 2 = .ok (.putfield 172, 3) := by decide +kernel
theorem dX8_known_5 : decode cX8_known 5 = .ok (.iload_n 1, 1) := by decide +kernel
theorem dX8_known_6 : decode cX8_known 6 = .ok (.iconst (-1), 1) := by decide +kernel
theorem dX8_known_7 : decode cX8_known 7 = .ok (.aload_n 0, 1) := by decide +kernel
theorem dX8_known_8 : decode cX8_known 8 = .ok (.getfield 376, 3) := by decide +kernel
theorem dX8_known_11 : decode cX8_known 11 = .ok (.invokestatic 217, 3) := by decide +kernel
theorem dX8_known_14 : decode cX8_known 14 = .ok (.ifCond .ne 5, 3) := by decide +kernel
theorem dX8_known_17 : decode cX8_known 17 = .ok (.iconst 0, 1) := by decide +kernel
theorem dX8_known_18 : decode cX8_known 18 = .ok (.ireturn, 1) := by decide +kernel
theorem dX8_known_19 : decode cX8_known 19 = .ok (.aload_n 0, 1) := by decide +kernel
theorem dX8_known_20 : decode cX8_known 20 = .ok (.iload_n 1, 1) := by decide +kernel
theorem dX8_known_21 : decode cX8_known 21 = .ok (.putfield 145, 3) := by decide +kernel
theorem dX8_known_24 : decode cX8_known 24 = .ok (.iconst 1, 1) := by decide +kernel
theorem dX8_known_25 : decode cX8_known 25 = .ok (.ireturn, 1) := by decide +kernel
theorem dX8_knownBy_0 : decode cX8_knownBy 0 = .ok (.aload_n 0, 1) := by decide +kernel
theorem dX8_knownBy_1 : decode cX8_knownBy 1 = .ok (.getfield 145, 3) := by decide +kernel
theorem dX8_knownBy_4 : decode cX8_knownBy 4 = .ok (.ifCond .ge 10, 3) := by decide +kernel
theorem dX8_knownBy_7 : decode cX8_knownBy 7 = .ok (.aload_n 0, 1) := by decide +kernel
theorem dX8_knownBy_8 : decode cX8_knownBy 8 = .ok (.getfield 376, 3) := by decide +kernel
theorem dX8_knownBy_11 : decode cX8_knownBy 11 = .ok (.goto 7, 3) := by decide +kernel
theorem dX8_knownBy_14 : decode cX8_knownBy 14 = .ok (.aload_n 0, 1) := by decide +kernel
theorem dX8_knownBy_15 : decode cX8_knownBy 15 = .ok (.getfield 145, 3) := by decide +kernel
theorem dX8_knownBy_18 : decode cX8_knownBy 18 = .ok (.ireturn, 1) := by decide +kernel
theorem dX8_isSo_0 : decode cX8_isSo 0 = .ok (.iconst 0, 1) := by decide +kernel
theorem dX8_isSo_1 : decode cX8_isSo 1 = .ok (.istore_n 2, 1) := by decide +kernel
theorem dX8_isSo_2 : decode cX8_isSo 2 = .ok (.iload_n 2, 1) := by decide +kernel
theorem dX8_isSo_3 : decode cX8_isSo 3 = .ok (.aload_n 0, 1) := by decide +kernel
theorem dX8_isSo_4 : decode cX8_isSo 4 = .ok (.invokevirtual 546, 3) := by decide +kernel
theorem dX8_isSo_7 : decode cX8_isSo 7 = .ok (.if_icmp .ge 95, 3) := by decide +kernel
theorem dX8_isSo_10 : decode cX8_isSo 10 = .ok (.aload_n 0, 1) := by decide +kernel
theorem dX8_isSo_11 : decode cX8_isSo 11 = .ok (.getfield 151, 3) := by decide +kernel
theorem dX8_isSo_14 : decode cX8_isSo 14 = .ok (.iload_n 2, 1) := by decide +kernel
theorem dX8_isSo_15 : decode cX8_isSo 15 = .ok (.baload, 1) := by decide +kernel
theorem dX8_isSo_16 : decode cX8_isSo 16 = .ok (.ifCond .eq 80, 3) := by decide +kernel
theorem dX8_isSo_19 : decode cX8_isSo 19 = .ok (.aload_n 0, 1) := by decide +kernel
theorem dX8_isSo_20 : decode cX8_isSo 20 = .ok (.getfield 148, 3) := by decide +kernel
theorem dX8_isSo_23 : decode cX8_isSo 23 = .ok (.iconst 4, 1) := by decide +kernel
theorem dX8_isSo_24 : decode cX8_isSo 24 = .ok (.iload_n 2, 1) := by decide +kernel
theorem dX8_isSo_25 : decode cX8_isSo 25 = .ok (.imul, 1) := by decide +kernel
theorem dX8_isSo_26 : decode cX8_isSo 26 = .ok (.iaload, 1) := by decide +kernel
theorem dX8_isSo_27 : decode cX8_isSo 27 = .ok (.iload_n 1, 1) := by decide +kernel
theorem dX8_isSo_28 : decode cX8_isSo 28 = .ok (.if_icmp .eq 6, 3) := by decide +kernel
theorem dX8_isSo_31 : decode cX8_isSo 31 = .ok (.goto 65, 3) := by decide +kernel
theorem dX8_isSo_34 : decode cX8_isSo 34 = .ok (.aload_n 0, 1) := by decide +kernel
theorem dX8_isSo_35 : decode cX8_isSo 35 = .ok (.getfield 97, 3) := by decide +kernel
theorem dX8_isSo_38 : decode cX8_isSo 38 = .ok (.bipush 10, 2) := by decide +kernel
theorem dX8_isSo_40 : decode cX8_isSo 40 = .ok (.aload_n 0, 1) := by decide +kernel
theorem dX8_isSo_41 : decode cX8_isSo 41 = .ok (.getfield 148, 3) := by decide +kernel
theorem dX8_isSo_44 : decode cX8_isSo 44 = .ok (.iconst 4, 1) := by decide +kernel
theorem dX8_isSo_45 : decode cX8_isSo 45 = .ok (.iload_n 2, 1) := by decide +kernel
theorem dX8_isSo_46 : decode cX8_isSo 46 = .ok (.imul, 1) := by decide +kernel
theorem dX8_isSo_47 : decode cX8_isSo 47 = .ok (.iconst 1, 1) := by decide +kernel
theorem dX8_isSo_48 : decode cX8_isSo 48 = .ok (.iadd, 1) := by decide +kernel
theorem dX8_isSo_49 : decode cX8_isSo 49 = .ok (.iaload, 1) := by decide +kernel
theorem dX8_isSo_50 : decode cX8_isSo 50 = .ok (.iadd, 1) := by decide +kernel
theorem dX8_isSo_51 : decode cX8_isSo 51 = .ok (.iaload, 1) := by decide +kernel
theorem dX8_isSo_52 : decode cX8_isSo 52 = .ok (.aload_n 0, 1) := by decide +kernel
theorem dX8_isSo_53 : decode cX8_isSo 53 = .ok (.getfield 148, 3) := by decide +kernel
theorem dX8_isSo_56 : decode cX8_isSo 56 = .ok (.iconst 4, 1) := by decide +kernel
theorem dX8_isSo_57 : decode cX8_isSo 57 = .ok (.iload_n 2, 1) := by decide +kernel
theorem dX8_isSo_58 : decode cX8_isSo 58 = .ok (.imul, 1) := by decide +kernel
theorem dX8_isSo_59 : decode cX8_isSo 59 = .ok (.iconst 2, 1) := by decide +kernel
theorem dX8_isSo_60 : decode cX8_isSo 60 = .ok (.iadd, 1) := by decide +kernel
theorem dX8_isSo_61 : decode cX8_isSo 61 = .ok (.iaload, 1) := by decide +kernel
theorem dX8_isSo_62 : decode cX8_isSo 62 = .ok (.if_icmp .ne 7, 3) := by decide +kernel
theorem dX8_isSo_65 : decode cX8_isSo 65 = .ok (.iconst 1, 1) := by decide +kernel
theorem dX8_isSo_66 : decode cX8_isSo 66 = .ok (.goto 4, 3) := by decide +kernel
theorem dX8_isSo_69 : decode cX8_isSo 69 = .ok (.iconst 0, 1) := by decide +kernel
theorem dX8_isSo_70 : decode cX8_isSo 70 = .ok (.istore_n 3, 1) := by decide +kernel
theorem dX8_isSo_71 : decode cX8_isSo 71 = .ok (.iload_n 3, 1) := by decide +kernel
theorem dX8_isSo_72 : decode cX8_isSo 72 = .ok (.aload_n 0, 1) := by decide +kernel
theorem dX8_isSo_73 : decode cX8_isSo 73 = .ok (.getfield 148, 3) := by decide +kernel
theorem dX8_isSo_76 : decode cX8_isSo 76 = .ok (.iconst 4, 1) := by decide +kernel
theorem dX8_isSo_77 : decode cX8_isSo 77 = .ok (.iload_n 2, 1) := by decide +kernel
theorem dX8_isSo_78 : decode cX8_isSo 78 = .ok (.imul, 1) := by decide +kernel
theorem dX8_isSo_79 : decode cX8_isSo 79 = .ok (.iconst 3, 1) := by decide +kernel
theorem dX8_isSo_80 : decode cX8_isSo 80 = .ok (.iadd, 1) := by decide +kernel
theorem dX8_isSo_81 : decode cX8_isSo 81 = .ok (.iaload, 1) := by decide +kernel
theorem dX8_isSo_82 : decode cX8_isSo 82 = .ok (.iconst 1, 1) := by decide +kernel
theorem dX8_isSo_83 : decode cX8_isSo 83 = .ok (.if_icmp .ne 7, 3) := by decide +kernel
theorem dX8_isSo_86 : decode cX8_isSo 86 = .ok (.iconst 1, 1) := by decide +kernel
theorem dX8_isSo_87 : decode cX8_isSo 87 = .ok (.goto 4, 3) := by decide +kernel
theorem dX8_isSo_90 : decode cX8_isSo 90 = .ok (.iconst 0, 1) := by decide +kernel
theorem dX8_isSo_91 : decode cX8_isSo 91 = .ok (.if_icmp .eq 5, 3) := by decide +kernel
theorem dX8_isSo_94 : decode cX8_isSo 94 = .ok (.iconst 0, 1) := by decide +kernel
theorem dX8_isSo_95 : decode cX8_isSo 95 = .ok (.ireturn, 1) := by decide +kernel
theorem dX8_isSo_96 : decode cX8_isSo 96 = .ok (.iinc 2 1, 3) := by decide +kernel
theorem dX8_isSo_99 : decode cX8_isSo 99 = .ok (.goto (-97), 3) := by decide +kernel
theorem dX8_isSo_102 : decode cX8_isSo 102 = .ok (.iconst 1, 1) := by decide +kernel
theorem dX8_isSo_103 : decode cX8_isSo 103 = .ok (.ireturn, 1) := by decide +kernel
theorem dX8_fits_0 : decode cX8_fits 0 = .ok (.aload_n 0, 1) := by decide +kernel
theorem dX8_fits_1 : decode cX8_fits 1 = .ok (.iconst 1, 1) := by decide +kernel
theorem dX8_fits_2 : decode cX8_fits 2 = .ok (.invokevirtual 366, 3) := by decide +kernel
theorem dX8_fits_5 : decode cX8_fits 5 = .ok (.aload_n 0, 1) := by decide +kernel
theorem dX8_fits_6 : decode cX8_fits 6 = .ok (.invokevirtual 373, 3) := by decide +kernel
theorem dX8_fits_9 : decode cX8_fits 9 = .ok (.aload_n 0, 1) := by decide +kernel
theorem dX8_fits_10 : decode cX8_fits 10 = .ok (.getfield 106, 3) := by decide +kernel
theorem dX8_fits_13 : decode cX8_fits 13 = .ok (.bipush 6, 2) := by decide +kernel
theorem dX8_fits_15 : decode cX8_fits 15 = .ok (.iload_n 1, 1) := by decide +kernel
theorem dX8_fits_16 : decode cX8_fits 16 = .ok (.iadd, 1) := by decide +kernel
theorem dX8_fits_17 : decode cX8_fits 17 = .ok (.iload_n 2, 1) := by decide +kernel
theorem dX8_fits_18 : decode cX8_fits 18 = .ok (.iastore, 1) := by decide +kernel
theorem dX8_fits_19 : decode cX8_fits 19 = .ok (.aload_n 0, 1) := by decide +kernel
theorem dX8_fits_20 : decode cX8_fits 20 = .ok (.getfield 121, 3) := by decide +kernel
theorem dX8_fits_23 : decode cX8_fits 23 = .ok (.iconst 1, 1) := by decide +kernel
theorem dX8_fits_24 : decode cX8_fits 24 = .ok (.iaload, 1) := by decide +kernel
theorem dX8_fits_25 : decode cX8_fits 25 = .ok (.bipush 20, 2) := by decide +kernel
theorem dX8_fits_27 : decode cX8_fits 27 = .ok (.if_icmp .ge 46, 3) := by decide +kernel
theorem dX8_fits_30 : decode cX8_fits 30 = .ok (.aload_n 0, 1) := by decide +kernel
theorem dX8_fits_31 : decode cX8_fits 31 = .ok (.iconst 1, 1) := by decide +kernel
theorem dX8_fits_32 : decode cX8_fits 32 = .ok (.invokevirtual 479, 3) := by decide +kernel
theorem dX8_fits_35 : decode cX8_fits 35 = .ok (.aload_n 0, 1) := by decide +kernel
theorem dX8_fits_36 : decode cX8_fits 36 = .ok (.iconst 1, 1) := by decide +kernel
theorem dX8_fits_37 : decode cX8_fits 37 = .ok (.invokevirtual 482, 3) := by decide +kernel
theorem dX8_fits_40 : decode cX8_fits 40 = .ok (.aload_n 0, 1) := by decide +kernel
theorem dX8_fits_41 : decode cX8_fits 41 = .ok (.aload_n 0, 1) := by decide +kernel
theorem dX8_fits_42 : decode cX8_fits 42 = .ok (.getfield 121, 3) := by decide +kernel
theorem dX8_fits_45 : decode cX8_fits 45 = .ok (.iconst 1, 1) := by decide +kernel
theorem dX8_fits_46 : decode cX8_fits 46 = .ok (.iaload, 1) := by decide +kernel
theorem dX8_fits_47 : decode cX8_fits 47 = .ok (.invokevirtual 549, 3) := by decide +kernel
theorem dX8_fits_50 : decode cX8_fits 50 = .ok (.ifCond .ne 5, 3) := by decide +kernel
theorem dX8_fits_53 : decode cX8_fits 53 = .ok (.iconst 0, 1) := by decide +kernel
theorem dX8_fits_54 : decode cX8_fits 54 = .ok (.ireturn, 1) := by decide +kernel
theorem dX8_fits_55 : decode cX8_fits 55 = .ok (.aload_n 0, 1) := by decide +kernel
theorem dX8_fits_56 : decode cX8_fits 56 = .ok (.iconst 1, 1) := by decide +kernel
theorem dX8_fits_57 : decode cX8_fits 57 = .ok (.invokevirtual 485, 3) := by decide +kernel
theorem dX8_fits_60 : decode cX8_fits 60 = .ok (.aload_n 0, 1) := by decide +kernel
theorem dX8_fits_61 : decode cX8_fits 61 = .ok (.getfield 121, 3) := by decide +kernel
theorem dX8_fits_64 : decode cX8_fits 64 = .ok (.iconst 1, 1) := by decide +kernel
theorem dX8_fits_65 : decode cX8_fits 65 = .ok (.dup2, 1) := by decide +kernel
theorem dX8_fits_66 : decode cX8_fits 66 = .ok (.iaload, 1) := by decide +kernel
theorem dX8_fits_67 : decode cX8_fits 67 = .ok (.iconst 1, 1) := by decide +kernel
theorem dX8_fits_68 : decode cX8_fits 68 = .ok (.iadd, 1) := by decide +kernel
theorem dX8_fits_69 : decode cX8_fits 69 = .ok (.iastore, 1) := by decide +kernel
theorem dX8_fits_70 : decode cX8_fits 70 = .ok (.goto (-51), 3) := by decide +kernel
theorem dX8_fits_73 : decode cX8_fits 73 = .ok (.iconst 1, 1) := by decide +kernel
theorem dX8_fits_74 : decode cX8_fits 74 = .ok (.ireturn, 1) := by decide +kernel
theorem dX8_got_0 : decode cX8_got 0 = .ok (.aload_n 0, 1) := by decide +kernel
theorem dX8_got_1 : decode cX8_got 1 = .ok (.iconst 0, 1) := by decide +kernel
theorem dX8_got_2 : decode cX8_got 2 = .ok (.putfield 172, 3) := by decide +kernel
theorem dX8_got_5 : decode cX8_got 5 = .ok (.aload_n 0, 1) := by decide +kernel
theorem dX8_got_6 : decode cX8_got 6 = .ok (.iload_n 1, 1) := by decide +kernel
theorem dX8_got_7 : decode cX8_got 7 = .ok (.invokevirtual 491, 3) := by decide +kernel
theorem dX8_got_10 : decode cX8_got 10 = .ok (.ifCond .ne 5, 3) := by decide +kernel
theorem dX8_got_13 : decode cX8_got 13 = .ok (.iconst (-1), 1) := by decide +kernel
theorem dX8_got_14 : decode cX8_got 14 = .ok (.ireturn, 1) := by decide +kernel
theorem dX8_got_15 : decode cX8_got 15 = .ok (.iconst 0, 1) := by decide +kernel
theorem dX8_got_16 : decode cX8_got 16 = .ok (.istore_n 2, 1) := by decide +kernel
theorem dX8_got_17 : decode cX8_got 17 = .ok (.iload_n 2, 1) := by decide +kernel
theorem dX8_got_18 : decode cX8_got 18 = .ok (.aload_n 0, 1) := by decide +kernel
theorem dX8_got_19 : decode cX8_got 19 = .ok (.invokevirtual 546, 3) := by decide +kernel
theorem dX8_got_22 : decode cX8_got 22 = .ok (.if_icmp .ge 16, 3) := by decide +kernel
theorem dX8_got_25 : decode cX8_got 25 = .ok (.aload_n 0, 1) := by decide +kernel
theorem dX8_got_26 : decode cX8_got 26 = .ok (.getfield 151, 3) := by decide +kernel
theorem dX8_got_29 : decode cX8_got 29 = .ok (.iload_n 2, 1) := by decide +kernel
theorem dX8_got_30 : decode cX8_got 30 = .ok (.iconst 1, 1) := by decide +kernel
theorem dX8_got_31 : decode cX8_got 31 = .ok (.bastore, 1) := by decide +kernel
theorem dX8_got_32 : decode cX8_got 32 = .ok (.iinc 2 1, 3) := by decide +kernel
theorem dX8_got_35 : decode cX8_got 35 = .ok (.goto (-18), 3) := by decide +kernel
theorem dX8_got_38 : decode cX8_got 38 = .ok (.aload_n 0, 1) := by decide +kernel
theorem dX8_got_39 : decode cX8_got 39 = .ok (.invokevirtual 546, 3) := by decide +kernel
theorem dX8_got_42 : decode cX8_got 42 = .ok (.iconst 1, 1) := by decide +kernel
theorem dX8_got_43 : decode cX8_got 43 = .ok (.isub, 1) := by decide +kernel
theorem dX8_got_44 : decode cX8_got 44 = .ok (.istore_n 2, 1) := by decide +kernel
theorem dX8_got_45 : decode cX8_got 45 = .ok (.iload_n 2, 1) := by decide +kernel
theorem dX8_got_46 : decode cX8_got 46 = .ok (.ifCond .lt 45, 3) := by decide +kernel
theorem dX8_got_49 : decode cX8_got 49 = .ok (.aload_n 0, 1) := by decide +kernel
theorem dX8_got_50 : decode cX8_got 50 = .ok (.getfield 151, 3) := by decide +kernel
theorem dX8_got_53 : decode cX8_got 53 = .ok (.iload_n 2, 1) := by decide +kernel
theorem dX8_got_54 : decode cX8_got 54 = .ok (.baload, 1) := by decide +kernel
theorem dX8_got_55 : decode cX8_got 55 = .ok (.ifCond .eq 30, 3) := by decide +kernel
theorem dX8_got_58 : decode cX8_got 58 = .ok (.aload_n 0, 1) := by decide +kernel
theorem dX8_got_59 : decode cX8_got 59 = .ok (.getfield 148, 3) := by decide +kernel
theorem dX8_got_62 : decode cX8_got 62 = .ok (.iconst 4, 1) := by decide +kernel
theorem dX8_got_63 : decode cX8_got 63 = .ok (.iload_n 2, 1) := by decide +kernel
theorem dX8_got_64 : decode cX8_got 64 = .ok (.imul, 1) := by decide +kernel
theorem dX8_got_65 : decode cX8_got 65 = .ok (.iaload, 1) := by decide +kernel
theorem dX8_got_66 : decode cX8_got 66 = .ok (.ifCond .ge 19, 3) := by decide +kernel
theorem dX8_got_69 : decode cX8_got 69 = .ok (.aload_n 0, 1) := by decide +kernel
theorem dX8_got_70 : decode cX8_got 70 = .ok (.getfield 151, 3) := by decide +kernel
theorem dX8_got_73 : decode cX8_got 73 = .ok (.aload_n 0, 1) := by decide +kernel
theorem dX8_got_74 : decode cX8_got 74 = .ok (.getfield 148, 3) := by decide +kernel
theorem dX8_got_77 : decode cX8_got 77 = .ok (.iconst 4, 1) := by decide +kernel
theorem dX8_got_78 : decode cX8_got 78 = .ok (.iload_n 2, 1) := by decide +kernel
theorem dX8_got_79 : decode cX8_got 79 = .ok (.imul, 1) := by decide +kernel
theorem dX8_got_80 : decode cX8_got 80 = .ok (.iconst 1, 1) := by decide +kernel
theorem dX8_got_81 : decode cX8_got 81 = .ok (.iadd, 1) := by decide +kernel
theorem dX8_got_82 : decode cX8_got 82 = .ok (.iaload, 1) := by decide +kernel
theorem dX8_got_83 : decode cX8_got 83 = .ok (.iconst 0, 1) := by decide +kernel
theorem dX8_got_84 : decode cX8_got 84 = .ok (.bastore, 1) := by decide +kernel
theorem dX8_got_85 : decode cX8_got 85 = .ok (.iinc 2 (-1), 3) := by decide +kernel
theorem dX8_got_88 : decode cX8_got 88 = .ok (.goto (-43), 3) := by decide +kernel
theorem dX8_got_91 : decode cX8_got 91 = .ok (.iconst 0, 1) := by decide +kernel
theorem dX8_got_92 : decode cX8_got 92 = .ok (.istore_n 2, 1) := by decide +kernel
theorem dX8_got_93 : decode cX8_got 93 = .ok (.iconst 0, 1) := by decide +kernel
theorem dX8_got_94 : decode cX8_got 94 = .ok (.istore_n 3, 1) := by decide +kernel
theorem dX8_got_95 : decode cX8_got 95 = .ok (.iload_n 3, 1) := by decide +kernel
theorem dX8_got_96 : decode cX8_got 96 = .ok (.aload_n 0, 1) := by decide +kernel
theorem dX8_got_97 : decode cX8_got 97 = .ok (.getfield 39, 3) := by decide +kernel
theorem dX8_got_100 : decode cX8_got 100 = .ok (.iload_n 1, 1) := by decide +kernel
theorem dX8_got_101 : decode cX8_got 101 = .ok (.iaload, 1) := by decide +kernel
theorem dX8_got_102 : decode cX8_got 102 = .ok (.if_icmp .ge 28, 3) := by decide +kernel
theorem dX8_got_105 : decode cX8_got 105 = .ok (.iload_n 2, 1) := by decide +kernel
theorem dX8_got_106 : decode cX8_got 106 = .ok (.aload_n 0, 1) := by decide +kernel
theorem dX8_got_107 : decode cX8_got 107 = .ok (.iload_n 1, 1) := by decide +kernel
theorem dX8_got_108 : decode cX8_got 108 = .ok (.iload_n 3, 1) := by decide +kernel
theorem dX8_got_109 : decode cX8_got 109 = .ok (.invokevirtual 552, 3) := by decide +kernel
theorem dX8_got_112 : decode cX8_got 112 = .ok (.ifCond .eq 9, 3) := by decide +kernel
theorem dX8_got_115 : decode cX8_got 115 = .ok (.iconst 1, 1) := by decide +kernel
theorem dX8_got_116 : decode cX8_got 116 = .ok (.iload_n 3, 1) := by decide +kernel
theorem dX8_got_117 : decode cX8_got 117 = .ok (.ishl, 1) := by decide +kernel
theorem dX8_got_118 : decode cX8_got 118 = .ok (.goto 4, 3) := by decide +kernel
theorem dX8_got_121 : decode cX8_got 121 = .ok (.iconst 0, 1) := by decide +kernel
theorem dX8_got_122 : decode cX8_got 122 = .ok (.ior, 1) := by decide +kernel
theorem dX8_got_123 : decode cX8_got 123 = .ok (.istore_n 2, 1) := by decide +kernel
theorem dX8_got_124 : decode cX8_got 124 = .ok (.iinc 3 1, 3) := by decide +kernel
theorem dX8_got_127 : decode cX8_got 127 = .ok (.goto (-32), 3) := by decide +kernel
theorem dX8_got_130 : decode cX8_got 130 = .ok (.iload_n 2, 1) := by decide +kernel
theorem dX8_got_131 : decode cX8_got 131 = .ok (.ireturn, 1) := by decide +kernel
theorem dX8_chance_0 : decode cX8_chance 0 = .ok (.aload_n 0, 1) := by decide +kernel
theorem dX8_chance_1 : decode cX8_chance 1 = .ok (.iconst 0, 1) := by decide +kernel
theorem dX8_chance_2 : decode cX8_chance 2 = .ok (.putfield 172, 3) := by decide +kernel
theorem dX8_chance_5 : decode cX8_chance 5 = .ok (.iload_n 1, 1) := by decide +kernel
theorem dX8_chance_6 : decode cX8_chance 6 = .ok (.ifCond .lt 11, 3) := by decide +kernel
theorem dX8_chance_9 : decode cX8_chance 9 = .ok (.aload_n 0, 1) := by decide +kernel
theorem dX8_chance_10 : decode cX8_chance 10 = .ok (.iload_n 2, 1) := by decide +kernel
theorem dX8_chance_11 : decode cX8_chance 11 = .ok (.invokevirtual 497, 3) := by decide +kernel
theorem dX8_chance_14 : decode cX8_chance 14 = .ok (.ifCond .ne 5, 3) := by decide +kernel
theorem dX8_chance_17 : decode cX8_chance 17 = .ok (.iconst (-1), 1) := by decide +kernel
theorem dX8_chance_18 : decode cX8_chance 18 = .ok (.ireturn, 1) := by decide +kernel
theorem dX8_chance_19 : decode cX8_chance 19 = .ok (.aload_n 0, 1) := by decide +kernel
theorem dX8_chance_20 : decode cX8_chance 20 = .ok (.getfield 369, 3) := by decide +kernel
theorem dX8_chance_23 : decode cX8_chance 23 = .ok (.lstore_n 3, 1) := by decide +kernel
theorem dX8_chance_24 : decode cX8_chance 24 = .ok (.aload_n 0, 1) := by decide +kernel
theorem dX8_chance_25 : decode cX8_chance 25 = .ok (.iload_n 1, 1) := by decide +kernel
theorem dX8_chance_26 : decode cX8_chance 26 = .ok (.i2l, 1) := by decide +kernel
theorem dX8_chance_27 : decode cX8_chance 27 = .ok (.putfield 369, 3) := by decide +kernel
theorem dX8_chance_30 : decode cX8_chance 30 = .ok (.iconst 0, 1) := by decide +kernel
theorem dX8_chance_31 : decode cX8_chance 31 = .ok (.istore 5, 2) := by decide +kernel
theorem dX8_chance_33 : decode cX8_chance 33 = .ok (.iconst 0, 1) := by decide +kernel
theorem dX8_chance_34 : decode cX8_chance 34 = .ok (.istore 6, 2) := by decide +kernel
theorem dX8_chance_36 : decode cX8_chance 36 = .ok (.iload 6, 2) := by decide +kernel
theorem dX8_chance_38 : decode cX8_chance 38 = .ok (.bipush 10, 2) := by decide +kernel
theorem dX8_chance_40 : decode cX8_chance 40 = .ok (.if_icmp .ge 45, 3) := by decide +kernel
theorem dX8_chance_43 : decode cX8_chance 43 = .ok (.aload_n 0, 1) := by decide +kernel
theorem dX8_chance_44 : decode cX8_chance 44 = .ok (.invokevirtual 511, 3) := by decide +kernel
theorem dX8_chance_47 : decode cX8_chance 47 = .ok (.aload_n 0, 1) := by decide +kernel
theorem dX8_chance_48 : decode cX8_chance 48 = .ok (.iconst 1, 1) := by decide +kernel
theorem dX8_chance_49 : decode cX8_chance 49 = .ok (.putfield 388, 3) := by decide +kernel
theorem dX8_chance_52 : decode cX8_chance 52 = .ok (.aload_n 0, 1) := by decide +kernel
theorem dX8_chance_53 : decode cX8_chance 53 = .ok (.invokevirtual 523, 3) := by decide +kernel
theorem dX8_chance_56 : decode cX8_chance 56 = .ok (.iload 5, 2) := by decide +kernel
theorem dX8_chance_58 : decode cX8_chance 58 = .ok (.aload_n 0, 1) := by decide +kernel
theorem dX8_chance_59 : decode cX8_chance 59 = .ok (.getfield 94, 3) := by decide +kernel
theorem dX8_chance_62 : decode cX8_chance 62 = .ok (.bipush 10, 2) := by decide +kernel
theorem dX8_chance_64 : decode cX8_chance 64 = .ok (.iload_n 2, 1) := by decide +kernel
theorem dX8_chance_65 : decode cX8_chance 65 = .ok (.iadd, 1) := by decide +kernel
theorem dX8_chance_66 : decode cX8_chance 66 = .ok (.iaload, 1) := by decide +kernel
theorem dX8_chance_67 : decode cX8_chance 67 = .ok (.iconst 2, 1) := by decide +kernel
theorem dX8_chance_68 : decode cX8_chance 68 = .ok (.if_icmp .ne 7, 3) := by decide +kernel
theorem dX8_chance_71 : decode cX8_chance 71 = .ok (.iconst 1, 1) := by decide +kernel
theorem dX8_chance_72 : decode cX8_chance 72 = .ok (.goto 4, 3) := by decide +kernel
theorem dX8_chance_75 : decode cX8_chance 75 = .ok (.iconst 0, 1) := by decide +kernel
theorem dX8_chance_76 : decode cX8_chance 76 = .ok (.iadd, 1) := by decide +kernel
theorem dX8_chance_77 : decode cX8_chance 77 = .ok (.istore 5, 2) := by decide +kernel
theorem dX8_chance_79 : decode cX8_chance 79 = .ok (.iinc 6 1, 3) := by decide +kernel
theorem dX8_chance_82 : decode cX8_chance 82 = .ok (.goto (-46), 3) := by decide +kernel
theorem dX8_chance_85 : decode cX8_chance 85 = .ok (.aload_n 0, 1) := by decide +kernel
theorem dX8_chance_86 : decode cX8_chance 86 = .ok (.iconst 0, 1) := by decide +kernel
theorem dX8_chance_87 : decode cX8_chance 87 = .ok (.putfield 388, 3) := by decide +kernel
theorem dX8_chance_90 : decode cX8_chance 90 = .ok (.aload_n 0, 1) := by decide +kernel
theorem dX8_chance_91 : decode cX8_chance 91 = .ok (.lload_n 3, 1) := by decide +kernel
theorem dX8_chance_92 : decode cX8_chance 92 = .ok (.putfield 369, 3) := by decide +kernel
theorem dX8_chance_95 : decode cX8_chance 95 = .ok (.iload 5, 2) := by decide +kernel
theorem dX8_chance_97 : decode cX8_chance 97 = .ok (.ireturn, 1) := by decide +kernel
theorem dX8_tried_0 : decode cX8_tried 0 = .ok (.aload_n 0, 1) := by decide +kernel
theorem dX8_tried_1 : decode cX8_tried 1 = .ok (.iconst 0, 1) := by decide +kernel
theorem dX8_tried_2 : decode cX8_tried 2 = .ok (.putfield 172, 3) := by decide +kernel
theorem dX8_tried_5 : decode cX8_tried 5 = .ok (.iload_n 1, 1) := by decide +kernel
theorem dX8_tried_6 : decode cX8_tried 6 = .ok (.iconst 0, 1) := by decide +kernel
theorem dX8_tried_7 : decode cX8_tried 7 = .ok (.iconst 4, 1) := by decide +kernel
theorem dX8_tried_8 : decode cX8_tried 8 = .ok (.invokestatic 217, 3) := by decide +kernel
theorem dX8_tried_11 : decode cX8_tried 11 = .ok (.ifCond .eq 23, 3) := by decide +kernel
theorem dX8_tried_14 : decode cX8_tried 14 = .ok (.iload_n 1, 1) := by decide +kernel
theorem dX8_tried_15 : decode cX8_tried 15 = .ok (.iconst 2, 1) := by decide +kernel
theorem dX8_tried_16 : decode cX8_tried 16 = .ok (.if_icmp .ne 14, 3) := by decide +kernel
theorem dX8_tried_19 : decode cX8_tried 19 = .ok (.aload_n 0, 1) := by decide +kernel
theorem dX8_tried_20 : decode cX8_tried 20 = .ok (.iload_n 2, 1) := by decide +kernel
theorem dX8_tried_21 : decode cX8_tried 21 = .ok (.invokevirtual 491, 3) := by decide +kernel
theorem dX8_tried_24 : decode cX8_tried 24 = .ok (.ifCond .ne 12, 3) := by decide +kernel
theorem dX8_tried_27 : decode cX8_tried 27 = .ok (.goto 7, 3) := by decide +kernel
theorem dX8_tried_30 : decode cX8_tried 30 = .ok (.iload_n 2, 1) := by decide +kernel
theorem dX8_tried_31 : decode cX8_tried 31 = .ok (.ifCond .eq 5, 3) := by decide +kernel
theorem dX8_tried_34 : decode cX8_tried 34 = .ok (.iconst (-1), 1) := by decide +kernel
theorem dX8_tried_35 : decode cX8_tried 35 = .ok (.ireturn, 1) := by decide +kernel
theorem dX8_tried_36 : decode cX8_tried 36 = .ok (.aload_n 0, 1) := by decide +kernel
theorem dX8_tried_37 : decode cX8_tried 37 = .ok (.invokevirtual 511, 3) := by decide +kernel
theorem dX8_tried_40 : decode cX8_tried 40 = .ok (.aload_n 0, 1) := by decide +kernel
theorem dX8_tried_41 : decode cX8_tried 41 = .ok (.iload_n 1, 1) := by decide +kernel
theorem dX8_tried_42 : decode cX8_tried 42 = .ok (.ifCond .ne 7, 3) := by decide +kernel
theorem dX8_tried_45 : decode cX8_tried 45 = .ok (.iconst 1, 1) := by decide +kernel
theorem dX8_tried_46 : decode cX8_tried 46 = .ok (.goto 4, 3) := by decide +kernel
theorem dX8_tried_49 : decode cX8_tried 49 = .ok (.iconst 0, 1) := by decide +kernel
theorem dX8_tried_50 : decode cX8_tried 50 = .ok (.putfield 391, 3) := by decide +kernel
theorem dX8_tried_53 : decode cX8_tried 53 = .ok (.aload_n 0, 1) := by decide +kernel
theorem dX8_tried_54 : decode cX8_tried 54 = .ok (.iload_n 1, 1) := by decide +kernel
theorem dX8_tried_55 : decode cX8_tried 55 = .ok (.iconst 1, 1) := by decide +kernel
theorem dX8_tried_56 : decode cX8_tried 56 = .ok (.if_icmp .ne 7, 3) := by decide +kernel
theorem dX8_tried_59 : decode cX8_tried 59 = .ok (.iconst 1, 1) := by decide +kernel
theorem dX8_tried_60 : decode cX8_tried 60 = .ok (.goto 4, 3) := by decide +kernel
theorem dX8_tried_63 : decode cX8_tried 63 = .ok (.iconst 0, 1) := by decide +kernel
theorem dX8_tried_64 : decode cX8_tried 64 = .ok (.putfield 394, 3) := by decide +kernel
theorem dX8_tried_67 : decode cX8_tried 67 = .ok (.aload_n 0, 1) := by decide +kernel
theorem dX8_tried_68 : decode cX8_tried 68 = .ok (.iload_n 1, 1) := by decide +kernel
theorem dX8_tried_69 : decode cX8_tried 69 = .ok (.iconst 3, 1) := by decide +kernel
theorem dX8_tried_70 : decode cX8_tried 70 = .ok (.if_icmp .ne 7, 3) := by decide +kernel
theorem dX8_tried_73 : decode cX8_tried 73 = .ok (.iconst 1, 1) := by decide +kernel
theorem dX8_tried_74 : decode cX8_tried 74 = .ok (.goto 4, 3) := by decide +kernel
theorem dX8_tried_77 : decode cX8_tried 77 = .ok (.iconst 0, 1) := by decide +kernel
theorem dX8_tried_78 : decode cX8_tried 78 = .ok (.putfield 400, 3) := by decide +kernel
theorem dX8_tried_81 : decode cX8_tried 81 = .ok (.aload_n 0, 1) := by decide +kernel
theorem dX8_tried_82 : decode cX8_tried 82 = .ok (.iload_n 1, 1) := by decide +kernel
theorem dX8_tried_83 : decode cX8_tried 83 = .ok (.iconst 4, 1) := by decide +kernel
theorem dX8_tried_84 : decode cX8_tried 84 = .ok (.if_icmp .ne 7, 3) := by decide +kernel
theorem dX8_tried_87 : decode cX8_tried 87 = .ok (.iconst 1, 1) := by decide +kernel
theorem dX8_tried_88 : decode cX8_tried 88 = .ok (.goto 4, 3) := by decide +kernel
theorem dX8_tried_91 : decode cX8_tried 91 = .ok (.iconst 0, 1) := by decide +kernel
theorem dX8_tried_92 : decode cX8_tried 92 = .ok (.putfield 397, 3) := by decide +kernel
theorem dX8_tried_95 : decode cX8_tried 95 = .ok (.iload_n 1, 1) := by decide +kernel
theorem dX8_tried_96 : decode cX8_tried 96 = .ok (.iconst 2, 1) := by decide +kernel
theorem dX8_tried_97 : decode cX8_tried 97 = .ok (.if_icmp .ne 59, 3) := by decide +kernel
theorem dX8_tried_100 : decode cX8_tried 100 = .ok (.iconst 0, 1) := by decide +kernel
theorem dX8_tried_101 : decode cX8_tried 101 = .ok (.istore_n 3, 1) := by decide +kernel
theorem dX8_tried_102 : decode cX8_tried 102 = .ok (.iload_n 3, 1) := by decide +kernel
theorem dX8_tried_103 : decode cX8_tried 103 = .ok (.aload_n 0, 1) := by decide +kernel
theorem dX8_tried_104 : decode cX8_tried 104 = .ok (.getfield 258, 3) := by decide +kernel
theorem dX8_tried_107 : decode cX8_tried 107 = .ok (.if_icmp .ge 39, 3) := by decide +kernel
theorem dX8_tried_110 : decode cX8_tried 110 = .ok (.aload_n 0, 1) := by decide +kernel
theorem dX8_tried_111 : decode cX8_tried 111 = .ok (.getfield 45, 3) := by decide +kernel
theorem dX8_tried_114 : decode cX8_tried 114 = .ok (.iload_n 3, 1) := by decide +kernel
theorem dX8_tried_115 : decode cX8_tried 115 = .ok (.iaload, 1) := by decide +kernel
theorem dX8_tried_116 : decode cX8_tried 116 = .ok (.iload_n 2, 1) := by decide +kernel
theorem dX8_tried_117 : decode cX8_tried 117 = .ok (.if_icmp .ne 23, 3) := by decide +kernel
theorem dX8_tried_120 : decode cX8_tried 120 = .ok (.aload_n 0, 1) := by decide +kernel
theorem dX8_tried_121 : decode cX8_tried 121 = .ok (.getfield 94, 3) := by decide +kernel
theorem dX8_tried_124 : decode cX8_tried 124 = .ok (.bipush 10, 2) := by decide +kernel
theorem dX8_tried_126 : decode cX8_tried 126 = .ok (.iload_n 3, 1) := by decide +kernel
theorem dX8_tried_127 : decode cX8_tried 127 = .ok (.iadd, 1) := by decide +kernel
theorem dX8_tried_128 : decode cX8_tried 128 = .ok (.iaload, 1) := by decide +kernel
theorem dX8_tried_129 : decode cX8_tried 129 = .ok (.iconst 1, 1) := by decide +kernel
theorem dX8_tried_130 : decode cX8_tried 130 = .ok (.if_icmp .ne 10, 3) := by decide +kernel
theorem dX8_tried_133 : decode cX8_tried 133 = .ok (.aload_n 0, 1) := by decide +kernel
theorem dX8_tried_134 : decode cX8_tried 134 = .ok (.iconst 1, 1) := by decide +kernel
theorem dX8_tried_135 : decode cX8_tried 135 = .ok (.iload_n 3, 1) := by decide +kernel
theorem dX8_tried_136 : decode cX8_tried 136 = .ok (.iconst 2, 1) := by decide +kernel
theorem dX8_tried_137 : decode cX8_tried 137 = .ok (.invokevirtual 447, 3) := by decide +kernel
theorem dX8_tried_140 : decode cX8_tried 140 = .ok (.iinc 3 1, 3) := by decide +kernel
theorem dX8_tried_143 : decode cX8_tried 143 = .ok (.goto (-41), 3) := by decide +kernel
theorem dX8_tried_146 : decode cX8_tried 146 = .ok (.aload_n 0, 1) := by decide +kernel
theorem dX8_tried_147 : decode cX8_tried 147 = .ok (.getfield 112, 3) := by decide +kernel
theorem dX8_tried_150 : decode cX8_tried 150 = .ok (.bipush 6, 2) := by decide +kernel
theorem dX8_tried_152 : decode cX8_tried 152 = .ok (.iload_n 2, 1) := by decide +kernel
theorem dX8_tried_153 : decode cX8_tried 153 = .ok (.iadd, 1) := by decide +kernel
theorem dX8_tried_154 : decode cX8_tried 154 = .ok (.iconst 2, 1) := by decide +kernel
theorem dX8_tried_155 : decode cX8_tried 155 = .ok (.iastore, 1) := by decide +kernel
theorem dX8_tried_156 : decode cX8_tried 156 = .ok (.aload_n 0, 1) := by decide +kernel
theorem dX8_tried_157 : decode cX8_tried 157 = .ok (.invokevirtual 523, 3) := by decide +kernel
theorem dX8_tried_160 : decode cX8_tried 160 = .ok (.aload_n 0, 1) := by decide +kernel
theorem dX8_tried_161 : decode cX8_tried 161 = .ok (.invokevirtual 373, 3) := by decide +kernel
theorem dX8_tried_164 : decode cX8_tried 164 = .ok (.aload_n 0, 1) := by decide +kernel
theorem dX8_tried_165 : decode cX8_tried 165 = .ok (.invokevirtual 526, 3) := by decide +kernel
theorem dX8_tried_168 : decode cX8_tried 168 = .ok (.ireturn, 1) := by decide +kernel
theorem dX8_put_0 : decode cX8_put 0 = .ok (.iconst 0, 1) := by decide +kernel
theorem dX8_put_1 : decode cX8_put 1 = .ok (.istore_n 3, 1) := by decide +kernel
theorem dX8_put_2 : decode cX8_put 2 = .ok (.iload_n 3, 1) := by decide +kernel
theorem dX8_put_3 : decode cX8_put 3 = .ok (.bipush 50, 2) := by decide +kernel
theorem dX8_put_5 : decode cX8_put 5 = .ok (.if_icmp .ge 20, 3) := by decide +kernel
theorem dX8_put_8 : decode cX8_put 8 = .ok (.aload_n 1, 1) := by decide +kernel
theorem dX8_put_9 : decode cX8_put 9 = .ok (.iload_n 2, 1) := by decide +kernel
theorem dX8_put_10 : decode cX8_put 10 = .ok (.iload_n 3, 1) := by decide +kernel
theorem dX8_put_11 : decode cX8_put 11 = .ok (.iadd, 1) := by decide +kernel
theorem dX8_put_12 : decode cX8_put 12 = .ok (.aload_n 0, 1) := by decide +kernel
theorem dX8_put_13 : decode cX8_put 13 = .ok (.getfield 100, 3) := by decide +kernel
theorem dX8_put_16 : decode cX8_put 16 = .ok (.iload_n 3, 1) := by decide +kernel
theorem dX8_put_17 : decode cX8_put 17 = .ok (.iaload, 1) := by decide +kernel
theorem dX8_put_18 : decode cX8_put 18 = .ok (.iastore, 1) := by decide +kernel
theorem dX8_put_19 : decode cX8_put 19 = .ok (.iinc 3 1, 3) := by decide +kernel
theorem dX8_put_22 : decode cX8_put 22 = .ok (.goto (-20), 3) := by decide +kernel
theorem dX8_put_25 : decode cX8_put 25 = .ok (.iconst 0, 1) := by decide +kernel
theorem dX8_put_26 : decode cX8_put 26 = .ok (.istore_n 3, 1) := by decide +kernel
theorem dX8_put_27 : decode cX8_put 27 = .ok (.iload_n 3, 1) := by decide +kernel
theorem dX8_put_28 : decode cX8_put 28 = .ok (.iconst 5, 1) := by decide +kernel
theorem dX8_put_29 : decode cX8_put 29 = .ok (.if_icmp .ge 23, 3) := by decide +kernel
theorem dX8_put_32 : decode cX8_put 32 = .ok (.aload_n 1, 1) := by decide +kernel
theorem dX8_put_33 : decode cX8_put 33 = .ok (.iload_n 2, 1) := by decide +kernel
theorem dX8_put_34 : decode cX8_put 34 = .ok (.bipush 50, 2) := by decide +kernel
theorem dX8_put_36 : decode cX8_put 36 = .ok (.iadd, 1) := by decide +kernel
theorem dX8_put_37 : decode cX8_put 37 = .ok (.iload_n 3, 1) := by decide +kernel
theorem dX8_put_38 : decode cX8_put 38 = .ok (.iadd, 1) := by decide +kernel
theorem dX8_put_39 : decode cX8_put 39 = .ok (.aload_n 0, 1) := by decide +kernel
theorem dX8_put_40 : decode cX8_put 40 = .ok (.getfield 103, 3) := by decide +kernel
theorem dX8_put_43 : decode cX8_put 43 = .ok (.iload_n 3, 1) := by decide +kernel
theorem dX8_put_44 : decode cX8_put 44 = .ok (.iaload, 1) := by decide +kernel
theorem dX8_put_45 : decode cX8_put 45 = .ok (.iastore, 1) := by decide +kernel
theorem dX8_put_46 : decode cX8_put 46 = .ok (.iinc 3 1, 3) := by decide +kernel
theorem dX8_put_49 : decode cX8_put 49 = .ok (.goto (-22), 3) := by decide +kernel
theorem dX8_put_52 : decode cX8_put 52 = .ok (.iconst 0, 1) := by decide +kernel
theorem dX8_put_53 : decode cX8_put 53 = .ok (.istore_n 3, 1) := by decide +kernel
theorem dX8_put_54 : decode cX8_put 54 = .ok (.iload_n 3, 1) := by decide +kernel
theorem dX8_put_55 : decode cX8_put 55 = .ok (.bipush 6, 2) := by decide +kernel
theorem dX8_put_57 : decode cX8_put 57 = .ok (.if_icmp .ge 23, 3) := by decide +kernel
theorem dX8_put_60 : decode cX8_put 60 = .ok (.aload_n 1, 1) := by decide +kernel
theorem dX8_put_61 : decode cX8_put 61 = .ok (.iload_n 2, 1) := by decide +kernel
theorem dX8_put_62 : decode cX8_put 62 = .ok (.bipush 55, 2) := by decide +kernel
theorem dX8_put_64 : decode cX8_put 64 = .ok (.iadd, 1) := by decide +kernel
theorem dX8_put_65 : decode cX8_put 65 = .ok (.iload_n 3, 1) := by decide +kernel
theorem dX8_put_66 : decode cX8_put 66 = .ok (.iadd, 1) := by decide +kernel
theorem dX8_put_67 : decode cX8_put 67 = .ok (.aload_n 0, 1) := by decide +kernel
theorem dX8_put_68 : decode cX8_put 68 = .ok (.getfield 109, 3) := by decide +kernel
theorem dX8_put_71 : decode cX8_put 71 = .ok (.iload_n 3, 1) := by decide +kernel
theorem dX8_put_72 : decode cX8_put 72 = .ok (.iaload, 1) := by decide +kernel
theorem dX8_put_73 : decode cX8_put 73 = .ok (.iastore, 1) := by decide +kernel
theorem dX8_put_74 : decode cX8_put 74 = .ok (.iinc 3 1, 3) := by decide +kernel
theorem dX8_put_77 : decode cX8_put 77 = .ok (.goto (-23), 3) := by decide +kernel
theorem dX8_put_80 : decode cX8_put 80 = .ok (.return_, 1) := by decide +kernel
theorem dX8_take_0 : decode cX8_take 0 = .ok (.iconst 0, 1) := by decide +kernel
theorem dX8_take_1 : decode cX8_take 1 = .ok (.istore_n 3, 1) := by decide +kernel
theorem dX8_take_2 : decode cX8_take 2 = .ok (.iload_n 3, 1) := by decide +kernel
theorem dX8_take_3 : decode cX8_take 3 = .ok (.bipush 50, 2) := by decide +kernel
theorem dX8_take_5 : decode cX8_take 5 = .ok (.if_icmp .ge 20, 3) := by decide +kernel
theorem dX8_take_8 : decode cX8_take 8 = .ok (.aload_n 0, 1) := by decide +kernel
theorem dX8_take_9 : decode cX8_take 9 = .ok (.getfield 100, 3) := by decide +kernel
theorem dX8_take_12 : decode cX8_take 12 = .ok (.iload_n 3, 1) := by decide +kernel
theorem dX8_take_13 : decode cX8_take 13 = .ok (.aload_n 1, 1) := by decide +kernel
theorem dX8_take_14 : decode cX8_take 14 = .ok (.iload_n 2, 1) := by decide +kernel
theorem dX8_take_15 : decode cX8_take 15 = .ok (.iload_n 3, 1) := by decide +kernel
theorem dX8_take_16 : decode cX8_take 16 = .ok (.iadd, 1) := by decide +kernel
theorem dX8_take_17 : decode cX8_take 17 = .ok (.iaload, 1) := by decide +kernel
theorem dX8_take_18 : decode cX8_take 18 = .ok (.iastore, 1) := by decide +kernel
theorem dX8_take_19 : decode cX8_take 19 = .ok (.iinc 3 1, 3) := by decide +kernel
theorem dX8_take_22 : decode cX8_take 22 = .ok (.goto (-20), 3) := by decide +kernel
theorem dX8_take_25 : decode cX8_take 25 = .ok (.iconst 0, 1) := by decide +kernel
theorem dX8_take_26 : decode cX8_take 26 = .ok (.istore_n 3, 1) := by decide +kernel
theorem dX8_take_27 : decode cX8_take 27 = .ok (.iload_n 3, 1) := by decide +kernel
theorem dX8_take_28 : decode cX8_take 28 = .ok (.iconst 5, 1) := by decide +kernel
theorem dX8_take_29 : decode cX8_take 29 = .ok (.if_icmp .ge 23, 3) := by decide +kernel
theorem dX8_take_32 : decode cX8_take 32 = .ok (.aload_n 0, 1) := by decide +kernel
theorem dX8_take_33 : decode cX8_take 33 = .ok (.getfield 103, 3) := by decide +kernel
theorem dX8_take_36 : decode cX8_take 36 = .ok (.iload_n 3, 1) := by decide +kernel
theorem dX8_take_37 : decode cX8_take 37 = .ok (.aload_n 1, 1) := by decide +kernel
theorem dX8_take_38 : decode cX8_take 38 = .ok (.iload_n 2, 1) := by decide +kernel
theorem dX8_take_39 : decode cX8_take 39 = .ok (.bipush 50, 2) := by decide +kernel
theorem dX8_take_41 : decode cX8_take 41 = .ok (.iadd, 1) := by decide +kernel
theorem dX8_take_42 : decode cX8_take 42 = .ok (.iload_n 3, 1) := by decide +kernel
theorem dX8_take_43 : decode cX8_take 43 = .ok (.iadd, 1) := by decide +kernel
theorem dX8_take_44 : decode cX8_take 44 = .ok (.iaload, 1) := by decide +kernel
theorem dX8_take_45 : decode cX8_take 45 = .ok (.iastore, 1) := by decide +kernel
theorem dX8_take_46 : decode cX8_take 46 = .ok (.iinc 3 1, 3) := by decide +kernel
theorem dX8_take_49 : decode cX8_take 49 = .ok (.goto (-22), 3) := by decide +kernel
theorem dX8_take_52 : decode cX8_take 52 = .ok (.iconst 0, 1) := by decide +kernel
theorem dX8_take_53 : decode cX8_take 53 = .ok (.istore_n 3, 1) := by decide +kernel
theorem dX8_take_54 : decode cX8_take 54 = .ok (.iload_n 3, 1) := by decide +kernel
theorem dX8_take_55 : decode cX8_take 55 = .ok (.bipush 6, 2) := by decide +kernel
theorem dX8_take_57 : decode cX8_take 57 = .ok (.if_icmp .ge 23, 3) := by decide +kernel
theorem dX8_take_60 : decode cX8_take 60 = .ok (.aload_n 0, 1) := by decide +kernel
theorem dX8_take_61 : decode cX8_take 61 = .ok (.getfield 109, 3) := by decide +kernel
theorem dX8_take_64 : decode cX8_take 64 = .ok (.iload_n 3, 1) := by decide +kernel
theorem dX8_take_65 : decode cX8_take 65 = .ok (.aload_n 1, 1) := by decide +kernel
theorem dX8_take_66 : decode cX8_take 66 = .ok (.iload_n 2, 1) := by decide +kernel
theorem dX8_take_67 : decode cX8_take 67 = .ok (.bipush 55, 2) := by decide +kernel
theorem dX8_take_69 : decode cX8_take 69 = .ok (.iadd, 1) := by decide +kernel
theorem dX8_take_70 : decode cX8_take 70 = .ok (.iload_n 3, 1) := by decide +kernel
theorem dX8_take_71 : decode cX8_take 71 = .ok (.iadd, 1) := by decide +kernel
theorem dX8_take_72 : decode cX8_take 72 = .ok (.iaload, 1) := by decide +kernel
theorem dX8_take_73 : decode cX8_take 73 = .ok (.iastore, 1) := by decide +kernel
theorem dX8_take_74 : decode cX8_take 74 = .ok (.iinc 3 1, 3) := by decide +kernel
theorem dX8_take_77 : decode cX8_take 77 = .ok (.goto (-23), 3) := by decide +kernel
theorem dX8_take_80 : decode cX8_take 80 = .ok (.iconst 0, 1) := by decide +kernel
theorem dX8_take_81 : decode cX8_take 81 = .ok (.istore_n 3, 1) := by decide +kernel
theorem dX8_take_82 : decode cX8_take 82 = .ok (.iload_n 3, 1) := by decide +kernel
theorem dX8_take_83 : decode cX8_take 83 = .ok (.bipush 10, 2) := by decide +kernel
theorem dX8_take_85 : decode cX8_take 85 = .ok (.if_icmp .ge 16, 3) := by decide +kernel
theorem dX8_take_88 : decode cX8_take 88 = .ok (.aload_n 0, 1) := by decide +kernel
theorem dX8_take_89 : decode cX8_take 89 = .ok (.getfield 97, 3) := by decide +kernel
theorem dX8_take_92 : decode cX8_take 92 = .ok (.iload_n 3, 1) := by decide +kernel
theorem dX8_take_93 : decode cX8_take 93 = .ok (.iconst (-1), 1) := by decide +kernel
theorem dX8_take_94 : decode cX8_take 94 = .ok (.iastore, 1) := by decide +kernel
theorem dX8_take_95 : decode cX8_take 95 = .ok (.iinc 3 1, 3) := by decide +kernel
theorem dX8_take_98 : decode cX8_take 98 = .ok (.goto (-16), 3) := by decide +kernel
theorem dX8_take_101 : decode cX8_take 101 = .ok (.iconst 0, 1) := by decide +kernel
theorem dX8_take_102 : decode cX8_take 102 = .ok (.istore_n 3, 1) := by decide +kernel
theorem dX8_take_103 : decode cX8_take 103 = .ok (.iload_n 3, 1) := by decide +kernel
theorem dX8_take_104 : decode cX8_take 104 = .ok (.bipush 50, 2) := by decide +kernel
theorem dX8_take_106 : decode cX8_take 106 = .ok (.if_icmp .ge 40, 3) := by decide +kernel
theorem dX8_take_109 : decode cX8_take 109 = .ok (.iload_n 3, 1) := by decide +kernel
theorem dX8_take_110 : decode cX8_take 110 = .ok (.bipush 10, 2) := by decide +kernel
theorem dX8_take_112 : decode cX8_take 112 = .ok (.irem, 1) := by decide +kernel
theorem dX8_take_113 : decode cX8_take 113 = .ok (.aload_n 0, 1) := by decide +kernel
theorem dX8_take_114 : decode cX8_take 114 = .ok (.getfield 103, 3) := by decide +kernel
theorem dX8_take_117 : decode cX8_take 117 = .ok (.iload_n 3, 1) := by decide +kernel
theorem dX8_take_118 : decode cX8_take 118 = .ok (.bipush 10, 2) := by decide +kernel
theorem dX8_take_120 : decode cX8_take 120 = .ok (.idiv, 1) := by decide +kernel
theorem dX8_take_121 : decode cX8_take 121 = .ok (.iaload, 1) := by decide +kernel
theorem dX8_take_122 : decode cX8_take 122 = .ok (.if_icmp .ge 18, 3) := by decide +kernel
theorem dX8_take_125 : decode cX8_take 125 = .ok (.aload_n 0, 1) := by decide +kernel
theorem dX8_take_126 : decode cX8_take 126 = .ok (.getfield 97, 3) := by decide +kernel
theorem dX8_take_129 : decode cX8_take 129 = .ok (.aload_n 0, 1) := by decide +kernel
theorem dX8_take_130 : decode cX8_take 130 = .ok (.getfield 100, 3) := by decide +kernel
theorem dX8_take_133 : decode cX8_take 133 = .ok (.iload_n 3, 1) := by decide +kernel
theorem dX8_take_134 : decode cX8_take 134 = .ok (.iaload, 1) := by decide +kernel
theorem dX8_take_135 : decode cX8_take 135 = .ok (.iload_n 3, 1) := by decide +kernel
theorem dX8_take_136 : decode cX8_take 136 = .ok (.bipush 10, 2) := by decide +kernel
theorem dX8_take_138 : decode cX8_take 138 = .ok (.idiv, 1) := by decide +kernel
theorem dX8_take_139 : decode cX8_take 139 = .ok (.iastore, 1) := by decide +kernel
theorem dX8_take_140 : decode cX8_take 140 = .ok (.iinc 3 1, 3) := by decide +kernel
theorem dX8_take_143 : decode cX8_take 143 = .ok (.goto (-40), 3) := by decide +kernel
theorem dX8_take_146 : decode cX8_take 146 = .ok (.return_, 1) := by decide +kernel
theorem dX8_remember_0 : decode cX8_remember 0 = .ok (.aload_n 0, 1) := by decide +kernel
theorem dX8_remember_1 : decode cX8_remember 1 = .ok (.getfield 379, 3) := by decide +kernel
theorem dX8_remember_4 : decode cX8_remember 4 = .ok (.bipush 20, 2) := by decide +kernel
theorem dX8_remember_6 : decode cX8_remember 6 = .ok (.if_icmp .ne 43, 3) := by decide +kernel
theorem dX8_remember_9 : decode cX8_remember 9 = .ok (.iconst 0, 1) := by decide +kernel
theorem dX8_remember_10 : decode cX8_remember 10 = .ok (.istore_n 1, 1) := by decide +kernel
theorem dX8_remember_11 : decode cX8_remember 11 = .ok (.iload_n 1, 1) := by decide +kernel
theorem dX8_remember_12 : decode cX8_remember 12 = .ok (.sipush 1159, 3) := by decide +kernel
theorem dX8_remember_15 : decode cX8_remember 15 = .ok (.if_icmp .ge 24, 3) := by decide +kernel
theorem dX8_remember_18 : decode cX8_remember 18 = .ok (.aload_n 0, 1) := by decide +kernel
theorem dX8_remember_19 : decode cX8_remember 19 = .ok (.getfield 154, 3) := by decide +kernel
theorem dX8_remember_22 : decode cX8_remember 22 = .ok (.iload_n 1, 1) := by decide +kernel
theorem dX8_remember_23 : decode cX8_remember 23 = .ok (.aload_n 0, 1) := by decide +kernel
theorem dX8_remember_24 : decode cX8_remember 24 = .ok (.getfield 154, 3) := by decide +kernel
theorem dX8_remember_27 : decode cX8_remember 27 = .ok (.iload_n 1, 1) := by decide +kernel
theorem dX8_remember_28 : decode cX8_remember 28 = .ok (.bipush 61, 2) := by decide +kernel
theorem dX8_remember_30 : decode cX8_remember 30 = .ok (.iadd, 1) := by decide +kernel
theorem dX8_remember_31 : decode cX8_remember 31 = .ok (.iaload, 1) := by decide +kernel
theorem dX8_remember_32 : decode cX8_remember 32 = .ok (.iastore, 1) := by decide +kernel
theorem dX8_remember_33 : decode cX8_remember 33 = .ok (.iinc 1 1, 3) := by decide +kernel
theorem dX8_remember_36 : decode cX8_remember 36 = .ok (.goto (-25), 3) := by decide +kernel
theorem dX8_remember_39 : decode cX8_remember 39 = .ok (.aload_n 0, 1) := by decide +kernel
theorem dX8_remember_40 : decode cX8_remember 40 = .ok (.dup, 1) := by decide +kernel
theorem dX8_remember_41 : decode cX8_remember 41 = .ok (.getfield 379, 3) := by decide +kernel
theorem dX8_remember_44 : decode cX8_remember 44 = .ok (.iconst 1, 1) := by decide +kernel
theorem dX8_remember_45 : decode cX8_remember 45 = .ok (.isub, 1) := by decide +kernel
theorem dX8_remember_46 : decode cX8_remember 46 = .ok (.putfield 379, 3) := by decide +kernel
theorem dX8_remember_49 : decode cX8_remember 49 = .ok (.aload_n 0, 1) := by decide +kernel
theorem dX8_remember_50 : decode cX8_remember 50 = .ok (.aload_n 0, 1) := by decide +kernel
theorem dX8_remember_51 : decode cX8_remember 51 = .ok (.getfield 154, 3) := by decide +kernel
theorem dX8_remember_54 : decode cX8_remember 54 = .ok (.bipush 61, 2) := by decide +kernel
theorem dX8_remember_56 : decode cX8_remember 56 = .ok (.aload_n 0, 1) := by decide +kernel
theorem dX8_remember_57 : decode cX8_remember 57 = .ok (.getfield 379, 3) := by decide +kernel
theorem dX8_remember_60 : decode cX8_remember 60 = .ok (.imul, 1) := by decide +kernel
theorem dX8_remember_61 : decode cX8_remember 61 = .ok (.invokevirtual 555, 3) := by decide +kernel
theorem dX8_remember_64 : decode cX8_remember 64 = .ok (.aload_n 0, 1) := by decide +kernel
theorem dX8_remember_65 : decode cX8_remember 65 = .ok (.dup, 1) := by decide +kernel
theorem dX8_remember_66 : decode cX8_remember 66 = .ok (.getfield 379, 3) := by decide +kernel
theorem dX8_remember_69 : decode cX8_remember 69 = .ok (.iconst 1, 1) := by decide +kernel
theorem dX8_remember_70 : decode cX8_remember 70 = .ok (.iadd, 1) := by decide +kernel
theorem dX8_remember_71 : decode cX8_remember 71 = .ok (.putfield 379, 3) := by decide +kernel
theorem dX8_remember_74 : decode cX8_remember 74 = .ok (.return_, 1) := by decide +kernel
theorem dX8_undo_0 : decode cX8_undo 0 = .ok (.aload_n 0, 1) := by decide +kernel
theorem dX8_undo_1 : decode cX8_undo 1 = .ok (.iconst 0, 1) := by decide +kernel
theorem dX8_undo_2 : decode cX8_undo 2 = .ok (.putfield 172, 3) := by decide +kernel
theorem dX8_undo_5 : decode cX8_undo 5 = .ok (.aload_n 0, 1) := by decide +kernel
theorem dX8_undo_6 : decode cX8_undo 6 = .ok (.getfield 379, 3) := by decide +kernel
theorem dX8_undo_9 : decode cX8_undo 9 = .ok (.ifCond .ne 5, 3) := by decide +kernel
theorem dX8_undo_12 : decode cX8_undo 12 = .ok (.iconst (-1), 1) := by decide +kernel
theorem dX8_undo_13 : decode cX8_undo 13 = .ok (.ireturn, 1) := by decide +kernel
theorem dX8_undo_14 : decode cX8_undo 14 = .ok (.aload_n 0, 1) := by decide +kernel
theorem dX8_undo_15 : decode cX8_undo 15 = .ok (.dup, 1) := by decide +kernel
theorem dX8_undo_16 : decode cX8_undo 16 = .ok (.getfield 379, 3) := by decide +kernel
theorem dX8_undo_19 : decode cX8_undo 19 = .ok (.iconst 1, 1) := by decide +kernel
theorem dX8_undo_20 : decode cX8_undo 20 = .ok (.isub, 1) := by decide +kernel
theorem dX8_undo_21 : decode cX8_undo 21 = .ok (.putfield 379, 3) := by decide +kernel
theorem dX8_undo_24 : decode cX8_undo 24 = .ok (.aload_n 0, 1) := by decide +kernel
theorem dX8_undo_25 : decode cX8_undo 25 = .ok (.aload_n 0, 1) := by decide +kernel
theorem dX8_undo_26 : decode cX8_undo 26 = .ok (.getfield 154, 3) := by decide +kernel
theorem dX8_undo_29 : decode cX8_undo 29 = .ok (.bipush 61, 2) := by decide +kernel
theorem dX8_undo_31 : decode cX8_undo 31 = .ok (.aload_n 0, 1) := by decide +kernel
theorem dX8_undo_32 : decode cX8_undo 32 = .ok (.getfield 379, 3) := by decide +kernel
theorem dX8_undo_35 : decode cX8_undo 35 = .ok (.imul, 1) := by decide +kernel
theorem dX8_undo_36 : decode cX8_undo 36 = .ok (.invokevirtual 558, 3) := by decide +kernel
theorem dX8_undo_39 : decode cX8_undo 39 = .ok (.aload_n 0, 1) := by decide +kernel
theorem dX8_undo_40 : decode cX8_undo 40 = .ok (.getfield 379, 3) := by decide +kernel
theorem dX8_undo_43 : decode cX8_undo 43 = .ok (.ireturn, 1) := by decide +kernel
theorem dX8_keep_0 : decode cX8_keep 0 = .ok (.aload_n 0, 1) := by decide +kernel
theorem dX8_keep_1 : decode cX8_keep 1 = .ok (.iconst 0, 1) := by decide +kernel
theorem dX8_keep_2 : decode cX8_keep 2 = .ok (.putfield 172, 3) := by decide +kernel
theorem dX8_keep_5 : decode cX8_keep 5 = .ok (.aload_n 0, 1) := by decide +kernel
theorem dX8_keep_6 : decode cX8_keep 6 = .ok (.iconst 1, 1) := by decide +kernel
theorem dX8_keep_7 : decode cX8_keep 7 = .ok (.putfield 382, 3) := by decide +kernel
theorem dX8_keep_10 : decode cX8_keep 10 = .ok (.aload_n 0, 1) := by decide +kernel
theorem dX8_keep_11 : decode cX8_keep 11 = .ok (.aload_n 0, 1) := by decide +kernel
theorem dX8_keep_12 : decode cX8_keep 12 = .ok (.getfield 157, 3) := by decide +kernel
theorem dX8_keep_15 : decode cX8_keep 15 = .ok (.iconst 0, 1) := by decide +kernel
theorem dX8_keep_16 : decode cX8_keep 16 = .ok (.invokevirtual 555, 3) := by decide +kernel
theorem dX8_keep_19 : decode cX8_keep 19 = .ok (.iconst 0, 1) := by decide +kernel
theorem dX8_keep_20 : decode cX8_keep 20 = .ok (.istore_n 1, 1) := by decide +kernel
theorem dX8_keep_21 : decode cX8_keep 21 = .ok (.iload_n 1, 1) := by decide +kernel
theorem dX8_keep_22 : decode cX8_keep 22 = .ok (.bipush 10, 2) := by decide +kernel
theorem dX8_keep_24 : decode cX8_keep 24 = .ok (.if_icmp .ge 21, 3) := by decide +kernel
theorem dX8_keep_27 : decode cX8_keep 27 = .ok (.aload_n 0, 1) := by decide +kernel
theorem dX8_keep_28 : decode cX8_keep 28 = .ok (.getfield 160, 3) := by decide +kernel
theorem dX8_keep_31 : decode cX8_keep 31 = .ok (.iload_n 1, 1) := by decide +kernel
theorem dX8_keep_32 : decode cX8_keep 32 = .ok (.aload_n 0, 1) := by decide +kernel
theorem dX8_keep_33 : decode cX8_keep 33 = .ok (.getfield 94, 3) := by decide +kernel
theorem dX8_keep_36 : decode cX8_keep 36 = .ok (.iload_n 1, 1) := by decide +kernel
theorem dX8_keep_37 : decode cX8_keep 37 = .ok (.iaload, 1) := by decide +kernel
theorem dX8_keep_38 : decode cX8_keep 38 = .ok (.iastore, 1) := by decide +kernel
theorem dX8_keep_39 : decode cX8_keep 39 = .ok (.iinc 1 1, 3) := by decide +kernel
theorem dX8_keep_42 : decode cX8_keep 42 = .ok (.goto (-21), 3) := by decide +kernel
theorem dX8_keep_45 : decode cX8_keep 45 = .ok (.iconst 0, 1) := by decide +kernel
theorem dX8_keep_46 : decode cX8_keep 46 = .ok (.istore_n 1, 1) := by decide +kernel
theorem dX8_keep_47 : decode cX8_keep 47 = .ok (.iload_n 1, 1) := by decide +kernel
theorem dX8_keep_48 : decode cX8_keep 48 = .ok (.bipush 6, 2) := by decide +kernel
theorem dX8_keep_50 : decode cX8_keep 50 = .ok (.if_icmp .ge 36, 3) := by decide +kernel
theorem dX8_keep_53 : decode cX8_keep 53 = .ok (.aload_n 0, 1) := by decide +kernel
theorem dX8_keep_54 : decode cX8_keep 54 = .ok (.getfield 163, 3) := by decide +kernel
theorem dX8_keep_57 : decode cX8_keep 57 = .ok (.iload_n 1, 1) := by decide +kernel
theorem dX8_keep_58 : decode cX8_keep 58 = .ok (.aload_n 0, 1) := by decide +kernel
theorem dX8_keep_59 : decode cX8_keep 59 = .ok (.getfield 112, 3) := by decide +kernel
theorem dX8_keep_62 : decode cX8_keep 62 = .ok (.iload_n 1, 1) := by decide +kernel
theorem dX8_keep_63 : decode cX8_keep 63 = .ok (.iaload, 1) := by decide +kernel
theorem dX8_keep_64 : decode cX8_keep 64 = .ok (.iastore, 1) := by decide +kernel
theorem dX8_keep_65 : decode cX8_keep 65 = .ok (.aload_n 0, 1) := by decide +kernel
theorem dX8_keep_66 : decode cX8_keep 66 = .ok (.getfield 163, 3) := by decide +kernel
theorem dX8_keep_69 : decode cX8_keep 69 = .ok (.bipush 6, 2) := by decide +kernel
theorem dX8_keep_71 : decode cX8_keep 71 = .ok (.iload_n 1, 1) := by decide +kernel
theorem dX8_keep_72 : decode cX8_keep 72 = .ok (.iadd, 1) := by decide +kernel
theorem dX8_keep_73 : decode cX8_keep 73 = .ok (.aload_n 0, 1) := by decide +kernel
theorem dX8_keep_74 : decode cX8_keep 74 = .ok (.getfield 115, 3) := by decide +kernel
theorem dX8_keep_77 : decode cX8_keep 77 = .ok (.iload_n 1, 1) := by decide +kernel
theorem dX8_keep_78 : decode cX8_keep 78 = .ok (.iaload, 1) := by decide +kernel
theorem dX8_keep_79 : decode cX8_keep 79 = .ok (.iastore, 1) := by decide +kernel
theorem dX8_keep_80 : decode cX8_keep 80 = .ok (.iinc 1 1, 3) := by decide +kernel
theorem dX8_keep_83 : decode cX8_keep 83 = .ok (.goto (-36), 3) := by decide +kernel
theorem dX8_keep_86 : decode cX8_keep 86 = .ok (.aload_n 0, 1) := by decide +kernel
theorem dX8_keep_87 : decode cX8_keep 87 = .ok (.aload_n 0, 1) := by decide +kernel
theorem dX8_keep_88 : decode cX8_keep 88 = .ok (.getfield 118, 3) := by decide +kernel
theorem dX8_keep_91 : decode cX8_keep 91 = .ok (.iconst 0, 1) := by decide +kernel
theorem dX8_keep_92 : decode cX8_keep 92 = .ok (.iaload, 1) := by decide +kernel
theorem dX8_keep_93 : decode cX8_keep 93 = .ok (.putfield 561, 3) := by decide +kernel
theorem dX8_keep_96 : decode cX8_keep 96 = .ok (.aload_n 0, 1) := by decide +kernel
theorem dX8_keep_97 : decode cX8_keep 97 = .ok (.aload_n 0, 1) := by decide +kernel
theorem dX8_keep_98 : decode cX8_keep 98 = .ok (.getfield 121, 3) := by decide +kernel
theorem dX8_keep_101 : decode cX8_keep 101 = .ok (.iconst 0, 1) := by decide +kernel
theorem dX8_keep_102 : decode cX8_keep 102 = .ok (.iaload, 1) := by decide +kernel
theorem dX8_keep_103 : decode cX8_keep 103 = .ok (.putfield 564, 3) := by decide +kernel
theorem dX8_keep_106 : decode cX8_keep 106 = .ok (.aload_n 0, 1) := by decide +kernel
theorem dX8_keep_107 : decode cX8_keep 107 = .ok (.aload_n 0, 1) := by decide +kernel
theorem dX8_keep_108 : decode cX8_keep 108 = .ok (.getfield 369, 3) := by decide +kernel
theorem dX8_keep_111 : decode cX8_keep 111 = .ok (.putfield 567, 3) := by decide +kernel
theorem dX8_keep_114 : decode cX8_keep 114 = .ok (.aload_n 0, 1) := by decide +kernel
theorem dX8_keep_115 : decode cX8_keep 115 = .ok (.getfield 121, 3) := by decide +kernel
theorem dX8_keep_118 : decode cX8_keep 118 = .ok (.iconst 0, 1) := by decide +kernel
theorem dX8_keep_119 : decode cX8_keep 119 = .ok (.iaload, 1) := by decide +kernel
theorem dX8_keep_120 : decode cX8_keep 120 = .ok (.ireturn, 1) := by decide +kernel
theorem dX8_back_0 : decode cX8_back 0 = .ok (.aload_n 0, 1) := by decide +kernel
theorem dX8_back_1 : decode cX8_back 1 = .ok (.iconst 0, 1) := by decide +kernel
theorem dX8_back_2 : decode cX8_back 2 = .ok (.putfield 172, 3) := by decide +kernel
theorem dX8_back_5 : decode cX8_back 5 = .ok (.aload_n 0, 1) := by decide +kernel
theorem dX8_back_6 : decode cX8_back 6 = .ok (.getfield 382, 3) := by decide +kernel
theorem dX8_back_9 : decode cX8_back 9 = .ok (.ifCond .ne 5, 3) := by decide +kernel
theorem dX8_back_12 : decode cX8_back 12 = .ok (.iconst (-1), 1) := by decide +kernel
theorem dX8_back_13 : decode cX8_back 13 = .ok (.ireturn, 1) := by decide +kernel
theorem dX8_back_14 : decode cX8_back 14 = .ok (.aload_n 0, 1) := by decide +kernel
theorem dX8_back_15 : decode cX8_back 15 = .ok (.aload_n 0, 1) := by decide +kernel
theorem dX8_back_16 : decode cX8_back 16 = .ok (.getfield 157, 3) := by decide +kernel
theorem dX8_back_19 : decode cX8_back 19 = .ok (.iconst 0, 1) := by decide +kernel
theorem dX8_back_20 : decode cX8_back 20 = .ok (.invokevirtual 558, 3) := by decide +kernel
theorem dX8_back_23 : decode cX8_back 23 = .ok (.iconst 0, 1) := by decide +kernel
theorem dX8_back_24 : decode cX8_back 24 = .ok (.istore_n 1, 1) := by decide +kernel
theorem dX8_back_25 : decode cX8_back 25 = .ok (.iload_n 1, 1) := by decide +kernel
theorem dX8_back_26 : decode cX8_back 26 = .ok (.bipush 10, 2) := by decide +kernel
theorem dX8_back_28 : decode cX8_back 28 = .ok (.if_icmp .ge 21, 3) := by decide +kernel
theorem dX8_back_31 : decode cX8_back 31 = .ok (.aload_n 0, 1) := by decide +kernel
theorem dX8_back_32 : decode cX8_back 32 = .ok (.getfield 94, 3) := by decide +kernel
theorem dX8_back_35 : decode cX8_back 35 = .ok (.iload_n 1, 1) := by decide +kernel
theorem dX8_back_36 : decode cX8_back 36 = .ok (.aload_n 0, 1) := by decide +kernel
theorem dX8_back_37 : decode cX8_back 37 = .ok (.getfield 160, 3) := by decide +kernel
theorem dX8_back_40 : decode cX8_back 40 = .ok (.iload_n 1, 1) := by decide +kernel
theorem dX8_back_41 : decode cX8_back 41 = .ok (.iaload, 1) := by decide +kernel
theorem dX8_back_42 : decode cX8_back 42 = .ok (.iastore, 1) := by decide +kernel
theorem dX8_back_43 : decode cX8_back 43 = .ok (.iinc 1 1, 3) := by decide +kernel
theorem dX8_back_46 : decode cX8_back 46 = .ok (.goto (-21), 3) := by decide +kernel
theorem dX8_back_49 : decode cX8_back 49 = .ok (.iconst 0, 1) := by decide +kernel
theorem dX8_back_50 : decode cX8_back 50 = .ok (.istore_n 1, 1) := by decide +kernel
theorem dX8_back_51 : decode cX8_back 51 = .ok (.iload_n 1, 1) := by decide +kernel
theorem dX8_back_52 : decode cX8_back 52 = .ok (.bipush 6, 2) := by decide +kernel
theorem dX8_back_54 : decode cX8_back 54 = .ok (.if_icmp .ge 36, 3) := by decide +kernel
theorem dX8_back_57 : decode cX8_back 57 = .ok (.aload_n 0, 1) := by decide +kernel
theorem dX8_back_58 : decode cX8_back 58 = .ok (.getfield 112, 3) := by decide +kernel
theorem dX8_back_61 : decode cX8_back 61 = .ok (.iload_n 1, 1) := by decide +kernel
theorem dX8_back_62 : decode cX8_back 62 = .ok (.aload_n 0, 1) := by decide +kernel
theorem dX8_back_63 : decode cX8_back 63 = .ok (.getfield 163, 3) := by decide +kernel
theorem dX8_back_66 : decode cX8_back 66 = .ok (.iload_n 1, 1) := by decide +kernel
theorem dX8_back_67 : decode cX8_back 67 = .ok (.iaload, 1) := by decide +kernel
theorem dX8_back_68 : decode cX8_back 68 = .ok (.iastore, 1) := by decide +kernel
theorem dX8_back_69 : decode cX8_back 69 = .ok (.aload_n 0, 1) := by decide +kernel
theorem dX8_back_70 : decode cX8_back 70 = .ok (.getfield 115, 3) := by decide +kernel
theorem dX8_back_73 : decode cX8_back 73 = .ok (.iload_n 1, 1) := by decide +kernel
theorem dX8_back_74 : decode cX8_back 74 = .ok (.aload_n 0, 1) := by decide +kernel
theorem dX8_back_75 : decode cX8_back 75 = .ok (.getfield 163, 3) := by decide +kernel
theorem dX8_back_78 : decode cX8_back 78 = .ok (.bipush 6, 2) := by decide +kernel
theorem dX8_back_80 : decode cX8_back 80 = .ok (.iload_n 1, 1) := by decide +kernel
theorem dX8_back_81 : decode cX8_back 81 = .ok (.iadd, 1) := by decide +kernel
theorem dX8_back_82 : decode cX8_back 82 = .ok (.iaload, 1) := by decide +kernel
theorem dX8_back_83 : decode cX8_back 83 = .ok (.iastore, 1) := by decide +kernel
theorem dX8_back_84 : decode cX8_back 84 = .ok (.iinc 1 1, 3) := by decide +kernel
theorem dX8_back_87 : decode cX8_back 87 = .ok (.goto (-36), 3) := by decide +kernel
theorem dX8_back_90 : decode cX8_back 90 = .ok (.aload_n 0, 1) := by decide +kernel
theorem dX8_back_91 : decode cX8_back 91 = .ok (.getfield 118, 3) := by decide +kernel
theorem dX8_back_94 : decode cX8_back 94 = .ok (.iconst 0, 1) := by decide +kernel
theorem dX8_back_95 : decode cX8_back 95 = .ok (.aload_n 0, 1) := by decide +kernel
theorem dX8_back_96 : decode cX8_back 96 = .ok (.getfield 561, 3) := by decide +kernel
theorem dX8_back_99 : decode cX8_back 99 = .ok (.iastore, 1) := by decide +kernel
theorem dX8_back_100 : decode cX8_back 100 = .ok (.aload_n 0, 1) := by decide +kernel
theorem dX8_back_101 : decode cX8_back 101 = .ok (.getfield 121, 3) := by decide +kernel
theorem dX8_back_104 : decode cX8_back 104 = .ok (.iconst 0, 1) := by decide +kernel
theorem dX8_back_105 : decode cX8_back 105 = .ok (.aload_n 0, 1) := by decide +kernel
theorem dX8_back_106 : decode cX8_back 106 = .ok (.getfield 564, 3) := by decide +kernel
theorem dX8_back_109 : decode cX8_back 109 = .ok (.iastore, 1) := by decide +kernel
theorem dX8_back_110 : decode cX8_back 110 = .ok (.aload_n 0, 1) := by decide +kernel
theorem dX8_back_111 : decode cX8_back 111 = .ok (.aload_n 0, 1) := by decide +kernel
theorem dX8_back_112 : decode cX8_back 112 = .ok (.getfield 567, 3) := by decide +kernel
theorem dX8_back_115 : decode cX8_back 115 = .ok (.putfield 369, 3) := by decide +kernel
theorem dX8_back_118 : decode cX8_back 118 = .ok (.aload_n 0, 1) := by decide +kernel
theorem dX8_back_119 : decode cX8_back 119 = .ok (.iconst 0, 1) := by decide +kernel
theorem dX8_back_120 : decode cX8_back 120 = .ok (.putfield 379, 3) := by decide +kernel
theorem dX8_back_123 : decode cX8_back 123 = .ok (.aload_n 0, 1) := by decide +kernel
theorem dX8_back_124 : decode cX8_back 124 = .ok (.getfield 121, 3) := by decide +kernel
theorem dX8_back_127 : decode cX8_back 127 = .ok (.iconst 0, 1) := by decide +kernel
theorem dX8_back_128 : decode cX8_back 128 = .ok (.iaload, 1) := by decide +kernel
theorem dX8_back_129 : decode cX8_back 129 = .ok (.ireturn, 1) := by decide +kernel
theorem dX8_manyHow_0 : decode cX8_manyHow 0 = .ok (.iconst 0, 1) := by decide +kernel
theorem dX8_manyHow_1 : decode cX8_manyHow 1 = .ok (.istore_n 2, 1) := by decide +kernel
theorem dX8_manyHow_2 : decode cX8_manyHow 2 = .ok (.iconst 0, 1) := by decide +kernel
theorem dX8_manyHow_3 : decode cX8_manyHow 3 = .ok (.istore_n 3, 1) := by decide +kernel
theorem dX8_manyHow_4 : decode cX8_manyHow 4 = .ok (.iload_n 3, 1) := by decide +kernel
theorem dX8_manyHow_5 : decode cX8_manyHow 5 = .ok (.aload_n 0, 1) := by decide +kernel
theorem dX8_manyHow_6 : decode cX8_manyHow 6 = .ok (.getfield 258, 3) := by decide +kernel
theorem dX8_manyHow_9 : decode cX8_manyHow 9 = .ok (.if_icmp .ge 27, 3) := by decide +kernel
theorem dX8_manyHow_12 : decode cX8_manyHow 12 = .ok (.iload_n 2, 1) := by decide +kernel
theorem dX8_manyHow_13 : decode cX8_manyHow 13 = .ok (.aload_n 0, 1) := by decide +kernel
theorem dX8_manyHow_14 : decode cX8_manyHow 14 = .ok (.getfield 94, 3) := by decide +kernel
theorem dX8_manyHow_17 : decode cX8_manyHow 17 = .ok (.iload_n 3, 1) := by decide +kernel
theorem dX8_manyHow_18 : decode cX8_manyHow 18 = .ok (.iaload, 1) := by decide +kernel
theorem dX8_manyHow_19 : decode cX8_manyHow 19 = .ok (.iload_n 1, 1) := by decide +kernel
theorem dX8_manyHow_20 : decode cX8_manyHow 20 = .ok (.if_icmp .ne 7, 3) := by decide +kernel
theorem dX8_manyHow_23 : decode cX8_manyHow 23 = .ok (.iconst 1, 1) := by decide +kernel
theorem dX8_manyHow_24 : decode cX8_manyHow 24 = .ok (.goto 4, 3) := by decide +kernel
theorem dX8_manyHow_27 : decode cX8_manyHow 27 = .ok (.iconst 0, 1) := by decide +kernel
theorem dX8_manyHow_28 : decode cX8_manyHow 28 = .ok (.iadd, 1) := by decide +kernel
theorem dX8_manyHow_29 : decode cX8_manyHow 29 = .ok (.istore_n 2, 1) := by decide +kernel
theorem dX8_manyHow_30 : decode cX8_manyHow 30 = .ok (.iinc 3 1, 3) := by decide +kernel
theorem dX8_manyHow_33 : decode cX8_manyHow 33 = .ok (.goto (-29), 3) := by decide +kernel
theorem dX8_manyHow_36 : decode cX8_manyHow 36 = .ok (.iload_n 2, 1) := by decide +kernel
theorem dX8_manyHow_37 : decode cX8_manyHow 37 = .ok (.ireturn, 1) := by decide +kernel
theorem dX8_count_0 : decode cX8_count 0 = .ok (.aload_n 0, 1) := by decide +kernel
theorem dX8_count_1 : decode cX8_count 1 = .ok (.iconst 0, 1) := by decide +kernel
theorem dX8_count_2 : decode cX8_count 2 = .ok (.putfield 172, 3) := by decide +kernel
theorem dX8_count_5 : decode cX8_count 5 = .ok (.iconst 0, 1) := by decide +kernel
theorem dX8_count_6 : decode cX8_count 6 = .ok (.istore_n 2, 1) := by decide +kernel
theorem dX8_count_7 : decode cX8_count 7 = .ok (.iload_n 1, 1) := by decide +kernel
theorem dX8_count_8 : decode cX8_count 8 = .ok (.tableswitch 202 0 15 #[80, 85, 90, 95, 100, 107, 114, 120, 126, 132, 138, 144, 180, 187, 192, 197], 80) := by decide +kernel
theorem dX8_count_88 : decode cX8_count 88 = .ok (.aload_n 0, 1) := by decide +kernel
theorem dX8_count_89 : decode cX8_count 89 = .ok (.getfield 252, 3) := by decide +kernel
theorem dX8_count_92 : decode cX8_count 92 = .ok (.ireturn, 1) := by decide +kernel
theorem dX8_count_93 : decode cX8_count 93 = .ok (.aload_n 0, 1) := by decide +kernel
theorem dX8_count_94 : decode cX8_count 94 = .ok (.getfield 255, 3) := by decide +kernel
theorem dX8_count_97 : decode cX8_count 97 = .ok (.ireturn, 1) := by decide +kernel
theorem dX8_count_98 : decode cX8_count 98 = .ok (.aload_n 0, 1) := by decide +kernel
theorem dX8_count_99 : decode cX8_count 99 = .ok (.getfield 258, 3) := by decide +kernel
theorem dX8_count_102 : decode cX8_count 102 = .ok (.ireturn, 1) := by decide +kernel
theorem dX8_count_103 : decode cX8_count 103 = .ok (.aload_n 0, 1) := by decide +kernel
theorem dX8_count_104 : decode cX8_count 104 = .ok (.getfield 261, 3) := by decide +kernel
theorem dX8_count_107 : decode cX8_count 107 = .ok (.ireturn, 1) := by decide +kernel
theorem dX8_count_108 : decode cX8_count 108 = .ok (.aload_n 0, 1) := by decide +kernel
theorem dX8_count_109 : decode cX8_count 109 = .ok (.getfield 121, 3) := by decide +kernel
theorem dX8_count_112 : decode cX8_count 112 = .ok (.iconst 0, 1) := by decide +kernel
theorem dX8_count_113 : decode cX8_count 113 = .ok (.iaload, 1) := by decide +kernel
theorem dX8_count_114 : decode cX8_count 114 = .ok (.ireturn, 1) := by decide +kernel
theorem dX8_count_115 : decode cX8_count 115 = .ok (.aload_n 0, 1) := by decide +kernel
theorem dX8_count_116 : decode cX8_count 116 = .ok (.getfield 118, 3) := by decide +kernel
theorem dX8_count_119 : decode cX8_count 119 = .ok (.iconst 0, 1) := by decide +kernel
theorem dX8_count_120 : decode cX8_count 120 = .ok (.iaload, 1) := by decide +kernel
theorem dX8_count_121 : decode cX8_count 121 = .ok (.ireturn, 1) := by decide +kernel
theorem dX8_count_122 : decode cX8_count 122 = .ok (.aload_n 0, 1) := by decide +kernel
theorem dX8_count_123 : decode cX8_count 123 = .ok (.iconst 1, 1) := by decide +kernel
theorem dX8_count_124 : decode cX8_count 124 = .ok (.invokevirtual 570, 3) := by decide +kernel
theorem dX8_count_127 : decode cX8_count 127 = .ok (.ireturn, 1) := by decide +kernel
theorem dX8_count_128 : decode cX8_count 128 = .ok (.aload_n 0, 1) := by decide +kernel
theorem dX8_count_129 : decode cX8_count 129 = .ok (.iconst 2, 1) := by decide +kernel
theorem dX8_count_130 : decode cX8_count 130 = .ok (.invokevirtual 570, 3) := by decide +kernel
theorem dX8_count_133 : decode cX8_count 133 = .ok (.ireturn, 1) := by decide +kernel
theorem dX8_count_134 : decode cX8_count 134 = .ok (.aload_n 0, 1) := by decide +kernel
theorem dX8_count_135 : decode cX8_count 135 = .ok (.iconst 3, 1) := by decide +kernel
theorem dX8_count_136 : decode cX8_count 136 = .ok (.invokevirtual 570, 3) := by decide +kernel
theorem dX8_count_139 : decode cX8_count 139 = .ok (.ireturn, 1) := by decide +kernel
theorem dX8_count_140 : decode cX8_count 140 = .ok (.aload_n 0, 1) := by decide +kernel
theorem dX8_count_141 : decode cX8_count 141 = .ok (.iconst 4, 1) := by decide +kernel
theorem dX8_count_142 : decode cX8_count 142 = .ok (.invokevirtual 570, 3) := by decide +kernel
theorem dX8_count_145 : decode cX8_count 145 = .ok (.ireturn, 1) := by decide +kernel
theorem dX8_count_146 : decode cX8_count 146 = .ok (.aload_n 0, 1) := by decide +kernel
theorem dX8_count_147 : decode cX8_count 147 = .ok (.iconst 5, 1) := by decide +kernel
theorem dX8_count_148 : decode cX8_count 148 = .ok (.invokevirtual 570, 3) := by decide +kernel
theorem dX8_count_151 : decode cX8_count 151 = .ok (.ireturn, 1) := by decide +kernel
theorem dX8_count_152 : decode cX8_count 152 = .ok (.iconst 0, 1) := by decide +kernel
theorem dX8_count_153 : decode cX8_count 153 = .ok (.istore_n 3, 1) := by decide +kernel
theorem dX8_count_154 : decode cX8_count 154 = .ok (.iload_n 3, 1) := by decide +kernel
theorem dX8_count_155 : decode cX8_count 155 = .ok (.aload_n 0, 1) := by decide +kernel
theorem dX8_count_156 : decode cX8_count 156 = .ok (.getfield 255, 3) := by decide +kernel
theorem dX8_count_159 : decode cX8_count 159 = .ok (.if_icmp .ge 27, 3) := by decide +kernel
theorem dX8_count_162 : decode cX8_count 162 = .ok (.iload_n 2, 1) := by decide +kernel
theorem dX8_count_163 : decode cX8_count 163 = .ok (.aload_n 0, 1) := by decide +kernel
theorem dX8_count_164 : decode cX8_count 164 = .ok (.getfield 112, 3) := by decide +kernel
theorem dX8_count_167 : decode cX8_count 167 = .ok (.iload_n 3, 1) := by decide +kernel
theorem dX8_count_168 : decode cX8_count 168 = .ok (.iaload, 1) := by decide +kernel
theorem dX8_count_169 : decode cX8_count 169 = .ok (.iconst 1, 1) := by decide +kernel
theorem dX8_count_170 : decode cX8_count 170 = .ok (.if_icmp .ne 7, 3) := by decide +kernel
theorem dX8_count_173 : decode cX8_count 173 = .ok (.iconst 1, 1) := by decide +kernel
theorem dX8_count_174 : decode cX8_count 174 = .ok (.goto 4, 3) := by decide +kernel
theorem dX8_count_177 : decode cX8_count 177 = .ok (.iconst 0, 1) := by decide +kernel
theorem dX8_count_178 : decode cX8_count 178 = .ok (.iadd, 1) := by decide +kernel
theorem dX8_count_179 : decode cX8_count 179 = .ok (.istore_n 2, 1) := by decide +kernel
theorem dX8_count_180 : decode cX8_count 180 = .ok (.iinc 3 1, 3) := by decide +kernel
theorem dX8_count_183 : decode cX8_count 183 = .ok (.goto (-29), 3) := by decide +kernel
theorem dX8_count_186 : decode cX8_count 186 = .ok (.iload_n 2, 1) := by decide +kernel
theorem dX8_count_187 : decode cX8_count 187 = .ok (.ireturn, 1) := by decide +kernel
theorem dX8_count_188 : decode cX8_count 188 = .ok (.aload_n 0, 1) := by decide +kernel
theorem dX8_count_189 : decode cX8_count 189 = .ok (.getfield 24, 3) := by decide +kernel
theorem dX8_count_192 : decode cX8_count 192 = .ok (.iconst 0, 1) := by decide +kernel
theorem dX8_count_193 : decode cX8_count 193 = .ok (.iaload, 1) := by decide +kernel
theorem dX8_count_194 : decode cX8_count 194 = .ok (.ireturn, 1) := by decide +kernel
theorem dX8_count_195 : decode cX8_count 195 = .ok (.aload_n 0, 1) := by decide +kernel
theorem dX8_count_196 : decode cX8_count 196 = .ok (.getfield 376, 3) := by decide +kernel
theorem dX8_count_199 : decode cX8_count 199 = .ok (.ireturn, 1) := by decide +kernel
theorem dX8_count_200 : decode cX8_count 200 = .ok (.aload_n 0, 1) := by decide +kernel
theorem dX8_count_201 : decode cX8_count 201 = .ok (.invokevirtual 546, 3) := by decide +kernel
theorem dX8_count_204 : decode cX8_count 204 = .ok (.ireturn, 1) := by decide +kernel
theorem dX8_count_205 : decode cX8_count 205 = .ok (.aload_n 0, 1) := by decide +kernel
theorem dX8_count_206 : decode cX8_count 206 = .ok (.getfield 379, 3) := by decide +kernel
theorem dX8_count_209 : decode cX8_count 209 = .ok (.ireturn, 1) := by decide +kernel
theorem dX8_count_210 : decode cX8_count 210 = .ok (.iconst (-1), 1) := by decide +kernel
theorem dX8_count_211 : decode cX8_count 211 = .ok (.ireturn, 1) := by decide +kernel

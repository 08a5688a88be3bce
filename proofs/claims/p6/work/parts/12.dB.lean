theorem dX6_init_0 : decode cX6_init 0 = .ok (.aload_n 0, 1) := by decide +kernel
theorem dX6_init_1 : decode cX6_init 1 = .ok (.invokespecial 3, 3) := by decide +kernel
theorem dX6_init_4 : decode cX6_init 4 = .ok (.aload_n 0, 1) := by decide +kernel
theorem dX6_init_5 : decode cX6_init 5 = .ok (.bipush 6, 2) := by decide +kernel
theorem dX6_init_7 : decode cX6_init 7 = .ok (.newarray .int, 2) := by decide +kernel
theorem dX6_init_9 : decode cX6_init 9 = .ok (.putfield 9, 3) := by decide +kernel
theorem dX6_init_12 : decode cX6_init 12 = .ok (.aload_n 0, 1) := by decide +kernel
theorem dX6_init_13 : decode cX6_init 13 = .ok (.bipush 6, 2) := by decide +kernel
theorem dX6_init_15 : decode cX6_init 15 = .ok (.newarray .int, 2) := by decide +kernel
theorem dX6_init_17 : decode cX6_init 17 = .ok (.putfield 15, 3) := by decide +kernel
theorem dX6_init_20 : decode cX6_init 20 = .ok (.aload_n 0, 1) := by decide +kernel
theorem dX6_init_21 : decode cX6_init 21 = .ok (.bipush 6, 2) := by decide +kernel
theorem dX6_init_23 : decode cX6_init 23 = .ok (.newarray .int, 2) := by decide +kernel
theorem dX6_init_25 : decode cX6_init 25 = .ok (.putfield 18, 3) := by decide +kernel
theorem dX6_init_28 : decode cX6_init 28 = .ok (.aload_n 0, 1) := by decide +kernel
theorem dX6_init_29 : decode cX6_init 29 = .ok (.bipush 6, 2) := by decide +kernel
theorem dX6_init_31 : decode cX6_init 31 = .ok (.newarray .int, 2) := by decide +kernel
theorem dX6_init_33 : decode cX6_init 33 = .ok (.putfield 21, 3) := by decide +kernel
theorem dX6_init_36 : decode cX6_init 36 = .ok (.aload_n 0, 1) := by decide +kernel
theorem dX6_init_37 : decode cX6_init 37 = .ok (.bipush 10, 2) := by decide +kernel
theorem dX6_init_39 : decode cX6_init 39 = .ok (.newarray .int, 2) := by decide +kernel
theorem dX6_init_41 : decode cX6_init 41 = .ok (.putfield 24, 3) := by decide +kernel
theorem dX6_init_44 : decode cX6_init 44 = .ok (.aload_n 0, 1) := by decide +kernel
theorem dX6_init_45 : decode cX6_init 45 = .ok (.bipush 10, 2) := by decide +kernel
theorem dX6_init_47 : decode cX6_init 47 = .ok (.newarray .int, 2) := by decide +kernel
theorem dX6_init_49 : decode cX6_init 49 = .ok (.putfield 27, 3) := by decide +kernel
theorem dX6_init_52 : decode cX6_init 52 = .ok (.aload_n 0, 1) := by decide +kernel
theorem dX6_init_53 : decode cX6_init 53 = .ok (.bipush 10, 2) := by decide +kernel
theorem dX6_init_55 : decode cX6_init 55 = .ok (.newarray .int, 2) := by decide +kernel
theorem dX6_init_57 : decode cX6_init 57 = .ok (.putfield 30, 3) := by decide +kernel
theorem dX6_init_60 : decode cX6_init 60 = .ok (.aload_n 0, 1) := by decide +kernel
theorem dX6_init_61 : decode cX6_init 61 = .ok (.bipush 50, 2) := by decide +kernel
theorem dX6_init_63 : decode cX6_init 63 = .ok (.newarray .int, 2) := by decide +kernel
theorem dX6_init_65 : decode cX6_init 65 = .ok (.putfield 33, 3) := by decide +kernel
theorem dX6_init_68 : decode cX6_init 68 = .ok (.aload_n 0, 1) := by decide +kernel
theorem dX6_init_69 : decode cX6_init 69 = .ok (.iconst 5, 1) := by decide +kernel
theorem dX6_init_70 : decode cX6_init 70 = .ok (.newarray .int, 2) := by decide +kernel
theorem dX6_init_72 : decode cX6_init 72 = .ok (.putfield 36, 3) := by decide +kernel
theorem dX6_init_75 : decode cX6_init 75 = .ok (.aload_n 0, 1) := by decide +kernel
theorem dX6_init_76 : decode cX6_init 76 = .ok (.iconst 5, 1) := by decide +kernel
theorem dX6_init_77 : decode cX6_init 77 = .ok (.newarray .int, 2) := by decide +kernel
theorem dX6_init_79 : decode cX6_init 79 = .ok (.putfield 39, 3) := by decide +kernel
theorem dX6_init_82 : decode cX6_init 82 = .ok (.aload_n 0, 1) := by decide +kernel
theorem dX6_init_83 : decode cX6_init 83 = .ok (.bipush 7, 2) := by decide +kernel
theorem dX6_init_85 : decode cX6_init 85 = .ok (.newarray .int, 2) := by decide +kernel
theorem dX6_init_87 : decode cX6_init 87 = .ok (.putfield 42, 3) := by decide +kernel
theorem dX6_init_90 : decode cX6_init 90 = .ok (.aload_n 0, 1) := by decide +kernel
theorem dX6_init_91 : decode cX6_init 91 = .ok (.aload_n 1, 1) := by decide +kernel
theorem dX6_init_92 : decode cX6_init 92 = .ok (.invokevirtual 45, 3) := by decide +kernel
theorem dX6_init_95 : decode cX6_init 95 = .ok (.aload_n 0, 1) := by decide +kernel
theorem dX6_init_96 : decode cX6_init 96 = .ok (.iconst 0, 1) := by decide +kernel
theorem dX6_init_97 : decode cX6_init 97 = .ok (.putfield 49, 3) := by decide +kernel
theorem dX6_init_100 : decode cX6_init 100 = .ok (.aload_n 0, 1) := by decide +kernel
theorem dX6_init_101 : decode cX6_init 101 = .ok (.iconst 1, 1) := by decide +kernel
theorem dX6_init_102 : decode cX6_init 102 = .ok (.putfield 53, 3) := by decide +kernel
theorem dX6_init_105 : decode cX6_init 105 = .ok (.aload_n 0, 1) := by decide +kernel
theorem dX6_init_106 : decode cX6_init 106 = .ok (.iconst 1, 1) := by decide +kernel
theorem dX6_init_107 : decode cX6_init 107 = .ok (.putfield 56, 3) := by decide +kernel
theorem dX6_init_110 : decode cX6_init 110 = .ok (.return_, 1) := by decide +kernel
theorem dX6_begin_0 : decode cX6_begin 0 = .ok (.aload_n 0, 1) := by decide +kernel
theorem dX6_begin_1 : decode cX6_begin 1 = .ok (.aload_n 1, 1) := by decide +kernel
theorem dX6_begin_2 : decode cX6_begin 2 = .ok (.putfield 59, 3) := by decide +kernel
theorem dX6_begin_5 : decode cX6_begin 5 = .ok (.aload_n 0, 1) := by decide +kernel
theorem dX6_begin_6 : decode cX6_begin 6 = .ok (.iconst 0, 1) := by decide +kernel
theorem dX6_begin_7 : decode cX6_begin 7 = .ok (.putfield 63, 3) := by decide +kernel
theorem dX6_begin_10 : decode cX6_begin 10 = .ok (.aload_n 0, 1) := by decide +kernel
theorem dX6_begin_11 : decode cX6_begin 11 = .ok (.iconst 0, 1) := by decide +kernel
theorem dX6_begin_12 : decode cX6_begin 12 = .ok (.putfield 67, 3) := by decide +kernel
theorem dX6_begin_15 : decode cX6_begin 15 = .ok (.aload_n 0, 1) := by decide +kernel
theorem dX6_begin_16 : decode cX6_begin 16 = .ok (.aload_n 1, 1) := by decide +kernel
theorem dX6_begin_17 : decode cX6_begin 17 = .ok (.getfield 70, 3) := by decide +kernel
theorem dX6_begin_20 : decode cX6_begin 20 = .ok (.putfield 75, 3) := by decide +kernel
theorem dX6_begin_23 : decode cX6_begin 23 = .ok (.aload_n 0, 1) := by decide +kernel
theorem dX6_begin_24 : decode cX6_begin 24 = .ok (.aload_n 1, 1) := by decide +kernel
theorem dX6_begin_25 : decode cX6_begin 25 = .ok (.getfield 78, 3) := by decide +kernel
theorem dX6_begin_28 : decode cX6_begin 28 = .ok (.putfield 81, 3) := by decide +kernel
theorem dX6_begin_31 : decode cX6_begin 31 = .ok (.aload_n 0, 1) := by decide +kernel
theorem dX6_begin_32 : decode cX6_begin 32 = .ok (.aload_n 1, 1) := by decide +kernel
theorem dX6_begin_33 : decode cX6_begin 33 = .ok (.getfield 82, 3) := by decide +kernel
theorem dX6_begin_36 : decode cX6_begin 36 = .ok (.putfield 85, 3) := by decide +kernel
theorem dX6_begin_39 : decode cX6_begin 39 = .ok (.iconst 0, 1) := by decide +kernel
theorem dX6_begin_40 : decode cX6_begin 40 = .ok (.istore_n 2, 1) := by decide +kernel
theorem dX6_begin_41 : decode cX6_begin 41 = .ok (.iload_n 2, 1) := by decide +kernel
theorem dX6_begin_42 : decode cX6_begin 42 = .ok (.bipush 6, 2) := by decide +kernel
theorem dX6_begin_44 : decode cX6_begin 44 = .ok (.if_icmp .ge 47, 3) := by decide +kernel
theorem dX6_begin_47 : decode cX6_begin 47 = .ok (.aload_n 0, 1) := by decide +kernel
theorem dX6_begin_48 : decode cX6_begin 48 = .ok (.getfield 9, 3) := by decide +kernel
theorem dX6_begin_51 : decode cX6_begin 51 = .ok (.iload_n 2, 1) := by decide +kernel
theorem dX6_begin_52 : decode cX6_begin 52 = .ok (.aload_n 1, 1) := by decide +kernel
theorem dX6_begin_53 : decode cX6_begin 53 = .ok (.getfield 86, 3) := by decide +kernel
theorem dX6_begin_56 : decode cX6_begin 56 = .ok (.iload_n 2, 1) := by decide +kernel
theorem dX6_begin_57 : decode cX6_begin 57 = .ok (.iaload, 1) := by decide +kernel
theorem dX6_begin_58 : decode cX6_begin 58 = .ok (.iastore, 1) := by decide +kernel
theorem dX6_begin_59 : decode cX6_begin 59 = .ok (.aload_n 0, 1) := by decide +kernel
theorem dX6_begin_60 : decode cX6_begin 60 = .ok (.getfield 15, 3) := by decide +kernel
theorem dX6_begin_63 : decode cX6_begin 63 = .ok (.iload_n 2, 1) := by decide +kernel
theorem dX6_begin_64 : decode cX6_begin 64 = .ok (.aload_n 1, 1) := by decide +kernel
theorem dX6_begin_65 : decode cX6_begin 65 = .ok (.getfield 89, 3) := by decide +kernel
theorem dX6_begin_68 : decode cX6_begin 68 = .ok (.iload_n 2, 1) := by decide +kernel
theorem dX6_begin_69 : decode cX6_begin 69 = .ok (.iaload, 1) := by decide +kernel
theorem dX6_begin_70 : decode cX6_begin 70 = .ok (.iastore, 1) := by decide +kernel
theorem dX6_begin_71 : decode cX6_begin 71 = .ok (.aload_n 0, 1) := by decide +kernel
theorem dX6_begin_72 : decode cX6_begin 72 = .ok (.getfield 18, 3) := by decide +kernel
theorem dX6_begin_75 : decode cX6_begin 75 = .ok (.iload_n 2, 1) := by decide +kernel
theorem dX6_begin_76 : decode cX6_begin 76 = .ok (.iconst 0, 1) := by decide +kernel
theorem dX6_begin_77 : decode cX6_begin 77 = .ok (.iastore, 1) := by decide +kernel
theorem dX6_begin_78 : decode cX6_begin 78 = .ok (.aload_n 0, 1) := by decide +kernel
theorem dX6_begin_79 : decode cX6_begin 79 = .ok (.getfield 21, 3) := by decide +kernel
theorem dX6_begin_82 : decode cX6_begin 82 = .ok (.iload_n 2, 1) := by decide +kernel
theorem dX6_begin_83 : decode cX6_begin 83 = .ok (.iconst 0, 1) := by decide +kernel
theorem dX6_begin_84 : decode cX6_begin 84 = .ok (.iastore, 1) := by decide +kernel
theorem dX6_begin_85 : decode cX6_begin 85 = .ok (.iinc 2 1, 3) := by decide +kernel
theorem dX6_begin_88 : decode cX6_begin 88 = .ok (.goto (-47), 3) := by decide +kernel
theorem dX6_begin_91 : decode cX6_begin 91 = .ok (.iconst 0, 1) := by decide +kernel
theorem dX6_begin_92 : decode cX6_begin 92 = .ok (.istore_n 2, 1) := by decide +kernel
theorem dX6_begin_93 : decode cX6_begin 93 = .ok (.iload_n 2, 1) := by decide +kernel
theorem dX6_begin_94 : decode cX6_begin 94 = .ok (.bipush 10, 2) := by decide +kernel
theorem dX6_begin_96 : decode cX6_begin 96 = .ok (.if_icmp .ge 35, 3) := by decide +kernel
theorem dX6_begin_99 : decode cX6_begin 99 = .ok (.aload_n 0, 1) := by decide +kernel
theorem dX6_begin_100 : decode cX6_begin 100 = .ok (.getfield 24, 3) := by decide +kernel
theorem dX6_begin_103 : decode cX6_begin 103 = .ok (.iload_n 2, 1) := by decide +kernel
theorem dX6_begin_104 : decode cX6_begin 104 = .ok (.aload_n 1, 1) := by decide +kernel
theorem dX6_begin_105 : decode cX6_begin 105 = .ok (.getfield 90, 3) := by decide +kernel
theorem dX6_begin_108 : decode cX6_begin 108 = .ok (.iload_n 2, 1) := by decide +kernel
theorem dX6_begin_109 : decode cX6_begin 109 = .ok (.iaload, 1) := by decide +kernel
theorem dX6_begin_110 : decode cX6_begin 110 = .ok (.iastore, 1) := by decide +kernel
theorem dX6_begin_111 : decode cX6_begin 111 = .ok (.aload_n 0, 1) := by decide +kernel
theorem dX6_begin_112 : decode cX6_begin 112 = .ok (.getfield 27, 3) := by decide +kernel
theorem dX6_begin_115 : decode cX6_begin 115 = .ok (.iload_n 2, 1) := by decide +kernel
theorem dX6_begin_116 : decode cX6_begin 116 = .ok (.iconst 0, 1) := by decide +kernel
theorem dX6_begin_117 : decode cX6_begin 117 = .ok (.iastore, 1) := by decide +kernel
theorem dX6_begin_118 : decode cX6_begin 118 = .ok (.aload_n 0, 1) := by decide +kernel
theorem dX6_begin_119 : decode cX6_begin 119 = .ok (.getfield 30, 3) := by decide +kernel
theorem dX6_begin_122 : decode cX6_begin 122 = .ok (.iload_n 2, 1) := by decide +kernel
theorem dX6_begin_123 : decode cX6_begin 123 = .ok (.iconst (-1), 1) := by decide +kernel
theorem dX6_begin_124 : decode cX6_begin 124 = .ok (.iastore, 1) := by decide +kernel
theorem dX6_begin_125 : decode cX6_begin 125 = .ok (.iinc 2 1, 3) := by decide +kernel
theorem dX6_begin_128 : decode cX6_begin 128 = .ok (.goto (-35), 3) := by decide +kernel
theorem dX6_begin_131 : decode cX6_begin 131 = .ok (.iconst 0, 1) := by decide +kernel
theorem dX6_begin_132 : decode cX6_begin 132 = .ok (.istore_n 2, 1) := by decide +kernel
theorem dX6_begin_133 : decode cX6_begin 133 = .ok (.iload_n 2, 1) := by decide +kernel
theorem dX6_begin_134 : decode cX6_begin 134 = .ok (.iconst 5, 1) := by decide +kernel
theorem dX6_begin_135 : decode cX6_begin 135 = .ok (.if_icmp .ge 23, 3) := by decide +kernel
theorem dX6_begin_138 : decode cX6_begin 138 = .ok (.aload_n 0, 1) := by decide +kernel
theorem dX6_begin_139 : decode cX6_begin 139 = .ok (.getfield 36, 3) := by decide +kernel
theorem dX6_begin_142 : decode cX6_begin 142 = .ok (.iload_n 2, 1) := by decide +kernel
theorem dX6_begin_143 : decode cX6_begin 143 = .ok (.iconst 0, 1) := by decide +kernel
theorem dX6_begin_144 : decode cX6_begin 144 = .ok (.iastore, 1) := by decide +kernel
theorem dX6_begin_145 : decode cX6_begin 145 = .ok (.aload_n 0, 1) := by decide +kernel
theorem dX6_begin_146 : decode cX6_begin 146 = .ok (.getfield 39, 3) := by decide +kernel
theorem dX6_begin_149 : decode cX6_begin 149 = .ok (.iload_n 2, 1) := by decide +kernel
theorem dX6_begin_150 : decode cX6_begin 150 = .ok (.iconst 0, 1) := by decide +kernel
theorem dX6_begin_151 : decode cX6_begin 151 = .ok (.iastore, 1) := by decide +kernel
theorem dX6_begin_152 : decode cX6_begin 152 = .ok (.iinc 2 1, 3) := by decide +kernel
theorem dX6_begin_155 : decode cX6_begin 155 = .ok (.goto (-22), 3) := by decide +kernel
theorem dX6_begin_158 : decode cX6_begin 158 = .ok (.return_, 1) := by decide +kernel
theorem dX6_copy_0 : decode cX6_copy 0 = .ok (.aload_n 0, 1) := by decide +kernel
theorem dX6_copy_1 : decode cX6_copy 1 = .ok (.aload_n 1, 1) := by decide +kernel
theorem dX6_copy_2 : decode cX6_copy 2 = .ok (.getfield 59, 3) := by decide +kernel
theorem dX6_copy_5 : decode cX6_copy 5 = .ok (.putfield 59, 3) := by decide +kernel
theorem dX6_copy_8 : decode cX6_copy 8 = .ok (.aload_n 0, 1) := by decide +kernel
theorem dX6_copy_9 : decode cX6_copy 9 = .ok (.aload_n 1, 1) := by decide +kernel
theorem dX6_copy_10 : decode cX6_copy 10 = .ok (.getfield 63, 3) := by decide +kernel
theorem dX6_copy_13 : decode cX6_copy 13 = .ok (.putfield 63, 3) := by decide +kernel
theorem dX6_copy_16 : decode cX6_copy 16 = .ok (.aload_n 0, 1) := by decide +kernel
theorem dX6_copy_17 : decode cX6_copy 17 = .ok (.aload_n 1, 1) := by decide +kernel
theorem dX6_copy_18 : decode cX6_copy 18 = .ok (.getfield 67, 3) := by decide +kernel
theorem dX6_copy_21 : decode cX6_copy 21 = .ok (.putfield 67, 3) := by decide +kernel
theorem dX6_copy_24 : decode cX6_copy 24 = .ok (.aload_n 0, 1) := by decide +kernel
theorem dX6_copy_25 : decode cX6_copy 25 = .ok (.aload_n 1, 1) := by decide +kernel
theorem dX6_copy_26 : decode cX6_copy 26 = .ok (.getfield 75, 3) := by decide +kernel
theorem dX6_copy_29 : decode cX6_copy 29 = .ok (.putfield 75, 3) := by decide +kernel
theorem dX6_copy_32 : decode cX6_copy 32 = .ok (.aload_n 0, 1) := by decide +kernel
theorem dX6_copy_33 : decode cX6_copy 33 = .ok (.aload_n 1, 1) := by decide +kernel
theorem dX6_copy_34 : decode cX6_copy 34 = .ok (.getfield 81, 3) := by decide +kernel
theorem dX6_copy_37 : decode cX6_copy 37 = .ok (.putfield 81, 3) := by decide +kernel
theorem dX6_copy_40 : decode cX6_copy 40 = .ok (.aload_n 0, 1) := by decide +kernel
theorem dX6_copy_41 : decode cX6_copy 41 = .ok (.aload_n 1, 1) := by decide +kernel
theorem dX6_copy_42 : decode cX6_copy 42 = .ok (.getfield 85, 3) := by decide +kernel
theorem dX6_copy_45 : decode cX6_copy 45 = .ok (.putfield 85, 3) := by decide +kernel
theorem dX6_copy_48 : decode cX6_copy 48 = .ok (.aload_n 1, 1) := by decide +kernel
theorem dX6_copy_49 : decode cX6_copy 49 = .ok (.getfield 9, 3) := by decide +kernel
theorem dX6_copy_52 : decode cX6_copy 52 = .ok (.iconst 0, 1) := by decide +kernel
theorem dX6_copy_53 : decode cX6_copy 53 = .ok (.aload_n 0, 1) := by decide +kernel
theorem dX6_copy_54 : decode cX6_copy 54 = .ok (.getfield 9, 3) := by decide +kernel
theorem dX6_copy_57 : decode cX6_copy 57 = .ok (.iconst 0, 1) := by decide +kernel
theorem dX6_copy_58 : decode cX6_copy 58 = .ok (.bipush 6, 2) := by decide +kernel
theorem dX6_copy_60 : decode cX6_copy 60 = .ok (.invokestatic 91, 3) := by decide +kernel
theorem dX6_copy_63 : decode cX6_copy 63 = .ok (.aload_n 1, 1) := by decide +kernel
theorem dX6_copy_64 : decode cX6_copy 64 = .ok (.getfield 15, 3) := by decide +kernel
theorem dX6_copy_67 : decode cX6_copy 67 = .ok (.iconst 0, 1) := by decide +kernel
theorem dX6_copy_68 : decode cX6_copy 68 = .ok (.aload_n 0, 1) := by decide +kernel
theorem dX6_copy_69 : decode cX6_copy 69 = .ok (.getfield 15, 3) := by decide +kernel
theorem dX6_copy_72 : decode cX6_copy 72 = .ok (.iconst 0, 1) := by decide +kernel
theorem dX6_copy_73 : decode cX6_copy 73 = .ok (.bipush 6, 2) := by decide +kernel
theorem dX6_copy_75 : decode cX6_copy 75 = .ok (.invokestatic 91, 3) := by decide +kernel
theorem dX6_copy_78 : decode cX6_copy 78 = .ok (.aload_n 1, 1) := by decide +kernel
theorem dX6_copy_79 : decode cX6_copy 79 = .ok (.getfield 18, 3) := by decide +kernel
theorem dX6_copy_82 : decode cX6_copy 82 = .ok (.iconst 0, 1) := by decide +kernel
theorem dX6_copy_83 : decode cX6_copy 83 = .ok (.aload_n 0, 1) := by decide +kernel
theorem dX6_copy_84 : decode cX6_copy 84 = .ok (.getfield 18, 3) := by decide +kernel
theorem dX6_copy_87 : decode cX6_copy 87 = .ok (.iconst 0, 1) := by decide +kernel
theorem dX6_copy_88 : decode cX6_copy 88 = .ok (.bipush 6, 2) := by decide +kernel
theorem dX6_copy_90 : decode cX6_copy 90 = .ok (.invokestatic 91, 3) := by decide +kernel
theorem dX6_copy_93 : decode cX6_copy 93 = .ok (.aload_n 1, 1) := by decide +kernel
theorem dX6_copy_94 : decode cX6_copy 94 = .ok (.getfield 21, 3) := by decide +kernel
theorem dX6_copy_97 : decode cX6_copy 97 = .ok (.iconst 0, 1) := by decide +kernel
theorem dX6_copy_98 : decode cX6_copy 98 = .ok (.aload_n 0, 1) := by decide +kernel
theorem dX6_copy_99 : decode cX6_copy 99 = .ok (.getfield 21, 3) := by decide +kernel
theorem dX6_copy_102 : decode cX6_copy 102 = .ok (.iconst 0, 1) := by decide +kernel
theorem dX6_copy_103 : decode cX6_copy 103 = .ok (.bipush 6, 2) := by decide +kernel
theorem dX6_copy_105 : decode cX6_copy 105 = .ok (.invokestatic 91, 3) := by decide +kernel
theorem dX6_copy_108 : decode cX6_copy 108 = .ok (.aload_n 1, 1) := by decide +kernel
theorem dX6_copy_109 : decode cX6_copy 109 = .ok (.getfield 24, 3) := by decide +kernel
theorem dX6_copy_112 : decode cX6_copy 112 = .ok (.iconst 0, 1) := by decide +kernel
theorem dX6_copy_113 : decode cX6_copy 113 = .ok (.aload_n 0, 1) := by decide +kernel
theorem dX6_copy_114 : decode cX6_copy 114 = .ok (.getfield 24, 3) := by decide +kernel
theorem dX6_copy_117 : decode cX6_copy 117 = .ok (.iconst 0, 1) := by decide +kernel
theorem dX6_copy_118 : decode cX6_copy 118 = .ok (.bipush 10, 2) := by decide +kernel
theorem dX6_copy_120 : decode cX6_copy 120 = .ok (.invokestatic 91, 3) := by decide +kernel
theorem dX6_copy_123 : decode cX6_copy 123 = .ok (.aload_n 1, 1) := by decide +kernel
theorem dX6_copy_124 : decode cX6_copy 124 = .ok (.getfield 27, 3) := by decide +kernel
theorem dX6_copy_127 : decode cX6_copy 127 = .ok (.iconst 0, 1) := by decide +kernel
theorem dX6_copy_128 : decode cX6_copy 128 = .ok (.aload_n 0, 1) := by decide +kernel
theorem dX6_copy_129 : decode cX6_copy 129 = .ok (.getfield 27, 3) := by decide +kernel
theorem dX6_copy_132 : decode cX6_copy 132 = .ok (.iconst 0, 1) := by decide +kernel
theorem dX6_copy_133 : decode cX6_copy 133 = .ok (.bipush 10, 2) := by decide +kernel
theorem dX6_copy_135 : decode cX6_copy 135 = .ok (.invokestatic 91, 3) := by decide +kernel
theorem dX6_copy_138 : decode cX6_copy 138 = .ok (.aload_n 1, 1) := by decide +kernel
theorem dX6_copy_139 : decode cX6_copy 139 = .ok (.getfield 30, 3) := by decide +kernel
theorem dX6_copy_142 : decode cX6_copy 142 = .ok (.iconst 0, 1) := by decide +kernel
theorem dX6_copy_143 : decode cX6_copy 143 = .ok (.aload_n 0, 1) := by decide +kernel
theorem dX6_copy_144 : decode cX6_copy 144 = .ok (.getfield 30, 3) := by decide +kernel
theorem dX6_copy_147 : decode cX6_copy 147 = .ok (.iconst 0, 1) := by decide +kernel
theorem dX6_copy_148 : decode cX6_copy 148 = .ok (.bipush 10, 2) := by decide +kernel
theorem dX6_copy_150 : decode cX6_copy 150 = .ok (.invokestatic 91, 3) := by decide +kernel
theorem dX6_copy_153 : decode cX6_copy 153 = .ok (.aload_n 1, 1) := by decide +kernel
theorem dX6_copy_154 : decode cX6_copy 154 = .ok (.getfield 33, 3) := by decide +kernel
theorem dX6_copy_157 : decode cX6_copy 157 = .ok (.iconst 0, 1) := by decide +kernel
theorem dX6_copy_158 : decode cX6_copy 158 = .ok (.aload_n 0, 1) := by decide +kernel
theorem dX6_copy_159 : decode cX6_copy 159 = .ok (.getfield 33, 3) := by decide +kernel
theorem dX6_copy_162 : decode cX6_copy 162 = .ok (.iconst 0, 1) := by decide +kernel
theorem dX6_copy_163 : decode cX6_copy 163 = .ok (.bipush 50, 2) := by decide +kernel
theorem dX6_copy_165 : decode cX6_copy 165 = .ok (.invokestatic 91, 3) := by decide +kernel
theorem dX6_copy_168 : decode cX6_copy 168 = .ok (.aload_n 1, 1) := by decide +kernel
theorem dX6_copy_169 : decode cX6_copy 169 = .ok (.getfield 36, 3) := by decide +kernel
theorem dX6_copy_172 : decode cX6_copy 172 = .ok (.iconst 0, 1) := by decide +kernel
theorem dX6_copy_173 : decode cX6_copy 173 = .ok (.aload_n 0, 1) := by decide +kernel
theorem dX6_copy_174 : decode cX6_copy 174 = .ok (.getfield 36, 3) := by decide +kernel
theorem dX6_copy_177 : decode cX6_copy 177 = .ok (.iconst 0, 1) := by decide +kernel
theorem dX6_copy_178 : decode cX6_copy 178 = .ok (.iconst 5, 1) := by decide +kernel
theorem dX6_copy_179 : decode cX6_copy 179 = .ok (.invokestatic 91, 3) := by decide +kernel
theorem dX6_copy_182 : decode cX6_copy 182 = .ok (.aload_n 1, 1) := by decide +kernel
theorem dX6_copy_183 : decode cX6_copy 183 = .ok (.getfield 39, 3) := by decide +kernel
theorem dX6_copy_186 : decode cX6_copy 186 = .ok (.iconst 0, 1) := by decide +kernel
theorem dX6_copy_187 : decode cX6_copy 187 = .ok (.aload_n 0, 1) := by decide +kernel
theorem dX6_copy_188 : decode cX6_copy 188 = .ok (.getfield 39, 3) := by decide +kernel
theorem dX6_copy_191 : decode cX6_copy 191 = .ok (.iconst 0, 1) := by decide +kernel
theorem dX6_copy_192 : decode cX6_copy 192 = .ok (.iconst 5, 1) := by decide +kernel
theorem dX6_copy_193 : decode cX6_copy 193 = .ok (.invokestatic 91, 3) := by decide +kernel
theorem dX6_copy_196 : decode cX6_copy 196 = .ok (.return_, 1) := by decide +kernel
theorem dX6_top_0 : decode cX6_top 0 = .ok (.aload_n 0, 1) := by decide +kernel
theorem dX6_top_1 : decode cX6_top 1 = .ok (.getfield 36, 3) := by decide +kernel
theorem dX6_top_4 : decode cX6_top 4 = .ok (.iload_n 1, 1) := by decide +kernel
theorem dX6_top_5 : decode cX6_top 5 = .ok (.iaload, 1) := by decide +kernel
theorem dX6_top_6 : decode cX6_top 6 = .ok (.ifCond .ne 7, 3) := by decide +kernel
theorem dX6_top_9 : decode cX6_top 9 = .ok (.iconst (-1), 1) := by decide +kernel
theorem dX6_top_10 : decode cX6_top 10 = .ok (.goto 21, 3) := by decide +kernel
theorem dX6_top_13 : decode cX6_top 13 = .ok (.aload_n 0, 1) := by decide +kernel
theorem dX6_top_14 : decode cX6_top 14 = .ok (.getfield 33, 3) := by decide +kernel
theorem dX6_top_17 : decode cX6_top 17 = .ok (.iload_n 1, 1) := by decide +kernel
theorem dX6_top_18 : decode cX6_top 18 = .ok (.bipush 10, 2) := by decide +kernel
theorem dX6_top_20 : decode cX6_top 20 = .ok (.imul, 1) := by decide +kernel
theorem dX6_top_21 : decode cX6_top 21 = .ok (.aload_n 0, 1) := by decide +kernel
theorem dX6_top_22 : decode cX6_top 22 = .ok (.getfield 36, 3) := by decide +kernel
theorem dX6_top_25 : decode cX6_top 25 = .ok (.iload_n 1, 1) := by decide +kernel
theorem dX6_top_26 : decode cX6_top 26 = .ok (.iaload, 1) := by decide +kernel
theorem dX6_top_27 : decode cX6_top 27 = .ok (.iadd, 1) := by decide +kernel
theorem dX6_top_28 : decode cX6_top 28 = .ok (.iconst 1, 1) := by decide +kernel
theorem dX6_top_29 : decode cX6_top 29 = .ok (.isub, 1) := by decide +kernel
theorem dX6_top_30 : decode cX6_top 30 = .ok (.iaload, 1) := by decide +kernel
theorem dX6_top_31 : decode cX6_top 31 = .ok (.ireturn, 1) := by decide +kernel
theorem dX6_level_0 : decode cX6_level 0 = .ok (.aload_n 0, 1) := by decide +kernel
theorem dX6_level_1 : decode cX6_level 1 = .ok (.getfield 30, 3) := by decide +kernel
theorem dX6_level_4 : decode cX6_level 4 = .ok (.iload_n 1, 1) := by decide +kernel
theorem dX6_level_5 : decode cX6_level 5 = .ok (.iaload, 1) := by decide +kernel
theorem dX6_level_6 : decode cX6_level 6 = .ok (.istore_n 2, 1) := by decide +kernel
theorem dX6_level_7 : decode cX6_level 7 = .ok (.iload_n 2, 1) := by decide +kernel
theorem dX6_level_8 : decode cX6_level 8 = .ok (.ifCond .lt 38, 3) := by decide +kernel
theorem dX6_level_11 : decode cX6_level 11 = .ok (.iconst 0, 1) := by decide +kernel
theorem dX6_level_12 : decode cX6_level 12 = .ok (.istore_n 3, 1) := by decide +kernel
theorem dX6_level_13 : decode cX6_level 13 = .ok (.iload_n 3, 1) := by decide +kernel
theorem dX6_level_14 : decode cX6_level 14 = .ok (.aload_n 0, 1) := by decide +kernel
theorem dX6_level_15 : decode cX6_level 15 = .ok (.getfield 36, 3) := by decide +kernel
theorem dX6_level_18 : decode cX6_level 18 = .ok (.iload_n 2, 1) := by decide +kernel
theorem dX6_level_19 : decode cX6_level 19 = .ok (.iaload, 1) := by decide +kernel
theorem dX6_level_20 : decode cX6_level 20 = .ok (.if_icmp .ge 26, 3) := by decide +kernel
theorem dX6_level_23 : decode cX6_level 23 = .ok (.aload_n 0, 1) := by decide +kernel
theorem dX6_level_24 : decode cX6_level 24 = .ok (.getfield 33, 3) := by decide +kernel
theorem dX6_level_27 : decode cX6_level 27 = .ok (.iload_n 2, 1) := by decide +kernel
theorem dX6_level_28 : decode cX6_level 28 = .ok (.bipush 10, 2) := by decide +kernel
theorem dX6_level_30 : decode cX6_level 30 = .ok (.imul, 1) := by decide +kernel
theorem dX6_level_31 : decode cX6_level 31 = .ok (.iload_n 3, 1) := by decide +kernel
theorem dX6_level_32 : decode cX6_level 32 = .ok (.iadd, 1) := by decide +kernel
theorem dX6_level_33 : decode cX6_level 33 = .ok (.iaload, 1) := by decide +kernel
theorem dX6_level_34 : decode cX6_level 34 = .ok (.iload_n 1, 1) := by decide +kernel
theorem dX6_level_35 : decode cX6_level 35 = .ok (.if_icmp .ne 5, 3) := by decide +kernel
theorem dX6_level_38 : decode cX6_level 38 = .ok (.iload_n 3, 1) := by decide +kernel
theorem dX6_level_39 : decode cX6_level 39 = .ok (.ireturn, 1) := by decide +kernel
theorem dX6_level_40 : decode cX6_level 40 = .ok (.iinc 3 1, 3) := by decide +kernel
theorem dX6_level_43 : decode cX6_level 43 = .ok (.goto (-30), 3) := by decide +kernel
theorem dX6_level_46 : decode cX6_level 46 = .ok (.iconst (-1), 1) := by decide +kernel
theorem dX6_level_47 : decode cX6_level 47 = .ok (.ireturn, 1) := by decide +kernel
theorem dX6_above_0 : decode cX6_above 0 = .ok (.aload_n 0, 1) := by decide +kernel
theorem dX6_above_1 : decode cX6_above 1 = .ok (.getfield 30, 3) := by decide +kernel
theorem dX6_above_4 : decode cX6_above 4 = .ok (.iload_n 1, 1) := by decide +kernel
theorem dX6_above_5 : decode cX6_above 5 = .ok (.iaload, 1) := by decide +kernel
theorem dX6_above_6 : decode cX6_above 6 = .ok (.istore_n 2, 1) := by decide +kernel
theorem dX6_above_7 : decode cX6_above 7 = .ok (.iload_n 2, 1) := by decide +kernel
theorem dX6_above_8 : decode cX6_above 8 = .ok (.ifCond .ge 7, 3) := by decide +kernel
theorem dX6_above_11 : decode cX6_above 11 = .ok (.iconst 0, 1) := by decide +kernel
theorem dX6_above_12 : decode cX6_above 12 = .ok (.goto 17, 3) := by decide +kernel
theorem dX6_above_15 : decode cX6_above 15 = .ok (.aload_n 0, 1) := by decide +kernel
theorem dX6_above_16 : decode cX6_above 16 = .ok (.getfield 36, 3) := by decide +kernel
theorem dX6_above_19 : decode cX6_above 19 = .ok (.iload_n 2, 1) := by decide +kernel
theorem dX6_above_20 : decode cX6_above 20 = .ok (.iaload, 1) := by decide +kernel
theorem dX6_above_21 : decode cX6_above 21 = .ok (.iconst 1, 1) := by decide +kernel
theorem dX6_above_22 : decode cX6_above 22 = .ok (.isub, 1) := by decide +kernel
theorem dX6_above_23 : decode cX6_above 23 = .ok (.aload_n 0, 1) := by decide +kernel
theorem dX6_above_24 : decode cX6_above 24 = .ok (.iload_n 1, 1) := by decide +kernel
theorem dX6_above_25 : decode cX6_above 25 = .ok (.invokevirtual 97, 3) := by decide +kernel
theorem dX6_above_28 : decode cX6_above 28 = .ok (.isub, 1) := by decide +kernel
theorem dX6_above_29 : decode cX6_above 29 = .ok (.ireturn, 1) := by decide +kernel
theorem dX6_hasRoom_0 : decode cX6_hasRoom 0 = .ok (.aload_n 0, 1) := by decide +kernel
theorem dX6_hasRoom_1 : decode cX6_hasRoom 1 = .ok (.getfield 39, 3) := by decide +kernel
theorem dX6_hasRoom_4 : decode cX6_hasRoom 4 = .ok (.iload_n 1, 1) := by decide +kernel
theorem dX6_hasRoom_5 : decode cX6_hasRoom 5 = .ok (.iaload, 1) := by decide +kernel
theorem dX6_hasRoom_6 : decode cX6_hasRoom 6 = .ok (.aload_n 0, 1) := by decide +kernel
theorem dX6_hasRoom_7 : decode cX6_hasRoom 7 = .ok (.getfield 59, 3) := by decide +kernel
theorem dX6_hasRoom_10 : decode cX6_hasRoom 10 = .ok (.getfield 101, 3) := by decide +kernel
theorem dX6_hasRoom_13 : decode cX6_hasRoom 13 = .ok (.iload_n 2, 1) := by decide +kernel
theorem dX6_hasRoom_14 : decode cX6_hasRoom 14 = .ok (.iaload, 1) := by decide +kernel
theorem dX6_hasRoom_15 : decode cX6_hasRoom 15 = .ok (.iadd, 1) := by decide +kernel
theorem dX6_hasRoom_16 : decode cX6_hasRoom 16 = .ok (.aload_n 0, 1) := by decide +kernel
theorem dX6_hasRoom_17 : decode cX6_hasRoom 17 = .ok (.getfield 59, 3) := by decide +kernel
theorem dX6_hasRoom_20 : decode cX6_hasRoom 20 = .ok (.getfield 104, 3) := by decide +kernel
theorem dX6_hasRoom_23 : decode cX6_hasRoom 23 = .ok (.iload_n 1, 1) := by decide +kernel
theorem dX6_hasRoom_24 : decode cX6_hasRoom 24 = .ok (.iaload, 1) := by decide +kernel
theorem dX6_hasRoom_25 : decode cX6_hasRoom 25 = .ok (.if_icmp .gt 7, 3) := by decide +kernel
theorem dX6_hasRoom_28 : decode cX6_hasRoom 28 = .ok (.iconst 1, 1) := by decide +kernel
theorem dX6_hasRoom_29 : decode cX6_hasRoom 29 = .ok (.goto 4, 3) := by decide +kernel
theorem dX6_hasRoom_32 : decode cX6_hasRoom 32 = .ok (.iconst 0, 1) := by decide +kernel
theorem dX6_hasRoom_33 : decode cX6_hasRoom 33 = .ok (.ireturn, 1) := by decide +kernel
theorem dX6_isRack_0 : decode cX6_isRack 0 = .ok (.aload_n 0, 1) := by decide +kernel
theorem dX6_isRack_1 : decode cX6_isRack 1 = .ok (.getfield 59, 3) := by decide +kernel
theorem dX6_isRack_4 : decode cX6_isRack 4 = .ok (.getfield 107, 3) := by decide +kernel
theorem dX6_isRack_7 : decode cX6_isRack 7 = .ok (.iload_n 1, 1) := by decide +kernel
theorem dX6_isRack_8 : decode cX6_isRack 8 = .ok (.iaload, 1) := by decide +kernel
theorem dX6_isRack_9 : decode cX6_isRack 9 = .ok (.ifCond .eq 16, 3) := by decide +kernel
theorem dX6_isRack_12 : decode cX6_isRack 12 = .ok (.aload_n 0, 1) := by decide +kernel
theorem dX6_isRack_13 : decode cX6_isRack 13 = .ok (.getfield 59, 3) := by decide +kernel
theorem dX6_isRack_16 : decode cX6_isRack 16 = .ok (.getfield 107, 3) := by decide +kernel
theorem dX6_isRack_19 : decode cX6_isRack 19 = .ok (.iload_n 1, 1) := by decide +kernel
theorem dX6_isRack_20 : decode cX6_isRack 20 = .ok (.iaload, 1) := by decide +kernel
theorem dX6_isRack_21 : decode cX6_isRack 21 = .ok (.iconst 1, 1) := by decide +kernel
theorem dX6_isRack_22 : decode cX6_isRack 22 = .ok (.if_icmp .ne 7, 3) := by decide +kernel
theorem dX6_isRack_25 : decode cX6_isRack 25 = .ok (.iconst 1, 1) := by decide +kernel
theorem dX6_isRack_26 : decode cX6_isRack 26 = .ok (.goto 4, 3) := by decide +kernel
theorem dX6_isRack_29 : decode cX6_isRack 29 = .ok (.iconst 0, 1) := by decide +kernel
theorem dX6_isRack_30 : decode cX6_isRack 30 = .ok (.ireturn, 1) := by decide +kernel
theorem dX6_piecesThatAre_0 : decode cX6_piecesThatAre 0 = .ok (.iconst 0, 1) := by decide +kernel
theorem dX6_piecesThatAre_1 : decode cX6_piecesThatAre 1 = .ok (.istore_n 2, 1) := by decide +kernel
theorem dX6_piecesThatAre_2 : decode cX6_piecesThatAre 2 = .ok (.iconst 0, 1) := by decide +kernel
theorem dX6_piecesThatAre_3 : decode cX6_piecesThatAre 3 = .ok (.istore_n 3, 1) := by decide +kernel
theorem dX6_piecesThatAre_4 : decode cX6_piecesThatAre 4 = .ok (.iload_n 3, 1) := by decide +kernel
theorem dX6_piecesThatAre_5 : decode cX6_piecesThatAre 5 = .ok (.aload_n 0, 1) := by decide +kernel
theorem dX6_piecesThatAre_6 : decode cX6_piecesThatAre 6 = .ok (.getfield 59, 3) := by decide +kernel
theorem dX6_piecesThatAre_9 : decode cX6_piecesThatAre 9 = .ok (.getfield 110, 3) := by decide +kernel
theorem dX6_piecesThatAre_12 : decode cX6_piecesThatAre 12 = .ok (.if_icmp .ge 22, 3) := by decide +kernel
theorem dX6_piecesThatAre_15 : decode cX6_piecesThatAre 15 = .ok (.aload_n 0, 1) := by decide +kernel
theorem dX6_piecesThatAre_16 : decode cX6_piecesThatAre 16 = .ok (.getfield 27, 3) := by decide +kernel
theorem dX6_piecesThatAre_19 : decode cX6_piecesThatAre 19 = .ok (.iload_n 3, 1) := by decide +kernel
theorem dX6_piecesThatAre_20 : decode cX6_piecesThatAre 20 = .ok (.iaload, 1) := by decide +kernel
theorem dX6_piecesThatAre_21 : decode cX6_piecesThatAre 21 = .ok (.iload_n 1, 1) := by decide +kernel
theorem dX6_piecesThatAre_22 : decode cX6_piecesThatAre 22 = .ok (.if_icmp .ne 6, 3) := by decide +kernel
theorem dX6_piecesThatAre_25 : decode cX6_piecesThatAre 25 = .ok (.iinc 2 1, 3) := by decide +kernel
theorem dX6_piecesThatAre_28 : decode cX6_piecesThatAre 28 = .ok (.iinc 3 1, 3) := by decide +kernel
theorem dX6_piecesThatAre_31 : decode cX6_piecesThatAre 31 = .ok (.goto (-27), 3) := by decide +kernel
theorem dX6_piecesThatAre_34 : decode cX6_piecesThatAre 34 = .ok (.iload_n 2, 1) := by decide +kernel
theorem dX6_piecesThatAre_35 : decode cX6_piecesThatAre 35 = .ok (.ireturn, 1) := by decide +kernel
theorem dX6_personsAboard_0 : decode cX6_personsAboard 0 = .ok (.iconst 0, 1) := by decide +kernel
theorem dX6_personsAboard_1 : decode cX6_personsAboard 1 = .ok (.istore_n 1, 1) := by decide +kernel
theorem dX6_personsAboard_2 : decode cX6_personsAboard 2 = .ok (.iconst 0, 1) := by decide +kernel
theorem dX6_personsAboard_3 : decode cX6_personsAboard 3 = .ok (.istore_n 2, 1) := by decide +kernel
theorem dX6_personsAboard_4 : decode cX6_personsAboard 4 = .ok (.iload_n 2, 1) := by decide +kernel
theorem dX6_personsAboard_5 : decode cX6_personsAboard 5 = .ok (.aload_n 0, 1) := by decide +kernel
theorem dX6_personsAboard_6 : decode cX6_personsAboard 6 = .ok (.getfield 59, 3) := by decide +kernel
theorem dX6_personsAboard_9 : decode cX6_personsAboard 9 = .ok (.getfield 113, 3) := by decide +kernel
theorem dX6_personsAboard_12 : decode cX6_personsAboard 12 = .ok (.if_icmp .ge 22, 3) := by decide +kernel
theorem dX6_personsAboard_15 : decode cX6_personsAboard 15 = .ok (.aload_n 0, 1) := by decide +kernel
theorem dX6_personsAboard_16 : decode cX6_personsAboard 16 = .ok (.getfield 18, 3) := by decide +kernel
theorem dX6_personsAboard_19 : decode cX6_personsAboard 19 = .ok (.iload_n 2, 1) := by decide +kernel
theorem dX6_personsAboard_20 : decode cX6_personsAboard 20 = .ok (.iaload, 1) := by decide +kernel
theorem dX6_personsAboard_21 : decode cX6_personsAboard 21 = .ok (.iconst 1, 1) := by decide +kernel
theorem dX6_personsAboard_22 : decode cX6_personsAboard 22 = .ok (.if_icmp .ne 6, 3) := by decide +kernel
theorem dX6_personsAboard_25 : decode cX6_personsAboard 25 = .ok (.iinc 1 1, 3) := by decide +kernel
theorem dX6_personsAboard_28 : decode cX6_personsAboard 28 = .ok (.iinc 2 1, 3) := by decide +kernel
theorem dX6_personsAboard_31 : decode cX6_personsAboard 31 = .ok (.goto (-27), 3) := by decide +kernel
theorem dX6_personsAboard_34 : decode cX6_personsAboard 34 = .ok (.iload_n 1, 1) := by decide +kernel
theorem dX6_personsAboard_35 : decode cX6_personsAboard 35 = .ok (.ireturn, 1) := by decide +kernel
theorem dX6_firstLate_0 : decode cX6_firstLate 0 = .ok (.iconst 0, 1) := by decide +kernel
theorem dX6_firstLate_1 : decode cX6_firstLate 1 = .ok (.istore_n 1, 1) := by decide +kernel
theorem dX6_firstLate_2 : decode cX6_firstLate 2 = .ok (.iload_n 1, 1) := by decide +kernel
theorem dX6_firstLate_3 : decode cX6_firstLate 3 = .ok (.aload_n 0, 1) := by decide +kernel
theorem dX6_firstLate_4 : decode cX6_firstLate 4 = .ok (.getfield 59, 3) := by decide +kernel
theorem dX6_firstLate_7 : decode cX6_firstLate 7 = .ok (.getfield 113, 3) := by decide +kernel
theorem dX6_firstLate_10 : decode cX6_firstLate 10 = .ok (.if_icmp .ge 37, 3) := by decide +kernel
theorem dX6_firstLate_13 : decode cX6_firstLate 13 = .ok (.aload_n 0, 1) := by decide +kernel
theorem dX6_firstLate_14 : decode cX6_firstLate 14 = .ok (.getfield 18, 3) := by decide +kernel
theorem dX6_firstLate_17 : decode cX6_firstLate 17 = .ok (.iload_n 1, 1) := by decide +kernel
theorem dX6_firstLate_18 : decode cX6_firstLate 18 = .ok (.iaload, 1) := by decide +kernel
theorem dX6_firstLate_19 : decode cX6_firstLate 19 = .ok (.iconst 1, 1) := by decide +kernel
theorem dX6_firstLate_20 : decode cX6_firstLate 20 = .ok (.if_icmp .ne 21, 3) := by decide +kernel
theorem dX6_firstLate_23 : decode cX6_firstLate 23 = .ok (.aload_n 0, 1) := by decide +kernel
theorem dX6_firstLate_24 : decode cX6_firstLate 24 = .ok (.getfield 59, 3) := by decide +kernel
theorem dX6_firstLate_27 : decode cX6_firstLate 27 = .ok (.getfield 116, 3) := by decide +kernel
theorem dX6_firstLate_30 : decode cX6_firstLate 30 = .ok (.iload_n 1, 1) := by decide +kernel
theorem dX6_firstLate_31 : decode cX6_firstLate 31 = .ok (.iaload, 1) := by decide +kernel
theorem dX6_firstLate_32 : decode cX6_firstLate 32 = .ok (.aload_n 0, 1) := by decide +kernel
theorem dX6_firstLate_33 : decode cX6_firstLate 33 = .ok (.getfield 63, 3) := by decide +kernel
theorem dX6_firstLate_36 : decode cX6_firstLate 36 = .ok (.if_icmp .ne 5, 3) := by decide +kernel
theorem dX6_firstLate_39 : decode cX6_firstLate 39 = .ok (.iload_n 1, 1) := by decide +kernel
theorem dX6_firstLate_40 : decode cX6_firstLate 40 = .ok (.ireturn, 1) := by decide +kernel
theorem dX6_firstLate_41 : decode cX6_firstLate 41 = .ok (.iinc 1 1, 3) := by decide +kernel
theorem dX6_firstLate_44 : decode cX6_firstLate 44 = .ok (.goto (-42), 3) := by decide +kernel
theorem dX6_firstLate_47 : decode cX6_firstLate 47 = .ok (.iconst (-1), 1) := by decide +kernel
theorem dX6_firstLate_48 : decode cX6_firstLate 48 = .ok (.ireturn, 1) := by decide +kernel
theorem dX6_hasPlaced_0 : decode cX6_hasPlaced 0 = .ok (.iconst 0, 1) := by decide +kernel
theorem dX6_hasPlaced_1 : decode cX6_hasPlaced 1 = .ok (.istore_n 2, 1) := by decide +kernel
theorem dX6_hasPlaced_2 : decode cX6_hasPlaced 2 = .ok (.iload_n 2, 1) := by decide +kernel
theorem dX6_hasPlaced_3 : decode cX6_hasPlaced 3 = .ok (.aload_n 0, 1) := by decide +kernel
theorem dX6_hasPlaced_4 : decode cX6_hasPlaced 4 = .ok (.getfield 59, 3) := by decide +kernel
theorem dX6_hasPlaced_7 : decode cX6_hasPlaced 7 = .ok (.getfield 110, 3) := by decide +kernel
theorem dX6_hasPlaced_10 : decode cX6_hasPlaced 10 = .ok (.if_icmp .ge 34, 3) := by decide +kernel
theorem dX6_hasPlaced_13 : decode cX6_hasPlaced 13 = .ok (.aload_n 0, 1) := by decide +kernel
theorem dX6_hasPlaced_14 : decode cX6_hasPlaced 14 = .ok (.getfield 59, 3) := by decide +kernel
theorem dX6_hasPlaced_17 : decode cX6_hasPlaced 17 = .ok (.getfield 119, 3) := by decide +kernel
theorem dX6_hasPlaced_20 : decode cX6_hasPlaced 20 = .ok (.iload_n 2, 1) := by decide +kernel
theorem dX6_hasPlaced_21 : decode cX6_hasPlaced 21 = .ok (.iaload, 1) := by decide +kernel
theorem dX6_hasPlaced_22 : decode cX6_hasPlaced 22 = .ok (.iload_n 1, 1) := by decide +kernel
theorem dX6_hasPlaced_23 : decode cX6_hasPlaced 23 = .ok (.if_icmp .ne 15, 3) := by decide +kernel
theorem dX6_hasPlaced_26 : decode cX6_hasPlaced 26 = .ok (.aload_n 0, 1) := by decide +kernel
theorem dX6_hasPlaced_27 : decode cX6_hasPlaced 27 = .ok (.getfield 27, 3) := by decide +kernel
theorem dX6_hasPlaced_30 : decode cX6_hasPlaced 30 = .ok (.iload_n 2, 1) := by decide +kernel
theorem dX6_hasPlaced_31 : decode cX6_hasPlaced 31 = .ok (.iaload, 1) := by decide +kernel
theorem dX6_hasPlaced_32 : decode cX6_hasPlaced 32 = .ok (.iconst 1, 1) := by decide +kernel
theorem dX6_hasPlaced_33 : decode cX6_hasPlaced 33 = .ok (.if_icmp .ne 5, 3) := by decide +kernel
theorem dX6_hasPlaced_36 : decode cX6_hasPlaced 36 = .ok (.iconst 1, 1) := by decide +kernel
theorem dX6_hasPlaced_37 : decode cX6_hasPlaced 37 = .ok (.ireturn, 1) := by decide +kernel
theorem dX6_hasPlaced_38 : decode cX6_hasPlaced 38 = .ok (.iinc 2 1, 3) := by decide +kernel
theorem dX6_hasPlaced_41 : decode cX6_hasPlaced 41 = .ok (.goto (-39), 3) := by decide +kernel
theorem dX6_hasPlaced_44 : decode cX6_hasPlaced 44 = .ok (.iconst 0, 1) := by decide +kernel
theorem dX6_hasPlaced_45 : decode cX6_hasPlaced 45 = .ok (.ireturn, 1) := by decide +kernel
theorem dX6_isBusy_0 : decode cX6_isBusy 0 = .ok (.iconst 0, 1) := by decide +kernel
theorem dX6_isBusy_1 : decode cX6_isBusy 1 = .ok (.istore_n 1, 1) := by decide +kernel
theorem dX6_isBusy_2 : decode cX6_isBusy 2 = .ok (.iload_n 1, 1) := by decide +kernel
theorem dX6_isBusy_3 : decode cX6_isBusy 3 = .ok (.aload_n 0, 1) := by decide +kernel
theorem dX6_isBusy_4 : decode cX6_isBusy 4 = .ok (.getfield 59, 3) := by decide +kernel
theorem dX6_isBusy_7 : decode cX6_isBusy 7 = .ok (.getfield 113, 3) := by decide +kernel
theorem dX6_isBusy_10 : decode cX6_isBusy 10 = .ok (.if_icmp .ge 21, 3) := by decide +kernel
theorem dX6_isBusy_13 : decode cX6_isBusy 13 = .ok (.aload_n 0, 1) := by decide +kernel
theorem dX6_isBusy_14 : decode cX6_isBusy 14 = .ok (.getfield 18, 3) := by decide +kernel
theorem dX6_isBusy_17 : decode cX6_isBusy 17 = .ok (.iload_n 1, 1) := by decide +kernel
theorem dX6_isBusy_18 : decode cX6_isBusy 18 = .ok (.iaload, 1) := by decide +kernel
theorem dX6_isBusy_19 : decode cX6_isBusy 19 = .ok (.iconst 2, 1) := by decide +kernel
theorem dX6_isBusy_20 : decode cX6_isBusy 20 = .ok (.if_icmp .eq 5, 3) := by decide +kernel
theorem dX6_isBusy_23 : decode cX6_isBusy 23 = .ok (.iconst 1, 1) := by decide +kernel
theorem dX6_isBusy_24 : decode cX6_isBusy 24 = .ok (.ireturn, 1) := by decide +kernel
theorem dX6_isBusy_25 : decode cX6_isBusy 25 = .ok (.iinc 1 1, 3) := by decide +kernel
theorem dX6_isBusy_28 : decode cX6_isBusy 28 = .ok (.goto (-26), 3) := by decide +kernel
theorem dX6_isBusy_31 : decode cX6_isBusy 31 = .ok (.iconst 0, 1) := by decide +kernel
theorem dX6_isBusy_32 : decode cX6_isBusy 32 = .ok (.ireturn, 1) := by decide +kernel
theorem dX6_worked_0 : decode cX6_worked 0 = .ok (.aload_n 0, 1) := by decide +kernel
theorem dX6_worked_1 : decode cX6_worked 1 = .ok (.getfield 30, 3) := by decide +kernel
theorem dX6_worked_4 : decode cX6_worked 4 = .ok (.iload_n 2, 1) := by decide +kernel
theorem dX6_worked_5 : decode cX6_worked 5 = .ok (.iaload, 1) := by decide +kernel
theorem dX6_worked_6 : decode cX6_worked 6 = .ok (.istore 4, 2) := by decide +kernel
theorem dX6_worked_8 : decode cX6_worked 8 = .ok (.aload_n 0, 1) := by decide +kernel
theorem dX6_worked_9 : decode cX6_worked 9 = .ok (.getfield 59, 3) := by decide +kernel
theorem dX6_worked_12 : decode cX6_worked 12 = .ok (.getfield 122, 3) := by decide +kernel
theorem dX6_worked_15 : decode cX6_worked 15 = .ok (.iload_n 1, 1) := by decide +kernel
theorem dX6_worked_16 : decode cX6_worked 16 = .ok (.aaload, 1) := by decide +kernel
theorem dX6_worked_17 : decode cX6_worked 17 = .ok (.astore 5, 2) := by decide +kernel
theorem dX6_worked_19 : decode cX6_worked 19 = .ok (.aload 5, 2) := by decide +kernel
theorem dX6_worked_21 : decode cX6_worked 21 = .ok (.getfield 126, 3) := by decide +kernel
theorem dX6_worked_24 : decode cX6_worked 24 = .ok (.ifCond .eq 8, 3) := by decide +kernel
theorem dX6_worked_27 : decode cX6_worked 27 = .ok (.iload 4, 2) := by decide +kernel
theorem dX6_worked_29 : decode cX6_worked 29 = .ok (.ifCond .ge 7, 3) := by decide +kernel
theorem dX6_worked_32 : decode cX6_worked 32 = .ok (.ldc2_w 131, 3) := by decide +kernel
theorem dX6_worked_35 : decode cX6_worked 35 = .ok (.lreturn, 1) := by decide +kernel
theorem dX6_worked_36 : decode cX6_worked 36 = .ok (.aload_n 0, 1) := by decide +kernel
theorem dX6_worked_37 : decode cX6_worked 37 = .ok (.getfield 42, 3) := by decide +kernel
theorem dX6_worked_40 : decode cX6_worked 40 = .ok (.iconst 0, 1) := by decide +kernel
theorem dX6_worked_41 : decode cX6_worked 41 = .ok (.aload_n 0, 1) := by decide +kernel
theorem dX6_worked_42 : decode cX6_worked 42 = .ok (.getfield 59, 3) := by decide +kernel
theorem dX6_worked_45 : decode cX6_worked 45 = .ok (.getfield 101, 3) := by decide +kernel
theorem dX6_worked_48 : decode cX6_worked 48 = .ok (.iload_n 2, 1) := by decide +kernel
theorem dX6_worked_49 : decode cX6_worked 49 = .ok (.iaload, 1) := by decide +kernel
theorem dX6_worked_50 : decode cX6_worked 50 = .ok (.iastore, 1) := by decide +kernel
theorem dX6_worked_51 : decode cX6_worked 51 = .ok (.aload_n 0, 1) := by decide +kernel
theorem dX6_worked_52 : decode cX6_worked 52 = .ok (.getfield 42, 3) := by decide +kernel
theorem dX6_worked_55 : decode cX6_worked 55 = .ok (.iconst 1, 1) := by decide +kernel
theorem dX6_worked_56 : decode cX6_worked 56 = .ok (.aload_n 0, 1) := by decide +kernel
theorem dX6_worked_57 : decode cX6_worked 57 = .ok (.getfield 59, 3) := by decide +kernel
theorem dX6_worked_60 : decode cX6_worked 60 = .ok (.getfield 133, 3) := by decide +kernel
theorem dX6_worked_63 : decode cX6_worked 63 = .ok (.iload_n 2, 1) := by decide +kernel
theorem dX6_worked_64 : decode cX6_worked 64 = .ok (.iaload, 1) := by decide +kernel
theorem dX6_worked_65 : decode cX6_worked 65 = .ok (.iastore, 1) := by decide +kernel
theorem dX6_worked_66 : decode cX6_worked 66 = .ok (.aload_n 0, 1) := by decide +kernel
theorem dX6_worked_67 : decode cX6_worked 67 = .ok (.getfield 42, 3) := by decide +kernel
theorem dX6_worked_70 : decode cX6_worked 70 = .ok (.iconst 2, 1) := by decide +kernel
theorem dX6_worked_71 : decode cX6_worked 71 = .ok (.aload_n 0, 1) := by decide +kernel
theorem dX6_worked_72 : decode cX6_worked 72 = .ok (.getfield 36, 3) := by decide +kernel
theorem dX6_worked_75 : decode cX6_worked 75 = .ok (.iload 4, 2) := by decide +kernel
theorem dX6_worked_77 : decode cX6_worked 77 = .ok (.iaload, 1) := by decide +kernel
theorem dX6_worked_78 : decode cX6_worked 78 = .ok (.iconst 1, 1) := by decide +kernel
theorem dX6_worked_79 : decode cX6_worked 79 = .ok (.isub, 1) := by decide +kernel
theorem dX6_worked_80 : decode cX6_worked 80 = .ok (.aload_n 0, 1) := by decide +kernel
theorem dX6_worked_81 : decode cX6_worked 81 = .ok (.iload_n 2, 1) := by decide +kernel
theorem dX6_worked_82 : decode cX6_worked 82 = .ok (.invokevirtual 97, 3) := by decide +kernel
theorem dX6_worked_85 : decode cX6_worked 85 = .ok (.isub, 1) := by decide +kernel
theorem dX6_worked_86 : decode cX6_worked 86 = .ok (.iastore, 1) := by decide +kernel
theorem dX6_worked_87 : decode cX6_worked 87 = .ok (.aload_n 0, 1) := by decide +kernel
theorem dX6_worked_88 : decode cX6_worked 88 = .ok (.getfield 42, 3) := by decide +kernel
theorem dX6_worked_91 : decode cX6_worked 91 = .ok (.iconst 3, 1) := by decide +kernel
theorem dX6_worked_92 : decode cX6_worked 92 = .ok (.aload_n 0, 1) := by decide +kernel
theorem dX6_worked_93 : decode cX6_worked 93 = .ok (.getfield 59, 3) := by decide +kernel
theorem dX6_worked_96 : decode cX6_worked 96 = .ok (.getfield 107, 3) := by decide +kernel
theorem dX6_worked_99 : decode cX6_worked 99 = .ok (.iload 4, 2) := by decide +kernel
theorem dX6_worked_101 : decode cX6_worked 101 = .ok (.iaload, 1) := by decide +kernel
theorem dX6_worked_102 : decode cX6_worked 102 = .ok (.iastore, 1) := by decide +kernel
theorem dX6_worked_103 : decode cX6_worked 103 = .ok (.aload_n 0, 1) := by decide +kernel
theorem dX6_worked_104 : decode cX6_worked 104 = .ok (.getfield 42, 3) := by decide +kernel
theorem dX6_worked_107 : decode cX6_worked 107 = .ok (.iconst 4, 1) := by decide +kernel
theorem dX6_worked_108 : decode cX6_worked 108 = .ok (.iload_n 3, 1) := by decide +kernel
theorem dX6_worked_109 : decode cX6_worked 109 = .ok (.iastore, 1) := by decide +kernel
theorem dX6_worked_110 : decode cX6_worked 110 = .ok (.aload_n 0, 1) := by decide +kernel
theorem dX6_worked_111 : decode cX6_worked 111 = .ok (.getfield 42, 3) := by decide +kernel
theorem dX6_worked_114 : decode cX6_worked 114 = .ok (.iconst 5, 1) := by decide +kernel
theorem dX6_worked_115 : decode cX6_worked 115 = .ok (.aload_n 0, 1) := by decide +kernel
theorem dX6_worked_116 : decode cX6_worked 116 = .ok (.getfield 63, 3) := by decide +kernel
theorem dX6_worked_119 : decode cX6_worked 119 = .ok (.iastore, 1) := by decide +kernel
theorem dX6_worked_120 : decode cX6_worked 120 = .ok (.aload_n 0, 1) := by decide +kernel
theorem dX6_worked_121 : decode cX6_worked 121 = .ok (.getfield 42, 3) := by decide +kernel
theorem dX6_worked_124 : decode cX6_worked 124 = .ok (.bipush 6, 2) := by decide +kernel
theorem dX6_worked_126 : decode cX6_worked 126 = .ok (.aload_n 0, 1) := by decide +kernel
theorem dX6_worked_127 : decode cX6_worked 127 = .ok (.getfield 39, 3) := by decide +kernel
theorem dX6_worked_130 : decode cX6_worked 130 = .ok (.iload 4, 2) := by decide +kernel
theorem dX6_worked_132 : decode cX6_worked 132 = .ok (.iaload, 1) := by decide +kernel
theorem dX6_worked_133 : decode cX6_worked 133 = .ok (.iastore, 1) := by decide +kernel
theorem dX6_worked_134 : decode cX6_worked 134 = .ok (.aload 5, 2) := by decide +kernel
theorem dX6_worked_136 : decode cX6_worked 136 = .ok (.aload_n 0, 1) := by decide +kernel
theorem dX6_worked_137 : decode cX6_worked 137 = .ok (.getfield 42, 3) := by decide +kernel
theorem dX6_worked_140 : decode cX6_worked 140 = .ok (.invokevirtual 136, 3) := by decide +kernel
theorem dX6_worked_143 : decode cX6_worked 143 = .ok (.lreturn, 1) := by decide +kernel
theorem dX6_within_0 : decode cX6_within 0 = .ok (.lload_n 0, 1) := by decide +kernel
theorem dX6_within_1 : decode cX6_within 1 = .ok (.lconst 0, 1) := by decide +kernel
theorem dX6_within_2 : decode cX6_within 2 = .ok (.lcmp, 1) := by decide +kernel
theorem dX6_within_3 : decode cX6_within 3 = .ok (.ifCond .ge 7, 3) := by decide +kernel
theorem dX6_within_6 : decode cX6_within 6 = .ok (.iconst 0, 1) := by decide +kernel
theorem dX6_within_7 : decode cX6_within 7 = .ok (.goto 16, 3) := by decide +kernel
theorem dX6_within_10 : decode cX6_within 10 = .ok (.lload_n 0, 1) := by decide +kernel
theorem dX6_within_11 : decode cX6_within 11 = .ok (.iload_n 2, 1) := by decide +kernel
theorem dX6_within_12 : decode cX6_within 12 = .ok (.i2l, 1) := by decide +kernel
theorem dX6_within_13 : decode cX6_within 13 = .ok (.lcmp, 1) := by decide +kernel
theorem dX6_within_14 : decode cX6_within 14 = .ok (.ifCond .le 7, 3) := by decide +kernel
theorem dX6_within_17 : decode cX6_within 17 = .ok (.iload_n 2, 1) := by decide +kernel
theorem dX6_within_18 : decode cX6_within 18 = .ok (.goto 5, 3) := by decide +kernel
theorem dX6_within_21 : decode cX6_within 21 = .ok (.lload_n 0, 1) := by decide +kernel
theorem dX6_within_22 : decode cX6_within 22 = .ok (.l2i, 1) := by decide +kernel
theorem dX6_within_23 : decode cX6_within 23 = .ok (.ireturn, 1) := by decide +kernel
theorem dX6_secondsFor_0 : decode cX6_secondsFor 0 = .ok (.aload_n 0, 1) := by decide +kernel
theorem dX6_secondsFor_1 : decode cX6_secondsFor 1 = .ok (.iload_n 1, 1) := by decide +kernel
theorem dX6_secondsFor_2 : decode cX6_secondsFor 2 = .ok (.invokevirtual 97, 3) := by decide +kernel
theorem dX6_secondsFor_5 : decode cX6_secondsFor 5 = .ok (.istore_n 3, 1) := by decide +kernel
theorem dX6_secondsFor_6 : decode cX6_secondsFor 6 = .ok (.iload_n 3, 1) := by decide +kernel
theorem dX6_secondsFor_7 : decode cX6_secondsFor 7 = .ok (.ifCond .ge 5, 3) := by decide +kernel
theorem dX6_secondsFor_10 : decode cX6_secondsFor 10 = .ok (.iconst 0, 1) := by decide +kernel
theorem dX6_secondsFor_11 : decode cX6_secondsFor 11 = .ok (.ireturn, 1) := by decide +kernel
theorem dX6_secondsFor_12 : decode cX6_secondsFor 12 = .ok (.aload_n 0, 1) := by decide +kernel
theorem dX6_secondsFor_13 : decode cX6_secondsFor 13 = .ok (.getfield 30, 3) := by decide +kernel
theorem dX6_secondsFor_16 : decode cX6_secondsFor 16 = .ok (.iload_n 1, 1) := by decide +kernel
theorem dX6_secondsFor_17 : decode cX6_secondsFor 17 = .ok (.iaload, 1) := by decide +kernel
theorem dX6_secondsFor_18 : decode cX6_secondsFor 18 = .ok (.istore 4, 2) := by decide +kernel
theorem dX6_secondsFor_20 : decode cX6_secondsFor 20 = .ok (.iconst 0, 1) := by decide +kernel
theorem dX6_secondsFor_21 : decode cX6_secondsFor 21 = .ok (.istore 5, 2) := by decide +kernel
theorem dX6_secondsFor_23 : decode cX6_secondsFor 23 = .ok (.iload_n 3, 1) := by decide +kernel
theorem dX6_secondsFor_24 : decode cX6_secondsFor 24 = .ok (.istore 6, 2) := by decide +kernel
theorem dX6_secondsFor_26 : decode cX6_secondsFor 26 = .ok (.iload 6, 2) := by decide +kernel
theorem dX6_secondsFor_28 : decode cX6_secondsFor 28 = .ok (.aload_n 0, 1) := by decide +kernel
theorem dX6_secondsFor_29 : decode cX6_secondsFor 29 = .ok (.getfield 36, 3) := by decide +kernel
theorem dX6_secondsFor_32 : decode cX6_secondsFor 32 = .ok (.iload 4, 2) := by decide +kernel
theorem dX6_secondsFor_34 : decode cX6_secondsFor 34 = .ok (.iaload, 1) := by decide +kernel
theorem dX6_secondsFor_35 : decode cX6_secondsFor 35 = .ok (.if_icmp .ge 81, 3) := by decide +kernel
theorem dX6_secondsFor_38 : decode cX6_secondsFor 38 = .ok (.aload_n 0, 1) := by decide +kernel
theorem dX6_secondsFor_39 : decode cX6_secondsFor 39 = .ok (.getfield 33, 3) := by decide +kernel
theorem dX6_secondsFor_42 : decode cX6_secondsFor 42 = .ok (.iload 4, 2) := by decide +kernel
theorem dX6_secondsFor_44 : decode cX6_secondsFor 44 = .ok (.bipush 10, 2) := by decide +kernel
theorem dX6_secondsFor_46 : decode cX6_secondsFor 46 = .ok (.imul, 1) := by decide +kernel
theorem dX6_secondsFor_47 : decode cX6_secondsFor 47 = .ok (.iload 6, 2) := by decide +kernel
theorem dX6_secondsFor_49 : decode cX6_secondsFor 49 = .ok (.iadd, 1) := by decide +kernel
theorem dX6_secondsFor_50 : decode cX6_secondsFor 50 = .ok (.iaload, 1) := by decide +kernel
theorem dX6_secondsFor_51 : decode cX6_secondsFor 51 = .ok (.istore 7, 2) := by decide +kernel
theorem dX6_secondsFor_53 : decode cX6_secondsFor 53 = .ok (.aload_n 0, 1) := by decide +kernel
theorem dX6_secondsFor_54 : decode cX6_secondsFor 54 = .ok (.iconst 0, 1) := by decide +kernel
theorem dX6_secondsFor_55 : decode cX6_secondsFor 55 = .ok (.iload 7, 2) := by decide +kernel
theorem dX6_secondsFor_57 : decode cX6_secondsFor 57 = .ok (.iload_n 2, 1) := by decide +kernel
theorem dX6_secondsFor_58 : decode cX6_secondsFor 58 = .ok (.invokevirtual 140, 3) := by decide +kernel
theorem dX6_secondsFor_61 : decode cX6_secondsFor 61 = .ok (.lstore 8, 2) := by decide +kernel
theorem dX6_secondsFor_63 : decode cX6_secondsFor 63 = .ok (.lload 8, 2) := by decide +kernel
theorem dX6_secondsFor_65 : decode cX6_secondsFor 65 = .ok (.ldc2_w 131, 3) := by decide +kernel
theorem dX6_secondsFor_68 : decode cX6_secondsFor 68 = .ok (.lcmp, 1) := by decide +kernel
theorem dX6_secondsFor_69 : decode cX6_secondsFor 69 = .ok (.ifCond .eq 18, 3) := by decide +kernel
theorem dX6_secondsFor_72 : decode cX6_secondsFor 72 = .ok (.iload 5, 2) := by decide +kernel
theorem dX6_secondsFor_74 : decode cX6_secondsFor 74 = .ok (.lload 8, 2) := by decide +kernel
theorem dX6_secondsFor_76 : decode cX6_secondsFor 76 = .ok (.bipush 99, 2) := by decide +kernel
theorem dX6_secondsFor_78 : decode cX6_secondsFor 78 = .ok (.invokestatic 144, 3) := by decide +kernel
theorem dX6_secondsFor_81 : decode cX6_secondsFor 81 = .ok (.iadd, 1) := by decide +kernel
theorem dX6_secondsFor_82 : decode cX6_secondsFor 82 = .ok (.istore 5, 2) := by decide +kernel
theorem dX6_secondsFor_84 : decode cX6_secondsFor 84 = .ok (.goto 26, 3) := by decide +kernel
theorem dX6_secondsFor_87 : decode cX6_secondsFor 87 = .ok (.iload_n 2, 1) := by decide +kernel
theorem dX6_secondsFor_88 : decode cX6_secondsFor 88 = .ok (.ifCond .le 22, 3) := by decide +kernel
theorem dX6_secondsFor_91 : decode cX6_secondsFor 91 = .ok (.iload 5, 2) := by decide +kernel
theorem dX6_secondsFor_93 : decode cX6_secondsFor 93 = .ok (.aload_n 0, 1) := by decide +kernel
theorem dX6_secondsFor_94 : decode cX6_secondsFor 94 = .ok (.getfield 59, 3) := by decide +kernel
theorem dX6_secondsFor_97 : decode cX6_secondsFor 97 = .ok (.getfield 101, 3) := by decide +kernel
theorem dX6_secondsFor_100 : decode cX6_secondsFor 100 = .ok (.iload 7, 2) := by decide +kernel
theorem dX6_secondsFor_102 : decode cX6_secondsFor 102 = .ok (.iaload, 1) := by decide +kernel
theorem dX6_secondsFor_103 : decode cX6_secondsFor 103 = .ok (.iload_n 2, 1) := by decide +kernel
theorem dX6_secondsFor_104 : decode cX6_secondsFor 104 = .ok (.idiv, 1) := by decide +kernel
theorem dX6_secondsFor_105 : decode cX6_secondsFor 105 = .ok (.iconst 1, 1) := by decide +kernel
theorem dX6_secondsFor_106 : decode cX6_secondsFor 106 = .ok (.iadd, 1) := by decide +kernel
theorem dX6_secondsFor_107 : decode cX6_secondsFor 107 = .ok (.iadd, 1) := by decide +kernel
theorem dX6_secondsFor_108 : decode cX6_secondsFor 108 = .ok (.istore 5, 2) := by decide +kernel
theorem dX6_secondsFor_110 : decode cX6_secondsFor 110 = .ok (.iinc 6 1, 3) := by decide +kernel
theorem dX6_secondsFor_113 : decode cX6_secondsFor 113 = .ok (.goto (-87), 3) := by decide +kernel
theorem dX6_secondsFor_116 : decode cX6_secondsFor 116 = .ok (.iload 5, 2) := by decide +kernel
theorem dX6_secondsFor_118 : decode cX6_secondsFor 118 = .ok (.ireturn, 1) := by decide +kernel
theorem dX6_fallPercent_0 : decode cX6_fallPercent 0 = .ok (.aload_n 0, 1) := by decide +kernel
theorem dX6_fallPercent_1 : decode cX6_fallPercent 1 = .ok (.iconst 1, 1) := by decide +kernel
theorem dX6_fallPercent_2 : decode cX6_fallPercent 2 = .ok (.iload_n 1, 1) := by decide +kernel
theorem dX6_fallPercent_3 : decode cX6_fallPercent 3 = .ok (.aload_n 0, 1) := by decide +kernel
theorem dX6_fallPercent_4 : decode cX6_fallPercent 4 = .ok (.getfield 15, 3) := by decide +kernel
theorem dX6_fallPercent_7 : decode cX6_fallPercent 7 = .ok (.aload_n 0, 1) := by decide +kernel
theorem dX6_fallPercent_8 : decode cX6_fallPercent 8 = .ok (.getfield 59, 3) := by decide +kernel
theorem dX6_fallPercent_11 : decode cX6_fallPercent 11 = .ok (.getfield 119, 3) := by decide +kernel
theorem dX6_fallPercent_14 : decode cX6_fallPercent 14 = .ok (.iload_n 1, 1) := by decide +kernel
theorem dX6_fallPercent_15 : decode cX6_fallPercent 15 = .ok (.iaload, 1) := by decide +kernel
theorem dX6_fallPercent_16 : decode cX6_fallPercent 16 = .ok (.iaload, 1) := by decide +kernel
theorem dX6_fallPercent_17 : decode cX6_fallPercent 17 = .ok (.invokevirtual 140, 3) := by decide +kernel
theorem dX6_fallPercent_20 : decode cX6_fallPercent 20 = .ok (.lstore_n 2, 1) := by decide +kernel
theorem dX6_fallPercent_21 : decode cX6_fallPercent 21 = .ok (.lload_n 2, 1) := by decide +kernel
theorem dX6_fallPercent_22 : decode cX6_fallPercent 22 = .ok (.ldc2_w 131, 3) := by decide +kernel
theorem dX6_fallPercent_25 : decode cX6_fallPercent 25 = .ok (.lcmp, 1) := by decide +kernel
theorem dX6_fallPercent_26 : decode cX6_fallPercent 26 = .ok (.ifCond .eq 7, 3) := by decide +kernel
theorem dX6_fallPercent_29 : decode cX6_fallPercent 29 = .ok (.lload_n 2, 1) := by decide +kernel
theorem dX6_fallPercent_30 : decode cX6_fallPercent 30 = .ok (.goto 27, 3) := by decide +kernel
theorem dX6_fallPercent_33 : decode cX6_fallPercent 33 = .ok (.aload_n 0, 1) := by decide +kernel
theorem dX6_fallPercent_34 : decode cX6_fallPercent 34 = .ok (.getfield 85, 3) := by decide +kernel
theorem dX6_fallPercent_37 : decode cX6_fallPercent 37 = .ok (.bipush 10, 2) := by decide +kernel
theorem dX6_fallPercent_39 : decode cX6_fallPercent 39 = .ok (.aload_n 0, 1) := by decide +kernel
theorem dX6_fallPercent_40 : decode cX6_fallPercent 40 = .ok (.iload_n 1, 1) := by decide +kernel
theorem dX6_fallPercent_41 : decode cX6_fallPercent 41 = .ok (.invokevirtual 97, 3) := by decide +kernel
theorem dX6_fallPercent_44 : decode cX6_fallPercent 44 = .ok (.imul, 1) := by decide +kernel
theorem dX6_fallPercent_45 : decode cX6_fallPercent 45 = .ok (.iadd, 1) := by decide +kernel
theorem dX6_fallPercent_46 : decode cX6_fallPercent 46 = .ok (.aload_n 0, 1) := by decide +kernel
theorem dX6_fallPercent_47 : decode cX6_fallPercent 47 = .ok (.getfield 59, 3) := by decide +kernel
theorem dX6_fallPercent_50 : decode cX6_fallPercent 50 = .ok (.getfield 101, 3) := by decide +kernel
theorem dX6_fallPercent_53 : decode cX6_fallPercent 53 = .ok (.iload_n 1, 1) := by decide +kernel
theorem dX6_fallPercent_54 : decode cX6_fallPercent 54 = .ok (.iaload, 1) := by decide +kernel
theorem dX6_fallPercent_55 : decode cX6_fallPercent 55 = .ok (.isub, 1) := by decide +kernel
theorem dX6_fallPercent_56 : decode cX6_fallPercent 56 = .ok (.i2l, 1) := by decide +kernel
theorem dX6_fallPercent_57 : decode cX6_fallPercent 57 = .ok (.bipush 100, 2) := by decide +kernel
theorem dX6_fallPercent_59 : decode cX6_fallPercent 59 = .ok (.invokestatic 144, 3) := by decide +kernel
theorem dX6_fallPercent_62 : decode cX6_fallPercent 62 = .ok (.ireturn, 1) := by decide +kernel
theorem dX6_stealPercent_0 : decode cX6_stealPercent 0 = .ok (.aload_n 0, 1) := by decide +kernel
theorem dX6_stealPercent_1 : decode cX6_stealPercent 1 = .ok (.iconst 2, 1) := by decide +kernel
theorem dX6_stealPercent_2 : decode cX6_stealPercent 2 = .ok (.iload_n 1, 1) := by decide +kernel
theorem dX6_stealPercent_3 : decode cX6_stealPercent 3 = .ok (.aload_n 0, 1) := by decide +kernel
theorem dX6_stealPercent_4 : decode cX6_stealPercent 4 = .ok (.getfield 15, 3) := by decide +kernel
theorem dX6_stealPercent_7 : decode cX6_stealPercent 7 = .ok (.aload_n 0, 1) := by decide +kernel
theorem dX6_stealPercent_8 : decode cX6_stealPercent 8 = .ok (.getfield 59, 3) := by decide +kernel
theorem dX6_stealPercent_11 : decode cX6_stealPercent 11 = .ok (.getfield 119, 3) := by decide +kernel
theorem dX6_stealPercent_14 : decode cX6_stealPercent 14 = .ok (.iload_n 1, 1) := by decide +kernel
theorem dX6_stealPercent_15 : decode cX6_stealPercent 15 = .ok (.iaload, 1) := by decide +kernel
theorem dX6_stealPercent_16 : decode cX6_stealPercent 16 = .ok (.iaload, 1) := by decide +kernel
theorem dX6_stealPercent_17 : decode cX6_stealPercent 17 = .ok (.invokevirtual 140, 3) := by decide +kernel
theorem dX6_stealPercent_20 : decode cX6_stealPercent 20 = .ok (.lstore_n 2, 1) := by decide +kernel
theorem dX6_stealPercent_21 : decode cX6_stealPercent 21 = .ok (.lload_n 2, 1) := by decide +kernel
theorem dX6_stealPercent_22 : decode cX6_stealPercent 22 = .ok (.ldc2_w 131, 3) := by decide +kernel
theorem dX6_stealPercent_25 : decode cX6_stealPercent 25 = .ok (.lcmp, 1) := by decide +kernel
theorem dX6_stealPercent_26 : decode cX6_stealPercent 26 = .ok (.ifCond .eq 12, 3) := by decide +kernel
theorem dX6_stealPercent_29 : decode cX6_stealPercent 29 = .ok (.lload_n 2, 1) := by decide +kernel
theorem dX6_stealPercent_30 : decode cX6_stealPercent 30 = .ok (.bipush 100, 2) := by decide +kernel
theorem dX6_stealPercent_32 : decode cX6_stealPercent 32 = .ok (.invokestatic 144, 3) := by decide +kernel
theorem dX6_stealPercent_35 : decode cX6_stealPercent 35 = .ok (.goto 5, 3) := by decide +kernel
theorem dX6_stealPercent_38 : decode cX6_stealPercent 38 = .ok (.bipush 10, 2) := by decide +kernel
theorem dX6_stealPercent_40 : decode cX6_stealPercent 40 = .ok (.ireturn, 1) := by decide +kernel
theorem dX6_happens_0 : decode cX6_happens 0 = .ok (.aload_n 0, 1) := by decide +kernel
theorem dX6_happens_1 : decode cX6_happens 1 = .ok (.getfield 49, 3) := by decide +kernel
theorem dX6_happens_4 : decode cX6_happens 4 = .ok (.ifCond .ne 15, 3) := by decide +kernel
theorem dX6_happens_7 : decode cX6_happens 7 = .ok (.iload_n 1, 1) := by decide +kernel
theorem dX6_happens_8 : decode cX6_happens 8 = .ok (.bipush 50, 2) := by decide +kernel
theorem dX6_happens_10 : decode cX6_happens 10 = .ok (.if_icmp .lt 7, 3) := by decide +kernel
theorem dX6_happens_13 : decode cX6_happens 13 = .ok (.iconst 1, 1) := by decide +kernel
theorem dX6_happens_14 : decode cX6_happens 14 = .ok (.goto 4, 3) := by decide +kernel
theorem dX6_happens_17 : decode cX6_happens 17 = .ok (.iconst 0, 1) := by decide +kernel
theorem dX6_happens_18 : decode cX6_happens 18 = .ok (.ireturn, 1) := by decide +kernel
theorem dX6_happens_19 : decode cX6_happens 19 = .ok (.aload_n 0, 1) := by decide +kernel
theorem dX6_happens_20 : decode cX6_happens 20 = .ok (.aload_n 0, 1) := by decide +kernel
theorem dX6_happens_21 : decode cX6_happens 21 = .ok (.getfield 75, 3) := by decide +kernel
theorem dX6_happens_24 : decode cX6_happens 24 = .ok (.ldc 148, 2) := by decide +kernel
theorem dX6_happens_26 : decode cX6_happens 26 = .ok (.imul, 1) := by decide +kernel
theorem dX6_happens_27 : decode cX6_happens 27 = .ok (.sipush 12345, 3) := by decide +kernel
theorem dX6_happens_30 : decode cX6_happens 30 = .ok (.iadd, 1) := by decide +kernel
theorem dX6_happens_31 : decode cX6_happens 31 = .ok (.ldc 151, 2) := by decide +kernel
theorem dX6_happens_33 : decode cX6_happens 33 = .ok (.iand, 1) := by decide +kernel
theorem dX6_happens_34 : decode cX6_happens 34 = .ok (.putfield 75, 3) := by decide +kernel
theorem dX6_happens_37 : decode cX6_happens 37 = .ok (.iload_n 1, 1) := by decide +kernel
theorem dX6_happens_38 : decode cX6_happens 38 = .ok (.aload_n 0, 1) := by decide +kernel
theorem dX6_happens_39 : decode cX6_happens 39 = .ok (.getfield 75, 3) := by decide +kernel
theorem dX6_happens_42 : decode cX6_happens 42 = .ok (.bipush 16, 2) := by decide +kernel
theorem dX6_happens_44 : decode cX6_happens 44 = .ok (.iushr, 1) := by decide +kernel
theorem dX6_happens_45 : decode cX6_happens 45 = .ok (.bipush 100, 2) := by decide +kernel
theorem dX6_happens_47 : decode cX6_happens 47 = .ok (.irem, 1) := by decide +kernel
theorem dX6_happens_48 : decode cX6_happens 48 = .ok (.if_icmp .le 7, 3) := by decide +kernel
theorem dX6_happens_51 : decode cX6_happens 51 = .ok (.iconst 1, 1) := by decide +kernel
theorem dX6_happens_52 : decode cX6_happens 52 = .ok (.goto 4, 3) := by decide +kernel
theorem dX6_happens_55 : decode cX6_happens 55 = .ok (.iconst 0, 1) := by decide +kernel
theorem dX6_happens_56 : decode cX6_happens 56 = .ok (.ireturn, 1) := by decide +kernel
theorem dX6_putOn_0 : decode cX6_putOn 0 = .ok (.aload_n 0, 1) := by decide +kernel
theorem dX6_putOn_1 : decode cX6_putOn 1 = .ok (.getfield 36, 3) := by decide +kernel
theorem dX6_putOn_4 : decode cX6_putOn 4 = .ok (.iload_n 1, 1) := by decide +kernel
theorem dX6_putOn_5 : decode cX6_putOn 5 = .ok (.iaload, 1) := by decide +kernel
theorem dX6_putOn_6 : decode cX6_putOn 6 = .ok (.istore_n 3, 1) := by decide +kernel
theorem dX6_putOn_7 : decode cX6_putOn 7 = .ok (.iload_n 3, 1) := by decide +kernel
theorem dX6_putOn_8 : decode cX6_putOn 8 = .ok (.bipush 10, 2) := by decide +kernel
theorem dX6_putOn_10 : decode cX6_putOn 10 = .ok (.if_icmp .ge 56, 3) := by decide +kernel
theorem dX6_putOn_13 : decode cX6_putOn 13 = .ok (.aload_n 0, 1) := by decide +kernel
theorem dX6_putOn_14 : decode cX6_putOn 14 = .ok (.getfield 33, 3) := by decide +kernel
theorem dX6_putOn_17 : decode cX6_putOn 17 = .ok (.iload_n 1, 1) := by decide +kernel
theorem dX6_putOn_18 : decode cX6_putOn 18 = .ok (.bipush 10, 2) := by decide +kernel
theorem dX6_putOn_20 : decode cX6_putOn 20 = .ok (.imul, 1) := by decide +kernel
theorem dX6_putOn_21 : decode cX6_putOn 21 = .ok (.iload_n 3, 1) := by decide +kernel
theorem dX6_putOn_22 : decode cX6_putOn 22 = .ok (.iadd, 1) := by decide +kernel
theorem dX6_putOn_23 : decode cX6_putOn 23 = .ok (.iload_n 2, 1) := by decide +kernel
theorem dX6_putOn_24 : decode cX6_putOn 24 = .ok (.iastore, 1) := by decide +kernel
theorem dX6_putOn_25 : decode cX6_putOn 25 = .ok (.aload_n 0, 1) := by decide +kernel
theorem dX6_putOn_26 : decode cX6_putOn 26 = .ok (.getfield 36, 3) := by decide +kernel
theorem dX6_putOn_29 : decode cX6_putOn 29 = .ok (.iload_n 1, 1) := by decide +kernel
theorem dX6_putOn_30 : decode cX6_putOn 30 = .ok (.iload_n 3, 1) := by decide +kernel
theorem dX6_putOn_31 : decode cX6_putOn 31 = .ok (.iconst 1, 1) := by decide +kernel
theorem dX6_putOn_32 : decode cX6_putOn 32 = .ok (.iadd, 1) := by decide +kernel
theorem dX6_putOn_33 : decode cX6_putOn 33 = .ok (.iastore, 1) := by decide +kernel
theorem dX6_putOn_34 : decode cX6_putOn 34 = .ok (.aload_n 0, 1) := by decide +kernel
theorem dX6_putOn_35 : decode cX6_putOn 35 = .ok (.getfield 39, 3) := by decide +kernel
theorem dX6_putOn_38 : decode cX6_putOn 38 = .ok (.iload_n 1, 1) := by decide +kernel
theorem dX6_putOn_39 : decode cX6_putOn 39 = .ok (.dup2, 1) := by decide +kernel
theorem dX6_putOn_40 : decode cX6_putOn 40 = .ok (.iaload, 1) := by decide +kernel
theorem dX6_putOn_41 : decode cX6_putOn 41 = .ok (.aload_n 0, 1) := by decide +kernel
theorem dX6_putOn_42 : decode cX6_putOn 42 = .ok (.getfield 59, 3) := by decide +kernel
theorem dX6_putOn_45 : decode cX6_putOn 45 = .ok (.getfield 101, 3) := by decide +kernel
theorem dX6_putOn_48 : decode cX6_putOn 48 = .ok (.iload_n 2, 1) := by decide +kernel
theorem dX6_putOn_49 : decode cX6_putOn 49 = .ok (.iaload, 1) := by decide +kernel
theorem dX6_putOn_50 : decode cX6_putOn 50 = .ok (.iadd, 1) := by decide +kernel
theorem dX6_putOn_51 : decode cX6_putOn 51 = .ok (.iastore, 1) := by decide +kernel
theorem dX6_putOn_52 : decode cX6_putOn 52 = .ok (.aload_n 0, 1) := by decide +kernel
theorem dX6_putOn_53 : decode cX6_putOn 53 = .ok (.getfield 30, 3) := by decide +kernel
theorem dX6_putOn_56 : decode cX6_putOn 56 = .ok (.iload_n 2, 1) := by decide +kernel
theorem dX6_putOn_57 : decode cX6_putOn 57 = .ok (.iload_n 1, 1) := by decide +kernel
theorem dX6_putOn_58 : decode cX6_putOn 58 = .ok (.iastore, 1) := by decide +kernel
theorem dX6_putOn_59 : decode cX6_putOn 59 = .ok (.aload_n 0, 1) := by decide +kernel
theorem dX6_putOn_60 : decode cX6_putOn 60 = .ok (.getfield 27, 3) := by decide +kernel
theorem dX6_putOn_63 : decode cX6_putOn 63 = .ok (.iload_n 2, 1) := by decide +kernel
theorem dX6_putOn_64 : decode cX6_putOn 64 = .ok (.iconst 1, 1) := by decide +kernel
theorem dX6_putOn_65 : decode cX6_putOn 65 = .ok (.iastore, 1) := by decide +kernel
theorem dX6_putOn_66 : decode cX6_putOn 66 = .ok (.return_, 1) := by decide +kernel
theorem dX6_takeAway_0 : decode cX6_takeAway 0 = .ok (.aload_n 0, 1) := by decide +kernel
theorem dX6_takeAway_1 : decode cX6_takeAway 1 = .ok (.iload_n 1, 1) := by decide +kernel
theorem dX6_takeAway_2 : decode cX6_takeAway 2 = .ok (.invokevirtual 97, 3) := by decide +kernel
theorem dX6_takeAway_5 : decode cX6_takeAway 5 = .ok (.istore_n 3, 1) := by decide +kernel
theorem dX6_takeAway_6 : decode cX6_takeAway 6 = .ok (.iload_n 3, 1) := by decide +kernel
theorem dX6_takeAway_7 : decode cX6_takeAway 7 = .ok (.ifCond .ge 4, 3) := by decide +kernel
theorem dX6_takeAway_10 : decode cX6_takeAway 10 = .ok (.return_, 1) := by decide +kernel
theorem dX6_takeAway_11 : decode cX6_takeAway 11 = .ok (.aload_n 0, 1) := by decide +kernel
theorem dX6_takeAway_12 : decode cX6_takeAway 12 = .ok (.getfield 30, 3) := by decide +kernel
theorem dX6_takeAway_15 : decode cX6_takeAway 15 = .ok (.iload_n 1, 1) := by decide +kernel
theorem dX6_takeAway_16 : decode cX6_takeAway 16 = .ok (.iaload, 1) := by decide +kernel
theorem dX6_takeAway_17 : decode cX6_takeAway 17 = .ok (.istore 4, 2) := by decide +kernel
theorem dX6_takeAway_19 : decode cX6_takeAway 19 = .ok (.iload_n 3, 1) := by decide +kernel
theorem dX6_takeAway_20 : decode cX6_takeAway 20 = .ok (.istore 5, 2) := by decide +kernel
theorem dX6_takeAway_22 : decode cX6_takeAway 22 = .ok (.iload 5, 2) := by decide +kernel
theorem dX6_takeAway_24 : decode cX6_takeAway 24 = .ok (.iconst 1, 1) := by decide +kernel
theorem dX6_takeAway_25 : decode cX6_takeAway 25 = .ok (.iadd, 1) := by decide +kernel
theorem dX6_takeAway_26 : decode cX6_takeAway 26 = .ok (.aload_n 0, 1) := by decide +kernel
theorem dX6_takeAway_27 : decode cX6_takeAway 27 = .ok (.getfield 36, 3) := by decide +kernel
theorem dX6_takeAway_30 : decode cX6_takeAway 30 = .ok (.iload 4, 2) := by decide +kernel
theorem dX6_takeAway_32 : decode cX6_takeAway 32 = .ok (.iaload, 1) := by decide +kernel
theorem dX6_takeAway_33 : decode cX6_takeAway 33 = .ok (.if_icmp .ge 37, 3) := by decide +kernel
theorem dX6_takeAway_36 : decode cX6_takeAway 36 = .ok (.aload_n 0, 1) := by decide +kernel
theorem dX6_takeAway_37 : decode cX6_takeAway 37 = .ok (.getfield 33, 3) := by decide +kernel
theorem dX6_takeAway_40 : decode cX6_takeAway 40 = .ok (.iload 4, 2) := by decide +kernel
theorem dX6_takeAway_42 : decode cX6_takeAway 42 = .ok (.bipush 10, 2) := by decide +kernel
theorem dX6_takeAway_44 : decode cX6_takeAway 44 = .ok (.imul, 1) := by decide +kernel
theorem dX6_takeAway_45 : decode cX6_takeAway 45 = .ok (.iload 5, 2) := by decide +kernel
theorem dX6_takeAway_47 : decode cX6_takeAway 47 = .ok (.iadd, 1) := by decide +kernel
theorem dX6_takeAway_48 : decode cX6_takeAway 48 = .ok (.aload_n 0, 1) := by decide +kernel
theorem dX6_takeAway_49 : decode cX6_takeAway 49 = .ok (.getfield 33, 3) := by decide +kernel
theorem dX6_takeAway_52 : decode cX6_takeAway 52 = .ok (.iload 4, 2) := by decide +kernel
theorem dX6_takeAway_54 : decode cX6_takeAway 54 = .ok (.bipush 10, 2) := by decide +kernel
theorem dX6_takeAway_56 : decode cX6_takeAway 56 = .ok (.imul, 1) := by decide +kernel
theorem dX6_takeAway_57 : decode cX6_takeAway 57 = .ok (.iload 5, 2) := by decide +kernel
theorem dX6_takeAway_59 : decode cX6_takeAway 59 = .ok (.iadd, 1) := by decide +kernel
theorem dX6_takeAway_60 : decode cX6_takeAway 60 = .ok (.iconst 1, 1) := by decide +kernel
theorem dX6_takeAway_61 : decode cX6_takeAway 61 = .ok (.iadd, 1) := by decide +kernel
theorem dX6_takeAway_62 : decode cX6_takeAway 62 = .ok (.iaload, 1) := by decide +kernel
theorem dX6_takeAway_63 : decode cX6_takeAway 63 = .ok (.iastore, 1) := by decide +kernel
theorem dX6_takeAway_64 : decode cX6_takeAway 64 = .ok (.iinc 5 1, 3) := by decide +kernel
theorem dX6_takeAway_67 : decode cX6_takeAway 67 = .ok (.goto (-45), 3) := by decide +kernel
theorem dX6_takeAway_70 : decode cX6_takeAway 70 = .ok (.aload_n 0, 1) := by decide +kernel
theorem dX6_takeAway_71 : decode cX6_takeAway 71 = .ok (.getfield 36, 3) := by decide +kernel
theorem dX6_takeAway_74 : decode cX6_takeAway 74 = .ok (.iload 4, 2) := by decide +kernel
theorem dX6_takeAway_76 : decode cX6_takeAway 76 = .ok (.dup2, 1) := by decide +kernel
theorem dX6_takeAway_77 : decode cX6_takeAway 77 = .ok (.iaload, 1) := by decide +kernel
theorem dX6_takeAway_78 : decode cX6_takeAway 78 = .ok (.iconst 1, 1) := by decide +kernel
theorem dX6_takeAway_79 : decode cX6_takeAway 79 = .ok (.isub, 1) := by decide +kernel
theorem dX6_takeAway_80 : decode cX6_takeAway 80 = .ok (.iastore, 1) := by decide +kernel
theorem dX6_takeAway_81 : decode cX6_takeAway 81 = .ok (.aload_n 0, 1) := by decide +kernel
theorem dX6_takeAway_82 : decode cX6_takeAway 82 = .ok (.getfield 39, 3) := by decide +kernel
theorem dX6_takeAway_85 : decode cX6_takeAway 85 = .ok (.iload 4, 2) := by decide +kernel
theorem dX6_takeAway_87 : decode cX6_takeAway 87 = .ok (.dup2, 1) := by decide +kernel
theorem dX6_takeAway_88 : decode cX6_takeAway 88 = .ok (.iaload, 1) := by decide +kernel
theorem dX6_takeAway_89 : decode cX6_takeAway 89 = .ok (.aload_n 0, 1) := by decide +kernel
theorem dX6_takeAway_90 : decode cX6_takeAway 90 = .ok (.getfield 59, 3) := by decide +kernel
theorem dX6_takeAway_93 : decode cX6_takeAway 93 = .ok (.getfield 101, 3) := by decide +kernel
theorem dX6_takeAway_96 : decode cX6_takeAway 96 = .ok (.iload_n 1, 1) := by decide +kernel
theorem dX6_takeAway_97 : decode cX6_takeAway 97 = .ok (.iaload, 1) := by decide +kernel
theorem dX6_takeAway_98 : decode cX6_takeAway 98 = .ok (.isub, 1) := by decide +kernel
theorem dX6_takeAway_99 : decode cX6_takeAway 99 = .ok (.iastore, 1) := by decide +kernel
theorem dX6_takeAway_100 : decode cX6_takeAway 100 = .ok (.aload_n 0, 1) := by decide +kernel
theorem dX6_takeAway_101 : decode cX6_takeAway 101 = .ok (.getfield 30, 3) := by decide +kernel
theorem dX6_takeAway_104 : decode cX6_takeAway 104 = .ok (.iload_n 1, 1) := by decide +kernel
theorem dX6_takeAway_105 : decode cX6_takeAway 105 = .ok (.iconst (-1), 1) := by decide +kernel
theorem dX6_takeAway_106 : decode cX6_takeAway 106 = .ok (.iastore, 1) := by decide +kernel
theorem dX6_takeAway_107 : decode cX6_takeAway 107 = .ok (.aload_n 0, 1) := by decide +kernel
theorem dX6_takeAway_108 : decode cX6_takeAway 108 = .ok (.getfield 27, 3) := by decide +kernel
theorem dX6_takeAway_111 : decode cX6_takeAway 111 = .ok (.iload_n 1, 1) := by decide +kernel
theorem dX6_takeAway_112 : decode cX6_takeAway 112 = .ok (.iload_n 2, 1) := by decide +kernel
theorem dX6_takeAway_113 : decode cX6_takeAway 113 = .ok (.iastore, 1) := by decide +kernel
theorem dX6_takeAway_114 : decode cX6_takeAway 114 = .ok (.return_, 1) := by decide +kernel
theorem dX6_goesAbove_0 : decode cX6_goesAbove 0 = .ok (.aload_n 0, 1) := by decide +kernel
theorem dX6_goesAbove_1 : decode cX6_goesAbove 1 = .ok (.getfield 59, 3) := by decide +kernel
theorem dX6_goesAbove_4 : decode cX6_goesAbove 4 = .ok (.getfield 116, 3) := by decide +kernel
theorem dX6_goesAbove_7 : decode cX6_goesAbove 7 = .ok (.aload_n 0, 1) := by decide +kernel
theorem dX6_goesAbove_8 : decode cX6_goesAbove 8 = .ok (.getfield 59, 3) := by decide +kernel
theorem dX6_goesAbove_11 : decode cX6_goesAbove 11 = .ok (.getfield 119, 3) := by decide +kernel
theorem dX6_goesAbove_14 : decode cX6_goesAbove 14 = .ok (.iload_n 1, 1) := by decide +kernel
theorem dX6_goesAbove_15 : decode cX6_goesAbove 15 = .ok (.iaload, 1) := by decide +kernel
theorem dX6_goesAbove_16 : decode cX6_goesAbove 16 = .ok (.iaload, 1) := by decide +kernel
theorem dX6_goesAbove_17 : decode cX6_goesAbove 17 = .ok (.istore_n 3, 1) := by decide +kernel
theorem dX6_goesAbove_18 : decode cX6_goesAbove 18 = .ok (.aload_n 0, 1) := by decide +kernel
theorem dX6_goesAbove_19 : decode cX6_goesAbove 19 = .ok (.getfield 59, 3) := by decide +kernel
theorem dX6_goesAbove_22 : decode cX6_goesAbove 22 = .ok (.getfield 116, 3) := by decide +kernel
theorem dX6_goesAbove_25 : decode cX6_goesAbove 25 = .ok (.aload_n 0, 1) := by decide +kernel
theorem dX6_goesAbove_26 : decode cX6_goesAbove 26 = .ok (.getfield 59, 3) := by decide +kernel
theorem dX6_goesAbove_29 : decode cX6_goesAbove 29 = .ok (.getfield 119, 3) := by decide +kernel
theorem dX6_goesAbove_32 : decode cX6_goesAbove 32 = .ok (.iload_n 2, 1) := by decide +kernel
theorem dX6_goesAbove_33 : decode cX6_goesAbove 33 = .ok (.iaload, 1) := by decide +kernel
theorem dX6_goesAbove_34 : decode cX6_goesAbove 34 = .ok (.iaload, 1) := by decide +kernel
theorem dX6_goesAbove_35 : decode cX6_goesAbove 35 = .ok (.istore 4, 2) := by decide +kernel
theorem dX6_goesAbove_37 : decode cX6_goesAbove 37 = .ok (.iload_n 3, 1) := by decide +kernel
theorem dX6_goesAbove_38 : decode cX6_goesAbove 38 = .ok (.iload 4, 2) := by decide +kernel
theorem dX6_goesAbove_40 : decode cX6_goesAbove 40 = .ok (.if_icmp .eq 17, 3) := by decide +kernel
theorem dX6_goesAbove_43 : decode cX6_goesAbove 43 = .ok (.iload_n 3, 1) := by decide +kernel
theorem dX6_goesAbove_44 : decode cX6_goesAbove 44 = .ok (.iload 4, 2) := by decide +kernel
theorem dX6_goesAbove_46 : decode cX6_goesAbove 46 = .ok (.if_icmp .ge 7, 3) := by decide +kernel
theorem dX6_goesAbove_49 : decode cX6_goesAbove 49 = .ok (.iconst 1, 1) := by decide +kernel
theorem dX6_goesAbove_50 : decode cX6_goesAbove 50 = .ok (.goto 17, 3) := by decide +kernel
theorem dX6_goesAbove_53 : decode cX6_goesAbove 53 = .ok (.iconst 0, 1) := by decide +kernel
theorem dX6_goesAbove_54 : decode cX6_goesAbove 54 = .ok (.goto 13, 3) := by decide +kernel
theorem dX6_goesAbove_57 : decode cX6_goesAbove 57 = .ok (.iload_n 1, 1) := by decide +kernel
theorem dX6_goesAbove_58 : decode cX6_goesAbove 58 = .ok (.iload_n 2, 1) := by decide +kernel
theorem dX6_goesAbove_59 : decode cX6_goesAbove 59 = .ok (.if_icmp .ge 7, 3) := by decide +kernel
theorem dX6_goesAbove_62 : decode cX6_goesAbove 62 = .ok (.iconst 1, 1) := by decide +kernel
theorem dX6_goesAbove_63 : decode cX6_goesAbove 63 = .ok (.goto 4, 3) := by decide +kernel
theorem dX6_goesAbove_66 : decode cX6_goesAbove 66 = .ok (.iconst 0, 1) := by decide +kernel
theorem dX6_goesAbove_67 : decode cX6_goesAbove 67 = .ok (.ireturn, 1) := by decide +kernel
theorem dX6_turnedLevel_0 : decode cX6_turnedLevel 0 = .ok (.iconst 0, 1) := by decide +kernel
theorem dX6_turnedLevel_1 : decode cX6_turnedLevel 1 = .ok (.istore_n 3, 1) := by decide +kernel
theorem dX6_turnedLevel_2 : decode cX6_turnedLevel 2 = .ok (.iconst 0, 1) := by decide +kernel
theorem dX6_turnedLevel_3 : decode cX6_turnedLevel 3 = .ok (.istore 4, 2) := by decide +kernel
theorem dX6_turnedLevel_5 : decode cX6_turnedLevel 5 = .ok (.iload 4, 2) := by decide +kernel
theorem dX6_turnedLevel_7 : decode cX6_turnedLevel 7 = .ok (.aload_n 0, 1) := by decide +kernel
theorem dX6_turnedLevel_8 : decode cX6_turnedLevel 8 = .ok (.getfield 36, 3) := by decide +kernel
theorem dX6_turnedLevel_11 : decode cX6_turnedLevel 11 = .ok (.iload_n 1, 1) := by decide +kernel
theorem dX6_turnedLevel_12 : decode cX6_turnedLevel 12 = .ok (.iaload, 1) := by decide +kernel
theorem dX6_turnedLevel_13 : decode cX6_turnedLevel 13 = .ok (.if_icmp .ge 32, 3) := by decide +kernel
theorem dX6_turnedLevel_16 : decode cX6_turnedLevel 16 = .ok (.aload_n 0, 1) := by decide +kernel
theorem dX6_turnedLevel_17 : decode cX6_turnedLevel 17 = .ok (.iload_n 2, 1) := by decide +kernel
theorem dX6_turnedLevel_18 : decode cX6_turnedLevel 18 = .ok (.aload_n 0, 1) := by decide +kernel
theorem dX6_turnedLevel_19 : decode cX6_turnedLevel 19 = .ok (.getfield 33, 3) := by decide +kernel
theorem dX6_turnedLevel_22 : decode cX6_turnedLevel 22 = .ok (.iload_n 1, 1) := by decide +kernel
theorem dX6_turnedLevel_23 : decode cX6_turnedLevel 23 = .ok (.bipush 10, 2) := by decide +kernel
theorem dX6_turnedLevel_25 : decode cX6_turnedLevel 25 = .ok (.imul, 1) := by decide +kernel
theorem dX6_turnedLevel_26 : decode cX6_turnedLevel 26 = .ok (.iload 4, 2) := by decide +kernel
theorem dX6_turnedLevel_28 : decode cX6_turnedLevel 28 = .ok (.iadd, 1) := by decide +kernel
theorem dX6_turnedLevel_29 : decode cX6_turnedLevel 29 = .ok (.iaload, 1) := by decide +kernel
theorem dX6_turnedLevel_30 : decode cX6_turnedLevel 30 = .ok (.invokevirtual 152, 3) := by decide +kernel
theorem dX6_turnedLevel_33 : decode cX6_turnedLevel 33 = .ok (.ifCond .eq 6, 3) := by decide +kernel
theorem dX6_turnedLevel_36 : decode cX6_turnedLevel 36 = .ok (.iinc 3 1, 3) := by decide +kernel
theorem dX6_turnedLevel_39 : decode cX6_turnedLevel 39 = .ok (.iinc 4 1, 3) := by decide +kernel
theorem dX6_turnedLevel_42 : decode cX6_turnedLevel 42 = .ok (.goto (-37), 3) := by decide +kernel
theorem dX6_turnedLevel_45 : decode cX6_turnedLevel 45 = .ok (.iload_n 3, 1) := by decide +kernel
theorem dX6_turnedLevel_46 : decode cX6_turnedLevel 46 = .ok (.ireturn, 1) := by decide +kernel
theorem dX6_turnOver_0 : decode cX6_turnOver 0 = .ok (.iload_n 1, 1) := by decide +kernel
theorem dX6_turnOver_1 : decode cX6_turnOver 1 = .ok (.bipush 10, 2) := by decide +kernel
theorem dX6_turnOver_3 : decode cX6_turnOver 3 = .ok (.imul, 1) := by decide +kernel
theorem dX6_turnOver_4 : decode cX6_turnOver 4 = .ok (.istore_n 2, 1) := by decide +kernel
theorem dX6_turnOver_5 : decode cX6_turnOver 5 = .ok (.iconst 0, 1) := by decide +kernel
theorem dX6_turnOver_6 : decode cX6_turnOver 6 = .ok (.istore_n 3, 1) := by decide +kernel
theorem dX6_turnOver_7 : decode cX6_turnOver 7 = .ok (.iconst 0, 1) := by decide +kernel
theorem dX6_turnOver_8 : decode cX6_turnOver 8 = .ok (.istore 4, 2) := by decide +kernel
theorem dX6_turnOver_10 : decode cX6_turnOver 10 = .ok (.iload 4, 2) := by decide +kernel
theorem dX6_turnOver_12 : decode cX6_turnOver 12 = .ok (.aload_n 0, 1) := by decide +kernel
theorem dX6_turnOver_13 : decode cX6_turnOver 13 = .ok (.getfield 36, 3) := by decide +kernel
theorem dX6_turnOver_16 : decode cX6_turnOver 16 = .ok (.iload_n 1, 1) := by decide +kernel
theorem dX6_turnOver_17 : decode cX6_turnOver 17 = .ok (.iaload, 1) := by decide +kernel
theorem dX6_turnOver_18 : decode cX6_turnOver 18 = .ok (.if_icmp .ge 31, 3) := by decide +kernel
theorem dX6_turnOver_21 : decode cX6_turnOver 21 = .ok (.aload_n 0, 1) := by decide +kernel
theorem dX6_turnOver_22 : decode cX6_turnOver 22 = .ok (.iload_n 1, 1) := by decide +kernel
theorem dX6_turnOver_23 : decode cX6_turnOver 23 = .ok (.aload_n 0, 1) := by decide +kernel
theorem dX6_turnOver_24 : decode cX6_turnOver 24 = .ok (.getfield 33, 3) := by decide +kernel
theorem dX6_turnOver_27 : decode cX6_turnOver 27 = .ok (.iload_n 2, 1) := by decide +kernel
theorem dX6_turnOver_28 : decode cX6_turnOver 28 = .ok (.iload 4, 2) := by decide +kernel
theorem dX6_turnOver_30 : decode cX6_turnOver 30 = .ok (.iadd, 1) := by decide +kernel
theorem dX6_turnOver_31 : decode cX6_turnOver 31 = .ok (.iaload, 1) := by decide +kernel
theorem dX6_turnOver_32 : decode cX6_turnOver 32 = .ok (.invokevirtual 156, 3) := by decide +kernel
theorem dX6_turnOver_35 : decode cX6_turnOver 35 = .ok (.iload 4, 2) := by decide +kernel
theorem dX6_turnOver_37 : decode cX6_turnOver 37 = .ok (.if_icmp .eq 6, 3) := by decide +kernel
theorem dX6_turnOver_40 : decode cX6_turnOver 40 = .ok (.iinc 3 1, 3) := by decide +kernel
theorem dX6_turnOver_43 : decode cX6_turnOver 43 = .ok (.iinc 4 1, 3) := by decide +kernel
theorem dX6_turnOver_46 : decode cX6_turnOver 46 = .ok (.goto (-36), 3) := by decide +kernel
theorem dX6_turnOver_49 : decode cX6_turnOver 49 = .ok (.iconst 1, 1) := by decide +kernel
theorem dX6_turnOver_50 : decode cX6_turnOver 50 = .ok (.istore 4, 2) := by decide +kernel
theorem dX6_turnOver_52 : decode cX6_turnOver 52 = .ok (.iload 4, 2) := by decide +kernel
theorem dX6_turnOver_54 : decode cX6_turnOver 54 = .ok (.aload_n 0, 1) := by decide +kernel
theorem dX6_turnOver_55 : decode cX6_turnOver 55 = .ok (.getfield 36, 3) := by decide +kernel
theorem dX6_turnOver_58 : decode cX6_turnOver 58 = .ok (.iload_n 1, 1) := by decide +kernel
theorem dX6_turnOver_59 : decode cX6_turnOver 59 = .ok (.iaload, 1) := by decide +kernel
theorem dX6_turnOver_60 : decode cX6_turnOver 60 = .ok (.if_icmp .ge 86, 3) := by decide +kernel
theorem dX6_turnOver_63 : decode cX6_turnOver 63 = .ok (.aload_n 0, 1) := by decide +kernel
theorem dX6_turnOver_64 : decode cX6_turnOver 64 = .ok (.getfield 33, 3) := by decide +kernel
theorem dX6_turnOver_67 : decode cX6_turnOver 67 = .ok (.iload_n 2, 1) := by decide +kernel
theorem dX6_turnOver_68 : decode cX6_turnOver 68 = .ok (.iload 4, 2) := by decide +kernel
theorem dX6_turnOver_70 : decode cX6_turnOver 70 = .ok (.iadd, 1) := by decide +kernel
theorem dX6_turnOver_71 : decode cX6_turnOver 71 = .ok (.iaload, 1) := by decide +kernel
theorem dX6_turnOver_72 : decode cX6_turnOver 72 = .ok (.istore 5, 2) := by decide +kernel
theorem dX6_turnOver_74 : decode cX6_turnOver 74 = .ok (.iload 4, 2) := by decide +kernel
theorem dX6_turnOver_76 : decode cX6_turnOver 76 = .ok (.istore 6, 2) := by decide +kernel
theorem dX6_turnOver_78 : decode cX6_turnOver 78 = .ok (.iload 6, 2) := by decide +kernel
theorem dX6_turnOver_80 : decode cX6_turnOver 80 = .ok (.ifCond .le 49, 3) := by decide +kernel
theorem dX6_turnOver_83 : decode cX6_turnOver 83 = .ok (.aload_n 0, 1) := by decide +kernel
theorem dX6_turnOver_84 : decode cX6_turnOver 84 = .ok (.aload_n 0, 1) := by decide +kernel
theorem dX6_turnOver_85 : decode cX6_turnOver 85 = .ok (.getfield 33, 3) := by decide +kernel
theorem dX6_turnOver_88 : decode cX6_turnOver 88 = .ok (.iload_n 2, 1) := by decide +kernel
theorem dX6_turnOver_89 : decode cX6_turnOver 89 = .ok (.iload 6, 2) := by decide +kernel
theorem dX6_turnOver_91 : decode cX6_turnOver 91 = .ok (.iadd, 1) := by decide +kernel
theorem dX6_turnOver_92 : decode cX6_turnOver 92 = .ok (.iconst 1, 1) := by decide +kernel
theorem dX6_turnOver_93 : decode cX6_turnOver 93 = .ok (.isub, 1) := by decide +kernel
theorem dX6_turnOver_94 : decode cX6_turnOver 94 = .ok (.iaload, 1) := by decide +kernel
theorem dX6_turnOver_95 : decode cX6_turnOver 95 = .ok (.iload 5, 2) := by decide +kernel
theorem dX6_turnOver_97 : decode cX6_turnOver 97 = .ok (.invokevirtual 152, 3) := by decide +kernel
theorem dX6_turnOver_100 : decode cX6_turnOver 100 = .ok (.ifCond .eq 29, 3) := by decide +kernel
theorem dX6_turnOver_103 : decode cX6_turnOver 103 = .ok (.aload_n 0, 1) := by decide +kernel
theorem dX6_turnOver_104 : decode cX6_turnOver 104 = .ok (.getfield 33, 3) := by decide +kernel
theorem dX6_turnOver_107 : decode cX6_turnOver 107 = .ok (.iload_n 2, 1) := by decide +kernel
theorem dX6_turnOver_108 : decode cX6_turnOver 108 = .ok (.iload 6, 2) := by decide +kernel
theorem dX6_turnOver_110 : decode cX6_turnOver 110 = .ok (.iadd, 1) := by decide +kernel
theorem dX6_turnOver_111 : decode cX6_turnOver 111 = .ok (.aload_n 0, 1) := by decide +kernel
theorem dX6_turnOver_112 : decode cX6_turnOver 112 = .ok (.getfield 33, 3) := by decide +kernel
theorem dX6_turnOver_115 : decode cX6_turnOver 115 = .ok (.iload_n 2, 1) := by decide +kernel
theorem dX6_turnOver_116 : decode cX6_turnOver 116 = .ok (.iload 6, 2) := by decide +kernel
theorem dX6_turnOver_118 : decode cX6_turnOver 118 = .ok (.iadd, 1) := by decide +kernel
theorem dX6_turnOver_119 : decode cX6_turnOver 119 = .ok (.iconst 1, 1) := by decide +kernel
theorem dX6_turnOver_120 : decode cX6_turnOver 120 = .ok (.isub, 1) := by decide +kernel
theorem dX6_turnOver_121 : decode cX6_turnOver 121 = .ok (.iaload, 1) := by decide +kernel
theorem dX6_turnOver_122 : decode cX6_turnOver 122 = .ok (.iastore, 1) := by decide +kernel
theorem dX6_turnOver_123 : decode cX6_turnOver 123 = .ok (.iinc 6 (-1), 3) := by decide +kernel
theorem dX6_turnOver_126 : decode cX6_turnOver 126 = .ok (.goto (-48), 3) := by decide +kernel
theorem dX6_turnOver_129 : decode cX6_turnOver 129 = .ok (.aload_n 0, 1) := by decide +kernel
theorem dX6_turnOver_130 : decode cX6_turnOver 130 = .ok (.getfield 33, 3) := by decide +kernel
theorem dX6_turnOver_133 : decode cX6_turnOver 133 = .ok (.iload_n 2, 1) := by decide +kernel
theorem dX6_turnOver_134 : decode cX6_turnOver 134 = .ok (.iload 6, 2) := by decide +kernel
theorem dX6_turnOver_136 : decode cX6_turnOver 136 = .ok (.iadd, 1) := by decide +kernel
theorem dX6_turnOver_137 : decode cX6_turnOver 137 = .ok (.iload 5, 2) := by decide +kernel
theorem dX6_turnOver_139 : decode cX6_turnOver 139 = .ok (.iastore, 1) := by decide +kernel
theorem dX6_turnOver_140 : decode cX6_turnOver 140 = .ok (.iinc 4 1, 3) := by decide +kernel
theorem dX6_turnOver_143 : decode cX6_turnOver 143 = .ok (.goto (-91), 3) := by decide +kernel
theorem dX6_turnOver_146 : decode cX6_turnOver 146 = .ok (.iload_n 3, 1) := by decide +kernel
theorem dX6_turnOver_147 : decode cX6_turnOver 147 = .ok (.ireturn, 1) := by decide +kernel
theorem dX6_takeDown_0 : decode cX6_takeDown 0 = .ok (.iconst 0, 1) := by decide +kernel
theorem dX6_takeDown_1 : decode cX6_takeDown 1 = .ok (.istore_n 2, 1) := by decide +kernel
theorem dX6_takeDown_2 : decode cX6_takeDown 2 = .ok (.iconst 1, 1) := by decide +kernel
theorem dX6_takeDown_3 : decode cX6_takeDown 3 = .ok (.istore_n 3, 1) := by decide +kernel
theorem dX6_takeDown_4 : decode cX6_takeDown 4 = .ok (.iconst 0, 1) := by decide +kernel
theorem dX6_takeDown_5 : decode cX6_takeDown 5 = .ok (.istore 4, 2) := by decide +kernel
theorem dX6_takeDown_7 : decode cX6_takeDown 7 = .ok (.iload 4, 2) := by decide +kernel
theorem dX6_takeDown_9 : decode cX6_takeDown 9 = .ok (.aload_n 0, 1) := by decide +kernel
theorem dX6_takeDown_10 : decode cX6_takeDown 10 = .ok (.getfield 59, 3) := by decide +kernel
theorem dX6_takeDown_13 : decode cX6_takeDown 13 = .ok (.getfield 113, 3) := by decide +kernel
theorem dX6_takeDown_16 : decode cX6_takeDown 16 = .ok (.if_icmp .ge 199, 3) := by decide +kernel
theorem dX6_takeDown_19 : decode cX6_takeDown 19 = .ok (.aload_n 0, 1) := by decide +kernel
theorem dX6_takeDown_20 : decode cX6_takeDown 20 = .ok (.getfield 18, 3) := by decide +kernel
theorem dX6_takeDown_23 : decode cX6_takeDown 23 = .ok (.iload 4, 2) := by decide +kernel
theorem dX6_takeDown_25 : decode cX6_takeDown 25 = .ok (.iaload, 1) := by decide +kernel
theorem dX6_takeDown_26 : decode cX6_takeDown 26 = .ok (.iconst 1, 1) := by decide +kernel
theorem dX6_takeDown_27 : decode cX6_takeDown 27 = .ok (.if_icmp .ne 182, 3) := by decide +kernel
theorem dX6_takeDown_30 : decode cX6_takeDown 30 = .ok (.aload_n 0, 1) := by decide +kernel
theorem dX6_takeDown_31 : decode cX6_takeDown 31 = .ok (.getfield 59, 3) := by decide +kernel
theorem dX6_takeDown_34 : decode cX6_takeDown 34 = .ok (.getfield 116, 3) := by decide +kernel
theorem dX6_takeDown_37 : decode cX6_takeDown 37 = .ok (.iload 4, 2) := by decide +kernel
theorem dX6_takeDown_39 : decode cX6_takeDown 39 = .ok (.iaload, 1) := by decide +kernel
theorem dX6_takeDown_40 : decode cX6_takeDown 40 = .ok (.aload_n 0, 1) := by decide +kernel
theorem dX6_takeDown_41 : decode cX6_takeDown 41 = .ok (.getfield 63, 3) := by decide +kernel
theorem dX6_takeDown_44 : decode cX6_takeDown 44 = .ok (.if_icmp .le 6, 3) := by decide +kernel
theorem dX6_takeDown_47 : decode cX6_takeDown 47 = .ok (.goto 162, 3) := by decide +kernel
theorem dX6_takeDown_50 : decode cX6_takeDown 50 = .ok (.iconst 0, 1) := by decide +kernel
theorem dX6_takeDown_51 : decode cX6_takeDown 51 = .ok (.istore 5, 2) := by decide +kernel
theorem dX6_takeDown_53 : decode cX6_takeDown 53 = .ok (.iload 5, 2) := by decide +kernel
theorem dX6_takeDown_55 : decode cX6_takeDown 55 = .ok (.aload_n 0, 1) := by decide +kernel
theorem dX6_takeDown_56 : decode cX6_takeDown 56 = .ok (.getfield 59, 3) := by decide +kernel
theorem dX6_takeDown_59 : decode cX6_takeDown 59 = .ok (.getfield 110, 3) := by decide +kernel
theorem dX6_takeDown_62 : decode cX6_takeDown 62 = .ok (.if_icmp .ge 114, 3) := by decide +kernel
theorem dX6_takeDown_65 : decode cX6_takeDown 65 = .ok (.iload_n 3, 1) := by decide +kernel
theorem dX6_takeDown_66 : decode cX6_takeDown 66 = .ok (.ifCond .eq 110, 3) := by decide +kernel
theorem dX6_takeDown_69 : decode cX6_takeDown 69 = .ok (.aload_n 0, 1) := by decide +kernel
theorem dX6_takeDown_70 : decode cX6_takeDown 70 = .ok (.getfield 59, 3) := by decide +kernel
theorem dX6_takeDown_73 : decode cX6_takeDown 73 = .ok (.getfield 119, 3) := by decide +kernel
theorem dX6_takeDown_76 : decode cX6_takeDown 76 = .ok (.iload 5, 2) := by decide +kernel
theorem dX6_takeDown_78 : decode cX6_takeDown 78 = .ok (.iaload, 1) := by decide +kernel
theorem dX6_takeDown_79 : decode cX6_takeDown 79 = .ok (.iload 4, 2) := by decide +kernel
theorem dX6_takeDown_81 : decode cX6_takeDown 81 = .ok (.if_icmp .ne 89, 3) := by decide +kernel
theorem dX6_takeDown_84 : decode cX6_takeDown 84 = .ok (.aload_n 0, 1) := by decide +kernel
theorem dX6_takeDown_85 : decode cX6_takeDown 85 = .ok (.getfield 27, 3) := by decide +kernel
theorem dX6_takeDown_88 : decode cX6_takeDown 88 = .ok (.iload 5, 2) := by decide +kernel
theorem dX6_takeDown_90 : decode cX6_takeDown 90 = .ok (.iaload, 1) := by decide +kernel
theorem dX6_takeDown_91 : decode cX6_takeDown 91 = .ok (.iconst 1, 1) := by decide +kernel
theorem dX6_takeDown_92 : decode cX6_takeDown 92 = .ok (.if_icmp .eq 6, 3) := by decide +kernel
theorem dX6_takeDown_95 : decode cX6_takeDown 95 = .ok (.goto 75, 3) := by decide +kernel
theorem dX6_takeDown_98 : decode cX6_takeDown 98 = .ok (.aload_n 0, 1) := by decide +kernel
theorem dX6_takeDown_99 : decode cX6_takeDown 99 = .ok (.iload 5, 2) := by decide +kernel
theorem dX6_takeDown_101 : decode cX6_takeDown 101 = .ok (.aload_n 0, 1) := by decide +kernel
theorem dX6_takeDown_102 : decode cX6_takeDown 102 = .ok (.getfield 15, 3) := by decide +kernel
theorem dX6_takeDown_105 : decode cX6_takeDown 105 = .ok (.iload 4, 2) := by decide +kernel
theorem dX6_takeDown_107 : decode cX6_takeDown 107 = .ok (.iaload, 1) := by decide +kernel
theorem dX6_takeDown_108 : decode cX6_takeDown 108 = .ok (.invokevirtual 160, 3) := by decide +kernel
theorem dX6_takeDown_111 : decode cX6_takeDown 111 = .ok (.istore 6, 2) := by decide +kernel
theorem dX6_takeDown_113 : decode cX6_takeDown 113 = .ok (.iload_n 2, 1) := by decide +kernel
theorem dX6_takeDown_114 : decode cX6_takeDown 114 = .ok (.iload 6, 2) := by decide +kernel
theorem dX6_takeDown_116 : decode cX6_takeDown 116 = .ok (.iadd, 1) := by decide +kernel
theorem dX6_takeDown_117 : decode cX6_takeDown 117 = .ok (.iload_n 1, 1) := by decide +kernel
theorem dX6_takeDown_118 : decode cX6_takeDown 118 = .ok (.if_icmp .gt 7, 3) := by decide +kernel
theorem dX6_takeDown_121 : decode cX6_takeDown 121 = .ok (.iconst 1, 1) := by decide +kernel
theorem dX6_takeDown_122 : decode cX6_takeDown 122 = .ok (.goto 4, 3) := by decide +kernel
theorem dX6_takeDown_125 : decode cX6_takeDown 125 = .ok (.iconst 0, 1) := by decide +kernel
theorem dX6_takeDown_126 : decode cX6_takeDown 126 = .ok (.istore_n 3, 1) := by decide +kernel
theorem dX6_takeDown_127 : decode cX6_takeDown 127 = .ok (.iload_n 3, 1) := by decide +kernel
theorem dX6_takeDown_128 : decode cX6_takeDown 128 = .ok (.ifCond .eq 42, 3) := by decide +kernel
theorem dX6_takeDown_131 : decode cX6_takeDown 131 = .ok (.iload_n 2, 1) := by decide +kernel
theorem dX6_takeDown_132 : decode cX6_takeDown 132 = .ok (.iload 6, 2) := by decide +kernel
theorem dX6_takeDown_134 : decode cX6_takeDown 134 = .ok (.iadd, 1) := by decide +kernel
theorem dX6_takeDown_135 : decode cX6_takeDown 135 = .ok (.istore_n 2, 1) := by decide +kernel
theorem dX6_takeDown_136 : decode cX6_takeDown 136 = .ok (.aload_n 0, 1) := by decide +kernel
theorem dX6_takeDown_137 : decode cX6_takeDown 137 = .ok (.getfield 21, 3) := by decide +kernel
theorem dX6_takeDown_140 : decode cX6_takeDown 140 = .ok (.iload 4, 2) := by decide +kernel
theorem dX6_takeDown_142 : decode cX6_takeDown 142 = .ok (.dup2, 1) := by decide +kernel
theorem dX6_takeDown_143 : decode cX6_takeDown 143 = .ok (.iaload, 1) := by decide +kernel
theorem dX6_takeDown_144 : decode cX6_takeDown 144 = .ok (.iload 6, 2) := by decide +kernel
theorem dX6_takeDown_146 : decode cX6_takeDown 146 = .ok (.iadd, 1) := by decide +kernel
theorem dX6_takeDown_147 : decode cX6_takeDown 147 = .ok (.iastore, 1) := by decide +kernel
theorem dX6_takeDown_148 : decode cX6_takeDown 148 = .ok (.aload_n 0, 1) := by decide +kernel
theorem dX6_takeDown_149 : decode cX6_takeDown 149 = .ok (.dup, 1) := by decide +kernel
theorem dX6_takeDown_150 : decode cX6_takeDown 150 = .ok (.getfield 67, 3) := by decide +kernel
theorem dX6_takeDown_153 : decode cX6_takeDown 153 = .ok (.aload_n 0, 1) := by decide +kernel
theorem dX6_takeDown_154 : decode cX6_takeDown 154 = .ok (.iload 5, 2) := by decide +kernel
theorem dX6_takeDown_156 : decode cX6_takeDown 156 = .ok (.invokevirtual 163, 3) := by decide +kernel
theorem dX6_takeDown_159 : decode cX6_takeDown 159 = .ok (.iadd, 1) := by decide +kernel
theorem dX6_takeDown_160 : decode cX6_takeDown 160 = .ok (.putfield 67, 3) := by decide +kernel
theorem dX6_takeDown_163 : decode cX6_takeDown 163 = .ok (.aload_n 0, 1) := by decide +kernel
theorem dX6_takeDown_164 : decode cX6_takeDown 164 = .ok (.iload 5, 2) := by decide +kernel
theorem dX6_takeDown_166 : decode cX6_takeDown 166 = .ok (.iconst 2, 1) := by decide +kernel
theorem dX6_takeDown_167 : decode cX6_takeDown 167 = .ok (.invokevirtual 166, 3) := by decide +kernel
theorem dX6_takeDown_170 : decode cX6_takeDown 170 = .ok (.iinc 5 1, 3) := by decide +kernel
theorem dX6_takeDown_173 : decode cX6_takeDown 173 = .ok (.goto (-120), 3) := by decide +kernel
theorem dX6_takeDown_176 : decode cX6_takeDown 176 = .ok (.aload_n 0, 1) := by decide +kernel
theorem dX6_takeDown_177 : decode cX6_takeDown 177 = .ok (.getfield 63, 3) := by decide +kernel
theorem dX6_takeDown_180 : decode cX6_takeDown 180 = .ok (.bipush 20, 2) := by decide +kernel
theorem dX6_takeDown_182 : decode cX6_takeDown 182 = .ok (.if_icmp .ne 10, 3) := by decide +kernel
theorem dX6_takeDown_185 : decode cX6_takeDown 185 = .ok (.aload_n 0, 1) := by decide +kernel
theorem dX6_takeDown_186 : decode cX6_takeDown 186 = .ok (.iload 4, 2) := by decide +kernel
theorem dX6_takeDown_188 : decode cX6_takeDown 188 = .ok (.iconst 5, 1) := by decide +kernel
theorem dX6_takeDown_189 : decode cX6_takeDown 189 = .ok (.invokevirtual 170, 3) := by decide +kernel
theorem dX6_takeDown_192 : decode cX6_takeDown 192 = .ok (.aload_n 0, 1) := by decide +kernel
theorem dX6_takeDown_193 : decode cX6_takeDown 193 = .ok (.iload 4, 2) := by decide +kernel
theorem dX6_takeDown_195 : decode cX6_takeDown 195 = .ok (.invokevirtual 173, 3) := by decide +kernel
theorem dX6_takeDown_198 : decode cX6_takeDown 198 = .ok (.ifCond .ne 11, 3) := by decide +kernel
theorem dX6_takeDown_201 : decode cX6_takeDown 201 = .ok (.aload_n 0, 1) := by decide +kernel
theorem dX6_takeDown_202 : decode cX6_takeDown 202 = .ok (.getfield 18, 3) := by decide +kernel
theorem dX6_takeDown_205 : decode cX6_takeDown 205 = .ok (.iload 4, 2) := by decide +kernel
theorem dX6_takeDown_207 : decode cX6_takeDown 207 = .ok (.iconst 2, 1) := by decide +kernel
theorem dX6_takeDown_208 : decode cX6_takeDown 208 = .ok (.iastore, 1) := by decide +kernel
theorem dX6_takeDown_209 : decode cX6_takeDown 209 = .ok (.iinc 4 1, 3) := by decide +kernel
theorem dX6_takeDown_212 : decode cX6_takeDown 212 = .ok (.goto (-205), 3) := by decide +kernel
theorem dX6_takeDown_215 : decode cX6_takeDown 215 = .ok (.iload_n 2, 1) := by decide +kernel
theorem dX6_takeDown_216 : decode cX6_takeDown 216 = .ok (.ireturn, 1) := by decide +kernel
theorem dX6_setFree_0 : decode cX6_setFree 0 = .ok (.iconst 0, 1) := by decide +kernel
theorem dX6_setFree_1 : decode cX6_setFree 1 = .ok (.istore_n 3, 1) := by decide +kernel
theorem dX6_setFree_2 : decode cX6_setFree 2 = .ok (.iload_n 3, 1) := by decide +kernel
theorem dX6_setFree_3 : decode cX6_setFree 3 = .ok (.aload_n 0, 1) := by decide +kernel
theorem dX6_setFree_4 : decode cX6_setFree 4 = .ok (.getfield 59, 3) := by decide +kernel
theorem dX6_setFree_7 : decode cX6_setFree 7 = .ok (.getfield 110, 3) := by decide +kernel
theorem dX6_setFree_10 : decode cX6_setFree 10 = .ok (.if_icmp .ge 38, 3) := by decide +kernel
theorem dX6_setFree_13 : decode cX6_setFree 13 = .ok (.aload_n 0, 1) := by decide +kernel
theorem dX6_setFree_14 : decode cX6_setFree 14 = .ok (.getfield 59, 3) := by decide +kernel
theorem dX6_setFree_17 : decode cX6_setFree 17 = .ok (.getfield 119, 3) := by decide +kernel
theorem dX6_setFree_20 : decode cX6_setFree 20 = .ok (.iload_n 3, 1) := by decide +kernel
theorem dX6_setFree_21 : decode cX6_setFree 21 = .ok (.iaload, 1) := by decide +kernel
theorem dX6_setFree_22 : decode cX6_setFree 22 = .ok (.iload_n 1, 1) := by decide +kernel
theorem dX6_setFree_23 : decode cX6_setFree 23 = .ok (.if_icmp .ne 19, 3) := by decide +kernel
theorem dX6_setFree_26 : decode cX6_setFree 26 = .ok (.aload_n 0, 1) := by decide +kernel
theorem dX6_setFree_27 : decode cX6_setFree 27 = .ok (.getfield 27, 3) := by decide +kernel
theorem dX6_setFree_30 : decode cX6_setFree 30 = .ok (.iload_n 3, 1) := by decide +kernel
theorem dX6_setFree_31 : decode cX6_setFree 31 = .ok (.iaload, 1) := by decide +kernel
theorem dX6_setFree_32 : decode cX6_setFree 32 = .ok (.iconst 1, 1) := by decide +kernel
theorem dX6_setFree_33 : decode cX6_setFree 33 = .ok (.if_icmp .ne 9, 3) := by decide +kernel
theorem dX6_setFree_36 : decode cX6_setFree 36 = .ok (.aload_n 0, 1) := by decide +kernel
theorem dX6_setFree_37 : decode cX6_setFree 37 = .ok (.iload_n 3, 1) := by decide +kernel
theorem dX6_setFree_38 : decode cX6_setFree 38 = .ok (.iload_n 2, 1) := by decide +kernel
theorem dX6_setFree_39 : decode cX6_setFree 39 = .ok (.invokevirtual 166, 3) := by decide +kernel
theorem dX6_setFree_42 : decode cX6_setFree 42 = .ok (.iinc 3 1, 3) := by decide +kernel
theorem dX6_setFree_45 : decode cX6_setFree 45 = .ok (.goto (-43), 3) := by decide +kernel
theorem dX6_setFree_48 : decode cX6_setFree 48 = .ok (.return_, 1) := by decide +kernel
theorem dX6_getIn_0 : decode cX6_getIn 0 = .ok (.iconst 0, 1) := by decide +kernel
theorem dX6_getIn_1 : decode cX6_getIn 1 = .ok (.istore_n 1, 1) := by decide +kernel
theorem dX6_getIn_2 : decode cX6_getIn 2 = .ok (.iload_n 1, 1) := by decide +kernel
theorem dX6_getIn_3 : decode cX6_getIn 3 = .ok (.aload_n 0, 1) := by decide +kernel
theorem dX6_getIn_4 : decode cX6_getIn 4 = .ok (.getfield 59, 3) := by decide +kernel
theorem dX6_getIn_7 : decode cX6_getIn 7 = .ok (.getfield 113, 3) := by decide +kernel
theorem dX6_getIn_10 : decode cX6_getIn 10 = .ok (.if_icmp .ge 78, 3) := by decide +kernel
theorem dX6_getIn_13 : decode cX6_getIn 13 = .ok (.aload_n 0, 1) := by decide +kernel
theorem dX6_getIn_14 : decode cX6_getIn 14 = .ok (.getfield 18, 3) := by decide +kernel
theorem dX6_getIn_17 : decode cX6_getIn 17 = .ok (.iload_n 1, 1) := by decide +kernel
theorem dX6_getIn_18 : decode cX6_getIn 18 = .ok (.iaload, 1) := by decide +kernel
theorem dX6_getIn_19 : decode cX6_getIn 19 = .ok (.ifCond .ne 63, 3) := by decide +kernel
theorem dX6_getIn_22 : decode cX6_getIn 22 = .ok (.aload_n 0, 1) := by decide +kernel
theorem dX6_getIn_23 : decode cX6_getIn 23 = .ok (.getfield 9, 3) := by decide +kernel
theorem dX6_getIn_26 : decode cX6_getIn 26 = .ok (.iload_n 1, 1) := by decide +kernel
theorem dX6_getIn_27 : decode cX6_getIn 27 = .ok (.iaload, 1) := by decide +kernel
theorem dX6_getIn_28 : decode cX6_getIn 28 = .ok (.aload_n 0, 1) := by decide +kernel
theorem dX6_getIn_29 : decode cX6_getIn 29 = .ok (.getfield 63, 3) := by decide +kernel
theorem dX6_getIn_32 : decode cX6_getIn 32 = .ok (.if_icmp .eq 6, 3) := by decide +kernel
theorem dX6_getIn_35 : decode cX6_getIn 35 = .ok (.goto 47, 3) := by decide +kernel
theorem dX6_getIn_38 : decode cX6_getIn 38 = .ok (.aload_n 0, 1) := by decide +kernel
theorem dX6_getIn_39 : decode cX6_getIn 39 = .ok (.getfield 18, 3) := by decide +kernel
theorem dX6_getIn_42 : decode cX6_getIn 42 = .ok (.iload_n 1, 1) := by decide +kernel
theorem dX6_getIn_43 : decode cX6_getIn 43 = .ok (.iconst 1, 1) := by decide +kernel
theorem dX6_getIn_44 : decode cX6_getIn 44 = .ok (.iastore, 1) := by decide +kernel
theorem dX6_getIn_45 : decode cX6_getIn 45 = .ok (.iconst 0, 1) := by decide +kernel
theorem dX6_getIn_46 : decode cX6_getIn 46 = .ok (.istore_n 2, 1) := by decide +kernel
theorem dX6_getIn_47 : decode cX6_getIn 47 = .ok (.iload_n 2, 1) := by decide +kernel
theorem dX6_getIn_48 : decode cX6_getIn 48 = .ok (.aload_n 0, 1) := by decide +kernel
theorem dX6_getIn_49 : decode cX6_getIn 49 = .ok (.getfield 59, 3) := by decide +kernel
theorem dX6_getIn_52 : decode cX6_getIn 52 = .ok (.getfield 110, 3) := by decide +kernel
theorem dX6_getIn_55 : decode cX6_getIn 55 = .ok (.if_icmp .ge 27, 3) := by decide +kernel
theorem dX6_getIn_58 : decode cX6_getIn 58 = .ok (.aload_n 0, 1) := by decide +kernel
theorem dX6_getIn_59 : decode cX6_getIn 59 = .ok (.getfield 59, 3) := by decide +kernel
theorem dX6_getIn_62 : decode cX6_getIn 62 = .ok (.getfield 119, 3) := by decide +kernel
theorem dX6_getIn_65 : decode cX6_getIn 65 = .ok (.iload_n 2, 1) := by decide +kernel
theorem dX6_getIn_66 : decode cX6_getIn 66 = .ok (.iaload, 1) := by decide +kernel
theorem dX6_getIn_67 : decode cX6_getIn 67 = .ok (.iload_n 1, 1) := by decide +kernel
theorem dX6_getIn_68 : decode cX6_getIn 68 = .ok (.if_icmp .ne 8, 3) := by decide +kernel
theorem dX6_getIn_71 : decode cX6_getIn 71 = .ok (.aload_n 0, 1) := by decide +kernel
theorem dX6_getIn_72 : decode cX6_getIn 72 = .ok (.iload_n 2, 1) := by decide +kernel
theorem dX6_getIn_73 : decode cX6_getIn 73 = .ok (.invokevirtual 177, 3) := by decide +kernel
theorem dX6_getIn_76 : decode cX6_getIn 76 = .ok (.iinc 2 1, 3) := by decide +kernel
theorem dX6_getIn_79 : decode cX6_getIn 79 = .ok (.goto (-32), 3) := by decide +kernel
theorem dX6_getIn_82 : decode cX6_getIn 82 = .ok (.iinc 1 1, 3) := by decide +kernel
theorem dX6_getIn_85 : decode cX6_getIn 85 = .ok (.goto (-83), 3) := by decide +kernel
theorem dX6_getIn_88 : decode cX6_getIn 88 = .ok (.return_, 1) := by decide +kernel
theorem dX6_stow_0 : decode cX6_stow 0 = .ok (.aload_n 0, 1) := by decide +kernel
theorem dX6_stow_1 : decode cX6_stow 1 = .ok (.getfield 24, 3) := by decide +kernel
theorem dX6_stow_4 : decode cX6_stow 4 = .ok (.iload_n 1, 1) := by decide +kernel
theorem dX6_stow_5 : decode cX6_stow 5 = .ok (.iaload, 1) := by decide +kernel
theorem dX6_stow_6 : decode cX6_stow 6 = .ok (.istore_n 2, 1) := by decide +kernel
theorem dX6_stow_7 : decode cX6_stow 7 = .ok (.iload_n 2, 1) := by decide +kernel
theorem dX6_stow_8 : decode cX6_stow 8 = .ok (.ifCond .ge 12, 3) := by decide +kernel
theorem dX6_stow_11 : decode cX6_stow 11 = .ok (.aload_n 0, 1) := by decide +kernel
theorem dX6_stow_12 : decode cX6_stow 12 = .ok (.iload_n 1, 1) := by decide +kernel
theorem dX6_stow_13 : decode cX6_stow 13 = .ok (.invokevirtual 181, 3) := by decide +kernel
theorem dX6_stow_16 : decode cX6_stow 16 = .ok (.istore_n 2, 1) := by decide +kernel
theorem dX6_stow_17 : decode cX6_stow 17 = .ok (.goto 14, 3) := by decide +kernel
theorem dX6_stow_20 : decode cX6_stow 20 = .ok (.aload_n 0, 1) := by decide +kernel
theorem dX6_stow_21 : decode cX6_stow 21 = .ok (.iload_n 2, 1) := by decide +kernel
theorem dX6_stow_22 : decode cX6_stow 22 = .ok (.iload_n 1, 1) := by decide +kernel
theorem dX6_stow_23 : decode cX6_stow 23 = .ok (.invokevirtual 184, 3) := by decide +kernel
theorem dX6_stow_26 : decode cX6_stow 26 = .ok (.ifCond .ne 5, 3) := by decide +kernel
theorem dX6_stow_29 : decode cX6_stow 29 = .ok (.iconst (-1), 1) := by decide +kernel
theorem dX6_stow_30 : decode cX6_stow 30 = .ok (.istore_n 2, 1) := by decide +kernel
theorem dX6_stow_31 : decode cX6_stow 31 = .ok (.iload_n 2, 1) := by decide +kernel
theorem dX6_stow_32 : decode cX6_stow 32 = .ok (.ifCond .ge 13, 3) := by decide +kernel
theorem dX6_stow_35 : decode cX6_stow 35 = .ok (.aload_n 0, 1) := by decide +kernel
theorem dX6_stow_36 : decode cX6_stow 36 = .ok (.getfield 27, 3) := by decide +kernel
theorem dX6_stow_39 : decode cX6_stow 39 = .ok (.iload_n 1, 1) := by decide +kernel
theorem dX6_stow_40 : decode cX6_stow 40 = .ok (.iconst 5, 1) := by decide +kernel
theorem dX6_stow_41 : decode cX6_stow 41 = .ok (.iastore, 1) := by decide +kernel
theorem dX6_stow_42 : decode cX6_stow 42 = .ok (.goto 9, 3) := by decide +kernel
theorem dX6_stow_45 : decode cX6_stow 45 = .ok (.aload_n 0, 1) := by decide +kernel
theorem dX6_stow_46 : decode cX6_stow 46 = .ok (.iload_n 2, 1) := by decide +kernel
theorem dX6_stow_47 : decode cX6_stow 47 = .ok (.iload_n 1, 1) := by decide +kernel
theorem dX6_stow_48 : decode cX6_stow 48 = .ok (.invokevirtual 187, 3) := by decide +kernel
theorem dX6_stow_51 : decode cX6_stow 51 = .ok (.return_, 1) := by decide +kernel
theorem dX6_placeByRule_0 : decode cX6_placeByRule 0 = .ok (.iconst (-1), 1) := by decide +kernel
theorem dX6_placeByRule_1 : decode cX6_placeByRule 1 = .ok (.istore_n 2, 1) := by decide +kernel
theorem dX6_placeByRule_2 : decode cX6_placeByRule 2 = .ok (.iconst 0, 1) := by decide +kernel
theorem dX6_placeByRule_3 : decode cX6_placeByRule 3 = .ok (.istore_n 3, 1) := by decide +kernel
theorem dX6_placeByRule_4 : decode cX6_placeByRule 4 = .ok (.iload_n 3, 1) := by decide +kernel
theorem dX6_placeByRule_5 : decode cX6_placeByRule 5 = .ok (.aload_n 0, 1) := by decide +kernel
theorem dX6_placeByRule_6 : decode cX6_placeByRule 6 = .ok (.getfield 59, 3) := by decide +kernel
theorem dX6_placeByRule_9 : decode cX6_placeByRule 9 = .ok (.getfield 190, 3) := by decide +kernel
theorem dX6_placeByRule_12 : decode cX6_placeByRule 12 = .ok (.if_icmp .ge 82, 3) := by decide +kernel
theorem dX6_placeByRule_15 : decode cX6_placeByRule 15 = .ok (.aload_n 0, 1) := by decide +kernel
theorem dX6_placeByRule_16 : decode cX6_placeByRule 16 = .ok (.iload_n 3, 1) := by decide +kernel
theorem dX6_placeByRule_17 : decode cX6_placeByRule 17 = .ok (.iload_n 1, 1) := by decide +kernel
theorem dX6_placeByRule_18 : decode cX6_placeByRule 18 = .ok (.invokevirtual 184, 3) := by decide +kernel
theorem dX6_placeByRule_21 : decode cX6_placeByRule 21 = .ok (.ifCond .eq 67, 3) := by decide +kernel
theorem dX6_placeByRule_24 : decode cX6_placeByRule 24 = .ok (.aload_n 0, 1) := by decide +kernel
theorem dX6_placeByRule_25 : decode cX6_placeByRule 25 = .ok (.getfield 81, 3) := by decide +kernel
theorem dX6_placeByRule_28 : decode cX6_placeByRule 28 = .ok (.ifCond .ne 15, 3) := by decide +kernel
theorem dX6_placeByRule_31 : decode cX6_placeByRule 31 = .ok (.iload_n 2, 1) := by decide +kernel
theorem dX6_placeByRule_32 : decode cX6_placeByRule 32 = .ok (.ifCond .ge 7, 3) := by decide +kernel
theorem dX6_placeByRule_35 : decode cX6_placeByRule 35 = .ok (.iconst 1, 1) := by decide +kernel
theorem dX6_placeByRule_36 : decode cX6_placeByRule 36 = .ok (.goto 39, 3) := by decide +kernel
theorem dX6_placeByRule_39 : decode cX6_placeByRule 39 = .ok (.iconst 0, 1) := by decide +kernel
theorem dX6_placeByRule_40 : decode cX6_placeByRule 40 = .ok (.goto 35, 3) := by decide +kernel
theorem dX6_placeByRule_43 : decode cX6_placeByRule 43 = .ok (.aload_n 0, 1) := by decide +kernel
theorem dX6_placeByRule_44 : decode cX6_placeByRule 44 = .ok (.getfield 81, 3) := by decide +kernel
theorem dX6_placeByRule_47 : decode cX6_placeByRule 47 = .ok (.iconst 1, 1) := by decide +kernel
theorem dX6_placeByRule_48 : decode cX6_placeByRule 48 = .ok (.if_icmp .ne 22, 3) := by decide +kernel
theorem dX6_placeByRule_51 : decode cX6_placeByRule 51 = .ok (.iload_n 2, 1) := by decide +kernel
theorem dX6_placeByRule_52 : decode cX6_placeByRule 52 = .ok (.ifCond .lt 18, 3) := by decide +kernel
theorem dX6_placeByRule_55 : decode cX6_placeByRule 55 = .ok (.aload_n 0, 1) := by decide +kernel
theorem dX6_placeByRule_56 : decode cX6_placeByRule 56 = .ok (.getfield 39, 3) := by decide +kernel
theorem dX6_placeByRule_59 : decode cX6_placeByRule 59 = .ok (.iload_n 3, 1) := by decide +kernel
theorem dX6_placeByRule_60 : decode cX6_placeByRule 60 = .ok (.iaload, 1) := by decide +kernel
theorem dX6_placeByRule_61 : decode cX6_placeByRule 61 = .ok (.aload_n 0, 1) := by decide +kernel
theorem dX6_placeByRule_62 : decode cX6_placeByRule 62 = .ok (.getfield 39, 3) := by decide +kernel
theorem dX6_placeByRule_65 : decode cX6_placeByRule 65 = .ok (.iload_n 2, 1) := by decide +kernel
theorem dX6_placeByRule_66 : decode cX6_placeByRule 66 = .ok (.iaload, 1) := by decide +kernel
theorem dX6_placeByRule_67 : decode cX6_placeByRule 67 = .ok (.if_icmp .ge 7, 3) := by decide +kernel
theorem dX6_placeByRule_70 : decode cX6_placeByRule 70 = .ok (.iconst 1, 1) := by decide +kernel
theorem dX6_placeByRule_71 : decode cX6_placeByRule 71 = .ok (.goto 4, 3) := by decide +kernel
theorem dX6_placeByRule_74 : decode cX6_placeByRule 74 = .ok (.iconst 0, 1) := by decide +kernel
theorem dX6_placeByRule_75 : decode cX6_placeByRule 75 = .ok (.istore 4, 2) := by decide +kernel
theorem dX6_placeByRule_77 : decode cX6_placeByRule 77 = .ok (.iload 4, 2) := by decide +kernel
theorem dX6_placeByRule_79 : decode cX6_placeByRule 79 = .ok (.ifCond .eq 7, 3) := by decide +kernel
theorem dX6_placeByRule_82 : decode cX6_placeByRule 82 = .ok (.iload_n 3, 1) := by decide +kernel
theorem dX6_placeByRule_83 : decode cX6_placeByRule 83 = .ok (.goto 4, 3) := by decide +kernel
theorem dX6_placeByRule_86 : decode cX6_placeByRule 86 = .ok (.iload_n 2, 1) := by decide +kernel
theorem dX6_placeByRule_87 : decode cX6_placeByRule 87 = .ok (.istore_n 2, 1) := by decide +kernel
theorem dX6_placeByRule_88 : decode cX6_placeByRule 88 = .ok (.iinc 3 1, 3) := by decide +kernel
theorem dX6_placeByRule_91 : decode cX6_placeByRule 91 = .ok (.goto (-87), 3) := by decide +kernel
theorem dX6_placeByRule_94 : decode cX6_placeByRule 94 = .ok (.iload_n 2, 1) := by decide +kernel
theorem dX6_placeByRule_95 : decode cX6_placeByRule 95 = .ok (.ireturn, 1) := by decide +kernel
theorem dX6_fallOff_0 : decode cX6_fallOff 0 = .ok (.iconst 0, 1) := by decide +kernel
theorem dX6_fallOff_1 : decode cX6_fallOff 1 = .ok (.istore_n 1, 1) := by decide +kernel
theorem dX6_fallOff_2 : decode cX6_fallOff 2 = .ok (.iconst 0, 1) := by decide +kernel
theorem dX6_fallOff_3 : decode cX6_fallOff 3 = .ok (.istore_n 2, 1) := by decide +kernel
theorem dX6_fallOff_4 : decode cX6_fallOff 4 = .ok (.iload_n 2, 1) := by decide +kernel
theorem dX6_fallOff_5 : decode cX6_fallOff 5 = .ok (.aload_n 0, 1) := by decide +kernel
theorem dX6_fallOff_6 : decode cX6_fallOff 6 = .ok (.getfield 59, 3) := by decide +kernel
theorem dX6_fallOff_9 : decode cX6_fallOff 9 = .ok (.getfield 190, 3) := by decide +kernel
theorem dX6_fallOff_12 : decode cX6_fallOff 12 = .ok (.if_icmp .ge 58, 3) := by decide +kernel
theorem dX6_fallOff_15 : decode cX6_fallOff 15 = .ok (.aload_n 0, 1) := by decide +kernel
theorem dX6_fallOff_16 : decode cX6_fallOff 16 = .ok (.getfield 53, 3) := by decide +kernel
theorem dX6_fallOff_19 : decode cX6_fallOff 19 = .ok (.ifCond .eq 51, 3) := by decide +kernel
theorem dX6_fallOff_22 : decode cX6_fallOff 22 = .ok (.aload_n 0, 1) := by decide +kernel
theorem dX6_fallOff_23 : decode cX6_fallOff 23 = .ok (.iload_n 2, 1) := by decide +kernel
theorem dX6_fallOff_24 : decode cX6_fallOff 24 = .ok (.invokevirtual 193, 3) := by decide +kernel
theorem dX6_fallOff_27 : decode cX6_fallOff 27 = .ok (.istore_n 3, 1) := by decide +kernel
theorem dX6_fallOff_28 : decode cX6_fallOff 28 = .ok (.iload_n 3, 1) := by decide +kernel
theorem dX6_fallOff_29 : decode cX6_fallOff 29 = .ok (.ifCond .lt 35, 3) := by decide +kernel
theorem dX6_fallOff_32 : decode cX6_fallOff 32 = .ok (.aload_n 0, 1) := by decide +kernel
theorem dX6_fallOff_33 : decode cX6_fallOff 33 = .ok (.iload_n 2, 1) := by decide +kernel
theorem dX6_fallOff_34 : decode cX6_fallOff 34 = .ok (.invokevirtual 196, 3) := by decide +kernel
theorem dX6_fallOff_37 : decode cX6_fallOff 37 = .ok (.ifCond .eq 27, 3) := by decide +kernel
theorem dX6_fallOff_40 : decode cX6_fallOff 40 = .ok (.aload_n 0, 1) := by decide +kernel
theorem dX6_fallOff_41 : decode cX6_fallOff 41 = .ok (.aload_n 0, 1) := by decide +kernel
theorem dX6_fallOff_42 : decode cX6_fallOff 42 = .ok (.iload_n 3, 1) := by decide +kernel
theorem dX6_fallOff_43 : decode cX6_fallOff 43 = .ok (.invokevirtual 199, 3) := by decide +kernel
theorem dX6_fallOff_46 : decode cX6_fallOff 46 = .ok (.invokevirtual 202, 3) := by decide +kernel
theorem dX6_fallOff_49 : decode cX6_fallOff 49 = .ok (.ifCond .eq 15, 3) := by decide +kernel
theorem dX6_fallOff_52 : decode cX6_fallOff 52 = .ok (.aload_n 0, 1) := by decide +kernel
theorem dX6_fallOff_53 : decode cX6_fallOff 53 = .ok (.iload_n 3, 1) := by decide +kernel
theorem dX6_fallOff_54 : decode cX6_fallOff 54 = .ok (.iconst 3, 1) := by decide +kernel
theorem dX6_fallOff_55 : decode cX6_fallOff 55 = .ok (.invokevirtual 166, 3) := by decide +kernel
theorem dX6_fallOff_58 : decode cX6_fallOff 58 = .ok (.iload_n 1, 1) := by decide +kernel
theorem dX6_fallOff_59 : decode cX6_fallOff 59 = .ok (.iconst 1, 1) := by decide +kernel
theorem dX6_fallOff_60 : decode cX6_fallOff 60 = .ok (.iload_n 3, 1) := by decide +kernel
theorem dX6_fallOff_61 : decode cX6_fallOff 61 = .ok (.ishl, 1) := by decide +kernel
theorem dX6_fallOff_62 : decode cX6_fallOff 62 = .ok (.ior, 1) := by decide +kernel
theorem dX6_fallOff_63 : decode cX6_fallOff 63 = .ok (.istore_n 1, 1) := by decide +kernel
theorem dX6_fallOff_64 : decode cX6_fallOff 64 = .ok (.iinc 2 1, 3) := by decide +kernel
theorem dX6_fallOff_67 : decode cX6_fallOff 67 = .ok (.goto (-63), 3) := by decide +kernel
theorem dX6_fallOff_70 : decode cX6_fallOff 70 = .ok (.iload_n 1, 1) := by decide +kernel
theorem dX6_fallOff_71 : decode cX6_fallOff 71 = .ok (.ireturn, 1) := by decide +kernel
theorem dX6_stealAway_0 : decode cX6_stealAway 0 = .ok (.iconst 0, 1) := by decide +kernel
theorem dX6_stealAway_1 : decode cX6_stealAway 1 = .ok (.istore_n 1, 1) := by decide +kernel
theorem dX6_stealAway_2 : decode cX6_stealAway 2 = .ok (.iload_n 1, 1) := by decide +kernel
theorem dX6_stealAway_3 : decode cX6_stealAway 3 = .ok (.aload_n 0, 1) := by decide +kernel
theorem dX6_stealAway_4 : decode cX6_stealAway 4 = .ok (.getfield 59, 3) := by decide +kernel
theorem dX6_stealAway_7 : decode cX6_stealAway 7 = .ok (.getfield 110, 3) := by decide +kernel
theorem dX6_stealAway_10 : decode cX6_stealAway 10 = .ok (.if_icmp .ge 58, 3) := by decide +kernel
theorem dX6_stealAway_13 : decode cX6_stealAway 13 = .ok (.aload_n 0, 1) := by decide +kernel
theorem dX6_stealAway_14 : decode cX6_stealAway 14 = .ok (.getfield 56, 3) := by decide +kernel
theorem dX6_stealAway_17 : decode cX6_stealAway 17 = .ok (.ifCond .eq 51, 3) := by decide +kernel
theorem dX6_stealAway_20 : decode cX6_stealAway 20 = .ok (.aload_n 0, 1) := by decide +kernel
theorem dX6_stealAway_21 : decode cX6_stealAway 21 = .ok (.getfield 30, 3) := by decide +kernel
theorem dX6_stealAway_24 : decode cX6_stealAway 24 = .ok (.iload_n 1, 1) := by decide +kernel
theorem dX6_stealAway_25 : decode cX6_stealAway 25 = .ok (.iaload, 1) := by decide +kernel
theorem dX6_stealAway_26 : decode cX6_stealAway 26 = .ok (.istore_n 2, 1) := by decide +kernel
theorem dX6_stealAway_27 : decode cX6_stealAway 27 = .ok (.iload_n 2, 1) := by decide +kernel
theorem dX6_stealAway_28 : decode cX6_stealAway 28 = .ok (.ifCond .lt 34, 3) := by decide +kernel
theorem dX6_stealAway_31 : decode cX6_stealAway 31 = .ok (.aload_n 0, 1) := by decide +kernel
theorem dX6_stealAway_32 : decode cX6_stealAway 32 = .ok (.getfield 59, 3) := by decide +kernel
theorem dX6_stealAway_35 : decode cX6_stealAway 35 = .ok (.getfield 107, 3) := by decide +kernel
theorem dX6_stealAway_38 : decode cX6_stealAway 38 = .ok (.iload_n 2, 1) := by decide +kernel
theorem dX6_stealAway_39 : decode cX6_stealAway 39 = .ok (.iaload, 1) := by decide +kernel
theorem dX6_stealAway_40 : decode cX6_stealAway 40 = .ok (.iconst 4, 1) := by decide +kernel
theorem dX6_stealAway_41 : decode cX6_stealAway 41 = .ok (.if_icmp .ne 21, 3) := by decide +kernel
theorem dX6_stealAway_44 : decode cX6_stealAway 44 = .ok (.aload_n 0, 1) := by decide +kernel
theorem dX6_stealAway_45 : decode cX6_stealAway 45 = .ok (.aload_n 0, 1) := by decide +kernel
theorem dX6_stealAway_46 : decode cX6_stealAway 46 = .ok (.iload_n 1, 1) := by decide +kernel
theorem dX6_stealAway_47 : decode cX6_stealAway 47 = .ok (.invokevirtual 205, 3) := by decide +kernel
theorem dX6_stealAway_50 : decode cX6_stealAway 50 = .ok (.invokevirtual 202, 3) := by decide +kernel
theorem dX6_stealAway_53 : decode cX6_stealAway 53 = .ok (.ifCond .eq 9, 3) := by decide +kernel
theorem dX6_stealAway_56 : decode cX6_stealAway 56 = .ok (.aload_n 0, 1) := by decide +kernel
theorem dX6_stealAway_57 : decode cX6_stealAway 57 = .ok (.iload_n 1, 1) := by decide +kernel
theorem dX6_stealAway_58 : decode cX6_stealAway 58 = .ok (.iconst 4, 1) := by decide +kernel
theorem dX6_stealAway_59 : decode cX6_stealAway 59 = .ok (.invokevirtual 166, 3) := by decide +kernel
theorem dX6_stealAway_62 : decode cX6_stealAway 62 = .ok (.iinc 1 1, 3) := by decide +kernel
theorem dX6_stealAway_65 : decode cX6_stealAway 65 = .ok (.goto (-63), 3) := by decide +kernel
theorem dX6_stealAway_68 : decode cX6_stealAway 68 = .ok (.return_, 1) := by decide +kernel
theorem dX6_wayOn_0 : decode cX6_wayOn 0 = .ok (.aload_n 0, 1) := by decide +kernel
theorem dX6_wayOn_1 : decode cX6_wayOn 1 = .ok (.invokevirtual 208, 3) := by decide +kernel
theorem dX6_wayOn_4 : decode cX6_wayOn 4 = .ok (.pop, 1) := by decide +kernel
theorem dX6_wayOn_5 : decode cX6_wayOn 5 = .ok (.aload_n 0, 1) := by decide +kernel
theorem dX6_wayOn_6 : decode cX6_wayOn 6 = .ok (.invokevirtual 212, 3) := by decide +kernel
theorem dX6_wayOn_9 : decode cX6_wayOn 9 = .ok (.aload_n 0, 1) := by decide +kernel
theorem dX6_wayOn_10 : decode cX6_wayOn 10 = .ok (.dup, 1) := by decide +kernel
theorem dX6_wayOn_11 : decode cX6_wayOn 11 = .ok (.getfield 63, 3) := by decide +kernel
theorem dX6_wayOn_14 : decode cX6_wayOn 14 = .ok (.iconst 1, 1) := by decide +kernel
theorem dX6_wayOn_15 : decode cX6_wayOn 15 = .ok (.iadd, 1) := by decide +kernel
theorem dX6_wayOn_16 : decode cX6_wayOn 16 = .ok (.putfield 63, 3) := by decide +kernel
theorem dX6_wayOn_19 : decode cX6_wayOn 19 = .ok (.return_, 1) := by decide +kernel
theorem dX6_passStop_0 : decode cX6_passStop 0 = .ok (.aload_n 0, 1) := by decide +kernel
theorem dX6_passStop_1 : decode cX6_passStop 1 = .ok (.getfield 63, 3) := by decide +kernel
theorem dX6_passStop_4 : decode cX6_passStop 4 = .ok (.bipush 20, 2) := by decide +kernel
theorem dX6_passStop_6 : decode cX6_passStop 6 = .ok (.if_icmp .gt 28, 3) := by decide +kernel
theorem dX6_passStop_9 : decode cX6_passStop 9 = .ok (.aload_n 0, 1) := by decide +kernel
theorem dX6_passStop_10 : decode cX6_passStop 10 = .ok (.aload_n 0, 1) := by decide +kernel
theorem dX6_passStop_11 : decode cX6_passStop 11 = .ok (.getfield 59, 3) := by decide +kernel
theorem dX6_passStop_14 : decode cX6_passStop 14 = .ok (.getfield 215, 3) := by decide +kernel
theorem dX6_passStop_17 : decode cX6_passStop 17 = .ok (.aload_n 0, 1) := by decide +kernel
theorem dX6_passStop_18 : decode cX6_passStop 18 = .ok (.getfield 63, 3) := by decide +kernel
theorem dX6_passStop_21 : decode cX6_passStop 21 = .ok (.iaload, 1) := by decide +kernel
theorem dX6_passStop_22 : decode cX6_passStop 22 = .ok (.invokevirtual 218, 3) := by decide +kernel
theorem dX6_passStop_25 : decode cX6_passStop 25 = .ok (.pop, 1) := by decide +kernel
theorem dX6_passStop_26 : decode cX6_passStop 26 = .ok (.aload_n 0, 1) := by decide +kernel
theorem dX6_passStop_27 : decode cX6_passStop 27 = .ok (.invokevirtual 221, 3) := by decide +kernel
theorem dX6_passStop_30 : decode cX6_passStop 30 = .ok (.aload_n 0, 1) := by decide +kernel
theorem dX6_passStop_31 : decode cX6_passStop 31 = .ok (.invokevirtual 224, 3) := by decide +kernel
theorem dX6_passStop_34 : decode cX6_passStop 34 = .ok (.return_, 1) := by decide +kernel
theorem dX6_runToEnd_0 : decode cX6_runToEnd 0 = .ok (.aload_n 0, 1) := by decide +kernel
theorem dX6_runToEnd_1 : decode cX6_runToEnd 1 = .ok (.getfield 63, 3) := by decide +kernel
theorem dX6_runToEnd_4 : decode cX6_runToEnd 4 = .ok (.bipush 20, 2) := by decide +kernel
theorem dX6_runToEnd_6 : decode cX6_runToEnd 6 = .ok (.if_icmp .gt 53, 3) := by decide +kernel
theorem dX6_runToEnd_9 : decode cX6_runToEnd 9 = .ok (.aload_n 0, 1) := by decide +kernel
theorem dX6_runToEnd_10 : decode cX6_runToEnd 10 = .ok (.invokevirtual 227, 3) := by decide +kernel
theorem dX6_runToEnd_13 : decode cX6_runToEnd 13 = .ok (.ifCond .eq 46, 3) := by decide +kernel
theorem dX6_runToEnd_16 : decode cX6_runToEnd 16 = .ok (.aload_n 0, 1) := by decide +kernel
theorem dX6_runToEnd_17 : decode cX6_runToEnd 17 = .ok (.aload_n 0, 1) := by decide +kernel
theorem dX6_runToEnd_18 : decode cX6_runToEnd 18 = .ok (.getfield 59, 3) := by decide +kernel
theorem dX6_runToEnd_21 : decode cX6_runToEnd 21 = .ok (.getfield 215, 3) := by decide +kernel
theorem dX6_runToEnd_24 : decode cX6_runToEnd 24 = .ok (.aload_n 0, 1) := by decide +kernel
theorem dX6_runToEnd_25 : decode cX6_runToEnd 25 = .ok (.getfield 63, 3) := by decide +kernel
theorem dX6_runToEnd_28 : decode cX6_runToEnd 28 = .ok (.iaload, 1) := by decide +kernel
theorem dX6_runToEnd_29 : decode cX6_runToEnd 29 = .ok (.invokevirtual 218, 3) := by decide +kernel
theorem dX6_runToEnd_32 : decode cX6_runToEnd 32 = .ok (.pop, 1) := by decide +kernel
theorem dX6_runToEnd_33 : decode cX6_runToEnd 33 = .ok (.aload_n 0, 1) := by decide +kernel
theorem dX6_runToEnd_34 : decode cX6_runToEnd 34 = .ok (.invokevirtual 221, 3) := by decide +kernel
theorem dX6_runToEnd_37 : decode cX6_runToEnd 37 = .ok (.aload_n 0, 1) := by decide +kernel
theorem dX6_runToEnd_38 : decode cX6_runToEnd 38 = .ok (.invokevirtual 208, 3) := by decide +kernel
theorem dX6_runToEnd_41 : decode cX6_runToEnd 41 = .ok (.pop, 1) := by decide +kernel
theorem dX6_runToEnd_42 : decode cX6_runToEnd 42 = .ok (.aload_n 0, 1) := by decide +kernel
theorem dX6_runToEnd_43 : decode cX6_runToEnd 43 = .ok (.invokevirtual 212, 3) := by decide +kernel
theorem dX6_runToEnd_46 : decode cX6_runToEnd 46 = .ok (.aload_n 0, 1) := by decide +kernel
theorem dX6_runToEnd_47 : decode cX6_runToEnd 47 = .ok (.dup, 1) := by decide +kernel
theorem dX6_runToEnd_48 : decode cX6_runToEnd 48 = .ok (.getfield 63, 3) := by decide +kernel
theorem dX6_runToEnd_51 : decode cX6_runToEnd 51 = .ok (.iconst 1, 1) := by decide +kernel
theorem dX6_runToEnd_52 : decode cX6_runToEnd 52 = .ok (.iadd, 1) := by decide +kernel
theorem dX6_runToEnd_53 : decode cX6_runToEnd 53 = .ok (.putfield 63, 3) := by decide +kernel
theorem dX6_runToEnd_56 : decode cX6_runToEnd 56 = .ok (.goto (-56), 3) := by decide +kernel
theorem dX6_runToEnd_59 : decode cX6_runToEnd 59 = .ok (.return_, 1) := by decide +kernel
theorem dX6_sendAway_0 : decode cX6_sendAway 0 = .ok (.aload_n 0, 1) := by decide +kernel
theorem dX6_sendAway_1 : decode cX6_sendAway 1 = .ok (.getfield 18, 3) := by decide +kernel
theorem dX6_sendAway_4 : decode cX6_sendAway 4 = .ok (.iload_n 1, 1) := by decide +kernel
theorem dX6_sendAway_5 : decode cX6_sendAway 5 = .ok (.iaload, 1) := by decide +kernel
theorem dX6_sendAway_6 : decode cX6_sendAway 6 = .ok (.iconst 1, 1) := by decide +kernel
theorem dX6_sendAway_7 : decode cX6_sendAway 7 = .ok (.if_icmp .ne 9, 3) := by decide +kernel
theorem dX6_sendAway_10 : decode cX6_sendAway 10 = .ok (.aload_n 0, 1) := by decide +kernel
theorem dX6_sendAway_11 : decode cX6_sendAway 11 = .ok (.iload_n 1, 1) := by decide +kernel
theorem dX6_sendAway_12 : decode cX6_sendAway 12 = .ok (.iconst 2, 1) := by decide +kernel
theorem dX6_sendAway_13 : decode cX6_sendAway 13 = .ok (.invokevirtual 170, 3) := by decide +kernel
theorem dX6_sendAway_16 : decode cX6_sendAway 16 = .ok (.aload_n 0, 1) := by decide +kernel
theorem dX6_sendAway_17 : decode cX6_sendAway 17 = .ok (.getfield 18, 3) := by decide +kernel
theorem dX6_sendAway_20 : decode cX6_sendAway 20 = .ok (.iload_n 1, 1) := by decide +kernel
theorem dX6_sendAway_21 : decode cX6_sendAway 21 = .ok (.iconst 2, 1) := by decide +kernel
theorem dX6_sendAway_22 : decode cX6_sendAway 22 = .ok (.iastore, 1) := by decide +kernel
theorem dX6_sendAway_23 : decode cX6_sendAway 23 = .ok (.return_, 1) := by decide +kernel
theorem dX6_strengthenAll_0 : decode cX6_strengthenAll 0 = .ok (.iconst 0, 1) := by decide +kernel
theorem dX6_strengthenAll_1 : decode cX6_strengthenAll 1 = .ok (.istore_n 1, 1) := by decide +kernel
theorem dX6_strengthenAll_2 : decode cX6_strengthenAll 2 = .ok (.iload_n 1, 1) := by decide +kernel
theorem dX6_strengthenAll_3 : decode cX6_strengthenAll 3 = .ok (.bipush 6, 2) := by decide +kernel
theorem dX6_strengthenAll_5 : decode cX6_strengthenAll 5 = .ok (.if_icmp .ge 17, 3) := by decide +kernel
theorem dX6_strengthenAll_8 : decode cX6_strengthenAll 8 = .ok (.aload_n 0, 1) := by decide +kernel
theorem dX6_strengthenAll_9 : decode cX6_strengthenAll 9 = .ok (.getfield 15, 3) := by decide +kernel
theorem dX6_strengthenAll_12 : decode cX6_strengthenAll 12 = .ok (.iload_n 1, 1) := by decide +kernel
theorem dX6_strengthenAll_13 : decode cX6_strengthenAll 13 = .ok (.bipush 99, 2) := by decide +kernel
theorem dX6_strengthenAll_15 : decode cX6_strengthenAll 15 = .ok (.iastore, 1) := by decide +kernel
theorem dX6_strengthenAll_16 : decode cX6_strengthenAll 16 = .ok (.iinc 1 1, 3) := by decide +kernel
theorem dX6_strengthenAll_19 : decode cX6_strengthenAll 19 = .ok (.goto (-17), 3) := by decide +kernel
theorem dX6_strengthenAll_22 : decode cX6_strengthenAll 22 = .ok (.return_, 1) := by decide +kernel

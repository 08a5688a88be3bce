theorem dX0_init_0 : decode cX0_init 0 = .ok (.aload_n 0, 1) := by decide +kernel
theorem dX0_init_1 : decode cX0_init 1 = .ok (.invokespecial 3, 3) := by decide +kernel
theorem dX0_init_4 : decode cX0_init 4 = .ok (.aload_n 0, 1) := by decide +kernel
theorem dX0_init_5 : decode cX0_init 5 = .ok (.iconst 0, 1) := by decide +kernel
theorem dX0_init_6 : decode cX0_init 6 = .ok (.putfield 9, 3) := by decide +kernel
theorem dX0_init_9 : decode cX0_init 9 = .ok (.aload_n 0, 1) := by decide +kernel
theorem dX0_init_10 : decode cX0_init 10 = .ok (.iconst 0, 1) := by decide +kernel
theorem dX0_init_11 : decode cX0_init 11 = .ok (.putfield 15, 3) := by decide +kernel
theorem dX0_init_14 : decode cX0_init 14 = .ok (.aload_n 0, 1) := by decide +kernel
theorem dX0_init_15 : decode cX0_init 15 = .ok (.sipush 1520, 3) := by decide +kernel
theorem dX0_init_18 : decode cX0_init 18 = .ok (.newarray .int, 2) := by decide +kernel
theorem dX0_init_20 : decode cX0_init 20 = .ok (.putfield 18, 3) := by decide +kernel
theorem dX0_init_23 : decode cX0_init 23 = .ok (.return_, 1) := by decide +kernel
theorem dX1_init_0 : decode cX1_init 0 = .ok (.aload_n 0, 1) := by decide +kernel
theorem dX1_init_1 : decode cX1_init 1 = .ok (.invokespecial 3, 3) := by decide +kernel
theorem dX1_init_4 : decode cX1_init 4 = .ok (.aload_n 0, 1) := by decide +kernel
theorem dX1_init_5 : decode cX1_init 5 = .ok (.bipush 64, 2) := by decide +kernel
theorem dX1_init_7 : decode cX1_init 7 = .ok (.newarray .int, 2) := by decide +kernel
theorem dX1_init_9 : decode cX1_init 9 = .ok (.putfield 9, 3) := by decide +kernel
theorem dX1_init_12 : decode cX1_init 12 = .ok (.aload_n 0, 1) := by decide +kernel
theorem dX1_init_13 : decode cX1_init 13 = .ok (.bipush 64, 2) := by decide +kernel
theorem dX1_init_15 : decode cX1_init 15 = .ok (.newarray .long, 2) := by decide +kernel
theorem dX1_init_17 : decode cX1_init 17 = .ok (.putfield 15, 3) := by decide +kernel
theorem dX1_init_20 : decode cX1_init 20 = .ok (.return_, 1) := by decide +kernel
theorem dX2_init_0 : decode cX2_init 0 = .ok (.aload_n 0, 1) := by decide +kernel
theorem dX2_init_1 : decode cX2_init 1 = .ok (.invokespecial 3, 3) := by decide +kernel
theorem dX2_init_4 : decode cX2_init 4 = .ok (.aload_n 0, 1) := by decide +kernel
theorem dX2_init_5 : decode cX2_init 5 = .ok (.iconst 5, 1) := by decide +kernel
theorem dX2_init_6 : decode cX2_init 6 = .ok (.newarray .int, 2) := by decide +kernel
theorem dX2_init_8 : decode cX2_init 8 = .ok (.putfield 9, 3) := by decide +kernel
theorem dX2_init_11 : decode cX2_init 11 = .ok (.aload_n 0, 1) := by decide +kernel
theorem dX2_init_12 : decode cX2_init 12 = .ok (.iconst 5, 1) := by decide +kernel
theorem dX2_init_13 : decode cX2_init 13 = .ok (.newarray .int, 2) := by decide +kernel
theorem dX2_init_15 : decode cX2_init 15 = .ok (.putfield 15, 3) := by decide +kernel
theorem dX2_init_18 : decode cX2_init 18 = .ok (.aload_n 0, 1) := by decide +kernel
theorem dX2_init_19 : decode cX2_init 19 = .ok (.bipush 6, 2) := by decide +kernel
theorem dX2_init_21 : decode cX2_init 21 = .ok (.newarray .int, 2) := by decide +kernel
theorem dX2_init_23 : decode cX2_init 23 = .ok (.putfield 18, 3) := by decide +kernel
theorem dX2_init_26 : decode cX2_init 26 = .ok (.aload_n 0, 1) := by decide +kernel
theorem dX2_init_27 : decode cX2_init 27 = .ok (.bipush 6, 2) := by decide +kernel
theorem dX2_init_29 : decode cX2_init 29 = .ok (.newarray .int, 2) := by decide +kernel
theorem dX2_init_31 : decode cX2_init 31 = .ok (.putfield 21, 3) := by decide +kernel
theorem dX2_init_34 : decode cX2_init 34 = .ok (.aload_n 0, 1) := by decide +kernel
theorem dX2_init_35 : decode cX2_init 35 = .ok (.bipush 6, 2) := by decide +kernel
theorem dX2_init_37 : decode cX2_init 37 = .ok (.newarray .int, 2) := by decide +kernel
theorem dX2_init_39 : decode cX2_init 39 = .ok (.putfield 24, 3) := by decide +kernel
theorem dX2_init_42 : decode cX2_init 42 = .ok (.aload_n 0, 1) := by decide +kernel
theorem dX2_init_43 : decode cX2_init 43 = .ok (.bipush 6, 2) := by decide +kernel
theorem dX2_init_45 : decode cX2_init 45 = .ok (.newarray .int, 2) := by decide +kernel
theorem dX2_init_47 : decode cX2_init 47 = .ok (.putfield 27, 3) := by decide +kernel
theorem dX2_init_50 : decode cX2_init 50 = .ok (.aload_n 0, 1) := by decide +kernel
theorem dX2_init_51 : decode cX2_init 51 = .ok (.bipush 10, 2) := by decide +kernel
theorem dX2_init_53 : decode cX2_init 53 = .ok (.newarray .int, 2) := by decide +kernel
theorem dX2_init_55 : decode cX2_init 55 = .ok (.putfield 30, 3) := by decide +kernel
theorem dX2_init_58 : decode cX2_init 58 = .ok (.aload_n 0, 1) := by decide +kernel
theorem dX2_init_59 : decode cX2_init 59 = .ok (.bipush 10, 2) := by decide +kernel
theorem dX2_init_61 : decode cX2_init 61 = .ok (.newarray .int, 2) := by decide +kernel
theorem dX2_init_63 : decode cX2_init 63 = .ok (.putfield 33, 3) := by decide +kernel
theorem dX2_init_66 : decode cX2_init 66 = .ok (.aload_n 0, 1) := by decide +kernel
theorem dX2_init_67 : decode cX2_init 67 = .ok (.bipush 10, 2) := by decide +kernel
theorem dX2_init_69 : decode cX2_init 69 = .ok (.newarray .int, 2) := by decide +kernel
theorem dX2_init_71 : decode cX2_init 71 = .ok (.putfield 36, 3) := by decide +kernel
theorem dX2_init_74 : decode cX2_init 74 = .ok (.aload_n 0, 1) := by decide +kernel
theorem dX2_init_75 : decode cX2_init 75 = .ok (.bipush 10, 2) := by decide +kernel
theorem dX2_init_77 : decode cX2_init 77 = .ok (.newarray .int, 2) := by decide +kernel
theorem dX2_init_79 : decode cX2_init 79 = .ok (.putfield 39, 3) := by decide +kernel
theorem dX2_init_82 : decode cX2_init 82 = .ok (.aload_n 0, 1) := by decide +kernel
theorem dX2_init_83 : decode cX2_init 83 = .ok (.bipush 21, 2) := by decide +kernel
theorem dX2_init_85 : decode cX2_init 85 = .ok (.newarray .int, 2) := by decide +kernel
theorem dX2_init_87 : decode cX2_init 87 = .ok (.putfield 42, 3) := by decide +kernel
theorem dX2_init_90 : decode cX2_init 90 = .ok (.aload_n 0, 1) := by decide +kernel
theorem dX2_init_91 : decode cX2_init 91 = .ok (.iconst 3, 1) := by decide +kernel
theorem dX2_init_92 : decode cX2_init 92 = .ok (.anewarray 45, 3) := by decide +kernel
theorem dX2_init_95 : decode cX2_init 95 = .ok (.putfield 47, 3) := by decide +kernel
theorem dX2_init_98 : decode cX2_init 98 = .ok (.iconst 0, 1) := by decide +kernel
theorem dX2_init_99 : decode cX2_init 99 = .ok (.istore_n 1, 1) := by decide +kernel
theorem dX2_init_100 : decode cX2_init 100 = .ok (.iload_n 1, 1) := by decide +kernel
theorem dX2_init_101 : decode cX2_init 101 = .ok (.iconst 3, 1) := by decide +kernel
theorem dX2_init_102 : decode cX2_init 102 = .ok (.if_icmp .ge 22, 3) := by decide +kernel
theorem dX2_init_105 : decode cX2_init 105 = .ok (.aload_n 0, 1) := by decide +kernel
theorem dX2_init_106 : decode cX2_init 106 = .ok (.getfield 47, 3) := by decide +kernel
theorem dX2_init_109 : decode cX2_init 109 = .ok (.iload_n 1, 1) := by decide +kernel
theorem dX2_init_110 : decode cX2_init 110 = .ok (.new 45, 3) := by decide +kernel
theorem dX2_init_113 : decode cX2_init 113 = .ok (.dup, 1) := by decide +kernel
theorem dX2_init_114 : decode cX2_init 114 = .ok (.invokespecial 51, 3) := by decide +kernel
theorem dX2_init_117 : decode cX2_init 117 = .ok (.aastore, 1) := by decide +kernel
theorem dX2_init_118 : decode cX2_init 118 = .ok (.iinc 1 1, 3) := by decide +kernel
theorem dX2_init_121 : decode cX2_init 121 = .ok (.goto (-21), 3) := by decide +kernel
theorem dX2_init_124 : decode cX2_init 124 = .ok (.aload_n 0, 1) := by decide +kernel
theorem dX2_init_125 : decode cX2_init 125 = .ok (.invokevirtual 52, 3) := by decide +kernel
theorem dX2_init_128 : decode cX2_init 128 = .ok (.return_, 1) := by decide +kernel
theorem dX2_clear_0 : decode cX2_clear 0 = .ok (.aload_n 0, 1) := by decide +kernel
theorem dX2_clear_1 : decode cX2_clear 1 = .ok (.iconst 0, 1) := by decide +kernel
theorem dX2_clear_2 : decode cX2_clear 2 = .ok (.putfield 55, 3) := by decide +kernel
theorem dX2_clear_5 : decode cX2_clear 5 = .ok (.aload_n 0, 1) := by decide +kernel
theorem dX2_clear_6 : decode cX2_clear 6 = .ok (.iconst 0, 1) := by decide +kernel
theorem dX2_clear_7 : decode cX2_clear 7 = .ok (.putfield 59, 3) := by decide +kernel
theorem dX2_clear_10 : decode cX2_clear 10 = .ok (.aload_n 0, 1) := by decide +kernel
theorem dX2_clear_11 : decode cX2_clear 11 = .ok (.iconst 0, 1) := by decide +kernel
theorem dX2_clear_12 : decode cX2_clear 12 = .ok (.putfield 62, 3) := by decide +kernel
theorem dX2_clear_15 : decode cX2_clear 15 = .ok (.aload_n 0, 1) := by decide +kernel
theorem dX2_clear_16 : decode cX2_clear 16 = .ok (.iconst 0, 1) := by decide +kernel
theorem dX2_clear_17 : decode cX2_clear 17 = .ok (.putfield 65, 3) := by decide +kernel
theorem dX2_clear_20 : decode cX2_clear 20 = .ok (.aload_n 0, 1) := by decide +kernel
theorem dX2_clear_21 : decode cX2_clear 21 = .ok (.iconst 0, 1) := by decide +kernel
theorem dX2_clear_22 : decode cX2_clear 22 = .ok (.putfield 68, 3) := by decide +kernel
theorem dX2_clear_25 : decode cX2_clear 25 = .ok (.aload_n 0, 1) := by decide +kernel
theorem dX2_clear_26 : decode cX2_clear 26 = .ok (.iconst 0, 1) := by decide +kernel
theorem dX2_clear_27 : decode cX2_clear 27 = .ok (.putfield 71, 3) := by decide +kernel
theorem dX2_clear_30 : decode cX2_clear 30 = .ok (.aload_n 0, 1) := by decide +kernel
theorem dX2_clear_31 : decode cX2_clear 31 = .ok (.iconst 0, 1) := by decide +kernel
theorem dX2_clear_32 : decode cX2_clear 32 = .ok (.putfield 74, 3) := by decide +kernel
theorem dX2_clear_35 : decode cX2_clear 35 = .ok (.iconst 0, 1) := by decide +kernel
theorem dX2_clear_36 : decode cX2_clear 36 = .ok (.istore_n 1, 1) := by decide +kernel
theorem dX2_clear_37 : decode cX2_clear 37 = .ok (.iload_n 1, 1) := by decide +kernel
theorem dX2_clear_38 : decode cX2_clear 38 = .ok (.bipush 20, 2) := by decide +kernel
theorem dX2_clear_40 : decode cX2_clear 40 = .ok (.if_icmp .gt 17, 3) := by decide +kernel
theorem dX2_clear_43 : decode cX2_clear 43 = .ok (.aload_n 0, 1) := by decide +kernel
theorem dX2_clear_44 : decode cX2_clear 44 = .ok (.getfield 42, 3) := by decide +kernel
theorem dX2_clear_47 : decode cX2_clear 47 = .ok (.iload_n 1, 1) := by decide +kernel
theorem dX2_clear_48 : decode cX2_clear 48 = .ok (.bipush 60, 2) := by decide +kernel
theorem dX2_clear_50 : decode cX2_clear 50 = .ok (.iastore, 1) := by decide +kernel
theorem dX2_clear_51 : decode cX2_clear 51 = .ok (.iinc 1 1, 3) := by decide +kernel
theorem dX2_clear_54 : decode cX2_clear 54 = .ok (.goto (-17), 3) := by decide +kernel
theorem dX2_clear_57 : decode cX2_clear 57 = .ok (.iconst 0, 1) := by decide +kernel
theorem dX2_clear_58 : decode cX2_clear 58 = .ok (.istore_n 1, 1) := by decide +kernel
theorem dX2_clear_59 : decode cX2_clear 59 = .ok (.iload_n 1, 1) := by decide +kernel
theorem dX2_clear_60 : decode cX2_clear 60 = .ok (.iconst 3, 1) := by decide +kernel
theorem dX2_clear_61 : decode cX2_clear 61 = .ok (.if_icmp .ge 19, 3) := by decide +kernel
theorem dX2_clear_64 : decode cX2_clear 64 = .ok (.aload_n 0, 1) := by decide +kernel
theorem dX2_clear_65 : decode cX2_clear 65 = .ok (.getfield 47, 3) := by decide +kernel
theorem dX2_clear_68 : decode cX2_clear 68 = .ok (.iload_n 1, 1) := by decide +kernel
theorem dX2_clear_69 : decode cX2_clear 69 = .ok (.aaload, 1) := by decide +kernel
theorem dX2_clear_70 : decode cX2_clear 70 = .ok (.iconst 0, 1) := by decide +kernel
theorem dX2_clear_71 : decode cX2_clear 71 = .ok (.putfield 77, 3) := by decide +kernel
theorem dX2_clear_74 : decode cX2_clear 74 = .ok (.iinc 1 1, 3) := by decide +kernel
theorem dX2_clear_77 : decode cX2_clear 77 = .ok (.goto (-18), 3) := by decide +kernel
theorem dX2_clear_80 : decode cX2_clear 80 = .ok (.return_, 1) := by decide +kernel
theorem dX2_personNamed_0 : decode cX2_personNamed 0 = .ok (.iconst 0, 1) := by decide +kernel
theorem dX2_personNamed_1 : decode cX2_personNamed 1 = .ok (.istore_n 2, 1) := by decide +kernel
theorem dX2_personNamed_2 : decode cX2_personNamed 2 = .ok (.iload_n 2, 1) := by decide +kernel
theorem dX2_personNamed_3 : decode cX2_personNamed 3 = .ok (.aload_n 0, 1) := by decide +kernel
theorem dX2_personNamed_4 : decode cX2_personNamed 4 = .ok (.getfield 59, 3) := by decide +kernel
theorem dX2_personNamed_7 : decode cX2_personNamed 7 = .ok (.if_icmp .ge 21, 3) := by decide +kernel
theorem dX2_personNamed_10 : decode cX2_personNamed 10 = .ok (.aload_n 0, 1) := by decide +kernel
theorem dX2_personNamed_11 : decode cX2_personNamed 11 = .ok (.getfield 18, 3) := by decide +kernel
theorem dX2_personNamed_14 : decode cX2_personNamed 14 = .ok (.iload_n 2, 1) := by decide +kernel
theorem dX2_personNamed_15 : decode cX2_personNamed 15 = .ok (.iaload, 1) := by decide +kernel
theorem dX2_personNamed_16 : decode cX2_personNamed 16 = .ok (.iload_n 1, 1) := by decide +kernel
theorem dX2_personNamed_17 : decode cX2_personNamed 17 = .ok (.if_icmp .ne 5, 3) := by decide +kernel
theorem dX2_personNamed_20 : decode cX2_personNamed 20 = .ok (.iload_n 2, 1) := by decide +kernel
theorem dX2_personNamed_21 : decode cX2_personNamed 21 = .ok (.ireturn, 1) := by decide +kernel
theorem dX2_personNamed_22 : decode cX2_personNamed 22 = .ok (.iinc 2 1, 3) := by decide +kernel
theorem dX2_personNamed_25 : decode cX2_personNamed 25 = .ok (.goto (-23), 3) := by decide +kernel
theorem dX2_personNamed_28 : decode cX2_personNamed 28 = .ok (.iconst (-1), 1) := by decide +kernel
theorem dX2_personNamed_29 : decode cX2_personNamed 29 = .ok (.ireturn, 1) := by decide +kernel
theorem dX3_init_0 : decode cX3_init 0 = .ok (.aload_n 0, 1) := by decide +kernel
theorem dX3_init_1 : decode cX3_init 1 = .ok (.invokespecial 3, 3) := by decide +kernel
theorem dX3_init_4 : decode cX3_init 4 = .ok (.aload_n 0, 1) := by decide +kernel
theorem dX3_init_5 : decode cX3_init 5 = .ok (.new 9, 3) := by decide +kernel
theorem dX3_init_8 : decode cX3_init 8 = .ok (.dup, 1) := by decide +kernel
theorem dX3_init_9 : decode cX3_init 9 = .ok (.invokespecial 11, 3) := by decide +kernel
theorem dX3_init_12 : decode cX3_init 12 = .ok (.putfield 12, 3) := by decide +kernel
theorem dX3_init_15 : decode cX3_init 15 = .ok (.aload_n 0, 1) := by decide +kernel
theorem dX3_init_16 : decode cX3_init 16 = .ok (.iconst 0, 1) := by decide +kernel
theorem dX3_init_17 : decode cX3_init 17 = .ok (.putfield 18, 3) := by decide +kernel
theorem dX3_init_20 : decode cX3_init 20 = .ok (.aload_n 0, 1) := by decide +kernel
theorem dX3_init_21 : decode cX3_init 21 = .ok (.iconst (-1), 1) := by decide +kernel
theorem dX3_init_22 : decode cX3_init 22 = .ok (.putfield 22, 3) := by decide +kernel
theorem dX3_init_25 : decode cX3_init 25 = .ok (.aload_n 0, 1) := by decide +kernel
theorem dX3_init_26 : decode cX3_init 26 = .ok (.iconst 0, 1) := by decide +kernel
theorem dX3_init_27 : decode cX3_init 27 = .ok (.putfield 25, 3) := by decide +kernel
theorem dX3_init_30 : decode cX3_init 30 = .ok (.aload_n 0, 1) := by decide +kernel
theorem dX3_init_31 : decode cX3_init 31 = .ok (.new 28, 3) := by decide +kernel
theorem dX3_init_34 : decode cX3_init 34 = .ok (.dup, 1) := by decide +kernel
theorem dX3_init_35 : decode cX3_init 35 = .ok (.invokespecial 30, 3) := by decide +kernel
theorem dX3_init_38 : decode cX3_init 38 = .ok (.putfield 31, 3) := by decide +kernel
theorem dX3_init_41 : decode cX3_init 41 = .ok (.aload_n 0, 1) := by decide +kernel
theorem dX3_init_42 : decode cX3_init 42 = .ok (.bipush 72, 2) := by decide +kernel
theorem dX3_init_44 : decode cX3_init 44 = .ok (.newarray .int, 2) := by decide +kernel
theorem dX3_init_46 : decode cX3_init 46 = .ok (.putfield 35, 3) := by decide +kernel
theorem dX3_init_49 : decode cX3_init 49 = .ok (.return_, 1) := by decide +kernel
theorem dX3_readText_0 : decode cX3_readText 0 = .ok (.aload_n 0, 1) := by decide +kernel
theorem dX3_readText_1 : decode cX3_readText 1 = .ok (.getfield 31, 3) := by decide +kernel
theorem dX3_readText_4 : decode cX3_readText 4 = .ok (.invokevirtual 39, 3) := by decide +kernel
theorem dX3_readText_7 : decode cX3_readText 7 = .ok (.aload_n 0, 1) := by decide +kernel
theorem dX3_readText_8 : decode cX3_readText 8 = .ok (.iconst 0, 1) := by decide +kernel
theorem dX3_readText_9 : decode cX3_readText 9 = .ok (.putfield 18, 3) := by decide +kernel
theorem dX3_readText_12 : decode cX3_readText 12 = .ok (.aload_n 0, 1) := by decide +kernel
theorem dX3_readText_13 : decode cX3_readText 13 = .ok (.iconst (-1), 1) := by decide +kernel
theorem dX3_readText_14 : decode cX3_readText 14 = .ok (.putfield 22, 3) := by decide +kernel
theorem dX3_readText_17 : decode cX3_readText 17 = .ok (.aload_n 0, 1) := by decide +kernel
theorem dX3_readText_18 : decode cX3_readText 18 = .ok (.iconst 0, 1) := by decide +kernel
theorem dX3_readText_19 : decode cX3_readText 19 = .ok (.putfield 25, 3) := by decide +kernel
theorem dX3_readText_22 : decode cX3_readText 22 = .ok (.aload_n 0, 1) := by decide +kernel
theorem dX3_readText_23 : decode cX3_readText 23 = .ok (.iconst 0, 1) := by decide +kernel
theorem dX3_readText_24 : decode cX3_readText 24 = .ok (.putfield 42, 3) := by decide +kernel
theorem dX3_readText_27 : decode cX3_readText 27 = .ok (.aload_n 0, 1) := by decide +kernel
theorem dX3_readText_28 : decode cX3_readText 28 = .ok (.iconst 0, 1) := by decide +kernel
theorem dX3_readText_29 : decode cX3_readText 29 = .ok (.putfield 45, 3) := by decide +kernel
theorem dX3_readText_32 : decode cX3_readText 32 = .ok (.aload_n 0, 1) := by decide +kernel
theorem dX3_readText_33 : decode cX3_readText 33 = .ok (.getfield 12, 3) := by decide +kernel
theorem dX3_readText_36 : decode cX3_readText 36 = .ok (.iload_n 1, 1) := by decide +kernel
theorem dX3_readText_37 : decode cX3_readText 37 = .ok (.invokevirtual 48, 3) := by decide +kernel
theorem dX3_readText_40 : decode cX3_readText 40 = .ok (.iconst 0, 1) := by decide +kernel
theorem dX3_readText_41 : decode cX3_readText 41 = .ok (.istore_n 2, 1) := by decide +kernel
theorem dX3_readText_42 : decode cX3_readText 42 = .ok (.iload_n 2, 1) := by decide +kernel
theorem dX3_readText_43 : decode cX3_readText 43 = .ok (.sipush 700, 3) := by decide +kernel
theorem dX3_readText_46 : decode cX3_readText 46 = .ok (.if_icmp .gt 77, 3) := by decide +kernel
theorem dX3_readText_49 : decode cX3_readText 49 = .ok (.aload_n 0, 1) := by decide +kernel
theorem dX3_readText_50 : decode cX3_readText 50 = .ok (.getfield 18, 3) := by decide +kernel
theorem dX3_readText_53 : decode cX3_readText 53 = .ok (.ifCond .ne 70, 3) := by decide +kernel
theorem dX3_readText_56 : decode cX3_readText 56 = .ok (.aload_n 0, 1) := by decide +kernel
theorem dX3_readText_57 : decode cX3_readText 57 = .ok (.getfield 12, 3) := by decide +kernel
theorem dX3_readText_60 : decode cX3_readText 60 = .ok (.getfield 52, 3) := by decide +kernel
theorem dX3_readText_63 : decode cX3_readText 63 = .ok (.bipush 45, 2) := by decide +kernel
theorem dX3_readText_65 : decode cX3_readText 65 = .ok (.if_icmp .eq 58, 3) := by decide +kernel
theorem dX3_readText_68 : decode cX3_readText 68 = .ok (.aload_n 0, 1) := by decide +kernel
theorem dX3_readText_69 : decode cX3_readText 69 = .ok (.invokevirtual 55, 3) := by decide +kernel
theorem dX3_readText_72 : decode cX3_readText 72 = .ok (.ifCond .eq 45, 3) := by decide +kernel
theorem dX3_readText_75 : decode cX3_readText 75 = .ok (.aload_n 0, 1) := by decide +kernel
theorem dX3_readText_76 : decode cX3_readText 76 = .ok (.aload_n 0, 1) := by decide +kernel
theorem dX3_readText_77 : decode cX3_readText 77 = .ok (.getfield 12, 3) := by decide +kernel
theorem dX3_readText_80 : decode cX3_readText 80 = .ok (.getfield 52, 3) := by decide +kernel
theorem dX3_readText_83 : decode cX3_readText 83 = .ok (.bipush 41, 2) := by decide +kernel
theorem dX3_readText_85 : decode cX3_readText 85 = .ok (.if_icmp .ne 7, 3) := by decide +kernel
theorem dX3_readText_88 : decode cX3_readText 88 = .ok (.iconst 1, 1) := by decide +kernel
theorem dX3_readText_89 : decode cX3_readText 89 = .ok (.goto 4, 3) := by decide +kernel
theorem dX3_readText_92 : decode cX3_readText 92 = .ok (.iconst 0, 1) := by decide +kernel
theorem dX3_readText_93 : decode cX3_readText 93 = .ok (.iconst 1, 1) := by decide +kernel
theorem dX3_readText_94 : decode cX3_readText 94 = .ok (.invokevirtual 59, 3) := by decide +kernel
theorem dX3_readText_97 : decode cX3_readText 97 = .ok (.ifCond .eq 20, 3) := by decide +kernel
theorem dX3_readText_100 : decode cX3_readText 100 = .ok (.aload_n 0, 1) := by decide +kernel
theorem dX3_readText_101 : decode cX3_readText 101 = .ok (.getfield 12, 3) := by decide +kernel
theorem dX3_readText_104 : decode cX3_readText 104 = .ok (.invokevirtual 63, 3) := by decide +kernel
theorem dX3_readText_107 : decode cX3_readText 107 = .ok (.aload_n 0, 1) := by decide +kernel
theorem dX3_readText_108 : decode cX3_readText 108 = .ok (.dup, 1) := by decide +kernel
theorem dX3_readText_109 : decode cX3_readText 109 = .ok (.getfield 25, 3) := by decide +kernel
theorem dX3_readText_112 : decode cX3_readText 112 = .ok (.iconst 1, 1) := by decide +kernel
theorem dX3_readText_113 : decode cX3_readText 113 = .ok (.iadd, 1) := by decide +kernel
theorem dX3_readText_114 : decode cX3_readText 114 = .ok (.putfield 25, 3) := by decide +kernel
theorem dX3_readText_117 : decode cX3_readText 117 = .ok (.iinc 2 1, 3) := by decide +kernel
theorem dX3_readText_120 : decode cX3_readText 120 = .ok (.goto (-78), 3) := by decide +kernel
theorem dX3_readText_123 : decode cX3_readText 123 = .ok (.aload_n 0, 1) := by decide +kernel
theorem dX3_readText_124 : decode cX3_readText 124 = .ok (.getfield 18, 3) := by decide +kernel
theorem dX3_readText_127 : decode cX3_readText 127 = .ok (.ifCond .ne 7, 3) := by decide +kernel
theorem dX3_readText_130 : decode cX3_readText 130 = .ok (.iconst 1, 1) := by decide +kernel
theorem dX3_readText_131 : decode cX3_readText 131 = .ok (.goto 4, 3) := by decide +kernel
theorem dX3_readText_134 : decode cX3_readText 134 = .ok (.iconst 0, 1) := by decide +kernel
theorem dX3_readText_135 : decode cX3_readText 135 = .ok (.ireturn, 1) := by decide +kernel
theorem dX4_init_0 : decode cX4_init 0 = .ok (.aload_n 0, 1) := by decide +kernel
theorem dX4_init_1 : decode cX4_init 1 = .ok (.invokespecial 3, 3) := by decide +kernel
theorem dX4_init_4 : decode cX4_init 4 = .ok (.aload_n 0, 1) := by decide +kernel
theorem dX4_init_5 : decode cX4_init 5 = .ok (.iconst 0, 1) := by decide +kernel
theorem dX4_init_6 : decode cX4_init 6 = .ok (.putfield 9, 3) := by decide +kernel
theorem dX4_init_9 : decode cX4_init 9 = .ok (.aload_n 0, 1) := by decide +kernel
theorem dX4_init_10 : decode cX4_init 10 = .ok (.iconst (-1), 1) := by decide +kernel
theorem dX4_init_11 : decode cX4_init 11 = .ok (.putfield 15, 3) := by decide +kernel
theorem dX4_init_14 : decode cX4_init 14 = .ok (.aload_n 0, 1) := by decide +kernel
theorem dX4_init_15 : decode cX4_init 15 = .ok (.bipush 24, 2) := by decide +kernel
theorem dX4_init_17 : decode cX4_init 17 = .ok (.newarray .int, 2) := by decide +kernel
theorem dX4_init_19 : decode cX4_init 19 = .ok (.putfield 18, 3) := by decide +kernel
theorem dX4_init_22 : decode cX4_init 22 = .ok (.aload_n 0, 1) := by decide +kernel
theorem dX4_init_23 : decode cX4_init 23 = .ok (.bipush 24, 2) := by decide +kernel
theorem dX4_init_25 : decode cX4_init 25 = .ok (.newarray .int, 2) := by decide +kernel
theorem dX4_init_27 : decode cX4_init 27 = .ok (.putfield 22, 3) := by decide +kernel
theorem dX4_init_30 : decode cX4_init 30 = .ok (.aload_n 0, 1) := by decide +kernel
theorem dX4_init_31 : decode cX4_init 31 = .ok (.bipush 24, 2) := by decide +kernel
theorem dX4_init_33 : decode cX4_init 33 = .ok (.newarray .int, 2) := by decide +kernel
theorem dX4_init_35 : decode cX4_init 35 = .ok (.putfield 25, 3) := by decide +kernel
theorem dX4_init_38 : decode cX4_init 38 = .ok (.aload_n 0, 1) := by decide +kernel
theorem dX4_init_39 : decode cX4_init 39 = .ok (.bipush 24, 2) := by decide +kernel
theorem dX4_init_41 : decode cX4_init 41 = .ok (.newarray .int, 2) := by decide +kernel
theorem dX4_init_43 : decode cX4_init 43 = .ok (.putfield 28, 3) := by decide +kernel
theorem dX4_init_46 : decode cX4_init 46 = .ok (.aload_n 0, 1) := by decide +kernel
theorem dX4_init_47 : decode cX4_init 47 = .ok (.bipush 24, 2) := by decide +kernel
theorem dX4_init_49 : decode cX4_init 49 = .ok (.newarray .boolean, 2) := by decide +kernel
theorem dX4_init_51 : decode cX4_init 51 = .ok (.putfield 31, 3) := by decide +kernel
theorem dX4_init_54 : decode cX4_init 54 = .ok (.return_, 1) := by decide +kernel
theorem dX4_forget_0 : decode cX4_forget 0 = .ok (.aload_n 0, 1) := by decide +kernel
theorem dX4_forget_1 : decode cX4_forget 1 = .ok (.iconst 0, 1) := by decide +kernel
theorem dX4_forget_2 : decode cX4_forget 2 = .ok (.putfield 9, 3) := by decide +kernel
theorem dX4_forget_5 : decode cX4_forget 5 = .ok (.aload_n 0, 1) := by decide +kernel
theorem dX4_forget_6 : decode cX4_forget 6 = .ok (.iconst (-1), 1) := by decide +kernel
theorem dX4_forget_7 : decode cX4_forget 7 = .ok (.putfield 15, 3) := by decide +kernel
theorem dX4_forget_10 : decode cX4_forget 10 = .ok (.return_, 1) := by decide +kernel
theorem dX4_regarded_0 : decode cX4_regarded 0 = .ok (.aload_n 0, 1) := by decide +kernel
theorem dX4_regarded_1 : decode cX4_regarded 1 = .ok (.getfield 15, 3) := by decide +kernel
theorem dX4_regarded_4 : decode cX4_regarded 4 = .ok (.ifCond .ge 10, 3) := by decide +kernel
theorem dX4_regarded_7 : decode cX4_regarded 7 = .ok (.aload_n 0, 1) := by decide +kernel
theorem dX4_regarded_8 : decode cX4_regarded 8 = .ok (.getfield 9, 3) := by decide +kernel
theorem dX4_regarded_11 : decode cX4_regarded 11 = .ok (.goto 7, 3) := by decide +kernel
theorem dX4_regarded_14 : decode cX4_regarded 14 = .ok (.aload_n 0, 1) := by decide +kernel
theorem dX4_regarded_15 : decode cX4_regarded 15 = .ok (.getfield 15, 3) := by decide +kernel
theorem dX4_regarded_18 : decode cX4_regarded 18 = .ok (.ireturn, 1) := by decide +kernel
theorem dX5_init_0 : decode cX5_init 0 = .ok (.aload_n 0, 1) := by decide +kernel
theorem dX5_init_1 : decode cX5_init 1 = .ok (.invokespecial 3, 3) := by decide +kernel
theorem dX5_init_4 : decode cX5_init 4 = .ok (.aload_n 0, 1) := by decide +kernel
theorem dX5_init_5 : decode cX5_init 5 = .ok (.sipush 700, 3) := by decide +kernel
theorem dX5_init_8 : decode cX5_init 8 = .ok (.newarray .byte, 2) := by decide +kernel
theorem dX5_init_10 : decode cX5_init 10 = .ok (.putfield 9, 3) := by decide +kernel
theorem dX5_init_13 : decode cX5_init 13 = .ok (.aload_n 0, 1) := by decide +kernel
theorem dX5_init_14 : decode cX5_init 14 = .ok (.bipush 29, 2) := by decide +kernel
theorem dX5_init_16 : decode cX5_init 16 = .ok (.newarray .int, 2) := by decide +kernel
theorem dX5_init_18 : decode cX5_init 18 = .ok (.putfield 15, 3) := by decide +kernel
theorem dX5_init_21 : decode cX5_init 21 = .ok (.iconst 0, 1) := by decide +kernel
theorem dX5_init_22 : decode cX5_init 22 = .ok (.istore_n 1, 1) := by decide +kernel
theorem dX5_init_23 : decode cX5_init 23 = .ok (.iconst 0, 1) := by decide +kernel
theorem dX5_init_24 : decode cX5_init 24 = .ok (.istore_n 2, 1) := by decide +kernel
theorem dX5_init_25 : decode cX5_init 25 = .ok (.iconst 0, 1) := by decide +kernel
theorem dX5_init_26 : decode cX5_init 26 = .ok (.istore_n 3, 1) := by decide +kernel
theorem dX5_init_27 : decode cX5_init 27 = .ok (.iconst 0, 1) := by decide +kernel
theorem dX5_init_28 : decode cX5_init 28 = .ok (.istore 4, 2) := by decide +kernel
theorem dX5_init_30 : decode cX5_init 30 = .ok (.iload 4, 2) := by decide +kernel
theorem dX5_init_32 : decode cX5_init 32 = .ok (.ldc 19, 2) := by decide +kernel
theorem dX5_init_34 : decode cX5_init 34 = .ok (.invokevirtual 21, 3) := by decide +kernel
theorem dX5_init_37 : decode cX5_init 37 = .ok (.if_icmp .ge 70, 3) := by decide +kernel
theorem dX5_init_40 : decode cX5_init 40 = .ok (.iload_n 1, 1) := by decide +kernel
theorem dX5_init_41 : decode cX5_init 41 = .ok (.bipush 29, 2) := by decide +kernel
theorem dX5_init_43 : decode cX5_init 43 = .ok (.if_icmp .ge 64, 3) := by decide +kernel
theorem dX5_init_46 : decode cX5_init 46 = .ok (.ldc 19, 2) := by decide +kernel
theorem dX5_init_48 : decode cX5_init 48 = .ok (.iload 4, 2) := by decide +kernel
theorem dX5_init_50 : decode cX5_init 50 = .ok (.invokevirtual 27, 3) := by decide +kernel
theorem dX5_init_53 : decode cX5_init 53 = .ok (.istore 5, 2) := by decide +kernel
theorem dX5_init_55 : decode cX5_init 55 = .ok (.iload 5, 2) := by decide +kernel
theorem dX5_init_57 : decode cX5_init 57 = .ok (.bipush 32, 2) := by decide +kernel
theorem dX5_init_59 : decode cX5_init 59 = .ok (.if_icmp .ne 27, 3) := by decide +kernel
theorem dX5_init_62 : decode cX5_init 62 = .ok (.aload_n 0, 1) := by decide +kernel
theorem dX5_init_63 : decode cX5_init 63 = .ok (.getfield 15, 3) := by decide +kernel
theorem dX5_init_66 : decode cX5_init 66 = .ok (.iload_n 1, 1) := by decide +kernel
theorem dX5_init_67 : decode cX5_init 67 = .ok (.iload_n 2, 1) := by decide +kernel
theorem dX5_init_68 : decode cX5_init 68 = .ok (.iconst 5, 1) := by decide +kernel
theorem dX5_init_69 : decode cX5_init 69 = .ok (.bipush 6, 2) := by decide +kernel
theorem dX5_init_71 : decode cX5_init 71 = .ok (.iload_n 3, 1) := by decide +kernel
theorem dX5_init_72 : decode cX5_init 72 = .ok (.isub, 1) := by decide +kernel
theorem dX5_init_73 : decode cX5_init 73 = .ok (.imul, 1) := by decide +kernel
theorem dX5_init_74 : decode cX5_init 74 = .ok (.ishl, 1) := by decide +kernel
theorem dX5_init_75 : decode cX5_init 75 = .ok (.iastore, 1) := by decide +kernel
theorem dX5_init_76 : decode cX5_init 76 = .ok (.iinc 1 1, 3) := by decide +kernel
theorem dX5_init_79 : decode cX5_init 79 = .ok (.iconst 0, 1) := by decide +kernel
theorem dX5_init_80 : decode cX5_init 80 = .ok (.istore_n 2, 1) := by decide +kernel
theorem dX5_init_81 : decode cX5_init 81 = .ok (.iconst 0, 1) := by decide +kernel
theorem dX5_init_82 : decode cX5_init 82 = .ok (.istore_n 3, 1) := by decide +kernel
theorem dX5_init_83 : decode cX5_init 83 = .ok (.goto 18, 3) := by decide +kernel
theorem dX5_init_86 : decode cX5_init 86 = .ok (.iload_n 2, 1) := by decide +kernel
theorem dX5_init_87 : decode cX5_init 87 = .ok (.iconst 5, 1) := by decide +kernel
theorem dX5_init_88 : decode cX5_init 88 = .ok (.ishl, 1) := by decide +kernel
theorem dX5_init_89 : decode cX5_init 89 = .ok (.iload 5, 2) := by decide +kernel
theorem dX5_init_91 : decode cX5_init 91 = .ok (.bipush 97, 2) := by decide +kernel
theorem dX5_init_93 : decode cX5_init 93 = .ok (.isub, 1) := by decide +kernel
theorem dX5_init_94 : decode cX5_init 94 = .ok (.iconst 1, 1) := by decide +kernel
theorem dX5_init_95 : decode cX5_init 95 = .ok (.iadd, 1) := by decide +kernel
theorem dX5_init_96 : decode cX5_init 96 = .ok (.ior, 1) := by decide +kernel
theorem dX5_init_97 : decode cX5_init 97 = .ok (.istore_n 2, 1) := by decide +kernel
theorem dX5_init_98 : decode cX5_init 98 = .ok (.iinc 3 1, 3) := by decide +kernel
theorem dX5_init_101 : decode cX5_init 101 = .ok (.iinc 4 1, 3) := by decide +kernel
theorem dX5_init_104 : decode cX5_init 104 = .ok (.goto (-74), 3) := by decide +kernel
theorem dX5_init_107 : decode cX5_init 107 = .ok (.return_, 1) := by decide +kernel
theorem dX5_append_0 : decode cX5_append 0 = .ok (.bipush 24, 2) := by decide +kernel
theorem dX5_append_2 : decode cX5_append 2 = .ok (.istore_n 2, 1) := by decide +kernel
theorem dX5_append_3 : decode cX5_append 3 = .ok (.iload_n 2, 1) := by decide +kernel
theorem dX5_append_4 : decode cX5_append 4 = .ok (.ifCond .lt 42, 3) := by decide +kernel
theorem dX5_append_7 : decode cX5_append 7 = .ok (.aload_n 0, 1) := by decide +kernel
theorem dX5_append_8 : decode cX5_append 8 = .ok (.getfield 31, 3) := by decide +kernel
theorem dX5_append_11 : decode cX5_append 11 = .ok (.sipush 700, 3) := by decide +kernel
theorem dX5_append_14 : decode cX5_append 14 = .ok (.if_icmp .ge 32, 3) := by decide +kernel
theorem dX5_append_17 : decode cX5_append 17 = .ok (.aload_n 0, 1) := by decide +kernel
theorem dX5_append_18 : decode cX5_append 18 = .ok (.getfield 9, 3) := by decide +kernel
theorem dX5_append_21 : decode cX5_append 21 = .ok (.aload_n 0, 1) := by decide +kernel
theorem dX5_append_22 : decode cX5_append 22 = .ok (.getfield 31, 3) := by decide +kernel
theorem dX5_append_25 : decode cX5_append 25 = .ok (.iload_n 1, 1) := by decide +kernel
theorem dX5_append_26 : decode cX5_append 26 = .ok (.iload_n 2, 1) := by decide +kernel
theorem dX5_append_27 : decode cX5_append 27 = .ok (.iushr, 1) := by decide +kernel
theorem dX5_append_28 : decode cX5_append 28 = .ok (.i2b, 1) := by decide +kernel
theorem dX5_append_29 : decode cX5_append 29 = .ok (.bastore, 1) := by decide +kernel
theorem dX5_append_30 : decode cX5_append 30 = .ok (.aload_n 0, 1) := by decide +kernel
theorem dX5_append_31 : decode cX5_append 31 = .ok (.dup, 1) := by decide +kernel
theorem dX5_append_32 : decode cX5_append 32 = .ok (.getfield 31, 3) := by decide +kernel
theorem dX5_append_35 : decode cX5_append 35 = .ok (.iconst 1, 1) := by decide +kernel
theorem dX5_append_36 : decode cX5_append 36 = .ok (.iadd, 1) := by decide +kernel
theorem dX5_append_37 : decode cX5_append 37 = .ok (.putfield 31, 3) := by decide +kernel
theorem dX5_append_40 : decode cX5_append 40 = .ok (.iinc 2 (-8), 3) := by decide +kernel
theorem dX5_append_43 : decode cX5_append 43 = .ok (.goto (-40), 3) := by decide +kernel
theorem dX5_append_46 : decode cX5_append 46 = .ok (.return_, 1) := by decide +kernel
theorem dX5_begin_0 : decode cX5_begin 0 = .ok (.aload_n 0, 1) := by decide +kernel
theorem dX5_begin_1 : decode cX5_begin 1 = .ok (.iload_n 1, 1) := by decide +kernel
theorem dX5_begin_2 : decode cX5_begin 2 = .ok (.putfield 34, 3) := by decide +kernel
theorem dX5_begin_5 : decode cX5_begin 5 = .ok (.aload_n 0, 1) := by decide +kernel
theorem dX5_begin_6 : decode cX5_begin 6 = .ok (.iconst 0, 1) := by decide +kernel
theorem dX5_begin_7 : decode cX5_begin 7 = .ok (.putfield 37, 3) := by decide +kernel
theorem dX5_begin_10 : decode cX5_begin 10 = .ok (.aload_n 0, 1) := by decide +kernel
theorem dX5_begin_11 : decode cX5_begin 11 = .ok (.invokevirtual 40, 3) := by decide +kernel
theorem dX5_begin_14 : decode cX5_begin 14 = .ok (.return_, 1) := by decide +kernel
theorem dX5_advance_0 : decode cX5_advance 0 = .ok (.aload_n 0, 1) := by decide +kernel
theorem dX5_advance_1 : decode cX5_advance 1 = .ok (.getfield 37, 3) := by decide +kernel
theorem dX5_advance_4 : decode cX5_advance 4 = .ok (.aload_n 0, 1) := by decide +kernel
theorem dX5_advance_5 : decode cX5_advance 5 = .ok (.getfield 34, 3) := by decide +kernel
theorem dX5_advance_8 : decode cX5_advance 8 = .ok (.if_icmp .ge 30, 3) := by decide +kernel
theorem dX5_advance_11 : decode cX5_advance 11 = .ok (.aload_n 0, 1) := by decide +kernel
theorem dX5_advance_12 : decode cX5_advance 12 = .ok (.aload_n 0, 1) := by decide +kernel
theorem dX5_advance_13 : decode cX5_advance 13 = .ok (.getfield 37, 3) := by decide +kernel
theorem dX5_advance_16 : decode cX5_advance 16 = .ok (.invokevirtual 43, 3) := by decide +kernel
theorem dX5_advance_19 : decode cX5_advance 19 = .ok (.invokestatic 47, 3) := by decide +kernel
theorem dX5_advance_22 : decode cX5_advance 22 = .ok (.ifCond .eq 16, 3) := by decide +kernel
theorem dX5_advance_25 : decode cX5_advance 25 = .ok (.aload_n 0, 1) := by decide +kernel
theorem dX5_advance_26 : decode cX5_advance 26 = .ok (.dup, 1) := by decide +kernel
theorem dX5_advance_27 : decode cX5_advance 27 = .ok (.getfield 37, 3) := by decide +kernel
theorem dX5_advance_30 : decode cX5_advance 30 = .ok (.iconst 1, 1) := by decide +kernel
theorem dX5_advance_31 : decode cX5_advance 31 = .ok (.iadd, 1) := by decide +kernel
theorem dX5_advance_32 : decode cX5_advance 32 = .ok (.putfield 37, 3) := by decide +kernel
theorem dX5_advance_35 : decode cX5_advance 35 = .ok (.goto (-35), 3) := by decide +kernel
theorem dX5_advance_38 : decode cX5_advance 38 = .ok (.aload_n 0, 1) := by decide +kernel
theorem dX5_advance_39 : decode cX5_advance 39 = .ok (.aload_n 0, 1) := by decide +kernel
theorem dX5_advance_40 : decode cX5_advance 40 = .ok (.getfield 37, 3) := by decide +kernel
theorem dX5_advance_43 : decode cX5_advance 43 = .ok (.putfield 51, 3) := by decide +kernel
theorem dX5_advance_46 : decode cX5_advance 46 = .ok (.aload_n 0, 1) := by decide +kernel
theorem dX5_advance_47 : decode cX5_advance 47 = .ok (.aload_n 0, 1) := by decide +kernel
theorem dX5_advance_48 : decode cX5_advance 48 = .ok (.getfield 37, 3) := by decide +kernel
theorem dX5_advance_51 : decode cX5_advance 51 = .ok (.invokevirtual 43, 3) := by decide +kernel
theorem dX5_advance_54 : decode cX5_advance 54 = .ok (.istore_n 1, 1) := by decide +kernel
theorem dX5_advance_55 : decode cX5_advance 55 = .ok (.iload_n 1, 1) := by decide +kernel
theorem dX5_advance_56 : decode cX5_advance 56 = .ok (.ifCond .ge 12, 3) := by decide +kernel
theorem dX5_advance_59 : decode cX5_advance 59 = .ok (.aload_n 0, 1) := by decide +kernel
theorem dX5_advance_60 : decode cX5_advance 60 = .ok (.bipush 45, 2) := by decide +kernel
theorem dX5_advance_62 : decode cX5_advance 62 = .ok (.putfield 54, 3) := by decide +kernel
theorem dX5_advance_65 : decode cX5_advance 65 = .ok (.goto 94, 3) := by decide +kernel
theorem dX5_advance_68 : decode cX5_advance 68 = .ok (.iload_n 1, 1) := by decide +kernel
theorem dX5_advance_69 : decode cX5_advance 69 = .ok (.invokestatic 57, 3) := by decide +kernel
theorem dX5_advance_72 : decode cX5_advance 72 = .ok (.ifCond .eq 10, 3) := by decide +kernel
theorem dX5_advance_75 : decode cX5_advance 75 = .ok (.aload_n 0, 1) := by decide +kernel
theorem dX5_advance_76 : decode cX5_advance 76 = .ok (.invokevirtual 60, 3) := by decide +kernel
theorem dX5_advance_79 : decode cX5_advance 79 = .ok (.goto 80, 3) := by decide +kernel
theorem dX5_advance_82 : decode cX5_advance 82 = .ok (.iload_n 1, 1) := by decide +kernel
theorem dX5_advance_83 : decode cX5_advance 83 = .ok (.invokestatic 63, 3) := by decide +kernel
theorem dX5_advance_86 : decode cX5_advance 86 = .ok (.ifCond .eq 10, 3) := by decide +kernel
theorem dX5_advance_89 : decode cX5_advance 89 = .ok (.aload_n 0, 1) := by decide +kernel
theorem dX5_advance_90 : decode cX5_advance 90 = .ok (.invokevirtual 66, 3) := by decide +kernel
theorem dX5_advance_93 : decode cX5_advance 93 = .ok (.goto 66, 3) := by decide +kernel
theorem dX5_advance_96 : decode cX5_advance 96 = .ok (.aload_n 0, 1) := by decide +kernel
theorem dX5_advance_97 : decode cX5_advance 97 = .ok (.dup, 1) := by decide +kernel
theorem dX5_advance_98 : decode cX5_advance 98 = .ok (.getfield 37, 3) := by decide +kernel
theorem dX5_advance_101 : decode cX5_advance 101 = .ok (.iconst 1, 1) := by decide +kernel
theorem dX5_advance_102 : decode cX5_advance 102 = .ok (.iadd, 1) := by decide +kernel
theorem dX5_advance_103 : decode cX5_advance 103 = .ok (.putfield 37, 3) := by decide +kernel
theorem dX5_advance_106 : decode cX5_advance 106 = .ok (.aload_n 0, 1) := by decide +kernel
theorem dX5_advance_107 : decode cX5_advance 107 = .ok (.iload_n 1, 1) := by decide +kernel
theorem dX5_advance_108 : decode cX5_advance 108 = .ok (.aload_n 0, 1) := by decide +kernel
theorem dX5_advance_109 : decode cX5_advance 109 = .ok (.aload_n 0, 1) := by decide +kernel
theorem dX5_advance_110 : decode cX5_advance 110 = .ok (.getfield 37, 3) := by decide +kernel
theorem dX5_advance_113 : decode cX5_advance 113 = .ok (.invokevirtual 43, 3) := by decide +kernel
theorem dX5_advance_116 : decode cX5_advance 116 = .ok (.invokestatic 69, 3) := by decide +kernel
theorem dX5_advance_119 : decode cX5_advance 119 = .ok (.putfield 54, 3) := by decide +kernel
theorem dX5_advance_122 : decode cX5_advance 122 = .ok (.aload_n 0, 1) := by decide +kernel
theorem dX5_advance_123 : decode cX5_advance 123 = .ok (.getfield 54, 3) := by decide +kernel
theorem dX5_advance_126 : decode cX5_advance 126 = .ok (.bipush 30, 2) := by decide +kernel
theorem dX5_advance_128 : decode cX5_advance 128 = .ok (.if_icmp .eq 21, 3) := by decide +kernel
theorem dX5_advance_131 : decode cX5_advance 131 = .ok (.aload_n 0, 1) := by decide +kernel
theorem dX5_advance_132 : decode cX5_advance 132 = .ok (.getfield 54, 3) := by decide +kernel
theorem dX5_advance_135 : decode cX5_advance 135 = .ok (.bipush 32, 2) := by decide +kernel
theorem dX5_advance_137 : decode cX5_advance 137 = .ok (.if_icmp .eq 12, 3) := by decide +kernel
theorem dX5_advance_140 : decode cX5_advance 140 = .ok (.aload_n 0, 1) := by decide +kernel
theorem dX5_advance_141 : decode cX5_advance 141 = .ok (.getfield 54, 3) := by decide +kernel
theorem dX5_advance_144 : decode cX5_advance 144 = .ok (.bipush 33, 2) := by decide +kernel
theorem dX5_advance_146 : decode cX5_advance 146 = .ok (.if_icmp .ne 13, 3) := by decide +kernel
theorem dX5_advance_149 : decode cX5_advance 149 = .ok (.aload_n 0, 1) := by decide +kernel
theorem dX5_advance_150 : decode cX5_advance 150 = .ok (.dup, 1) := by decide +kernel
theorem dX5_advance_151 : decode cX5_advance 151 = .ok (.getfield 37, 3) := by decide +kernel
theorem dX5_advance_154 : decode cX5_advance 154 = .ok (.iconst 1, 1) := by decide +kernel
theorem dX5_advance_155 : decode cX5_advance 155 = .ok (.iadd, 1) := by decide +kernel
theorem dX5_advance_156 : decode cX5_advance 156 = .ok (.putfield 37, 3) := by decide +kernel
theorem dX5_advance_159 : decode cX5_advance 159 = .ok (.return_, 1) := by decide +kernel
theorem dX5_at_0 : decode cX5_at 0 = .ok (.iload_n 1, 1) := by decide +kernel
theorem dX5_at_1 : decode cX5_at 1 = .ok (.ifCond .lt 31, 3) := by decide +kernel
theorem dX5_at_4 : decode cX5_at 4 = .ok (.iload_n 1, 1) := by decide +kernel
theorem dX5_at_5 : decode cX5_at 5 = .ok (.aload_n 0, 1) := by decide +kernel
theorem dX5_at_6 : decode cX5_at 6 = .ok (.getfield 34, 3) := by decide +kernel
theorem dX5_at_9 : decode cX5_at 9 = .ok (.if_icmp .ge 23, 3) := by decide +kernel
theorem dX5_at_12 : decode cX5_at 12 = .ok (.iload_n 1, 1) := by decide +kernel
theorem dX5_at_13 : decode cX5_at 13 = .ok (.sipush 700, 3) := by decide +kernel
theorem dX5_at_16 : decode cX5_at 16 = .ok (.if_icmp .ge 16, 3) := by decide +kernel
theorem dX5_at_19 : decode cX5_at 19 = .ok (.aload_n 0, 1) := by decide +kernel
theorem dX5_at_20 : decode cX5_at 20 = .ok (.getfield 9, 3) := by decide +kernel
theorem dX5_at_23 : decode cX5_at 23 = .ok (.iload_n 1, 1) := by decide +kernel
theorem dX5_at_24 : decode cX5_at 24 = .ok (.baload, 1) := by decide +kernel
theorem dX5_at_25 : decode cX5_at 25 = .ok (.sipush 255, 3) := by decide +kernel
theorem dX5_at_28 : decode cX5_at 28 = .ok (.iand, 1) := by decide +kernel
theorem dX5_at_29 : decode cX5_at 29 = .ok (.goto 4, 3) := by decide +kernel
theorem dX5_at_32 : decode cX5_at 32 = .ok (.iconst (-1), 1) := by decide +kernel
theorem dX5_at_33 : decode cX5_at 33 = .ok (.ireturn, 1) := by decide +kernel
theorem dJ6_bitCount_0f7a4_0 : decode cJ6_bitCount_0f7a4 0 = .ok (.iload_n 0, 1) := by decide +kernel
theorem dJ6_bitCount_0f7a4_1 : decode cJ6_bitCount_0f7a4 1 = .ok (.iload_n 0, 1) := by decide +kernel
theorem dJ6_bitCount_0f7a4_2 : decode cJ6_bitCount_0f7a4 2 = .ok (.iconst 1, 1) := by decide +kernel
theorem dJ6_bitCount_0f7a4_3 : decode cJ6_bitCount_0f7a4 3 = .ok (.iushr, 1) := by decide +kernel
theorem dJ6_bitCount_0f7a4_4 : decode cJ6_bitCount_0f7a4 4 = .ok (.ldc_w 265, 3) := by decide +kernel
theorem dJ6_bitCount_0f7a4_7 : decode cJ6_bitCount_0f7a4 7 = .ok (.iand, 1) := by decide +kernel
theorem dJ6_bitCount_0f7a4_8 : decode cJ6_bitCount_0f7a4 8 = .ok (.isub, 1) := by decide +kernel
theorem dJ6_bitCount_0f7a4_9 : decode cJ6_bitCount_0f7a4 9 = .ok (.istore_n 0, 1) := by decide +kernel
theorem dJ6_bitCount_0f7a4_10 : decode cJ6_bitCount_0f7a4 10 = .ok (.iload_n 0, 1) := by decide +kernel
theorem dJ6_bitCount_0f7a4_11 : decode cJ6_bitCount_0f7a4 11 = .ok (.ldc_w 266, 3) := by decide +kernel
theorem dJ6_bitCount_0f7a4_14 : decode cJ6_bitCount_0f7a4 14 = .ok (.iand, 1) := by decide +kernel
theorem dJ6_bitCount_0f7a4_15 : decode cJ6_bitCount_0f7a4 15 = .ok (.iload_n 0, 1) := by decide +kernel
theorem dJ6_bitCount_0f7a4_16 : decode cJ6_bitCount_0f7a4 16 = .ok (.iconst 2, 1) := by decide +kernel
theorem dJ6_bitCount_0f7a4_17 : decode cJ6_bitCount_0f7a4 17 = .ok (.iushr, 1) := by decide +kernel
theorem dJ6_bitCount_0f7a4_18 : decode cJ6_bitCount_0f7a4 18 = .ok (.ldc_w 266, 3) := by decide +kernel
theorem dJ6_bitCount_0f7a4_21 : decode cJ6_bitCount_0f7a4 21 = .ok (.iand, 1) := by decide +kernel
theorem dJ6_bitCount_0f7a4_22 : decode cJ6_bitCount_0f7a4 22 = .ok (.iadd, 1) := by decide +kernel
theorem dJ6_bitCount_0f7a4_23 : decode cJ6_bitCount_0f7a4 23 = .ok (.istore_n 0, 1) := by decide +kernel
theorem dJ6_bitCount_0f7a4_24 : decode cJ6_bitCount_0f7a4 24 = .ok (.iload_n 0, 1) := by decide +kernel
theorem dJ6_bitCount_0f7a4_25 : decode cJ6_bitCount_0f7a4 25 = .ok (.iload_n 0, 1) := by decide +kernel
theorem dJ6_bitCount_0f7a4_26 : decode cJ6_bitCount_0f7a4 26 = .ok (.iconst 4, 1) := by decide +kernel
theorem dJ6_bitCount_0f7a4_27 : decode cJ6_bitCount_0f7a4 27 = .ok (.iushr, 1) := by decide +kernel
theorem dJ6_bitCount_0f7a4_28 : decode cJ6_bitCount_0f7a4 28 = .ok (.iadd, 1) := by decide +kernel
theorem dJ6_bitCount_0f7a4_29 : decode cJ6_bitCount_0f7a4 29 = .ok (.ldc_w 267, 3) := by decide +kernel
theorem dJ6_bitCount_0f7a4_32 : decode cJ6_bitCount_0f7a4 32 = .ok (.iand, 1) := by decide +kernel
theorem dJ6_bitCount_0f7a4_33 : decode cJ6_bitCount_0f7a4 33 = .ok (.istore_n 0, 1) := by decide +kernel
theorem dJ6_bitCount_0f7a4_34 : decode cJ6_bitCount_0f7a4 34 = .ok (.iload_n 0, 1) := by decide +kernel
theorem dJ6_bitCount_0f7a4_35 : decode cJ6_bitCount_0f7a4 35 = .ok (.iload_n 0, 1) := by decide +kernel
theorem dJ6_bitCount_0f7a4_36 : decode cJ6_bitCount_0f7a4 36 = .ok (.bipush 8, 2) := by decide +kernel
theorem dJ6_bitCount_0f7a4_38 : decode cJ6_bitCount_0f7a4 38 = .ok (.iushr, 1) := by decide +kernel
theorem dJ6_bitCount_0f7a4_39 : decode cJ6_bitCount_0f7a4 39 = .ok (.iadd, 1) := by decide +kernel
theorem dJ6_bitCount_0f7a4_40 : decode cJ6_bitCount_0f7a4 40 = .ok (.istore_n 0, 1) := by decide +kernel
theorem dJ6_bitCount_0f7a4_41 : decode cJ6_bitCount_0f7a4 41 = .ok (.iload_n 0, 1) := by decide +kernel
theorem dJ6_bitCount_0f7a4_42 : decode cJ6_bitCount_0f7a4 42 = .ok (.iload_n 0, 1) := by decide +kernel
theorem dJ6_bitCount_0f7a4_43 : decode cJ6_bitCount_0f7a4 43 = .ok (.bipush 16, 2) := by decide +kernel
theorem dJ6_bitCount_0f7a4_45 : decode cJ6_bitCount_0f7a4 45 = .ok (.iushr, 1) := by decide +kernel
theorem dJ6_bitCount_0f7a4_46 : decode cJ6_bitCount_0f7a4 46 = .ok (.iadd, 1) := by decide +kernel
theorem dJ6_bitCount_0f7a4_47 : decode cJ6_bitCount_0f7a4 47 = .ok (.istore_n 0, 1) := by decide +kernel
theorem dJ6_bitCount_0f7a4_48 : decode cJ6_bitCount_0f7a4 48 = .ok (.iload_n 0, 1) := by decide +kernel
theorem dJ6_bitCount_0f7a4_49 : decode cJ6_bitCount_0f7a4 49 = .ok (.bipush 63, 2) := by decide +kernel
theorem dJ6_bitCount_0f7a4_51 : decode cJ6_bitCount_0f7a4 51 = .ok (.iand, 1) := by decide +kernel
theorem dJ6_bitCount_0f7a4_52 : decode cJ6_bitCount_0f7a4 52 = .ok (.ireturn, 1) := by decide +kernel
theorem dJ0_length_8abf5_0 : decode cJ0_length_8abf5 0 = .ok (.aload_n 0, 1) := by decide +kernel
theorem dJ0_length_8abf5_1 : decode cJ0_length_8abf5 1 = .ok (.getfield 9, 3) := by decide +kernel
theorem dJ0_length_8abf5_4 : decode cJ0_length_8abf5 4 = .ok (.arraylength, 1) := by decide +kernel
theorem dJ0_length_8abf5_5 : decode cJ0_length_8abf5 5 = .ok (.aload_n 0, 1) := by decide +kernel
theorem dJ0_length_8abf5_6 : decode cJ0_length_8abf5 6 = .ok (.invokevirtual 335, 3) := by decide +kernel
theorem dJ0_length_8abf5_9 : decode cJ0_length_8abf5 9 = .ok (.ishr, 1) := by decide +kernel
theorem dJ0_length_8abf5_10 : decode cJ0_length_8abf5 10 = .ok (.ireturn, 1) := by decide +kernel
theorem dJ0_charAt_5068e_0 : decode cJ0_charAt_5068e 0 = .ok (.aload_n 0, 1) := by decide +kernel
theorem dJ0_charAt_5068e_1 : decode cJ0_charAt_5068e 1 = .ok (.invokevirtual 492, 3) := by decide +kernel
theorem dJ0_charAt_5068e_4 : decode cJ0_charAt_5068e 4 = .ok (.ifCond .eq 12, 3) := by decide +kernel
theorem dJ0_charAt_5068e_7 : decode cJ0_charAt_5068e 7 = .ok (.aload_n 0, 1) := by decide +kernel
theorem dJ0_charAt_5068e_8 : decode cJ0_charAt_5068e 8 = .ok (.getfield 9, 3) := by decide +kernel
theorem dJ0_charAt_5068e_11 : decode cJ0_charAt_5068e 11 = .ok (.iload_n 1, 1) := by decide +kernel
theorem dJ0_charAt_5068e_12 : decode cJ0_charAt_5068e 12 = .ok (.invokestatic 495, 3) := by decide +kernel
theorem dJ0_charAt_5068e_15 : decode cJ0_charAt_5068e 15 = .ok (.ireturn, 1) := by decide +kernel
theorem dJ0_charAt_5068e_16 : decode cJ0_charAt_5068e 16 = .ok (.aload_n 0, 1) := by decide +kernel
theorem dJ0_charAt_5068e_17 : decode cJ0_charAt_5068e 17 = .ok (.getfield 9, 3) := by decide +kernel
theorem dJ0_charAt_5068e_20 : decode cJ0_charAt_5068e 20 = .ok (.iload_n 1, 1) := by decide +kernel
theorem dJ0_charAt_5068e_21 : decode cJ0_charAt_5068e 21 = .ok (.invokestatic 498, 3) := by decide +kernel
theorem dJ0_charAt_5068e_24 : decode cJ0_charAt_5068e 24 = .ok (.ireturn, 1) := by decide +kernel
theorem dJ0_coder_7d493_0 : decode cJ0_coder_7d493 0 = .ok (.getstatic 38, 3) := by decide +kernel
theorem dJ0_coder_7d493_3 : decode cJ0_coder_7d493 3 = .ok (.ifCond .eq 10, 3) := by decide +kernel
theorem dJ0_coder_7d493_6 : decode cJ0_coder_7d493 6 = .ok (.aload_n 0, 1) := by decide +kernel
theorem dJ0_coder_7d493_7 : decode cJ0_coder_7d493 7 = .ok (.getfield 15, 3) := by decide +kernel
theorem dJ0_coder_7d493_10 : decode cJ0_coder_7d493 10 = .ok (.goto 4, 3) := by decide +kernel
theorem dJ0_coder_7d493_13 : decode cJ0_coder_7d493 13 = .ok (.iconst 1, 1) := by decide +kernel
theorem dJ0_coder_7d493_14 : decode cJ0_coder_7d493 14 = .ok (.ireturn, 1) := by decide +kernel
theorem dJ0_isLatin1_aae02_0 : decode cJ0_isLatin1_aae02 0 = .ok (.getstatic 38, 3) := by decide +kernel
theorem dJ0_isLatin1_aae02_3 : decode cJ0_isLatin1_aae02 3 = .ok (.ifCond .eq 14, 3) := by decide +kernel
theorem dJ0_isLatin1_aae02_6 : decode cJ0_isLatin1_aae02 6 = .ok (.aload_n 0, 1) := by decide +kernel
theorem dJ0_isLatin1_aae02_7 : decode cJ0_isLatin1_aae02 7 = .ok (.getfield 15, 3) := by decide +kernel
theorem dJ0_isLatin1_aae02_10 : decode cJ0_isLatin1_aae02 10 = .ok (.ifCond .ne 7, 3) := by decide +kernel
theorem dJ0_isLatin1_aae02_13 : decode cJ0_isLatin1_aae02 13 = .ok (.iconst 1, 1) := by decide +kernel
theorem dJ0_isLatin1_aae02_14 : decode cJ0_isLatin1_aae02 14 = .ok (.goto 4, 3) := by decide +kernel
theorem dJ0_isLatin1_aae02_17 : decode cJ0_isLatin1_aae02 17 = .ok (.iconst 0, 1) := by decide +kernel
theorem dJ0_isLatin1_aae02_18 : decode cJ0_isLatin1_aae02 18 = .ok (.ireturn, 1) := by decide +kernel
theorem dJ0_checkIndex_df160_0 : decode cJ0_checkIndex_df160 0 = .ok (.iload_n 0, 1) := by decide +kernel
theorem dJ0_checkIndex_df160_1 : decode cJ0_checkIndex_df160 1 = .ok (.iload_n 1, 1) := by decide +kernel
theorem dJ0_checkIndex_df160_2 : decode cJ0_checkIndex_df160 2 = .ok (.getstatic 1053, 3) := by decide +kernel
theorem dJ0_checkIndex_df160_5 : decode cJ0_checkIndex_df160 5 = .ok (.invokestatic 1059, 3) := by decide +kernel
theorem dJ0_checkIndex_df160_8 : decode cJ0_checkIndex_df160 8 = .ok (.pop, 1) := by decide +kernel
theorem dJ0_checkIndex_df160_9 : decode cJ0_checkIndex_df160 9 = .ok (.return_, 1) := by decide +kernel
theorem dJ1_charAt_3b067_0 : decode cJ1_charAt_3b067 0 = .ok (.iload_n 1, 1) := by decide +kernel
theorem dJ1_charAt_3b067_1 : decode cJ1_charAt_3b067 1 = .ok (.aload_n 0, 1) := by decide +kernel
theorem dJ1_charAt_3b067_2 : decode cJ1_charAt_3b067 2 = .ok (.arraylength, 1) := by decide +kernel
theorem dJ1_charAt_3b067_3 : decode cJ1_charAt_3b067 3 = .ok (.invokestatic 9, 3) := by decide +kernel
theorem dJ1_charAt_3b067_6 : decode cJ1_charAt_3b067 6 = .ok (.aload_n 0, 1) := by decide +kernel
theorem dJ1_charAt_3b067_7 : decode cJ1_charAt_3b067 7 = .ok (.iload_n 1, 1) := by decide +kernel
theorem dJ1_charAt_3b067_8 : decode cJ1_charAt_3b067 8 = .ok (.baload, 1) := by decide +kernel
theorem dJ1_charAt_3b067_9 : decode cJ1_charAt_3b067 9 = .ok (.sipush 255, 3) := by decide +kernel
theorem dJ1_charAt_3b067_12 : decode cJ1_charAt_3b067 12 = .ok (.iand, 1) := by decide +kernel
theorem dJ1_charAt_3b067_13 : decode cJ1_charAt_3b067 13 = .ok (.i2c, 1) := by decide +kernel
theorem dJ1_charAt_3b067_14 : decode cJ1_charAt_3b067 14 = .ok (.ireturn, 1) := by decide +kernel
theorem dJ2_getChar_3b067_0 : decode cJ2_getChar_3b067 0 = .ok (.getstatic 44, 3) := by decide +kernel
theorem dJ2_getChar_3b067_3 : decode cJ2_getChar_3b067 3 = .ok (.ifCond .ne 25, 3) := by decide +kernel
theorem dJ2_getChar_3b067_6 : decode cJ2_getChar_3b067 6 = .ok (.iload_n 1, 1) := by decide +kernel
theorem dJ2_getChar_3b067_7 : decode cJ2_getChar_3b067 7 = .ok (.ifCond .lt 11, 3) := by decide +kernel
theorem dJ2_getChar_3b067_10 : decode cJ2_getChar_3b067 10 = .ok (.iload_n 1, 1) := by decide +kernel
theorem dJ2_getChar_3b067_11 : decode cJ2_getChar_3b067 11 = .ok (.aload_n 0, 1) := by decide +kernel
theorem dJ2_getChar_3b067_12 : decode cJ2_getChar_3b067 12 = .ok (.invokestatic 48, 3) := by decide +kernel
theorem dJ2_getChar_3b067_15 : decode cJ2_getChar_3b067 15 = .ok (.if_icmp .lt 13, 3) := by decide +kernel
theorem dJ2_getChar_3b067_18 : decode cJ2_getChar_3b067 18 = .ok (.new 52, 3) := by decide +kernel
theorem dJ2_getChar_3b067_21 : decode cJ2_getChar_3b067 21 = .ok (.dup, 1) := by decide +kernel
theorem dJ2_getChar_3b067_22 : decode cJ2_getChar_3b067 22 = .ok (.ldc 54, 2) := by decide +kernel
theorem dJ2_getChar_3b067_24 : decode cJ2_getChar_3b067 24 = .ok (.invokespecial 56, 3) := by decide +kernel
theorem dJ2_getChar_3b067_27 : decode cJ2_getChar_3b067 27 = .ok (.athrow, 1) := by decide +kernel
theorem dJ2_getChar_3b067_28 : decode cJ2_getChar_3b067 28 = .ok (.iload_n 1, 1) := by decide +kernel
theorem dJ2_getChar_3b067_29 : decode cJ2_getChar_3b067 29 = .ok (.iconst 1, 1) := by decide +kernel
theorem dJ2_getChar_3b067_30 : decode cJ2_getChar_3b067 30 = .ok (.ishl, 1) := by decide +kernel
theorem dJ2_getChar_3b067_31 : decode cJ2_getChar_3b067 31 = .ok (.istore_n 1, 1) := by decide +kernel
theorem dJ2_getChar_3b067_32 : decode cJ2_getChar_3b067 32 = .ok (.aload_n 0, 1) := by decide +kernel
theorem dJ2_getChar_3b067_33 : decode cJ2_getChar_3b067 33 = .ok (.iload_n 1, 1) := by decide +kernel
theorem dJ2_getChar_3b067_34 : decode cJ2_getChar_3b067 34 = .ok (.iinc 1 1, 3) := by decide +kernel
theorem dJ2_getChar_3b067_37 : decode cJ2_getChar_3b067 37 = .ok (.baload, 1) := by decide +kernel
theorem dJ2_getChar_3b067_38 : decode cJ2_getChar_3b067 38 = .ok (.sipush 255, 3) := by decide +kernel
theorem dJ2_getChar_3b067_41 : decode cJ2_getChar_3b067 41 = .ok (.iand, 1) := by decide +kernel
theorem dJ2_getChar_3b067_42 : decode cJ2_getChar_3b067 42 = .ok (.getstatic 59, 3) := by decide +kernel
theorem dJ2_getChar_3b067_45 : decode cJ2_getChar_3b067 45 = .ok (.ishl, 1) := by decide +kernel
theorem dJ2_getChar_3b067_46 : decode cJ2_getChar_3b067 46 = .ok (.aload_n 0, 1) := by decide +kernel
theorem dJ2_getChar_3b067_47 : decode cJ2_getChar_3b067 47 = .ok (.iload_n 1, 1) := by decide +kernel
theorem dJ2_getChar_3b067_48 : decode cJ2_getChar_3b067 48 = .ok (.baload, 1) := by decide +kernel
theorem dJ2_getChar_3b067_49 : decode cJ2_getChar_3b067 49 = .ok (.sipush 255, 3) := by decide +kernel
theorem dJ2_getChar_3b067_52 : decode cJ2_getChar_3b067 52 = .ok (.iand, 1) := by decide +kernel
theorem dJ2_getChar_3b067_53 : decode cJ2_getChar_3b067 53 = .ok (.getstatic 63, 3) := by decide +kernel
theorem dJ2_getChar_3b067_56 : decode cJ2_getChar_3b067 56 = .ok (.ishl, 1) := by decide +kernel
theorem dJ2_getChar_3b067_57 : decode cJ2_getChar_3b067 57 = .ok (.ior, 1) := by decide +kernel
theorem dJ2_getChar_3b067_58 : decode cJ2_getChar_3b067 58 = .ok (.i2c, 1) := by decide +kernel
theorem dJ2_getChar_3b067_59 : decode cJ2_getChar_3b067 59 = .ok (.ireturn, 1) := by decide +kernel
theorem dJ2_length_9d52b_0 : decode cJ2_length_9d52b 0 = .ok (.aload_n 0, 1) := by decide +kernel
theorem dJ2_length_9d52b_1 : decode cJ2_length_9d52b 1 = .ok (.arraylength, 1) := by decide +kernel
theorem dJ2_length_9d52b_2 : decode cJ2_length_9d52b 2 = .ok (.iconst 1, 1) := by decide +kernel
theorem dJ2_length_9d52b_3 : decode cJ2_length_9d52b 3 = .ok (.ishr, 1) := by decide +kernel
theorem dJ2_length_9d52b_4 : decode cJ2_length_9d52b 4 = .ok (.ireturn, 1) := by decide +kernel
theorem dJ2_charAt_3b067_0 : decode cJ2_charAt_3b067 0 = .ok (.iload_n 1, 1) := by decide +kernel
theorem dJ2_charAt_3b067_1 : decode cJ2_charAt_3b067 1 = .ok (.aload_n 0, 1) := by decide +kernel
theorem dJ2_charAt_3b067_2 : decode cJ2_charAt_3b067 2 = .ok (.invokestatic 67, 3) := by decide +kernel
theorem dJ2_charAt_3b067_5 : decode cJ2_charAt_3b067 5 = .ok (.aload_n 0, 1) := by decide +kernel
theorem dJ2_charAt_3b067_6 : decode cJ2_charAt_3b067 6 = .ok (.iload_n 1, 1) := by decide +kernel
theorem dJ2_charAt_3b067_7 : decode cJ2_charAt_3b067 7 = .ok (.invokestatic 71, 3) := by decide +kernel
theorem dJ2_charAt_3b067_10 : decode cJ2_charAt_3b067 10 = .ok (.ireturn, 1) := by decide +kernel
theorem dJ2_checkIndex_2214a_0 : decode cJ2_checkIndex_2214a 0 = .ok (.iload_n 0, 1) := by decide +kernel
theorem dJ2_checkIndex_2214a_1 : decode cJ2_checkIndex_2214a 1 = .ok (.aload_n 1, 1) := by decide +kernel
theorem dJ2_checkIndex_2214a_2 : decode cJ2_checkIndex_2214a 2 = .ok (.invokestatic 48, 3) := by decide +kernel
theorem dJ2_checkIndex_2214a_5 : decode cJ2_checkIndex_2214a 5 = .ok (.invokestatic 414, 3) := by decide +kernel
theorem dJ2_checkIndex_2214a_8 : decode cJ2_checkIndex_2214a 8 = .ok (.return_, 1) := by decide +kernel
theorem dJ3_checkIndex_8e157_0 : decode cJ3_checkIndex_8e157 0 = .ok (.iload_n 0, 1) := by decide +kernel
theorem dJ3_checkIndex_8e157_1 : decode cJ3_checkIndex_8e157 1 = .ok (.ifCond .lt 8, 3) := by decide +kernel
theorem dJ3_checkIndex_8e157_4 : decode cJ3_checkIndex_8e157 4 = .ok (.iload_n 0, 1) := by decide +kernel
theorem dJ3_checkIndex_8e157_5 : decode cJ3_checkIndex_8e157 5 = .ok (.iload_n 1, 1) := by decide +kernel
theorem dJ3_checkIndex_8e157_6 : decode cJ3_checkIndex_8e157 6 = .ok (.if_icmp .lt 10, 3) := by decide +kernel
theorem dJ3_checkIndex_8e157_9 : decode cJ3_checkIndex_8e157 9 = .ok (.aload_n 2, 1) := by decide +kernel
theorem dJ3_checkIndex_8e157_10 : decode cJ3_checkIndex_8e157 10 = .ok (.iload_n 0, 1) := by decide +kernel
theorem dJ3_checkIndex_8e157_11 : decode cJ3_checkIndex_8e157 11 = .ok (.iload_n 1, 1) := by decide +kernel
theorem dJ3_checkIndex_8e157_12 : decode cJ3_checkIndex_8e157 12 = .ok (.invokestatic 95, 3) := by decide +kernel
theorem dJ3_checkIndex_8e157_15 : decode cJ3_checkIndex_8e157 15 = .ok (.athrow, 1) := by decide +kernel
theorem dJ3_checkIndex_8e157_16 : decode cJ3_checkIndex_8e157 16 = .ok (.iload_n 0, 1) := by decide +kernel
theorem dJ3_checkIndex_8e157_17 : decode cJ3_checkIndex_8e157 17 = .ok (.ireturn, 1) := by decide +kernel
theorem dL_person_0 : decode cL_person 0 = .ok (.aload_n 3, 1) := by decide +kernel
theorem dL_person_1 : decode cL_person 1 = .ok (.iconst 0, 1) := by decide +kernel
theorem dL_person_2 : decode cL_person 2 = .ok (.aload_n 0, 1) := by decide +kernel
theorem dL_person_3 : decode cL_person 3 = .ok (.iload_n 1, 1) := by decide +kernel
theorem dL_person_4 : decode cL_person 4 = .ok (.iload_n 2, 1) := by decide +kernel
theorem dL_person_5 : decode cL_person 5 = .ok (.invokevirtual 7, 3) := by decide +kernel
theorem dL_person_8 : decode cL_person 8 = .ok (.i2l, 1) := by decide +kernel
theorem dL_person_9 : decode cL_person 9 = .ok (.lastore, 1) := by decide +kernel
theorem dL_person_10 : decode cL_person 10 = .ok (.goto 11, 3) := by decide +kernel
theorem dL_person_13 : decode cL_person 13 = .ok (.astore 4, 2) := by decide +kernel
theorem dL_person_15 : decode cL_person 15 = .ok (.iconst 1, 1) := by decide +kernel
theorem dL_person_16 : decode cL_person 16 = .ok (.ireturn, 1) := by decide +kernel
theorem dL_person_17 : decode cL_person 17 = .ok (.astore 4, 2) := by decide +kernel
theorem dL_person_19 : decode cL_person 19 = .ok (.iconst 2, 1) := by decide +kernel
theorem dL_person_20 : decode cL_person 20 = .ok (.ireturn, 1) := by decide +kernel
theorem dL_person_21 : decode cL_person 21 = .ok (.iconst 0, 1) := by decide +kernel
theorem dL_person_22 : decode cL_person 22 = .ok (.ireturn, 1) := by decide +kernel
theorem dX6_init_0 : decode cX6_init 0 = .ok (.aload_n 0, 1) := by decide +kernel
theorem dX6_init_1 : decode cX6_init 1 = .ok (.invokespecial 3, 3) := by decide +kernel
theorem dX6_init_4 : decode cX6_init 4 = .ok (.aload_n 0, 1) := by decide +kernel
theorem dX6_init_5 : decode cX6_init 5 = .ok (.bipush 6, 2) := by decide +kernel
theorem dX6_init_7 : decode cX6_init 7 = .ok (.newarray .int, 2) := by decide +kernel
theorem dX6_init_9 : decode cX6_init 9 = .ok (.putfield 9, 3) := by decide +kernel
theorem dX6_init_12 : decode cX6_init 12 = .ok (.aload_n 0, 1) := by decide +kernel
theorem dX6_init_13 : decode cX6_init 13 = .ok (.bipush 6, 2) := by decide +kernel
theorem dX6_init_15 : decode cX6_init 15 = .ok (.newarray .int, 2) := by decide +kernel
theorem dX6_init_17 : decode cX6_init 17 = .ok (.putfield 15, 3) := by decide +kernel
theorem dX6_init_20 : decode cX6_init 20 = .ok (.aload_n 0, 1) := by decide +kernel
theorem dX6_init_21 : decode cX6_init 21 = .ok (.bipush 6, 2) := by decide +kernel
theorem dX6_init_23 : decode cX6_init 23 = .ok (.newarray .int, 2) := by decide +kernel
theorem dX6_init_25 : decode cX6_init 25 = .ok (.putfield 18, 3) := by decide +kernel
theorem dX6_init_28 : decode cX6_init 28 = .ok (.aload_n 0, 1) := by decide +kernel
theorem dX6_init_29 : decode cX6_init 29 = .ok (.bipush 6, 2) := by decide +kernel
theorem dX6_init_31 : decode cX6_init 31 = .ok (.newarray .int, 2) := by decide +kernel
theorem dX6_init_33 : decode cX6_init 33 = .ok (.putfield 21, 3) := by decide +kernel
theorem dX6_init_36 : decode cX6_init 36 = .ok (.aload_n 0, 1) := by decide +kernel
theorem dX6_init_37 : decode cX6_init 37 = .ok (.bipush 10, 2) := by decide +kernel
theorem dX6_init_39 : decode cX6_init 39 = .ok (.newarray .int, 2) := by decide +kernel
theorem dX6_init_41 : decode cX6_init 41 = .ok (.putfield 24, 3) := by decide +kernel
theorem dX6_init_44 : decode cX6_init 44 = .ok (.aload_n 0, 1) := by decide +kernel
theorem dX6_init_45 : decode cX6_init 45 = .ok (.bipush 10, 2) := by decide +kernel
theorem dX6_init_47 : decode cX6_init 47 = .ok (.newarray .int, 2) := by decide +kernel
theorem dX6_init_49 : decode cX6_init 49 = .ok (.putfield 27, 3) := by decide +kernel
theorem dX6_init_52 : decode cX6_init 52 = .ok (.aload_n 0, 1) := by decide +kernel
theorem dX6_init_53 : decode cX6_init 53 = .ok (.bipush 10, 2) := by decide +kernel
theorem dX6_init_55 : decode cX6_init 55 = .ok (.newarray .int, 2) := by decide +kernel
theorem dX6_init_57 : decode cX6_init 57 = .ok (.putfield 30, 3) := by decide +kernel
theorem dX6_init_60 : decode cX6_init 60 = .ok (.aload_n 0, 1) := by decide +kernel
theorem dX6_init_61 : decode cX6_init 61 = .ok (.bipush 50, 2) := by decide +kernel
theorem dX6_init_63 : decode cX6_init 63 = .ok (.newarray .int, 2) := by decide +kernel
theorem dX6_init_65 : decode cX6_init 65 = .ok (.putfield 33, 3) := by decide +kernel
theorem dX6_init_68 : decode cX6_init 68 = .ok (.aload_n 0, 1) := by decide +kernel
theorem dX6_init_69 : decode cX6_init 69 = .ok (.iconst 5, 1) := by decide +kernel
theorem dX6_init_70 : decode cX6_init 70 = .ok (.newarray .int, 2) := by decide +kernel
theorem dX6_init_72 : decode cX6_init 72 = .ok (.putfield 36, 3) := by decide +kernel
theorem dX6_init_75 : decode cX6_init 75 = .ok (.aload_n 0, 1) := by decide +kernel
theorem dX6_init_76 : decode cX6_init 76 = .ok (.iconst 5, 1) := by decide +kernel
theorem dX6_init_77 : decode cX6_init 77 = .ok (.newarray .int, 2) := by decide +kernel
theorem dX6_init_79 : decode cX6_init 79 = .ok (.putfield 39, 3) := by decide +kernel
theorem dX6_init_82 : decode cX6_init 82 = .ok (.aload_n 0, 1) := by decide +kernel
theorem dX6_init_83 : decode cX6_init 83 = .ok (.bipush 7, 2) := by decide +kernel
theorem dX6_init_85 : decode cX6_init 85 = .ok (.newarray .int, 2) := by decide +kernel
theorem dX6_init_87 : decode cX6_init 87 = .ok (.putfield 42, 3) := by decide +kernel
theorem dX6_init_90 : decode cX6_init 90 = .ok (.aload_n 0, 1) := by decide +kernel
theorem dX6_init_91 : decode cX6_init 91 = .ok (.aload_n 1, 1) := by decide +kernel
theorem dX6_init_92 : decode cX6_init 92 = .ok (.invokevirtual 45, 3) := by decide +kernel
theorem dX6_init_95 : decode cX6_init 95 = .ok (.aload_n 0, 1) := by decide +kernel
theorem dX6_init_96 : decode cX6_init 96 = .ok (.iconst 0, 1) := by decide +kernel
theorem dX6_init_97 : decode cX6_init 97 = .ok (.putfield 49, 3) := by decide +kernel
theorem dX6_init_100 : decode cX6_init 100 = .ok (.aload_n 0, 1) := by decide +kernel
theorem dX6_init_101 : decode cX6_init 101 = .ok (.iconst 1, 1) := by decide +kernel
theorem dX6_init_102 : decode cX6_init 102 = .ok (.putfield 53, 3) := by decide +kernel
theorem dX6_init_105 : decode cX6_init 105 = .ok (.aload_n 0, 1) := by decide +kernel
theorem dX6_init_106 : decode cX6_init 106 = .ok (.iconst 1, 1) := by decide +kernel
theorem dX6_init_107 : decode cX6_init 107 = .ok (.putfield 56, 3) := by decide +kernel
theorem dX6_init_110 : decode cX6_init 110 = .ok (.return_, 1) := by decide +kernel
theorem dX6_begin_0 : decode cX6_begin 0 = .ok (.aload_n 0, 1) := by decide +kernel
theorem dX6_begin_1 : decode cX6_begin 1 = .ok (.aload_n 1, 1) := by decide +kernel
theorem dX6_begin_2 : decode cX6_begin 2 = .ok (.putfield 59, 3) := by decide +kernel
theorem dX6_begin_5 : decode cX6_begin 5 = .ok (.aload_n 0, 1) := by decide +kernel
theorem dX6_begin_6 : decode cX6_begin 6 = .ok (.iconst 0, 1) := by decide +kernel
theorem dX6_begin_7 : decode cX6_begin 7 = .ok (.putfield 63, 3) := by decide +kernel
theorem dX6_begin_10 : decode cX6_begin 10 = .ok (.aload_n 0, 1) := by decide +kernel
theorem dX6_begin_11 : decode cX6_begin 11 = .ok (.iconst 0, 1) := by decide +kernel
theorem dX6_begin_12 : decode cX6_begin 12 = .ok (.putfield 67, 3) := by decide +kernel
theorem dX6_begin_15 : decode cX6_begin 15 = .ok (.aload_n 0, 1) := by decide +kernel
theorem dX6_begin_16 : decode cX6_begin 16 = .ok (.aload_n 1, 1) := by decide +kernel
theorem dX6_begin_17 : decode cX6_begin 17 = .ok (.getfield 70, 3) := by decide +kernel
theorem dX6_begin_20 : decode cX6_begin 20 = .ok (.putfield 75, 3) := by decide +kernel
theorem dX6_begin_23 : decode cX6_begin 23 = .ok (.aload_n 0, 1) := by decide +kernel
theorem dX6_begin_24 : decode cX6_begin 24 = .ok (.aload_n 1, 1) := by decide +kernel
theorem dX6_begin_25 : decode cX6_begin 25 = .ok (.getfield 78, 3) := by decide +kernel
theorem dX6_begin_28 : decode cX6_begin 28 = .ok (.putfield 81, 3) := by decide +kernel
theorem dX6_begin_31 : decode cX6_begin 31 = .ok (.aload_n 0, 1) := by decide +kernel
theorem dX6_begin_32 : decode cX6_begin 32 = .ok (.aload_n 1, 1) := by decide +kernel
theorem dX6_begin_33 : decode cX6_begin 33 = .ok (.getfield 82, 3) := by decide +kernel
theorem dX6_begin_36 : decode cX6_begin 36 = .ok (.putfield 85, 3) := by decide +kernel
theorem dX6_begin_39 : decode cX6_begin 39 = .ok (.iconst 0, 1) := by decide +kernel
theorem dX6_begin_40 : decode cX6_begin 40 = .ok (.istore_n 2, 1) := by decide +kernel
theorem dX6_begin_41 : decode cX6_begin 41 = .ok (.iload_n 2, 1) := by decide +kernel
theorem dX6_begin_42 : decode cX6_begin 42 = .ok (.bipush 6, 2) := by decide +kernel
theorem dX6_begin_44 : decode cX6_begin 44 = .ok (.if_icmp .ge 47, 3) := by decide +kernel
theorem dX6_begin_47 : decode cX6_begin 47 = .ok (.aload_n 0, 1) := by decide +kernel
theorem dX6_begin_48 : decode cX6_begin 48 = .ok (.getfield 9, 3) := by decide +kernel
theorem dX6_begin_51 : decode cX6_begin 51 = .ok (.iload_n 2, 1) := by decide +kernel
theorem dX6_begin_52 : decode cX6_begin 52 = .ok (.aload_n 1, 1) := by decide +kernel
theorem dX6_begin_53 : decode cX6_begin 53 = .ok (.getfield 86, 3) := by decide +kernel
theorem dX6_begin_56 : decode cX6_begin 56 = .ok (.iload_n 2, 1) := by decide +kernel
theorem dX6_begin_57 : decode cX6_begin 57 = .ok (.iaload, 1) := by decide +kernel
theorem dX6_begin_58 : decode cX6_begin 58 = .ok (.iastore, 1) := by decide +kernel
theorem dX6_begin_59 : decode cX6_begin 59 = .ok (.aload_n 0, 1) := by decide +kernel
theorem dX6_begin_60 : decode cX6_begin 60 = .ok (.getfield 15, 3) := by decide +kernel
theorem dX6_begin_63 : decode cX6_begin 63 = .ok (.iload_n 2, 1) := by decide +kernel
theorem dX6_begin_64 : decode cX6_begin 64 = .ok (.aload_n 1, 1) := by decide +kernel
theorem dX6_begin_65 : decode cX6_begin 65 = .ok (.getfield 89, 3) := by decide +kernel
theorem dX6_begin_68 : decode cX6_begin 68 = .ok (.iload_n 2, 1) := by decide +kernel
theorem dX6_begin_69 : decode cX6_begin 69 = .ok (.iaload, 1) := by decide +kernel
theorem dX6_begin_70 : decode cX6_begin 70 = .ok (.iastore, 1) := by decide +kernel
theorem dX6_begin_71 : decode cX6_begin 71 = .ok (.aload_n 0, 1) := by decide +kernel
theorem dX6_begin_72 : decode cX6_begin 72 = .ok (.getfield 18, 3) := by decide +kernel
theorem dX6_begin_75 : decode cX6_begin 75 = .ok (.iload_n 2, 1) := by decide +kernel
theorem dX6_begin_76 : decode cX6_begin 76 = .ok (.iconst 0, 1) := by decide +kernel
theorem dX6_begin_77 : decode cX6_begin 77 = .ok (.iastore, 1) := by decide +kernel
theorem dX6_begin_78 : decode cX6_begin 78 = .ok (.aload_n 0, 1) := by decide +kernel
theorem dX6_begin_79 : decode cX6_begin 79 = .ok (.getfield 21, 3) := by decide +kernel
theorem dX6_begin_82 : decode cX6_begin 82 = .ok (.iload_n 2, 1) := by decide +kernel
theorem dX6_begin_83 : decode cX6_begin 83 = .ok (.iconst 0, 1) := by decide +kernel
theorem dX6_begin_84 : decode cX6_begin 84 = .ok (.iastore, 1) := by decide +kernel
theorem dX6_begin_85 : decode cX6_begin 85 = .ok (.iinc 2 1, 3) := by decide +kernel
theorem dX6_begin_88 : decode cX6_begin 88 = .ok (.goto (-47), 3) := by decide +kernel
theorem dX6_begin_91 : decode cX6_begin 91 = .ok (.iconst 0, 1) := by decide +kernel
theorem dX6_begin_92 : decode cX6_begin 92 = .ok (.istore_n 2, 1) := by decide +kernel
theorem dX6_begin_93 : decode cX6_begin 93 = .ok (.iload_n 2, 1) := by decide +kernel
theorem dX6_begin_94 : decode cX6_begin 94 = .ok (.bipush 10, 2) := by decide +kernel
theorem dX6_begin_96 : decode cX6_begin 96 = .ok (.if_icmp .ge 35, 3) := by decide +kernel
theorem dX6_begin_99 : decode cX6_begin 99 = .ok (.aload_n 0, 1) := by decide +kernel
theorem dX6_begin_100 : decode cX6_begin 100 = .ok (.getfield 24, 3) := by decide +kernel
theorem dX6_begin_103 : decode cX6_begin 103 = .ok (.iload_n 2, 1) := by decide +kernel
theorem dX6_begin_104 : decode cX6_begin 104 = .ok (.aload_n 1, 1) := by decide +kernel
theorem dX6_begin_105 : decode cX6_begin 105 = .ok (.getfield 90, 3) := by decide +kernel
theorem dX6_begin_108 : decode cX6_begin 108 = .ok (.iload_n 2, 1) := by decide +kernel
theorem dX6_begin_109 : decode cX6_begin 109 = .ok (.iaload, 1) := by decide +kernel
theorem dX6_begin_110 : decode cX6_begin 110 = .ok (.iastore, 1) := by decide +kernel
theorem dX6_begin_111 : decode cX6_begin 111 = .ok (.aload_n 0, 1) := by decide +kernel
theorem dX6_begin_112 : decode cX6_begin 112 = .ok (.getfield 27, 3) := by decide +kernel
theorem dX6_begin_115 : decode cX6_begin 115 = .ok (.iload_n 2, 1) := by decide +kernel
theorem dX6_begin_116 : decode cX6_begin 116 = .ok (.iconst 0, 1) := by decide +kernel
theorem dX6_begin_117 : decode cX6_begin 117 = .ok (.iastore, 1) := by decide +kernel
theorem dX6_begin_118 : decode cX6_begin 118 = .ok (.aload_n 0, 1) := by decide +kernel
theorem dX6_begin_119 : decode cX6_begin 119 = .ok (.getfield 30, 3) := by decide +kernel
theorem dX6_begin_122 : decode cX6_begin 122 = .ok (.iload_n 2, 1) := by decide +kernel
theorem dX6_begin_123 : decode cX6_begin 123 = .ok (.iconst (-1), 1) := by decide +kernel
theorem dX6_begin_124 : decode cX6_begin 124 = .ok (.iastore, 1) := by decide +kernel
theorem dX6_begin_125 : decode cX6_begin 125 = .ok (.iinc 2 1, 3) := by decide +kernel
theorem dX6_begin_128 : decode cX6_begin 128 = .ok (.goto (-35), 3) := by decide +kernel
theorem dX6_begin_131 : decode cX6_begin 131 = .ok (.iconst 0, 1) := by decide +kernel
theorem dX6_begin_132 : decode cX6_begin 132 = .ok (.istore_n 2, 1) := by decide +kernel
theorem dX6_begin_133 : decode cX6_begin 133 = .ok (.iload_n 2, 1) := by decide +kernel
theorem dX6_begin_134 : decode cX6_begin 134 = .ok (.iconst 5, 1) := by decide +kernel
theorem dX6_begin_135 : decode cX6_begin 135 = .ok (.if_icmp .ge 23, 3) := by decide +kernel
theorem dX6_begin_138 : decode cX6_begin 138 = .ok (.aload_n 0, 1) := by decide +kernel
theorem dX6_begin_139 : decode cX6_begin 139 = .ok (.getfield 36, 3) := by decide +kernel
theorem dX6_begin_142 : decode cX6_begin 142 = .ok (.iload_n 2, 1) := by decide +kernel
theorem dX6_begin_143 : decode cX6_begin 143 = .ok (.iconst 0, 1) := by decide +kernel
theorem dX6_begin_144 : decode cX6_begin 144 = .ok (.iastore, 1) := by decide +kernel
theorem dX6_begin_145 : decode cX6_begin 145 = .ok (.aload_n 0, 1) := by decide +kernel
theorem dX6_begin_146 : decode cX6_begin 146 = .ok (.getfield 39, 3) := by decide +kernel
theorem dX6_begin_149 : decode cX6_begin 149 = .ok (.iload_n 2, 1) := by decide +kernel
theorem dX6_begin_150 : decode cX6_begin 150 = .ok (.iconst 0, 1) := by decide +kernel
theorem dX6_begin_151 : decode cX6_begin 151 = .ok (.iastore, 1) := by decide +kernel
theorem dX6_begin_152 : decode cX6_begin 152 = .ok (.iinc 2 1, 3) := by decide +kernel
theorem dX6_begin_155 : decode cX6_begin 155 = .ok (.goto (-22), 3) := by decide +kernel
theorem dX6_begin_158 : decode cX6_begin 158 = .ok (.return_, 1) := by decide +kernel
theorem dX6_copy_0 : decode cX6_copy 0 = .ok (.aload_n 0, 1) := by decide +kernel
theorem dX6_copy_1 : decode cX6_copy 1 = .ok (.aload_n 1, 1) := by decide +kernel
theorem dX6_copy_2 : decode cX6_copy 2 = .ok (.getfield 59, 3) := by decide +kernel
theorem dX6_copy_5 : decode cX6_copy 5 = .ok (.putfield 59, 3) := by decide +kernel
theorem dX6_copy_8 : decode cX6_copy 8 = .ok (.aload_n 0, 1) := by decide +kernel
theorem dX6_copy_9 : decode cX6_copy 9 = .ok (.aload_n 1, 1) := by decide +kernel
theorem dX6_copy_10 : decode cX6_copy 10 = .ok (.getfield 63, 3) := by decide +kernel
theorem dX6_copy_13 : decode cX6_copy 13 = .ok (.putfield 63, 3) := by decide +kernel
theorem dX6_copy_16 : decode cX6_copy 16 = .ok (.aload_n 0, 1) := by decide +kernel
theorem dX6_copy_17 : decode cX6_copy 17 = .ok (.aload_n 1, 1) := by decide +kernel
theorem dX6_copy_18 : decode cX6_copy 18 = .ok (.getfield 67, 3) := by decide +kernel
theorem dX6_copy_21 : decode cX6_copy 21 = .ok (.putfield 67, 3) := by decide +kernel
theorem dX6_copy_24 : decode cX6_copy 24 = .ok (.aload_n 0, 1) := by decide +kernel
theorem dX6_copy_25 : decode cX6_copy 25 = .ok (.aload_n 1, 1) := by decide +kernel
theorem dX6_copy_26 : decode cX6_copy 26 = .ok (.getfield 75, 3) := by decide +kernel
theorem dX6_copy_29 : decode cX6_copy 29 = .ok (.putfield 75, 3) := by decide +kernel
theorem dX6_copy_32 : decode cX6_copy 32 = .ok (.aload_n 0, 1) := by decide +kernel
theorem dX6_copy_33 : decode cX6_copy 33 = .ok (.aload_n 1, 1) := by decide +kernel
theorem dX6_copy_34 : decode cX6_copy 34 = .ok (.getfield 81, 3) := by decide +kernel
theorem dX6_copy_37 : decode cX6_copy 37 = .ok (.putfield 81, 3) := by decide +kernel
theorem dX6_copy_40 : decode cX6_copy 40 = .ok (.aload_n 0, 1) := by decide +kernel
theorem dX6_copy_41 : decode cX6_copy 41 = .ok (.aload_n 1, 1) := by decide +kernel
theorem dX6_copy_42 : decode cX6_copy 42 = .ok (.getfield 85, 3) := by decide +kernel
theorem dX6_copy_45 : decode cX6_copy 45 = .ok (.putfield 85, 3) := by decide +kernel
theorem dX6_copy_48 : decode cX6_copy 48 = .ok (.aload_n 1, 1) := by decide +kernel
theorem dX6_copy_49 : decode cX6_copy 49 = .ok (.getfield 9, 3) := by decide +kernel
theorem dX6_copy_52 : decode cX6_copy 52 = .ok (.iconst 0, 1) := by decide +kernel
theorem dX6_copy_53 : decode cX6_copy 53 = .ok (.aload_n 0, 1) := by decide +kernel
theorem dX6_copy_54 : decode cX6_copy 54 = .ok (.getfield 9, 3) := by decide +kernel
theorem dX6_copy_57 : decode cX6_copy 57 = .ok (.iconst 0, 1) := by decide +kernel
theorem dX6_copy_58 : decode cX6_copy 58 = .ok (.bipush 6, 2) := by decide +kernel
theorem dX6_copy_60 : decode cX6_copy 60 = .ok (.invokestatic 91, 3) := by decide +kernel
theorem dX6_copy_63 : decode cX6_copy 63 = .ok (.aload_n 1, 1) := by decide +kernel
theorem dX6_copy_64 : decode cX6_copy 64 = .ok (.getfield 15, 3) := by decide +kernel
theorem dX6_copy_67 : decode cX6_copy 67 = .ok (.iconst 0, 1) := by decide +kernel
theorem dX6_copy_68 : decode cX6_copy 68 = .ok (.aload_n 0, 1) := by decide +kernel
theorem dX6_copy_69 : decode cX6_copy 69 = .ok (.getfield 15, 3) := by decide +kernel
theorem dX6_copy_72 : decode cX6_copy 72 = .ok (.iconst 0, 1) := by decide +kernel
theorem dX6_copy_73 : decode cX6_copy 73 = .ok (.bipush 6, 2) := by decide +kernel
theorem dX6_copy_75 : decode cX6_copy 75 = .ok (.invokestatic 91, 3) := by decide +kernel
theorem dX6_copy_78 : decode cX6_copy 78 = .ok (.aload_n 1, 1) := by decide +kernel
theorem dX6_copy_79 : decode cX6_copy 79 = .ok (.getfield 18, 3) := by decide +kernel
theorem dX6_copy_82 : decode cX6_copy 82 = .ok (.iconst 0, 1) := by decide +kernel
theorem dX6_copy_83 : decode cX6_copy 83 = .ok (.aload_n 0, 1) := by decide +kernel
theorem dX6_copy_84 : decode cX6_copy 84 = .ok (.getfield 18, 3) := by decide +kernel
theorem dX6_copy_87 : decode cX6_copy 87 = .ok (.iconst 0, 1) := by decide +kernel
theorem dX6_copy_88 : decode cX6_copy 88 = .ok (.bipush 6, 2) := by decide +kernel
theorem dX6_copy_90 : decode cX6_copy 90 = .ok (.invokestatic 91, 3) := by decide +kernel
theorem dX6_copy_93 : decode cX6_copy 93 = .ok (.aload_n 1, 1) := by decide +kernel
theorem dX6_copy_94 : decode cX6_copy 94 = .ok (.getfield 21, 3) := by decide +kernel
theorem dX6_copy_97 : decode cX6_copy 97 = .ok (.iconst 0, 1) := by decide +kernel
theorem dX6_copy_98 : decode cX6_copy 98 = .ok (.aload_n 0, 1) := by decide +kernel
theorem dX6_copy_99 : decode cX6_copy 99 = .ok (.getfield 21, 3) := by decide +kernel
theorem dX6_copy_102 : decode cX6_copy 102 = .ok (.iconst 0, 1) := by decide +kernel
theorem dX6_copy_103 : decode cX6_copy 103 = .ok (.bipush 6, 2) := by decide +kernel
theorem dX6_copy_105 : decode cX6_copy 105 = .ok (.invokestatic 91, 3) := by decide +kernel
theorem dX6_copy_108 : decode cX6_copy 108 = .ok (.aload_n 1, 1) := by decide +kernel
theorem dX6_copy_109 : decode cX6_copy 109 = .ok (.getfield 24, 3) := by decide +kernel
theorem dX6_copy_112 : decode cX6_copy 112 = .ok (.iconst 0, 1) := by decide +kernel
theorem dX6_copy_113 : decode cX6_copy 113 = .ok (.aload_n 0, 1) := by decide +kernel
theorem dX6_copy_114 : decode cX6_copy 114 = .ok (.getfield 24, 3) := by decide +kernel
theorem dX6_copy_117 : decode cX6_copy 117 = .ok (.iconst 0, 1) := by decide +kernel
theorem dX6_copy_118 : decode cX6_copy 118 = .ok (.bipush 10, 2) := by decide +kernel
theorem dX6_copy_120 : decode cX6_copy 120 = .ok (.invokestatic 91, 3) := by decide +kernel
theorem dX6_copy_123 : decode cX6_copy 123 = .ok (.aload_n 1, 1) := by decide +kernel
theorem dX6_copy_124 : decode cX6_copy 124 = .ok (.getfield 27, 3) := by decide +kernel
theorem dX6_copy_127 : decode cX6_copy 127 = .ok (.iconst 0, 1) := by decide +kernel
theorem dX6_copy_128 : decode cX6_copy 128 = .ok (.aload_n 0, 1) := by decide +kernel
theorem dX6_copy_129 : decode cX6_copy 129 = .ok (.getfield 27, 3) := by decide +kernel
theorem dX6_copy_132 : decode cX6_copy 132 = .ok (.iconst 0, 1) := by decide +kernel
theorem dX6_copy_133 : decode cX6_copy 133 = .ok (.bipush 10, 2) := by decide +kernel
theorem dX6_copy_135 : decode cX6_copy 135 = .ok (.invokestatic 91, 3) := by decide +kernel
theorem dX6_copy_138 : decode cX6_copy 138 = .ok (.aload_n 1, 1) := by decide +kernel
theorem dX6_copy_139 : decode cX6_copy 139 = .ok (.getfield 30, 3) := by decide +kernel
theorem dX6_copy_142 : decode cX6_copy 142 = .ok (.iconst 0, 1) := by decide +kernel
theorem dX6_copy_143 : decode cX6_copy 143 = .ok (.aload_n 0, 1) := by decide +kernel
theorem dX6_copy_144 : decode cX6_copy 144 = .ok (.getfield 30, 3) := by decide +kernel
theorem dX6_copy_147 : decode cX6_copy 147 = .ok (.iconst 0, 1) := by decide +kernel
theorem dX6_copy_148 : decode cX6_copy 148 = .ok (.bipush 10, 2) := by decide +kernel
theorem dX6_copy_150 : decode cX6_copy 150 = .ok (.invokestatic 91, 3) := by decide +kernel
theorem dX6_copy_153 : decode cX6_copy 153 = .ok (.aload_n 1, 1) := by decide +kernel
theorem dX6_copy_154 : decode cX6_copy 154 = .ok (.getfield 33, 3) := by decide +kernel
theorem dX6_copy_157 : decode cX6_copy 157 = .ok (.iconst 0, 1) := by decide +kernel
theorem dX6_copy_158 : decode cX6_copy 158 = .ok (.aload_n 0, 1) := by decide +kernel
theorem dX6_copy_159 : decode cX6_copy 159 = .ok (.getfield 33, 3) := by decide +kernel
theorem dX6_copy_162 : decode cX6_copy 162 = .ok (.iconst 0, 1) := by decide +kernel
theorem dX6_copy_163 : decode cX6_copy 163 = .ok (.bipush 50, 2) := by decide +kernel
theorem dX6_copy_165 : decode cX6_copy 165 = .ok (.invokestatic 91, 3) := by decide +kernel
theorem dX6_copy_168 : decode cX6_copy 168 = .ok (.aload_n 1, 1) := by decide +kernel
theorem dX6_copy_169 : decode cX6_copy 169 = .ok (.getfield 36, 3) := by decide +kernel
theorem dX6_copy_172 : decode cX6_copy 172 = .ok (.iconst 0, 1) := by decide +kernel
theorem dX6_copy_173 : decode cX6_copy 173 = .ok (.aload_n 0, 1) := by decide +kernel
theorem dX6_copy_174 : decode cX6_copy 174 = .ok (.getfield 36, 3) := by decide +kernel
theorem dX6_copy_177 : decode cX6_copy 177 = .ok (.iconst 0, 1) := by decide +kernel
theorem dX6_copy_178 : decode cX6_copy 178 = .ok (.iconst 5, 1) := by decide +kernel
theorem dX6_copy_179 : decode cX6_copy 179 = .ok (.invokestatic 91, 3) := by decide +kernel
theorem dX6_copy_182 : decode cX6_copy 182 = .ok (.aload_n 1, 1) := by decide +kernel
theorem dX6_copy_183 : decode cX6_copy 183 = .ok (.getfield 39, 3) := by decide +kernel
theorem dX6_copy_186 : decode cX6_copy 186 = .ok (.iconst 0, 1) := by decide +kernel
theorem dX6_copy_187 : decode cX6_copy 187 = .ok (.aload_n 0, 1) := by decide +kernel
theorem dX6_copy_188 : decode cX6_copy 188 = .ok (.getfield 39, 3) := by decide +kernel
theorem dX6_copy_191 : decode cX6_copy 191 = .ok (.iconst 0, 1) := by decide +kernel
theorem dX6_copy_192 : decode cX6_copy 192 = .ok (.iconst 5, 1) := by decide +kernel
theorem dX6_copy_193 : decode cX6_copy 193 = .ok (.invokestatic 91, 3) := by decide +kernel
theorem dX6_copy_196 : decode cX6_copy 196 = .ok (.return_, 1) := by decide +kernel
theorem dX6_piecesThatAre_0 : decode cX6_piecesThatAre 0 = .ok (.iconst 0, 1) := by decide +kernel
theorem dX6_piecesThatAre_1 : decode cX6_piecesThatAre 1 = .ok (.istore_n 2, 1) := by decide +kernel
theorem dX6_piecesThatAre_2 : decode cX6_piecesThatAre 2 = .ok (.iconst 0, 1) := by decide +kernel
theorem dX6_piecesThatAre_3 : decode cX6_piecesThatAre 3 = .ok (.istore_n 3, 1) := by decide +kernel
theorem dX6_piecesThatAre_4 : decode cX6_piecesThatAre 4 = .ok (.iload_n 3, 1) := by decide +kernel
theorem dX6_piecesThatAre_5 : decode cX6_piecesThatAre 5 = .ok (.aload_n 0, 1) := by decide +kernel
theorem dX6_piecesThatAre_6 : decode cX6_piecesThatAre 6 = .ok (.getfield 59, 3) := by decide +kernel
theorem dX6_piecesThatAre_9 : decode cX6_piecesThatAre 9 = .ok (.getfield 110, 3) := by decide +kernel
theorem dX6_piecesThatAre_12 : decode cX6_piecesThatAre 12 = .ok (.if_icmp .ge 22, 3) := by decide +kernel
theorem dX6_piecesThatAre_15 : decode cX6_piecesThatAre 15 = .ok (.aload_n 0, 1) := by decide +kernel
theorem dX6_piecesThatAre_16 : decode cX6_piecesThatAre 16 = .ok (.getfield 27, 3) := by decide +kernel
theorem dX6_piecesThatAre_19 : decode cX6_piecesThatAre 19 = .ok (.iload_n 3, 1) := by decide +kernel
theorem dX6_piecesThatAre_20 : decode cX6_piecesThatAre 20 = .ok (.iaload, 1) := by decide +kernel
theorem dX6_piecesThatAre_21 : decode cX6_piecesThatAre 21 = .ok (.iload_n 1, 1) := by decide +kernel
theorem dX6_piecesThatAre_22 : decode cX6_piecesThatAre 22 = .ok (.if_icmp .ne 6, 3) := by decide +kernel
theorem dX6_piecesThatAre_25 : decode cX6_piecesThatAre 25 = .ok (.iinc 2 1, 3) := by decide +kernel
theorem dX6_piecesThatAre_28 : decode cX6_piecesThatAre 28 = .ok (.iinc 3 1, 3) := by decide +kernel
theorem dX6_piecesThatAre_31 : decode cX6_piecesThatAre 31 = .ok (.goto (-27), 3) := by decide +kernel
theorem dX6_piecesThatAre_34 : decode cX6_piecesThatAre 34 = .ok (.iload_n 2, 1) := by decide +kernel
theorem dX6_piecesThatAre_35 : decode cX6_piecesThatAre 35 = .ok (.ireturn, 1) := by decide +kernel
theorem dX6_personsAboard_0 : decode cX6_personsAboard 0 = .ok (.iconst 0, 1) := by decide +kernel
theorem dX6_personsAboard_1 : decode cX6_personsAboard 1 = .ok (.istore_n 1, 1) := by decide +kernel
theorem dX6_personsAboard_2 : decode cX6_personsAboard 2 = .ok (.iconst 0, 1) := by decide +kernel
theorem dX6_personsAboard_3 : decode cX6_personsAboard 3 = .ok (.istore_n 2, 1) := by decide +kernel
theorem dX6_personsAboard_4 : decode cX6_personsAboard 4 = .ok (.iload_n 2, 1) := by decide +kernel
theorem dX6_personsAboard_5 : decode cX6_personsAboard 5 = .ok (.aload_n 0, 1) := by decide +kernel
theorem dX6_personsAboard_6 : decode cX6_personsAboard 6 = .ok (.getfield 59, 3) := by decide +kernel
theorem dX6_personsAboard_9 : decode cX6_personsAboard 9 = .ok (.getfield 113, 3) := by decide +kernel
theorem dX6_personsAboard_12 : decode cX6_personsAboard 12 = .ok (.if_icmp .ge 22, 3) := by decide +kernel
theorem dX6_personsAboard_15 : decode cX6_personsAboard 15 = .ok (.aload_n 0, 1) := by decide +kernel
theorem dX6_personsAboard_16 : decode cX6_personsAboard 16 = .ok (.getfield 18, 3) := by decide +kernel
theorem dX6_personsAboard_19 : decode cX6_personsAboard 19 = .ok (.iload_n 2, 1) := by decide +kernel
theorem dX6_personsAboard_20 : decode cX6_personsAboard 20 = .ok (.iaload, 1) := by decide +kernel
theorem dX6_personsAboard_21 : decode cX6_personsAboard 21 = .ok (.iconst 1, 1) := by decide +kernel
theorem dX6_personsAboard_22 : decode cX6_personsAboard 22 = .ok (.if_icmp .ne 6, 3) := by decide +kernel
theorem dX6_personsAboard_25 : decode cX6_personsAboard 25 = .ok (.iinc 1 1, 3) := by decide +kernel
theorem dX6_personsAboard_28 : decode cX6_personsAboard 28 = .ok (.iinc 2 1, 3) := by decide +kernel
theorem dX6_personsAboard_31 : decode cX6_personsAboard 31 = .ok (.goto (-27), 3) := by decide +kernel
theorem dX6_personsAboard_34 : decode cX6_personsAboard 34 = .ok (.iload_n 1, 1) := by decide +kernel
theorem dX6_personsAboard_35 : decode cX6_personsAboard 35 = .ok (.ireturn, 1) := by decide +kernel
theorem dX6_firstLate_0 : decode cX6_firstLate 0 = .ok (.iconst 0, 1) := by decide +kernel
theorem dX6_firstLate_1 : decode cX6_firstLate 1 = .ok (.istore_n 1, 1) := by decide +kernel
theorem dX6_firstLate_2 : decode cX6_firstLate 2 = .ok (.iload_n 1, 1) := by decide +kernel
theorem dX6_firstLate_3 : decode cX6_firstLate 3 = .ok (.aload_n 0, 1) := by decide +kernel
theorem dX6_firstLate_4 : decode cX6_firstLate 4 = .ok (.getfield 59, 3) := by decide +kernel
theorem dX6_firstLate_7 : decode cX6_firstLate 7 = .ok (.getfield 113, 3) := by decide +kernel
theorem dX6_firstLate_10 : decode cX6_firstLate 10 = .ok (.if_icmp .ge 37, 3) := by decide +kernel
theorem dX6_firstLate_13 : decode cX6_firstLate 13 = .ok (.aload_n 0, 1) := by decide +kernel
theorem dX6_firstLate_14 : decode cX6_firstLate 14 = .ok (.getfield 18, 3) := by decide +kernel
theorem dX6_firstLate_17 : decode cX6_firstLate 17 = .ok (.iload_n 1, 1) := by decide +kernel
theorem dX6_firstLate_18 : decode cX6_firstLate 18 = .ok (.iaload, 1) := by decide +kernel
theorem dX6_firstLate_19 : decode cX6_firstLate 19 = .ok (.iconst 1, 1) := by decide +kernel
theorem dX6_firstLate_20 : decode cX6_firstLate 20 = .ok (.if_icmp .ne 21, 3) := by decide +kernel
theorem dX6_firstLate_23 : decode cX6_firstLate 23 = .ok (.aload_n 0, 1) := by decide +kernel
theorem dX6_firstLate_24 : decode cX6_firstLate 24 = .ok (.getfield 59, 3) := by decide +kernel
theorem dX6_firstLate_27 : decode cX6_firstLate 27 = .ok (.getfield 116, 3) := by decide +kernel
theorem dX6_firstLate_30 : decode cX6_firstLate 30 = .ok (.iload_n 1, 1) := by decide +kernel
theorem dX6_firstLate_31 : decode cX6_firstLate 31 = .ok (.iaload, 1) := by decide +kernel
theorem dX6_firstLate_32 : decode cX6_firstLate 32 = .ok (.aload_n 0, 1) := by decide +kernel
theorem dX6_firstLate_33 : decode cX6_firstLate 33 = .ok (.getfield 63, 3) := by decide +kernel
theorem dX6_firstLate_36 : decode cX6_firstLate 36 = .ok (.if_icmp .ne 5, 3) := by decide +kernel
theorem dX6_firstLate_39 : decode cX6_firstLate 39 = .ok (.iload_n 1, 1) := by decide +kernel
theorem dX6_firstLate_40 : decode cX6_firstLate 40 = .ok (.ireturn, 1) := by decide +kernel
theorem dX6_firstLate_41 : decode cX6_firstLate 41 = .ok (.iinc 1 1, 3) := by decide +kernel
theorem dX6_firstLate_44 : decode cX6_firstLate 44 = .ok (.goto (-42), 3) := by decide +kernel
theorem dX6_firstLate_47 : decode cX6_firstLate 47 = .ok (.iconst (-1), 1) := by decide +kernel
theorem dX6_firstLate_48 : decode cX6_firstLate 48 = .ok (.ireturn, 1) := by decide +kernel
theorem dX6_isBusy_0 : decode cX6_isBusy 0 = .ok (.iconst 0, 1) := by decide +kernel
theorem dX6_isBusy_1 : decode cX6_isBusy 1 = .ok (.istore_n 1, 1) := by decide +kernel
theorem dX6_isBusy_2 : decode cX6_isBusy 2 = .ok (.iload_n 1, 1) := by decide +kernel
theorem dX6_isBusy_3 : decode cX6_isBusy 3 = .ok (.aload_n 0, 1) := by decide +kernel
theorem dX6_isBusy_4 : decode cX6_isBusy 4 = .ok (.getfield 59, 3) := by decide +kernel
theorem dX6_isBusy_7 : decode cX6_isBusy 7 = .ok (.getfield 113, 3) := by decide +kernel
theorem dX6_isBusy_10 : decode cX6_isBusy 10 = .ok (.if_icmp .ge 21, 3) := by decide +kernel
theorem dX6_isBusy_13 : decode cX6_isBusy 13 = .ok (.aload_n 0, 1) := by decide +kernel
theorem dX6_isBusy_14 : decode cX6_isBusy 14 = .ok (.getfield 18, 3) := by decide +kernel
theorem dX6_isBusy_17 : decode cX6_isBusy 17 = .ok (.iload_n 1, 1) := by decide +kernel
theorem dX6_isBusy_18 : decode cX6_isBusy 18 = .ok (.iaload, 1) := by decide +kernel
theorem dX6_isBusy_19 : decode cX6_isBusy 19 = .ok (.iconst 2, 1) := by decide +kernel
theorem dX6_isBusy_20 : decode cX6_isBusy 20 = .ok (.if_icmp .eq 5, 3) := by decide +kernel
theorem dX6_isBusy_23 : decode cX6_isBusy 23 = .ok (.iconst 1, 1) := by decide +kernel
theorem dX6_isBusy_24 : decode cX6_isBusy 24 = .ok (.ireturn, 1) := by decide +kernel
theorem dX6_isBusy_25 : decode cX6_isBusy 25 = .ok (.iinc 1 1, 3) := by decide +kernel
theorem dX6_isBusy_28 : decode cX6_isBusy 28 = .ok (.goto (-26), 3) := by decide +kernel
theorem dX6_isBusy_31 : decode cX6_isBusy 31 = .ok (.iconst 0, 1) := by decide +kernel
theorem dX6_isBusy_32 : decode cX6_isBusy 32 = .ok (.ireturn, 1) := by decide +kernel
theorem dX6_takeDown_0 : decode cX6_takeDown 0 = .ok (.iconst 0, 1) := by decide +kernel
theorem dX6_takeDown_1 : decode cX6_takeDown 1 = .ok (.istore_n 2, 1) := by decide +kernel
theorem dX6_takeDown_2 : decode cX6_takeDown 2 = .ok (.iconst 1, 1) := by decide +kernel
theorem dX6_takeDown_3 : decode cX6_takeDown 3 = .ok (.istore_n 3, 1) := by decide +kernel
theorem dX6_takeDown_4 : decode cX6_takeDown 4 = .ok (.iconst 0, 1) := by decide +kernel
theorem dX6_takeDown_5 : decode cX6_takeDown 5 = .ok (.istore 4, 2) := by decide +kernel
theorem dX6_takeDown_7 : decode cX6_takeDown 7 = .ok (.iload 4, 2) := by decide +kernel
theorem dX6_takeDown_9 : decode cX6_takeDown 9 = .ok (.aload_n 0, 1) := by decide +kernel
theorem dX6_takeDown_10 : decode cX6_takeDown 10 = .ok (.getfield 59, 3) := by decide +kernel
theorem dX6_takeDown_13 : decode cX6_takeDown 13 = .ok (.getfield 113, 3) := by decide +kernel
theorem dX6_takeDown_16 : decode cX6_takeDown 16 = .ok (.if_icmp .ge 199, 3) := by decide +kernel
theorem dX6_takeDown_19 : decode cX6_takeDown 19 = .ok (.aload_n 0, 1) := by decide +kernel
theorem dX6_takeDown_20 : decode cX6_takeDown 20 = .ok (.getfield 18, 3) := by decide +kernel
theorem dX6_takeDown_23 : decode cX6_takeDown 23 = .ok (.iload 4, 2) := by decide +kernel
theorem dX6_takeDown_25 : decode cX6_takeDown 25 = .ok (.iaload, 1) := by decide +kernel
theorem dX6_takeDown_26 : decode cX6_takeDown 26 = .ok (.iconst 1, 1) := by decide +kernel
theorem dX6_takeDown_27 : decode cX6_takeDown 27 = .ok (.if_icmp .ne 182, 3) := by decide +kernel
theorem dX6_takeDown_30 : decode cX6_takeDown 30 = .ok (.aload_n 0, 1) := by decide +kernel
theorem dX6_takeDown_31 : decode cX6_takeDown 31 = .ok (.getfield 59, 3) := by decide +kernel
theorem dX6_takeDown_34 : decode cX6_takeDown 34 = .ok (.getfield 116, 3) := by decide +kernel
theorem dX6_takeDown_37 : decode cX6_takeDown 37 = .ok (.iload 4, 2) := by decide +kernel
theorem dX6_takeDown_39 : decode cX6_takeDown 39 = .ok (.iaload, 1) := by decide +kernel
theorem dX6_takeDown_40 : decode cX6_takeDown 40 = .ok (.aload_n 0, 1) := by decide +kernel
theorem dX6_takeDown_41 : decode cX6_takeDown 41 = .ok (.getfield 63, 3) := by decide +kernel
theorem dX6_takeDown_44 : decode cX6_takeDown 44 = .ok (.if_icmp .le 6, 3) := by decide +kernel
theorem dX6_takeDown_47 : decode cX6_takeDown 47 = .ok (.goto 162, 3) := by decide +kernel
theorem dX6_takeDown_50 : decode cX6_takeDown 50 = .ok (.iconst 0, 1) := by decide +kernel
theorem dX6_takeDown_51 : decode cX6_takeDown 51 = .ok (.istore 5, 2) := by decide +kernel
theorem dX6_takeDown_53 : decode cX6_takeDown 53 = .ok (.iload 5, 2) := by decide +kernel
theorem dX6_takeDown_55 : decode cX6_takeDown 55 = .ok (.aload_n 0, 1) := by decide +kernel
theorem dX6_takeDown_56 : decode cX6_takeDown 56 = .ok (.getfield 59, 3) := by decide +kernel
theorem dX6_takeDown_59 : decode cX6_takeDown 59 = .ok (.getfield 110, 3) := by decide +kernel
theorem dX6_takeDown_62 : decode cX6_takeDown 62 = .ok (.if_icmp .ge 114, 3) := by decide +kernel
theorem dX6_takeDown_65 : decode cX6_takeDown 65 = .ok (.iload_n 3, 1) := by decide +kernel
theorem dX6_takeDown_66 : decode cX6_takeDown 66 = .ok (.ifCond .eq 110, 3) := by decide +kernel
theorem dX6_takeDown_69 : decode cX6_takeDown 69 = .ok (.aload_n 0, 1) := by decide +kernel
theorem dX6_takeDown_70 : decode cX6_takeDown 70 = .ok (.getfield 59, 3) := by decide +kernel
theorem dX6_takeDown_73 : decode cX6_takeDown 73 = .ok (.getfield 119, 3) := by decide +kernel
theorem dX6_takeDown_76 : decode cX6_takeDown 76 = .ok (.iload 5, 2) := by decide +kernel
theorem dX6_takeDown_78 : decode cX6_takeDown 78 = .ok (.iaload, 1) := by decide +kernel
theorem dX6_takeDown_79 : decode cX6_takeDown 79 = .ok (.iload 4, 2) := by decide +kernel
theorem dX6_takeDown_81 : decode cX6_takeDown 81 = .ok (.if_icmp .ne 89, 3) := by decide +kernel
theorem dX6_takeDown_84 : decode cX6_takeDown 84 = .ok (.aload_n 0, 1) := by decide +kernel
theorem dX6_takeDown_85 : decode cX6_takeDown 85 = .ok (.getfield 27, 3) := by decide +kernel
theorem dX6_takeDown_88 : decode cX6_takeDown 88 = .ok (.iload 5, 2) := by decide +kernel
theorem dX6_takeDown_90 : decode cX6_takeDown 90 = .ok (.iaload, 1) := by decide +kernel
theorem dX6_takeDown_91 : decode cX6_takeDown 91 = .ok (.iconst 1, 1) := by decide +kernel
theorem dX6_takeDown_92 : decode cX6_takeDown 92 = .ok (.if_icmp .eq 6, 3) := by decide +kernel
theorem dX6_takeDown_95 : decode cX6_takeDown 95 = .ok (.goto 75, 3) := by decide +kernel
theorem dX6_takeDown_98 : decode cX6_takeDown 98 = .ok (.aload_n 0, 1) := by decide +kernel
theorem dX6_takeDown_99 : decode cX6_takeDown 99 = .ok (.iload 5, 2) := by decide +kernel
theorem dX6_takeDown_101 : decode cX6_takeDown 101 = .ok (.aload_n 0, 1) := by decide +kernel
theorem dX6_takeDown_102 : decode cX6_takeDown 102 = .ok (.getfield 15, 3) := by decide +kernel
theorem dX6_takeDown_105 : decode cX6_takeDown 105 = .ok (.iload 4, 2) := by decide +kernel
theorem dX6_takeDown_107 : decode cX6_takeDown 107 = .ok (.iaload, 1) := by decide +kernel
theorem dX6_takeDown_108 : decode cX6_takeDown 108 = .ok (.invokevirtual 160, 3) := by decide +kernel
theorem dX6_takeDown_111 : decode cX6_takeDown 111 = .ok (.istore 6, 2) := by decide +kernel
theorem dX6_takeDown_113 : decode cX6_takeDown 113 = .ok (.iload_n 2, 1) := by decide +kernel
theorem dX6_takeDown_114 : decode cX6_takeDown 114 = .ok (.iload 6, 2) := by decide +kernel
theorem dX6_takeDown_116 : decode cX6_takeDown 116 = .ok (.iadd, 1) := by decide +kernel
theorem dX6_takeDown_117 : decode cX6_takeDown 117 = .ok (.iload_n 1, 1) := by decide +kernel
theorem dX6_takeDown_118 : decode cX6_takeDown 118 = .ok (.if_icmp .gt 7, 3) := by decide +kernel
theorem dX6_takeDown_121 : decode cX6_takeDown 121 = .ok (.iconst 1, 1) := by decide +kernel
theorem dX6_takeDown_122 : decode cX6_takeDown 122 = .ok (.goto 4, 3) := by decide +kernel
theorem dX6_takeDown_125 : decode cX6_takeDown 125 = .ok (.iconst 0, 1) := by decide +kernel
theorem dX6_takeDown_126 : decode cX6_takeDown 126 = .ok (.istore_n 3, 1) := by decide +kernel
theorem dX6_takeDown_127 : decode cX6_takeDown 127 = .ok (.iload_n 3, 1) := by decide +kernel
theorem dX6_takeDown_128 : decode cX6_takeDown 128 = .ok (.ifCond .eq 42, 3) := by decide +kernel
theorem dX6_takeDown_131 : decode cX6_takeDown 131 = .ok (.iload_n 2, 1) := by decide +kernel
theorem dX6_takeDown_132 : decode cX6_takeDown 132 = .ok (.iload 6, 2) := by decide +kernel
theorem dX6_takeDown_134 : decode cX6_takeDown 134 = .ok (.iadd, 1) := by decide +kernel
theorem dX6_takeDown_135 : decode cX6_takeDown 135 = .ok (.istore_n 2, 1) := by decide +kernel
theorem dX6_takeDown_136 : decode cX6_takeDown 136 = .ok (.aload_n 0, 1) := by decide +kernel
theorem dX6_takeDown_137 : decode cX6_takeDown 137 = .ok (.getfield 21, 3) := by decide +kernel
theorem dX6_takeDown_140 : decode cX6_takeDown 140 = .ok (.iload 4, 2) := by decide +kernel
theorem dX6_takeDown_142 : decode cX6_takeDown 142 = .ok (.dup2, 1) := by decide +kernel
theorem dX6_takeDown_143 : decode cX6_takeDown 143 = .ok (.iaload, 1) := by decide +kernel
theorem dX6_takeDown_144 : decode cX6_takeDown 144 = .ok (.iload 6, 2) := by decide +kernel
theorem dX6_takeDown_146 : decode cX6_takeDown 146 = .ok (.iadd, 1) := by decide +kernel
theorem dX6_takeDown_147 : decode cX6_takeDown 147 = .ok (.iastore, 1) := by decide +kernel
theorem dX6_takeDown_148 : decode cX6_takeDown 148 = .ok (.aload_n 0, 1) := by decide +kernel
theorem dX6_takeDown_149 : decode cX6_takeDown 149 = .ok (.dup, 1) := by decide +kernel
theorem dX6_takeDown_150 : decode cX6_takeDown 150 = .ok (.getfield 67, 3) := by decide +kernel
theorem dX6_takeDown_153 : decode cX6_takeDown 153 = .ok (.aload_n 0, 1) := by decide +kernel
theorem dX6_takeDown_154 : decode cX6_takeDown 154 = .ok (.iload 5, 2) := by decide +kernel
theorem dX6_takeDown_156 : decode cX6_takeDown 156 = .ok (.invokevirtual 163, 3) := by decide +kernel
theorem dX6_takeDown_159 : decode cX6_takeDown 159 = .ok (.iadd, 1) := by decide +kernel
theorem dX6_takeDown_160 : decode cX6_takeDown 160 = .ok (.putfield 67, 3) := by decide +kernel
theorem dX6_takeDown_163 : decode cX6_takeDown 163 = .ok (.aload_n 0, 1) := by decide +kernel
theorem dX6_takeDown_164 : decode cX6_takeDown 164 = .ok (.iload 5, 2) := by decide +kernel
theorem dX6_takeDown_166 : decode cX6_takeDown 166 = .ok (.iconst 2, 1) := by decide +kernel
theorem dX6_takeDown_167 : decode cX6_takeDown 167 = .ok (.invokevirtual 166, 3) := by decide +kernel
theorem dX6_takeDown_170 : decode cX6_takeDown 170 = .ok (.iinc 5 1, 3) := by decide +kernel
theorem dX6_takeDown_173 : decode cX6_takeDown 173 = .ok (.goto (-120), 3) := by decide +kernel
theorem dX6_takeDown_176 : decode cX6_takeDown 176 = .ok (.aload_n 0, 1) := by decide +kernel
theorem dX6_takeDown_177 : decode cX6_takeDown 177 = .ok (.getfield 63, 3) := by decide +kernel
theorem dX6_takeDown_180 : decode cX6_takeDown 180 = .ok (.bipush 20, 2) := by decide +kernel
theorem dX6_takeDown_182 : decode cX6_takeDown 182 = .ok (.if_icmp .ne 10, 3) := by decide +kernel
theorem dX6_takeDown_185 : decode cX6_takeDown 185 = .ok (.aload_n 0, 1) := by decide +kernel
theorem dX6_takeDown_186 : decode cX6_takeDown 186 = .ok (.iload 4, 2) := by decide +kernel
theorem dX6_takeDown_188 : decode cX6_takeDown 188 = .ok (.iconst 5, 1) := by decide +kernel
theorem dX6_takeDown_189 : decode cX6_takeDown 189 = .ok (.invokevirtual 170, 3) := by decide +kernel
theorem dX6_takeDown_192 : decode cX6_takeDown 192 = .ok (.aload_n 0, 1) := by decide +kernel
theorem dX6_takeDown_193 : decode cX6_takeDown 193 = .ok (.iload 4, 2) := by decide +kernel
theorem dX6_takeDown_195 : decode cX6_takeDown 195 = .ok (.invokevirtual 173, 3) := by decide +kernel
theorem dX6_takeDown_198 : decode cX6_takeDown 198 = .ok (.ifCond .ne 11, 3) := by decide +kernel
theorem dX6_takeDown_201 : decode cX6_takeDown 201 = .ok (.aload_n 0, 1) := by decide +kernel
theorem dX6_takeDown_202 : decode cX6_takeDown 202 = .ok (.getfield 18, 3) := by decide +kernel
theorem dX6_takeDown_205 : decode cX6_takeDown 205 = .ok (.iload 4, 2) := by decide +kernel
theorem dX6_takeDown_207 : decode cX6_takeDown 207 = .ok (.iconst 2, 1) := by decide +kernel
theorem dX6_takeDown_208 : decode cX6_takeDown 208 = .ok (.iastore, 1) := by decide +kernel
theorem dX6_takeDown_209 : decode cX6_takeDown 209 = .ok (.iinc 4 1, 3) := by decide +kernel
theorem dX6_takeDown_212 : decode cX6_takeDown 212 = .ok (.goto (-205), 3) := by decide +kernel
theorem dX6_takeDown_215 : decode cX6_takeDown 215 = .ok (.iload_n 2, 1) := by decide +kernel
theorem dX6_takeDown_216 : decode cX6_takeDown 216 = .ok (.ireturn, 1) := by decide +kernel
theorem dX6_getIn_0 : decode cX6_getIn 0 = .ok (.iconst 0, 1) := by decide +kernel
theorem dX6_getIn_1 : decode cX6_getIn 1 = .ok (.istore_n 1, 1) := by decide +kernel
theorem dX6_getIn_2 : decode cX6_getIn 2 = .ok (.iload_n 1, 1) := by decide +kernel
theorem dX6_getIn_3 : decode cX6_getIn 3 = .ok (.aload_n 0, 1) := by decide +kernel
theorem dX6_getIn_4 : decode cX6_getIn 4 = .ok (.getfield 59, 3) := by decide +kernel
theorem dX6_getIn_7 : decode cX6_getIn 7 = .ok (.getfield 113, 3) := by decide +kernel
theorem dX6_getIn_10 : decode cX6_getIn 10 = .ok (.if_icmp .ge 78, 3) := by decide +kernel
theorem dX6_getIn_13 : decode cX6_getIn 13 = .ok (.aload_n 0, 1) := by decide +kernel
theorem dX6_getIn_14 : decode cX6_getIn 14 = .ok (.getfield 18, 3) := by decide +kernel
theorem dX6_getIn_17 : decode cX6_getIn 17 = .ok (.iload_n 1, 1) := by decide +kernel
theorem dX6_getIn_18 : decode cX6_getIn 18 = .ok (.iaload, 1) := by decide +kernel
theorem dX6_getIn_19 : decode cX6_getIn 19 = .ok (.ifCond .ne 63, 3) := by decide +kernel
theorem dX6_getIn_22 : decode cX6_getIn 22 = .ok (.aload_n 0, 1) := by decide +kernel
theorem dX6_getIn_23 : decode cX6_getIn 23 = .ok (.getfield 9, 3) := by decide +kernel
theorem dX6_getIn_26 : decode cX6_getIn 26 = .ok (.iload_n 1, 1) := by decide +kernel
theorem dX6_getIn_27 : decode cX6_getIn 27 = .ok (.iaload, 1) := by decide +kernel
theorem dX6_getIn_28 : decode cX6_getIn 28 = .ok (.aload_n 0, 1) := by decide +kernel
theorem dX6_getIn_29 : decode cX6_getIn 29 = .ok (.getfield 63, 3) := by decide +kernel
theorem dX6_getIn_32 : decode cX6_getIn 32 = .ok (.if_icmp .eq 6, 3) := by decide +kernel
theorem dX6_getIn_35 : decode cX6_getIn 35 = .ok (.goto 47, 3) := by decide +kernel
theorem dX6_getIn_38 : decode cX6_getIn 38 = .ok (.aload_n 0, 1) := by decide +kernel
theorem dX6_getIn_39 : decode cX6_getIn 39 = .ok (.getfield 18, 3) := by decide +kernel
theorem dX6_getIn_42 : decode cX6_getIn 42 = .ok (.iload_n 1, 1) := by decide +kernel
theorem dX6_getIn_43 : decode cX6_getIn 43 = .ok (.iconst 1, 1) := by decide +kernel
theorem dX6_getIn_44 : decode cX6_getIn 44 = .ok (.iastore, 1) := by decide +kernel
theorem dX6_getIn_45 : decode cX6_getIn 45 = .ok (.iconst 0, 1) := by decide +kernel
theorem dX6_getIn_46 : decode cX6_getIn 46 = .ok (.istore_n 2, 1) := by decide +kernel
theorem dX6_getIn_47 : decode cX6_getIn 47 = .ok (.iload_n 2, 1) := by decide +kernel
theorem dX6_getIn_48 : decode cX6_getIn 48 = .ok (.aload_n 0, 1) := by decide +kernel
theorem dX6_getIn_49 : decode cX6_getIn 49 = .ok (.getfield 59, 3) := by decide +kernel
theorem dX6_getIn_52 : decode cX6_getIn 52 = .ok (.getfield 110, 3) := by decide +kernel
theorem dX6_getIn_55 : decode cX6_getIn 55 = .ok (.if_icmp .ge 27, 3) := by decide +kernel
theorem dX6_getIn_58 : decode cX6_getIn 58 = .ok (.aload_n 0, 1) := by decide +kernel
theorem dX6_getIn_59 : decode cX6_getIn 59 = .ok (.getfield 59, 3) := by decide +kernel
theorem dX6_getIn_62 : decode cX6_getIn 62 = .ok (.getfield 119, 3) := by decide +kernel
theorem dX6_getIn_65 : decode cX6_getIn 65 = .ok (.iload_n 2, 1) := by decide +kernel
theorem dX6_getIn_66 : decode cX6_getIn 66 = .ok (.iaload, 1) := by decide +kernel
theorem dX6_getIn_67 : decode cX6_getIn 67 = .ok (.iload_n 1, 1) := by decide +kernel
theorem dX6_getIn_68 : decode cX6_getIn 68 = .ok (.if_icmp .ne 8, 3) := by decide +kernel
theorem dX6_getIn_71 : decode cX6_getIn 71 = .ok (.aload_n 0, 1) := by decide +kernel
theorem dX6_getIn_72 : decode cX6_getIn 72 = .ok (.iload_n 2, 1) := by decide +kernel
theorem dX6_getIn_73 : decode cX6_getIn 73 = .ok (.invokevirtual 177, 3) := by decide +kernel
theorem dX6_getIn_76 : decode cX6_getIn 76 = .ok (.iinc 2 1, 3) := by decide +kernel
theorem dX6_getIn_79 : decode cX6_getIn 79 = .ok (.goto (-32), 3) := by decide +kernel
theorem dX6_getIn_82 : decode cX6_getIn 82 = .ok (.iinc 1 1, 3) := by decide +kernel
theorem dX6_getIn_85 : decode cX6_getIn 85 = .ok (.goto (-83), 3) := by decide +kernel
theorem dX6_getIn_88 : decode cX6_getIn 88 = .ok (.return_, 1) := by decide +kernel
theorem dX6_fallOff_0 : decode cX6_fallOff 0 = .ok (.iconst 0, 1) := by decide +kernel
theorem dX6_fallOff_1 : decode cX6_fallOff 1 = .ok (.istore_n 1, 1) := by decide +kernel
theorem dX6_fallOff_2 : decode cX6_fallOff 2 = .ok (.iconst 0, 1) := by decide +kernel
theorem dX6_fallOff_3 : decode cX6_fallOff 3 = .ok (.istore_n 2, 1) := by decide +kernel
theorem dX6_fallOff_4 : decode cX6_fallOff 4 = .ok (.iload_n 2, 1) := by decide +kernel
theorem dX6_fallOff_5 : decode cX6_fallOff 5 = .ok (.aload_n 0, 1) := by decide +kernel
theorem dX6_fallOff_6 : decode cX6_fallOff 6 = .ok (.getfield 59, 3) := by decide +kernel
theorem dX6_fallOff_9 : decode cX6_fallOff 9 = .ok (.getfield 190, 3) := by decide +kernel
theorem dX6_fallOff_12 : decode cX6_fallOff 12 = .ok (.if_icmp .ge 58, 3) := by decide +kernel
theorem dX6_fallOff_15 : decode cX6_fallOff 15 = .ok (.aload_n 0, 1) := by decide +kernel
theorem dX6_fallOff_16 : decode cX6_fallOff 16 = .ok (.getfield 53, 3) := by decide +kernel
theorem dX6_fallOff_19 : decode cX6_fallOff 19 = .ok (.ifCond .eq 51, 3) := by decide +kernel
theorem dX6_fallOff_22 : decode cX6_fallOff 22 = .ok (.aload_n 0, 1) := by decide +kernel
theorem dX6_fallOff_23 : decode cX6_fallOff 23 = .ok (.iload_n 2, 1) := by decide +kernel
theorem dX6_fallOff_24 : decode cX6_fallOff 24 = .ok (.invokevirtual 193, 3) := by decide +kernel
theorem dX6_fallOff_27 : decode cX6_fallOff 27 = .ok (.istore_n 3, 1) := by decide +kernel
theorem dX6_fallOff_28 : decode cX6_fallOff 28 = .ok (.iload_n 3, 1) := by decide +kernel
theorem dX6_fallOff_29 : decode cX6_fallOff 29 = .ok (.ifCond .lt 35, 3) := by decide +kernel
theorem dX6_fallOff_32 : decode cX6_fallOff 32 = .ok (.aload_n 0, 1) := by decide +kernel
theorem dX6_fallOff_33 : decode cX6_fallOff 33 = .ok (.iload_n 2, 1) := by decide +kernel
theorem dX6_fallOff_34 : decode cX6_fallOff 34 = .ok (.invokevirtual 196, 3) := by decide +kernel
theorem dX6_fallOff_37 : decode cX6_fallOff 37 = .ok (.ifCond .eq 27, 3) := by decide +kernel
theorem dX6_fallOff_40 : decode cX6_fallOff 40 = .ok (.aload_n 0, 1) := by decide +kernel
theorem dX6_fallOff_41 : decode cX6_fallOff 41 = .ok (.aload_n 0, 1) := by decide +kernel
theorem dX6_fallOff_42 : decode cX6_fallOff 42 = .ok (.iload_n 3, 1) := by decide +kernel
theorem dX6_fallOff_43 : decode cX6_fallOff 43 = .ok (.invokevirtual 199, 3) := by decide +kernel
theorem dX6_fallOff_46 : decode cX6_fallOff 46 = .ok (.invokevirtual 202, 3) := by decide +kernel
theorem dX6_fallOff_49 : decode cX6_fallOff 49 = .ok (.ifCond .eq 15, 3) := by decide +kernel
theorem dX6_fallOff_52 : decode cX6_fallOff 52 = .ok (.aload_n 0, 1) := by decide +kernel
theorem dX6_fallOff_53 : decode cX6_fallOff 53 = .ok (.iload_n 3, 1) := by decide +kernel
theorem dX6_fallOff_54 : decode cX6_fallOff 54 = .ok (.iconst 3, 1) := by decide +kernel
theorem dX6_fallOff_55 : decode cX6_fallOff 55 = .ok (.invokevirtual 166, 3) := by decide +kernel
theorem dX6_fallOff_58 : decode cX6_fallOff 58 = .ok (.iload_n 1, 1) := by decide +kernel
theorem dX6_fallOff_59 : decode cX6_fallOff 59 = .ok (.iconst 1, 1) := by decide +kernel
theorem dX6_fallOff_60 : decode cX6_fallOff 60 = .ok (.iload_n 3, 1) := by decide +kernel
theorem dX6_fallOff_61 : decode cX6_fallOff 61 = .ok (.ishl, 1) := by decide +kernel
theorem dX6_fallOff_62 : decode cX6_fallOff 62 = .ok (.ior, 1) := by decide +kernel
theorem dX6_fallOff_63 : decode cX6_fallOff 63 = .ok (.istore_n 1, 1) := by decide +kernel
theorem dX6_fallOff_64 : decode cX6_fallOff 64 = .ok (.iinc 2 1, 3) := by decide +kernel
theorem dX6_fallOff_67 : decode cX6_fallOff 67 = .ok (.goto (-63), 3) := by decide +kernel
theorem dX6_fallOff_70 : decode cX6_fallOff 70 = .ok (.iload_n 1, 1) := by decide +kernel
theorem dX6_fallOff_71 : decode cX6_fallOff 71 = .ok (.ireturn, 1) := by decide +kernel
theorem dX6_stealAway_0 : decode cX6_stealAway 0 = .ok (.iconst 0, 1) := by decide +kernel
theorem dX6_stealAway_1 : decode cX6_stealAway 1 = .ok (.istore_n 1, 1) := by decide +kernel
theorem dX6_stealAway_2 : decode cX6_stealAway 2 = .ok (.iload_n 1, 1) := by decide +kernel
theorem dX6_stealAway_3 : decode cX6_stealAway 3 = .ok (.aload_n 0, 1) := by decide +kernel
theorem dX6_stealAway_4 : decode cX6_stealAway 4 = .ok (.getfield 59, 3) := by decide +kernel
theorem dX6_stealAway_7 : decode cX6_stealAway 7 = .ok (.getfield 110, 3) := by decide +kernel
theorem dX6_stealAway_10 : decode cX6_stealAway 10 = .ok (.if_icmp .ge 58, 3) := by decide +kernel
theorem dX6_stealAway_13 : decode cX6_stealAway 13 = .ok (.aload_n 0, 1) := by decide +kernel
theorem dX6_stealAway_14 : decode cX6_stealAway 14 = .ok (.getfield 56, 3) := by decide +kernel
theorem dX6_stealAway_17 : decode cX6_stealAway 17 = .ok (.ifCond .eq 51, 3) := by decide +kernel
theorem dX6_stealAway_20 : decode cX6_stealAway 20 = .ok (.aload_n 0, 1) := by decide +kernel
theorem dX6_stealAway_21 : decode cX6_stealAway 21 = .ok (.getfield 30, 3) := by decide +kernel
theorem dX6_stealAway_24 : decode cX6_stealAway 24 = .ok (.iload_n 1, 1) := by decide +kernel
theorem dX6_stealAway_25 : decode cX6_stealAway 25 = .ok (.iaload, 1) := by decide +kernel
theorem dX6_stealAway_26 : decode cX6_stealAway 26 = .ok (.istore_n 2, 1) := by decide +kernel
theorem dX6_stealAway_27 : decode cX6_stealAway 27 = .ok (.iload_n 2, 1) := by decide +kernel
theorem dX6_stealAway_28 : decode cX6_stealAway 28 = .ok (.ifCond .lt 34, 3) := by decide +kernel
theorem dX6_stealAway_31 : decode cX6_stealAway 31 = .ok (.aload_n 0, 1) := by decide +kernel
theorem dX6_stealAway_32 : decode cX6_stealAway 32 = .ok (.getfield 59, 3) := by decide +kernel
theorem dX6_stealAway_35 : decode cX6_stealAway 35 = .ok (.getfield 107, 3) := by decide +kernel
theorem dX6_stealAway_38 : decode cX6_stealAway 38 = .ok (.iload_n 2, 1) := by decide +kernel
theorem dX6_stealAway_39 : decode cX6_stealAway 39 = .ok (.iaload, 1) := by decide +kernel
theorem dX6_stealAway_40 : decode cX6_stealAway 40 = .ok (.iconst 4, 1) := by decide +kernel
theorem dX6_stealAway_41 : decode cX6_stealAway 41 = .ok (.if_icmp .ne 21, 3) := by decide +kernel
theorem dX6_stealAway_44 : decode cX6_stealAway 44 = .ok (.aload_n 0, 1) := by decide +kernel
theorem dX6_stealAway_45 : decode cX6_stealAway 45 = .ok (.aload_n 0, 1) := by decide +kernel
theorem dX6_stealAway_46 : decode cX6_stealAway 46 = .ok (.iload_n 1, 1) := by decide +kernel
theorem dX6_stealAway_47 : decode cX6_stealAway 47 = .ok (.invokevirtual 205, 3) := by decide +kernel
theorem dX6_stealAway_50 : decode cX6_stealAway 50 = .ok (.invokevirtual 202, 3) := by decide +kernel
theorem dX6_stealAway_53 : decode cX6_stealAway 53 = .ok (.ifCond .eq 9, 3) := by decide +kernel
theorem dX6_stealAway_56 : decode cX6_stealAway 56 = .ok (.aload_n 0, 1) := by decide +kernel
theorem dX6_stealAway_57 : decode cX6_stealAway 57 = .ok (.iload_n 1, 1) := by decide +kernel
theorem dX6_stealAway_58 : decode cX6_stealAway 58 = .ok (.iconst 4, 1) := by decide +kernel
theorem dX6_stealAway_59 : decode cX6_stealAway 59 = .ok (.invokevirtual 166, 3) := by decide +kernel
theorem dX6_stealAway_62 : decode cX6_stealAway 62 = .ok (.iinc 1 1, 3) := by decide +kernel
theorem dX6_stealAway_65 : decode cX6_stealAway 65 = .ok (.goto (-63), 3) := by decide +kernel
theorem dX6_stealAway_68 : decode cX6_stealAway 68 = .ok (.return_, 1) := by decide +kernel
theorem dX6_wayOn_0 : decode cX6_wayOn 0 = .ok (.aload_n 0, 1) := by decide +kernel
theorem dX6_wayOn_1 : decode cX6_wayOn 1 = .ok (.invokevirtual 208, 3) := by decide +kernel
theorem dX6_wayOn_4 : decode cX6_wayOn 4 = .ok (.pop, 1) := by decide +kernel
theorem dX6_wayOn_5 : decode cX6_wayOn 5 = .ok (.aload_n 0, 1) := by decide +kernel
theorem dX6_wayOn_6 : decode cX6_wayOn 6 = .ok (.invokevirtual 212, 3) := by decide +kernel
theorem dX6_wayOn_9 : decode cX6_wayOn 9 = .ok (.aload_n 0, 1) := by decide +kernel
theorem dX6_wayOn_10 : decode cX6_wayOn 10 = .ok (.dup, 1) := by decide +kernel
theorem dX6_wayOn_11 : decode cX6_wayOn 11 = .ok (.getfield 63, 3) := by decide +kernel
theorem dX6_wayOn_14 : decode cX6_wayOn 14 = .ok (.iconst 1, 1) := by decide +kernel
theorem dX6_wayOn_15 : decode cX6_wayOn 15 = .ok (.iadd, 1) := by decide +kernel
theorem dX6_wayOn_16 : decode cX6_wayOn 16 = .ok (.putfield 63, 3) := by decide +kernel
theorem dX6_wayOn_19 : decode cX6_wayOn 19 = .ok (.return_, 1) := by decide +kernel
theorem dX6_passStop_0 : decode cX6_passStop 0 = .ok (.aload_n 0, 1) := by decide +kernel
theorem dX6_passStop_1 : decode cX6_passStop 1 = .ok (.getfield 63, 3) := by decide +kernel
theorem dX6_passStop_4 : decode cX6_passStop 4 = .ok (.bipush 20, 2) := by decide +kernel
theorem dX6_passStop_6 : decode cX6_passStop 6 = .ok (.if_icmp .gt 28, 3) := by decide +kernel
theorem dX6_passStop_9 : decode cX6_passStop 9 = .ok (.aload_n 0, 1) := by decide +kernel
theorem dX6_passStop_10 : decode cX6_passStop 10 = .ok (.aload_n 0, 1) := by decide +kernel
theorem dX6_passStop_11 : decode cX6_passStop 11 = .ok (.getfield 59, 3) := by decide +kernel
theorem dX6_passStop_14 : decode cX6_passStop 14 = .ok (.getfield 215, 3) := by decide +kernel
theorem dX6_passStop_17 : decode cX6_passStop 17 = .ok (.aload_n 0, 1) := by decide +kernel
theorem dX6_passStop_18 : decode cX6_passStop 18 = .ok (.getfield 63, 3) := by decide +kernel
theorem dX6_passStop_21 : decode cX6_passStop 21 = .ok (.iaload, 1) := by decide +kernel
theorem dX6_passStop_22 : decode cX6_passStop 22 = .ok (.invokevirtual 218, 3) := by decide +kernel
theorem dX6_passStop_25 : decode cX6_passStop 25 = .ok (.pop, 1) := by decide +kernel
theorem dX6_passStop_26 : decode cX6_passStop 26 = .ok (.aload_n 0, 1) := by decide +kernel
theorem dX6_passStop_27 : decode cX6_passStop 27 = .ok (.invokevirtual 221, 3) := by decide +kernel
theorem dX6_passStop_30 : decode cX6_passStop 30 = .ok (.aload_n 0, 1) := by decide +kernel
theorem dX6_passStop_31 : decode cX6_passStop 31 = .ok (.invokevirtual 224, 3) := by decide +kernel
theorem dX6_passStop_34 : decode cX6_passStop 34 = .ok (.return_, 1) := by decide +kernel
theorem dX6_runToEnd_0 : decode cX6_runToEnd 0 = .ok (.aload_n 0, 1) := by decide +kernel
theorem dX6_runToEnd_1 : decode cX6_runToEnd 1 = .ok (.getfield 63, 3) := by decide +kernel
theorem dX6_runToEnd_4 : decode cX6_runToEnd 4 = .ok (.bipush 20, 2) := by decide +kernel
theorem dX6_runToEnd_6 : decode cX6_runToEnd 6 = .ok (.if_icmp .gt 53, 3) := by decide +kernel
theorem dX6_runToEnd_9 : decode cX6_runToEnd 9 = .ok (.aload_n 0, 1) := by decide +kernel
theorem dX6_runToEnd_10 : decode cX6_runToEnd 10 = .ok (.invokevirtual 227, 3) := by decide +kernel
theorem dX6_runToEnd_13 : decode cX6_runToEnd 13 = .ok (.ifCond .eq 46, 3) := by decide +kernel
theorem dX6_runToEnd_16 : decode cX6_runToEnd 16 = .ok (.aload_n 0, 1) := by decide +kernel
theorem dX6_runToEnd_17 : decode cX6_runToEnd 17 = .ok (.aload_n 0, 1) := by decide +kernel
theorem dX6_runToEnd_18 : decode cX6_runToEnd 18 = .ok (.getfield 59, 3) := by decide +kernel
theorem dX6_runToEnd_21 : decode cX6_runToEnd 21 = .ok (.getfield 215, 3) := by decide +kernel
theorem dX6_runToEnd_24 : decode cX6_runToEnd 24 = .ok (.aload_n 0, 1) := by decide +kernel
theorem dX6_runToEnd_25 : decode cX6_runToEnd 25 = .ok (.getfield 63, 3) := by decide +kernel
theorem dX6_runToEnd_28 : decode cX6_runToEnd 28 = .ok (.iaload, 1) := by decide +kernel
theorem dX6_runToEnd_29 : decode cX6_runToEnd 29 = .ok (.invokevirtual 218, 3) := by decide +kernel
theorem dX6_runToEnd_32 : decode cX6_runToEnd 32 = .ok (.pop, 1) := by decide +kernel
theorem dX6_runToEnd_33 : decode cX6_runToEnd 33 = .ok (.aload_n 0, 1) := by decide +kernel
theorem dX6_runToEnd_34 : decode cX6_runToEnd 34 = .ok (.invokevirtual 221, 3) := by decide +kernel
theorem dX6_runToEnd_37 : decode cX6_runToEnd 37 = .ok (.aload_n 0, 1) := by decide +kernel
theorem dX6_runToEnd_38 : decode cX6_runToEnd 38 = .ok (.invokevirtual 208, 3) := by decide +kernel
theorem dX6_runToEnd_41 : decode cX6_runToEnd 41 = .ok (.pop, 1) := by decide +kernel
theorem dX6_runToEnd_42 : decode cX6_runToEnd 42 = .ok (.aload_n 0, 1) := by decide +kernel
theorem dX6_runToEnd_43 : decode cX6_runToEnd 43 = .ok (.invokevirtual 212, 3) := by decide +kernel
theorem dX6_runToEnd_46 : decode cX6_runToEnd 46 = .ok (.aload_n 0, 1) := by decide +kernel
theorem dX6_runToEnd_47 : decode cX6_runToEnd 47 = .ok (.dup, 1) := by decide +kernel
theorem dX6_runToEnd_48 : decode cX6_runToEnd 48 = .ok (.getfield 63, 3) := by decide +kernel
theorem dX6_runToEnd_51 : decode cX6_runToEnd 51 = .ok (.iconst 1, 1) := by decide +kernel
theorem dX6_runToEnd_52 : decode cX6_runToEnd 52 = .ok (.iadd, 1) := by decide +kernel
theorem dX6_runToEnd_53 : decode cX6_runToEnd 53 = .ok (.putfield 63, 3) := by decide +kernel
theorem dX6_runToEnd_56 : decode cX6_runToEnd 56 = .ok (.goto (-56), 3) := by decide +kernel
theorem dX6_runToEnd_59 : decode cX6_runToEnd 59 = .ok (.return_, 1) := by decide +kernel
theorem dX6_strengthenAll_0 : decode cX6_strengthenAll 0 = .ok (.iconst 0, 1) := by decide +kernel
theorem dX6_strengthenAll_1 : decode cX6_strengthenAll 1 = .ok (.istore_n 1, 1) := by decide +kernel
theorem dX6_strengthenAll_2 : decode cX6_strengthenAll 2 = .ok (.iload_n 1, 1) := by decide +kernel
theorem dX6_strengthenAll_3 : decode cX6_strengthenAll 3 = .ok (.bipush 6, 2) := by decide +kernel
theorem dX6_strengthenAll_5 : decode cX6_strengthenAll 5 = .ok (.if_icmp .ge 17, 3) := by decide +kernel
theorem dX6_strengthenAll_8 : decode cX6_strengthenAll 8 = .ok (.aload_n 0, 1) := by decide +kernel
theorem dX6_strengthenAll_9 : decode cX6_strengthenAll 9 = .ok (.getfield 15, 3) := by decide +kernel
theorem dX6_strengthenAll_12 : decode cX6_strengthenAll 12 = .ok (.iload_n 1, 1) := by decide +kernel
theorem dX6_strengthenAll_13 : decode cX6_strengthenAll 13 = .ok (.bipush 99, 2) := by decide +kernel
theorem dX6_strengthenAll_15 : decode cX6_strengthenAll 15 = .ok (.iastore, 1) := by decide +kernel
theorem dX6_strengthenAll_16 : decode cX6_strengthenAll 16 = .ok (.iinc 1 1, 3) := by decide +kernel
theorem dX6_strengthenAll_19 : decode cX6_strengthenAll 19 = .ok (.goto (-17), 3) := by decide +kernel
theorem dX6_strengthenAll_22 : decode cX6_strengthenAll 22 = .ok (.return_, 1) := by decide +kernel

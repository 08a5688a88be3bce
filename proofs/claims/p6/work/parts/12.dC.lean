theorem dX3_init_0 : decode cX3_init 0 = .ok (.aload_n 0, 1) := by decide +kernel
theorem dX3_init_1 : decode cX3_init 1 = .ok (.invokespecial 3, 3) := by decide +kernel
theorem dX3_init_4 : decode cX3_init 4 = .ok (.aload_n 0, 1) := by decide +kernel
theorem dX3_init_5 : decode cX3_init 5 = .ok (.new 9, 3) := by decide +kernel
theorem dX3_init_8 : decode cX3_init 8 = .ok (.dup, 1) := by decide +kernel
theorem dX3_init_9 : decode cX3_init 9 = .ok (.invokespecial 11, 3) := by decide +kernel
theorem dX3_init_12 : decode cX3_init 12 = .ok (.putfield 12, 3) := by decide +kernel
theorem dX3_init_15 : decode cX3_init 15 = .ok (.aload_n 0, 1) := by decide +kernel
theorem dX3_init_16 : decode cX3_init 16 = .ok (.iconst 0, 1) := by decide +kernel
theorem dX3_init_17 : decode cX3_init 17 = .ok (.putfield 18, 3) := by decide +kernel
theorem dX3_init_20 : decode cX3_init 20 = .ok (.aload_n 0, 1) := by decide +kernel
theorem dX3_init_21 : decode cX3_init 21 = .ok (.iconst (-1), 1) := by decide +kernel
theorem dX3_init_22 : decode cX3_init 22 = .ok (.putfield 22, 3) := by decide +kernel
theorem dX3_init_25 : decode cX3_init 25 = .ok (.aload_n 0, 1) := by decide +kernel
theorem dX3_init_26 : decode cX3_init 26 = .ok (.iconst 0, 1) := by decide +kernel
theorem dX3_init_27 : decode cX3_init 27 = .ok (.putfield 25, 3) := by decide +kernel
theorem dX3_init_30 : decode cX3_init 30 = .ok (.aload_n 0, 1) := by decide +kernel
theorem dX3_init_31 : decode cX3_init 31 = .ok (.new 28, 3) := by decide +kernel
theorem dX3_init_34 : decode cX3_init 34 = .ok (.dup, 1) := by decide +kernel
theorem dX3_init_35 : decode cX3_init 35 = .ok (.invokespecial 30, 3) := by decide +kernel
theorem dX3_init_38 : decode cX3_init 38 = .ok (.putfield 31, 3) := by decide +kernel
theorem dX3_init_41 : decode cX3_init 41 = .ok (.aload_n 0, 1) := by decide +kernel
theorem dX3_init_42 : decode cX3_init 42 = .ok (.bipush 72, 2) := by decide +kernel
theorem dX3_init_44 : decode cX3_init 44 = .ok (.newarray .int, 2) := by decide +kernel
theorem dX3_init_46 : decode cX3_init 46 = .ok (.putfield 35, 3) := by decide +kernel
theorem dX3_init_49 : decode cX3_init 49 = .ok (.return_, 1) := by decide +kernel
theorem dX3_readText_0 : decode cX3_readText 0 = .ok (.aload_n 0, 1) := by decide +kernel
theorem dX3_readText_1 : decode cX3_readText 1 = .ok (.getfield 31, 3) := by decide +kernel
theorem dX3_readText_4 : decode cX3_readText 4 = .ok (.invokevirtual 39, 3) := by decide +kernel
theorem dX3_readText_7 : decode cX3_readText 7 = .ok (.aload_n 0, 1) := by decide +kernel
theorem dX3_readText_8 : decode cX3_readText 8 = .ok (.iconst 0, 1) := by decide +kernel
theorem dX3_readText_9 : decode cX3_readText 9 = .ok (.putfield 18, 3) := by decide +kernel
theorem dX3_readText_12 : decode cX3_readText 12 = .ok (.aload_n 0, 1) := by decide +kernel
theorem dX3_readText_13 : decode cX3_readText 13 = .ok (.iconst (-1), 1) := by decide +kernel
theorem dX3_readText_14 : decode cX3_readText 14 = .ok (.putfield 22, 3) := by decide +kernel
theorem dX3_readText_17 : decode cX3_readText 17 = .ok (.aload_n 0, 1) := by decide +kernel
theorem dX3_readText_18 : decode cX3_readText 18 = .ok (.iconst 0, 1) := by decide +kernel
theorem dX3_readText_19 : decode cX3_readText 19 = .ok (.putfield 25, 3) := by decide +kernel
theorem dX3_readText_22 : decode cX3_readText 22 = .ok (.aload_n 0, 1) := by decide +kernel
theorem dX3_readText_23 : decode cX3_readText 23 = .ok (.iconst 0, 1) := by decide +kernel
theorem dX3_readText_24 : decode cX3_readText 24 = .ok (.putfield 42, 3) := by decide +kernel
theorem dX3_readText_27 : decode cX3_readText 27 = .ok (.aload_n 0, 1) := by decide +kernel
theorem dX3_readText_28 : decode cX3_readText 28 = .ok (.iconst 0, 1) := by decide +kernel
theorem dX3_readText_29 : decode cX3_readText 29 = .ok (.putfield 45, 3) := by decide +kernel
theorem dX3_readText_32 : decode cX3_readText 32 = .ok (.aload_n 0, 1) := by decide +kernel
theorem dX3_readText_33 : decode cX3_readText 33 = .ok (.getfield 12, 3) := by decide +kernel
theorem dX3_readText_36 : decode cX3_readText 36 = .ok (.iload_n 1, 1) := by decide +kernel
theorem dX3_readText_37 : decode cX3_readText 37 = .ok (.invokevirtual 48, 3) := by decide +kernel
theorem dX3_readText_40 : decode cX3_readText 40 = .ok (.iconst 0, 1) := by decide +kernel
theorem dX3_readText_41 : decode cX3_readText 41 = .ok (.istore_n 2, 1) := by decide +kernel
theorem dX3_readText_42 : decode cX3_readText 42 = .ok (.iload_n 2, 1) := by decide +kernel
theorem dX3_readText_43 : decode cX3_readText 43 = .ok (.sipush 700, 3) := by decide +kernel
theorem dX3_readText_46 : decode cX3_readText 46 = .ok (.if_icmp .gt 77, 3) := by decide +kernel
theorem dX3_readText_49 : decode cX3_readText 49 = .ok (.aload_n 0, 1) := by decide +kernel
theorem dX3_readText_50 : decode cX3_readText 50 = .ok (.getfield 18, 3) := by decide +kernel
theorem dX3_readText_53 : decode cX3_readText 53 = .ok (.ifCond .ne 70, 3) := by decide +kernel
theorem dX3_readText_56 : decode cX3_readText 56 = .ok (.aload_n 0, 1) := by decide +kernel
theorem dX3_readText_57 : decode cX3_readText 57 = .ok (.getfield 12, 3) := by decide +kernel
theorem dX3_readText_60 : decode cX3_readText 60 = .ok (.getfield 52, 3) := by decide +kernel
theorem dX3_readText_63 : decode cX3_readText 63 = .ok (.bipush 45, 2) := by decide +kernel
theorem dX3_readText_65 : decode cX3_readText 65 = .ok (.if_icmp .eq 58, 3) := by decide +kernel
theorem dX3_readText_68 : decode cX3_readText 68 = .ok (.aload_n 0, 1) := by decide +kernel
theorem dX3_readText_69 : decode cX3_readText 69 = .ok (.invokevirtual 55, 3) := by decide +kernel
theorem dX3_readText_72 : decode cX3_readText 72 = .ok (.ifCond .eq 45, 3) := by decide +kernel
theorem dX3_readText_75 : decode cX3_readText 75 = .ok (.aload_n 0, 1) := by decide +kernel
theorem dX3_readText_76 : decode cX3_readText 76 = .ok (.aload_n 0, 1) := by decide +kernel
theorem dX3_readText_77 : decode cX3_readText 77 = .ok (.getfield 12, 3) := by decide +kernel
theorem dX3_readText_80 : decode cX3_readText 80 = .ok (.getfield 52, 3) := by decide +kernel
theorem dX3_readText_83 : decode cX3_readText 83 = .ok (.bipush 41, 2) := by decide +kernel
theorem dX3_readText_85 : decode cX3_readText 85 = .ok (.if_icmp .ne 7, 3) := by decide +kernel
theorem dX3_readText_88 : decode cX3_readText 88 = .ok (.iconst 1, 1) := by decide +kernel
theorem dX3_readText_89 : decode cX3_readText 89 = .ok (.goto 4, 3) := by decide +kernel
theorem dX3_readText_92 : decode cX3_readText 92 = .ok (.iconst 0, 1) := by decide +kernel
theorem dX3_readText_93 : decode cX3_readText 93 = .ok (.iconst 1, 1) := by decide +kernel
theorem dX3_readText_94 : decode cX3_readText 94 = .ok (.invokevirtual 59, 3) := by decide +kernel
theorem dX3_readText_97 : decode cX3_readText 97 = .ok (.ifCond .eq 20, 3) := by decide +kernel
theorem dX3_readText_100 : decode cX3_readText 100 = .ok (.aload_n 0, 1) := by decide +kernel
theorem dX3_readText_101 : decode cX3_readText 101 = .ok (.getfield 12, 3) := by decide +kernel
theorem dX3_readText_104 : decode cX3_readText 104 = .ok (.invokevirtual 63, 3) := by decide +kernel
theorem dX3_readText_107 : decode cX3_readText 107 = .ok (.aload_n 0, 1) := by decide +kernel
theorem dX3_readText_108 : decode cX3_readText 108 = .ok (.dup, 1) := by decide +kernel
theorem dX3_readText_109 : decode cX3_readText 109 = .ok (.getfield 25, 3) := by decide +kernel
theorem dX3_readText_112 : decode cX3_readText 112 = .ok (.iconst 1, 1) := by decide +kernel
theorem dX3_readText_113 : decode cX3_readText 113 = .ok (.iadd, 1) := by decide +kernel
theorem dX3_readText_114 : decode cX3_readText 114 = .ok (.putfield 25, 3) := by decide +kernel
theorem dX3_readText_117 : decode cX3_readText 117 = .ok (.iinc 2 1, 3) := by decide +kernel
theorem dX3_readText_120 : decode cX3_readText 120 = .ok (.goto (-78), 3) := by decide +kernel
theorem dX3_readText_123 : decode cX3_readText 123 = .ok (.aload_n 0, 1) := by decide +kernel
theorem dX3_readText_124 : decode cX3_readText 124 = .ok (.getfield 18, 3) := by decide +kernel
theorem dX3_readText_127 : decode cX3_readText 127 = .ok (.ifCond .ne 7, 3) := by decide +kernel
theorem dX3_readText_130 : decode cX3_readText 130 = .ok (.iconst 1, 1) := by decide +kernel
theorem dX3_readText_131 : decode cX3_readText 131 = .ok (.goto 4, 3) := by decide +kernel
theorem dX3_readText_134 : decode cX3_readText 134 = .ok (.iconst 0, 1) := by decide +kernel
theorem dX3_readText_135 : decode cX3_readText 135 = .ok (.ireturn, 1) := by decide +kernel
theorem dX3_readLine_0 : decode cX3_readLine 0 = .ok (.aload_n 0, 1) := by decide +kernel
theorem dX3_readLine_1 : decode cX3_readLine 1 = .ok (.getfield 12, 3) := by decide +kernel
theorem dX3_readLine_4 : decode cX3_readLine 4 = .ok (.getfield 52, 3) := by decide +kernel
theorem dX3_readLine_7 : decode cX3_readLine 7 = .ok (.tableswitch 85 0 7 #[45, 50, 55, 60, 65, 70, 75, 80], 45) := by decide +kernel
theorem dX3_readLine_52 : decode cX3_readLine 52 = .ok (.aload_n 0, 1) := by decide +kernel
theorem dX3_readLine_53 : decode cX3_readLine 53 = .ok (.invokevirtual 66, 3) := by decide +kernel
theorem dX3_readLine_56 : decode cX3_readLine 56 = .ok (.ireturn, 1) := by decide +kernel
theorem dX3_readLine_57 : decode cX3_readLine 57 = .ok (.aload_n 0, 1) := by decide +kernel
theorem dX3_readLine_58 : decode cX3_readLine 58 = .ok (.invokevirtual 69, 3) := by decide +kernel
theorem dX3_readLine_61 : decode cX3_readLine 61 = .ok (.ireturn, 1) := by decide +kernel
theorem dX3_readLine_62 : decode cX3_readLine 62 = .ok (.aload_n 0, 1) := by decide +kernel
theorem dX3_readLine_63 : decode cX3_readLine 63 = .ok (.invokevirtual 72, 3) := by decide +kernel
theorem dX3_readLine_66 : decode cX3_readLine 66 = .ok (.ireturn, 1) := by decide +kernel
theorem dX3_readLine_67 : decode cX3_readLine 67 = .ok (.aload_n 0, 1) := by decide +kernel
theorem dX3_readLine_68 : decode cX3_readLine 68 = .ok (.invokevirtual 75, 3) := by decide +kernel
theorem dX3_readLine_71 : decode cX3_readLine 71 = .ok (.ireturn, 1) := by decide +kernel
theorem dX3_readLine_72 : decode cX3_readLine 72 = .ok (.aload_n 0, 1) := by decide +kernel
theorem dX3_readLine_73 : decode cX3_readLine 73 = .ok (.invokevirtual 78, 3) := by decide +kernel
theorem dX3_readLine_76 : decode cX3_readLine 76 = .ok (.ireturn, 1) := by decide +kernel
theorem dX3_readLine_77 : decode cX3_readLine 77 = .ok (.aload_n 0, 1) := by decide +kernel
theorem dX3_readLine_78 : decode cX3_readLine 78 = .ok (.invokevirtual 81, 3) := by decide +kernel
theorem dX3_readLine_81 : decode cX3_readLine 81 = .ok (.ireturn, 1) := by decide +kernel
theorem dX3_readLine_82 : decode cX3_readLine 82 = .ok (.aload_n 0, 1) := by decide +kernel
theorem dX3_readLine_83 : decode cX3_readLine 83 = .ok (.invokevirtual 84, 3) := by decide +kernel
theorem dX3_readLine_86 : decode cX3_readLine 86 = .ok (.ireturn, 1) := by decide +kernel
theorem dX3_readLine_87 : decode cX3_readLine 87 = .ok (.aload_n 0, 1) := by decide +kernel
theorem dX3_readLine_88 : decode cX3_readLine 88 = .ok (.invokevirtual 87, 3) := by decide +kernel
theorem dX3_readLine_91 : decode cX3_readLine 91 = .ok (.ireturn, 1) := by decide +kernel
theorem dX3_readLine_92 : decode cX3_readLine 92 = .ok (.aload_n 0, 1) := by decide +kernel
theorem dX3_readLine_93 : decode cX3_readLine 93 = .ok (.iconst 0, 1) := by decide +kernel
theorem dX3_readLine_94 : decode cX3_readLine 94 = .ok (.iconst 1, 1) := by decide +kernel
theorem dX3_readLine_95 : decode cX3_readLine 95 = .ok (.invokevirtual 59, 3) := by decide +kernel
theorem dX3_readLine_98 : decode cX3_readLine 98 = .ok (.ireturn, 1) := by decide +kernel
theorem dX3_expect_0 : decode cX3_expect 0 = .ok (.iload_n 1, 1) := by decide +kernel
theorem dX3_expect_1 : decode cX3_expect 1 = .ok (.ifCond .ne 19, 3) := by decide +kernel
theorem dX3_expect_4 : decode cX3_expect 4 = .ok (.aload_n 0, 1) := by decide +kernel
theorem dX3_expect_5 : decode cX3_expect 5 = .ok (.iload_n 2, 1) := by decide +kernel
theorem dX3_expect_6 : decode cX3_expect 6 = .ok (.putfield 18, 3) := by decide +kernel
theorem dX3_expect_9 : decode cX3_expect 9 = .ok (.aload_n 0, 1) := by decide +kernel
theorem dX3_expect_10 : decode cX3_expect 10 = .ok (.aload_n 0, 1) := by decide +kernel
theorem dX3_expect_11 : decode cX3_expect 11 = .ok (.getfield 12, 3) := by decide +kernel
theorem dX3_expect_14 : decode cX3_expect 14 = .ok (.getfield 90, 3) := by decide +kernel
theorem dX3_expect_17 : decode cX3_expect 17 = .ok (.putfield 22, 3) := by decide +kernel
theorem dX3_expect_20 : decode cX3_expect 20 = .ok (.iload_n 1, 1) := by decide +kernel
theorem dX3_expect_21 : decode cX3_expect 21 = .ok (.ireturn, 1) := by decide +kernel
theorem dX3_takeNumber_0 : decode cX3_takeNumber 0 = .ok (.aload_n 0, 1) := by decide +kernel
theorem dX3_takeNumber_1 : decode cX3_takeNumber 1 = .ok (.getfield 12, 3) := by decide +kernel
theorem dX3_takeNumber_4 : decode cX3_takeNumber 4 = .ok (.getfield 93, 3) := by decide +kernel
theorem dX3_takeNumber_7 : decode cX3_takeNumber 7 = .ok (.istore_n 3, 1) := by decide +kernel
theorem dX3_takeNumber_8 : decode cX3_takeNumber 8 = .ok (.aload_n 0, 1) := by decide +kernel
theorem dX3_takeNumber_9 : decode cX3_takeNumber 9 = .ok (.aload_n 0, 1) := by decide +kernel
theorem dX3_takeNumber_10 : decode cX3_takeNumber 10 = .ok (.getfield 12, 3) := by decide +kernel
theorem dX3_takeNumber_13 : decode cX3_takeNumber 13 = .ok (.getfield 52, 3) := by decide +kernel
theorem dX3_takeNumber_16 : decode cX3_takeNumber 16 = .ok (.bipush 42, 2) := by decide +kernel
theorem dX3_takeNumber_18 : decode cX3_takeNumber 18 = .ok (.if_icmp .ne 7, 3) := by decide +kernel
theorem dX3_takeNumber_21 : decode cX3_takeNumber 21 = .ok (.iconst 1, 1) := by decide +kernel
theorem dX3_takeNumber_22 : decode cX3_takeNumber 22 = .ok (.goto 4, 3) := by decide +kernel
theorem dX3_takeNumber_25 : decode cX3_takeNumber 25 = .ok (.iconst 0, 1) := by decide +kernel
theorem dX3_takeNumber_26 : decode cX3_takeNumber 26 = .ok (.iconst 1, 1) := by decide +kernel
theorem dX3_takeNumber_27 : decode cX3_takeNumber 27 = .ok (.invokevirtual 59, 3) := by decide +kernel
theorem dX3_takeNumber_30 : decode cX3_takeNumber 30 = .ok (.ifCond .eq 26, 3) := by decide +kernel
theorem dX3_takeNumber_33 : decode cX3_takeNumber 33 = .ok (.aload_n 0, 1) := by decide +kernel
theorem dX3_takeNumber_34 : decode cX3_takeNumber 34 = .ok (.iload_n 3, 1) := by decide +kernel
theorem dX3_takeNumber_35 : decode cX3_takeNumber 35 = .ok (.iload_n 1, 1) := by decide +kernel
theorem dX3_takeNumber_36 : decode cX3_takeNumber 36 = .ok (.if_icmp .lt 12, 3) := by decide +kernel
theorem dX3_takeNumber_39 : decode cX3_takeNumber 39 = .ok (.iload_n 3, 1) := by decide +kernel
theorem dX3_takeNumber_40 : decode cX3_takeNumber 40 = .ok (.iload_n 2, 1) := by decide +kernel
theorem dX3_takeNumber_41 : decode cX3_takeNumber 41 = .ok (.if_icmp .gt 7, 3) := by decide +kernel
theorem dX3_takeNumber_44 : decode cX3_takeNumber 44 = .ok (.iconst 1, 1) := by decide +kernel
theorem dX3_takeNumber_45 : decode cX3_takeNumber 45 = .ok (.goto 4, 3) := by decide +kernel
theorem dX3_takeNumber_48 : decode cX3_takeNumber 48 = .ok (.iconst 0, 1) := by decide +kernel
theorem dX3_takeNumber_49 : decode cX3_takeNumber 49 = .ok (.iconst 2, 1) := by decide +kernel
theorem dX3_takeNumber_50 : decode cX3_takeNumber 50 = .ok (.invokevirtual 59, 3) := by decide +kernel
theorem dX3_takeNumber_53 : decode cX3_takeNumber 53 = .ok (.ifCond .ne 5, 3) := by decide +kernel
theorem dX3_takeNumber_56 : decode cX3_takeNumber 56 = .ok (.iconst (-1), 1) := by decide +kernel
theorem dX3_takeNumber_57 : decode cX3_takeNumber 57 = .ok (.ireturn, 1) := by decide +kernel
theorem dX3_takeNumber_58 : decode cX3_takeNumber 58 = .ok (.aload_n 0, 1) := by decide +kernel
theorem dX3_takeNumber_59 : decode cX3_takeNumber 59 = .ok (.getfield 12, 3) := by decide +kernel
theorem dX3_takeNumber_62 : decode cX3_takeNumber 62 = .ok (.invokevirtual 63, 3) := by decide +kernel
theorem dX3_takeNumber_65 : decode cX3_takeNumber 65 = .ok (.iload_n 3, 1) := by decide +kernel
theorem dX3_takeNumber_66 : decode cX3_takeNumber 66 = .ok (.ireturn, 1) := by decide +kernel
theorem dX3_takeWord_0 : decode cX3_takeWord 0 = .ok (.aload_n 0, 1) := by decide +kernel
theorem dX3_takeWord_1 : decode cX3_takeWord 1 = .ok (.getfield 12, 3) := by decide +kernel
theorem dX3_takeWord_4 : decode cX3_takeWord 4 = .ok (.getfield 52, 3) := by decide +kernel
theorem dX3_takeWord_7 : decode cX3_takeWord 7 = .ok (.istore_n 3, 1) := by decide +kernel
theorem dX3_takeWord_8 : decode cX3_takeWord 8 = .ok (.aload_n 0, 1) := by decide +kernel
theorem dX3_takeWord_9 : decode cX3_takeWord 9 = .ok (.iload_n 3, 1) := by decide +kernel
theorem dX3_takeWord_10 : decode cX3_takeWord 10 = .ok (.iload_n 1, 1) := by decide +kernel
theorem dX3_takeWord_11 : decode cX3_takeWord 11 = .ok (.if_icmp .lt 12, 3) := by decide +kernel
theorem dX3_takeWord_14 : decode cX3_takeWord 14 = .ok (.iload_n 3, 1) := by decide +kernel
theorem dX3_takeWord_15 : decode cX3_takeWord 15 = .ok (.iload_n 2, 1) := by decide +kernel
theorem dX3_takeWord_16 : decode cX3_takeWord 16 = .ok (.if_icmp .gt 7, 3) := by decide +kernel
theorem dX3_takeWord_19 : decode cX3_takeWord 19 = .ok (.iconst 1, 1) := by decide +kernel
theorem dX3_takeWord_20 : decode cX3_takeWord 20 = .ok (.goto 4, 3) := by decide +kernel
theorem dX3_takeWord_23 : decode cX3_takeWord 23 = .ok (.iconst 0, 1) := by decide +kernel
theorem dX3_takeWord_24 : decode cX3_takeWord 24 = .ok (.iconst 1, 1) := by decide +kernel
theorem dX3_takeWord_25 : decode cX3_takeWord 25 = .ok (.invokevirtual 59, 3) := by decide +kernel
theorem dX3_takeWord_28 : decode cX3_takeWord 28 = .ok (.ifCond .ne 5, 3) := by decide +kernel
theorem dX3_takeWord_31 : decode cX3_takeWord 31 = .ok (.iconst (-1), 1) := by decide +kernel
theorem dX3_takeWord_32 : decode cX3_takeWord 32 = .ok (.ireturn, 1) := by decide +kernel
theorem dX3_takeWord_33 : decode cX3_takeWord 33 = .ok (.aload_n 0, 1) := by decide +kernel
theorem dX3_takeWord_34 : decode cX3_takeWord 34 = .ok (.getfield 12, 3) := by decide +kernel
theorem dX3_takeWord_37 : decode cX3_takeWord 37 = .ok (.invokevirtual 63, 3) := by decide +kernel
theorem dX3_takeWord_40 : decode cX3_takeWord 40 = .ok (.iload_n 3, 1) := by decide +kernel
theorem dX3_takeWord_41 : decode cX3_takeWord 41 = .ok (.iload_n 1, 1) := by decide +kernel
theorem dX3_takeWord_42 : decode cX3_takeWord 42 = .ok (.isub, 1) := by decide +kernel
theorem dX3_takeWord_43 : decode cX3_takeWord 43 = .ok (.ireturn, 1) := by decide +kernel
theorem dX3_readPlace_0 : decode cX3_readPlace 0 = .ok (.aload_n 0, 1) := by decide +kernel
theorem dX3_readPlace_1 : decode cX3_readPlace 1 = .ok (.getfield 31, 3) := by decide +kernel
theorem dX3_readPlace_4 : decode cX3_readPlace 4 = .ok (.getfield 96, 3) := by decide +kernel
theorem dX3_readPlace_7 : decode cX3_readPlace 7 = .ok (.istore_n 1, 1) := by decide +kernel
theorem dX3_readPlace_8 : decode cX3_readPlace 8 = .ok (.aload_n 0, 1) := by decide +kernel
theorem dX3_readPlace_9 : decode cX3_readPlace 9 = .ok (.iload_n 1, 1) := by decide +kernel
theorem dX3_readPlace_10 : decode cX3_readPlace 10 = .ok (.iconst 5, 1) := by decide +kernel
theorem dX3_readPlace_11 : decode cX3_readPlace 11 = .ok (.if_icmp .ge 7, 3) := by decide +kernel
theorem dX3_readPlace_14 : decode cX3_readPlace 14 = .ok (.iconst 1, 1) := by decide +kernel
theorem dX3_readPlace_15 : decode cX3_readPlace 15 = .ok (.goto 4, 3) := by decide +kernel
theorem dX3_readPlace_18 : decode cX3_readPlace 18 = .ok (.iconst 0, 1) := by decide +kernel
theorem dX3_readPlace_19 : decode cX3_readPlace 19 = .ok (.iconst 2, 1) := by decide +kernel
theorem dX3_readPlace_20 : decode cX3_readPlace 20 = .ok (.invokevirtual 59, 3) := by decide +kernel
theorem dX3_readPlace_23 : decode cX3_readPlace 23 = .ok (.ifCond .ne 5, 3) := by decide +kernel
theorem dX3_readPlace_26 : decode cX3_readPlace 26 = .ok (.iconst 0, 1) := by decide +kernel
theorem dX3_readPlace_27 : decode cX3_readPlace 27 = .ok (.ireturn, 1) := by decide +kernel
theorem dX3_readPlace_28 : decode cX3_readPlace 28 = .ok (.aload_n 0, 1) := by decide +kernel
theorem dX3_readPlace_29 : decode cX3_readPlace 29 = .ok (.getfield 12, 3) := by decide +kernel
theorem dX3_readPlace_32 : decode cX3_readPlace 32 = .ok (.invokevirtual 63, 3) := by decide +kernel
theorem dX3_readPlace_35 : decode cX3_readPlace 35 = .ok (.aload_n 0, 1) := by decide +kernel
theorem dX3_readPlace_36 : decode cX3_readPlace 36 = .ok (.bipush 8, 2) := by decide +kernel
theorem dX3_readPlace_38 : decode cX3_readPlace 38 = .ok (.bipush 12, 2) := by decide +kernel
theorem dX3_readPlace_40 : decode cX3_readPlace 40 = .ok (.invokevirtual 99, 3) := by decide +kernel
theorem dX3_readPlace_43 : decode cX3_readPlace 43 = .ok (.istore_n 2, 1) := by decide +kernel
theorem dX3_readPlace_44 : decode cX3_readPlace 44 = .ok (.iload_n 2, 1) := by decide +kernel
theorem dX3_readPlace_45 : decode cX3_readPlace 45 = .ok (.ifCond .ge 7, 3) := by decide +kernel
theorem dX3_readPlace_48 : decode cX3_readPlace 48 = .ok (.iconst (-1), 1) := by decide +kernel
theorem dX3_readPlace_49 : decode cX3_readPlace 49 = .ok (.goto 11, 3) := by decide +kernel
theorem dX3_readPlace_52 : decode cX3_readPlace 52 = .ok (.aload_n 0, 1) := by decide +kernel
theorem dX3_readPlace_53 : decode cX3_readPlace 53 = .ok (.iconst 0, 1) := by decide +kernel
theorem dX3_readPlace_54 : decode cX3_readPlace 54 = .ok (.sipush 999, 3) := by decide +kernel
theorem dX3_readPlace_57 : decode cX3_readPlace 57 = .ok (.invokevirtual 103, 3) := by decide +kernel
theorem dX3_readPlace_60 : decode cX3_readPlace 60 = .ok (.istore_n 3, 1) := by decide +kernel
theorem dX3_readPlace_61 : decode cX3_readPlace 61 = .ok (.iload_n 3, 1) := by decide +kernel
theorem dX3_readPlace_62 : decode cX3_readPlace 62 = .ok (.ifCond .ge 5, 3) := by decide +kernel
theorem dX3_readPlace_65 : decode cX3_readPlace 65 = .ok (.iconst 0, 1) := by decide +kernel
theorem dX3_readPlace_66 : decode cX3_readPlace 66 = .ok (.ireturn, 1) := by decide +kernel
theorem dX3_readPlace_67 : decode cX3_readPlace 67 = .ok (.aload_n 0, 1) := by decide +kernel
theorem dX3_readPlace_68 : decode cX3_readPlace 68 = .ok (.getfield 31, 3) := by decide +kernel
theorem dX3_readPlace_71 : decode cX3_readPlace 71 = .ok (.getfield 106, 3) := by decide +kernel
theorem dX3_readPlace_74 : decode cX3_readPlace 74 = .ok (.iload_n 1, 1) := by decide +kernel
theorem dX3_readPlace_75 : decode cX3_readPlace 75 = .ok (.iload_n 2, 1) := by decide +kernel
theorem dX3_readPlace_76 : decode cX3_readPlace 76 = .ok (.iastore, 1) := by decide +kernel
theorem dX3_readPlace_77 : decode cX3_readPlace 77 = .ok (.aload_n 0, 1) := by decide +kernel
theorem dX3_readPlace_78 : decode cX3_readPlace 78 = .ok (.getfield 31, 3) := by decide +kernel
theorem dX3_readPlace_81 : decode cX3_readPlace 81 = .ok (.getfield 108, 3) := by decide +kernel
theorem dX3_readPlace_84 : decode cX3_readPlace 84 = .ok (.iload_n 1, 1) := by decide +kernel
theorem dX3_readPlace_85 : decode cX3_readPlace 85 = .ok (.iload_n 3, 1) := by decide +kernel
theorem dX3_readPlace_86 : decode cX3_readPlace 86 = .ok (.iastore, 1) := by decide +kernel
theorem dX3_readPlace_87 : decode cX3_readPlace 87 = .ok (.aload_n 0, 1) := by decide +kernel
theorem dX3_readPlace_88 : decode cX3_readPlace 88 = .ok (.getfield 31, 3) := by decide +kernel
theorem dX3_readPlace_91 : decode cX3_readPlace 91 = .ok (.dup, 1) := by decide +kernel
theorem dX3_readPlace_92 : decode cX3_readPlace 92 = .ok (.getfield 96, 3) := by decide +kernel
theorem dX3_readPlace_95 : decode cX3_readPlace 95 = .ok (.iconst 1, 1) := by decide +kernel
theorem dX3_readPlace_96 : decode cX3_readPlace 96 = .ok (.iadd, 1) := by decide +kernel
theorem dX3_readPlace_97 : decode cX3_readPlace 97 = .ok (.putfield 96, 3) := by decide +kernel
theorem dX3_readPlace_100 : decode cX3_readPlace 100 = .ok (.iconst 1, 1) := by decide +kernel
theorem dX3_readPlace_101 : decode cX3_readPlace 101 = .ok (.ireturn, 1) := by decide +kernel
theorem dX3_readPerson_0 : decode cX3_readPerson 0 = .ok (.aload_n 0, 1) := by decide +kernel
theorem dX3_readPerson_1 : decode cX3_readPerson 1 = .ok (.getfield 31, 3) := by decide +kernel
theorem dX3_readPerson_4 : decode cX3_readPerson 4 = .ok (.getfield 111, 3) := by decide +kernel
theorem dX3_readPerson_7 : decode cX3_readPerson 7 = .ok (.istore_n 1, 1) := by decide +kernel
theorem dX3_readPerson_8 : decode cX3_readPerson 8 = .ok (.aload_n 0, 1) := by decide +kernel
theorem dX3_readPerson_9 : decode cX3_readPerson 9 = .ok (.iload_n 1, 1) := by decide +kernel
theorem dX3_readPerson_10 : decode cX3_readPerson 10 = .ok (.bipush 6, 2) := by decide +kernel
theorem dX3_readPerson_12 : decode cX3_readPerson 12 = .ok (.if_icmp .ge 7, 3) := by decide +kernel
theorem dX3_readPerson_15 : decode cX3_readPerson 15 = .ok (.iconst 1, 1) := by decide +kernel
theorem dX3_readPerson_16 : decode cX3_readPerson 16 = .ok (.goto 4, 3) := by decide +kernel
theorem dX3_readPerson_19 : decode cX3_readPerson 19 = .ok (.iconst 0, 1) := by decide +kernel
theorem dX3_readPerson_20 : decode cX3_readPerson 20 = .ok (.iconst 2, 1) := by decide +kernel
theorem dX3_readPerson_21 : decode cX3_readPerson 21 = .ok (.invokevirtual 59, 3) := by decide +kernel
theorem dX3_readPerson_24 : decode cX3_readPerson 24 = .ok (.ifCond .ne 5, 3) := by decide +kernel
theorem dX3_readPerson_27 : decode cX3_readPerson 27 = .ok (.iconst 0, 1) := by decide +kernel
theorem dX3_readPerson_28 : decode cX3_readPerson 28 = .ok (.ireturn, 1) := by decide +kernel
theorem dX3_readPerson_29 : decode cX3_readPerson 29 = .ok (.aload_n 0, 1) := by decide +kernel
theorem dX3_readPerson_30 : decode cX3_readPerson 30 = .ok (.getfield 12, 3) := by decide +kernel
theorem dX3_readPerson_33 : decode cX3_readPerson 33 = .ok (.invokevirtual 63, 3) := by decide +kernel
theorem dX3_readPerson_36 : decode cX3_readPerson 36 = .ok (.aload_n 0, 1) := by decide +kernel
theorem dX3_readPerson_37 : decode cX3_readPerson 37 = .ok (.getfield 12, 3) := by decide +kernel
theorem dX3_readPerson_40 : decode cX3_readPerson 40 = .ok (.getfield 93, 3) := by decide +kernel
theorem dX3_readPerson_43 : decode cX3_readPerson 43 = .ok (.istore_n 2, 1) := by decide +kernel
theorem dX3_readPerson_44 : decode cX3_readPerson 44 = .ok (.aload_n 0, 1) := by decide +kernel
theorem dX3_readPerson_45 : decode cX3_readPerson 45 = .ok (.aload_n 0, 1) := by decide +kernel
theorem dX3_readPerson_46 : decode cX3_readPerson 46 = .ok (.getfield 12, 3) := by decide +kernel
theorem dX3_readPerson_49 : decode cX3_readPerson 49 = .ok (.getfield 52, 3) := by decide +kernel
theorem dX3_readPerson_52 : decode cX3_readPerson 52 = .ok (.bipush 43, 2) := by decide +kernel
theorem dX3_readPerson_54 : decode cX3_readPerson 54 = .ok (.if_icmp .ne 7, 3) := by decide +kernel
theorem dX3_readPerson_57 : decode cX3_readPerson 57 = .ok (.iconst 1, 1) := by decide +kernel
theorem dX3_readPerson_58 : decode cX3_readPerson 58 = .ok (.goto 4, 3) := by decide +kernel
theorem dX3_readPerson_61 : decode cX3_readPerson 61 = .ok (.iconst 0, 1) := by decide +kernel
theorem dX3_readPerson_62 : decode cX3_readPerson 62 = .ok (.iconst 1, 1) := by decide +kernel
theorem dX3_readPerson_63 : decode cX3_readPerson 63 = .ok (.invokevirtual 59, 3) := by decide +kernel
theorem dX3_readPerson_66 : decode cX3_readPerson 66 = .ok (.ifCond .eq 27, 3) := by decide +kernel
theorem dX3_readPerson_69 : decode cX3_readPerson 69 = .ok (.aload_n 0, 1) := by decide +kernel
theorem dX3_readPerson_70 : decode cX3_readPerson 70 = .ok (.aload_n 0, 1) := by decide +kernel
theorem dX3_readPerson_71 : decode cX3_readPerson 71 = .ok (.getfield 31, 3) := by decide +kernel
theorem dX3_readPerson_74 : decode cX3_readPerson 74 = .ok (.iload_n 2, 1) := by decide +kernel
theorem dX3_readPerson_75 : decode cX3_readPerson 75 = .ok (.invokevirtual 114, 3) := by decide +kernel
theorem dX3_readPerson_78 : decode cX3_readPerson 78 = .ok (.ifCond .ge 7, 3) := by decide +kernel
theorem dX3_readPerson_81 : decode cX3_readPerson 81 = .ok (.iconst 1, 1) := by decide +kernel
theorem dX3_readPerson_82 : decode cX3_readPerson 82 = .ok (.goto 4, 3) := by decide +kernel
theorem dX3_readPerson_85 : decode cX3_readPerson 85 = .ok (.iconst 0, 1) := by decide +kernel
theorem dX3_readPerson_86 : decode cX3_readPerson 86 = .ok (.iconst 3, 1) := by decide +kernel
theorem dX3_readPerson_87 : decode cX3_readPerson 87 = .ok (.invokevirtual 59, 3) := by decide +kernel
theorem dX3_readPerson_90 : decode cX3_readPerson 90 = .ok (.ifCond .ne 5, 3) := by decide +kernel
theorem dX3_readPerson_93 : decode cX3_readPerson 93 = .ok (.iconst 0, 1) := by decide +kernel
theorem dX3_readPerson_94 : decode cX3_readPerson 94 = .ok (.ireturn, 1) := by decide +kernel
theorem dX3_readPerson_95 : decode cX3_readPerson 95 = .ok (.aload_n 0, 1) := by decide +kernel
theorem dX3_readPerson_96 : decode cX3_readPerson 96 = .ok (.getfield 12, 3) := by decide +kernel
theorem dX3_readPerson_99 : decode cX3_readPerson 99 = .ok (.invokevirtual 63, 3) := by decide +kernel
theorem dX3_readPerson_102 : decode cX3_readPerson 102 = .ok (.aload_n 0, 1) := by decide +kernel
theorem dX3_readPerson_103 : decode cX3_readPerson 103 = .ok (.iconst 0, 1) := by decide +kernel
theorem dX3_readPerson_104 : decode cX3_readPerson 104 = .ok (.bipush 19, 2) := by decide +kernel
theorem dX3_readPerson_106 : decode cX3_readPerson 106 = .ok (.invokevirtual 103, 3) := by decide +kernel
theorem dX3_readPerson_109 : decode cX3_readPerson 109 = .ok (.istore_n 3, 1) := by decide +kernel
theorem dX3_readPerson_110 : decode cX3_readPerson 110 = .ok (.iload_n 3, 1) := by decide +kernel
theorem dX3_readPerson_111 : decode cX3_readPerson 111 = .ok (.ifCond .ge 7, 3) := by decide +kernel
theorem dX3_readPerson_114 : decode cX3_readPerson 114 = .ok (.iconst (-1), 1) := by decide +kernel
theorem dX3_readPerson_115 : decode cX3_readPerson 115 = .ok (.goto 12, 3) := by decide +kernel
theorem dX3_readPerson_118 : decode cX3_readPerson 118 = .ok (.aload_n 0, 1) := by decide +kernel
theorem dX3_readPerson_119 : decode cX3_readPerson 119 = .ok (.iload_n 3, 1) := by decide +kernel
theorem dX3_readPerson_120 : decode cX3_readPerson 120 = .ok (.iconst 1, 1) := by decide +kernel
theorem dX3_readPerson_121 : decode cX3_readPerson 121 = .ok (.iadd, 1) := by decide +kernel
theorem dX3_readPerson_122 : decode cX3_readPerson 122 = .ok (.bipush 20, 2) := by decide +kernel
theorem dX3_readPerson_124 : decode cX3_readPerson 124 = .ok (.invokevirtual 103, 3) := by decide +kernel
theorem dX3_readPerson_127 : decode cX3_readPerson 127 = .ok (.istore 4, 2) := by decide +kernel
theorem dX3_readPerson_129 : decode cX3_readPerson 129 = .ok (.iload 4, 2) := by decide +kernel
theorem dX3_readPerson_131 : decode cX3_readPerson 131 = .ok (.ifCond .ge 7, 3) := by decide +kernel
theorem dX3_readPerson_134 : decode cX3_readPerson 134 = .ok (.iconst (-1), 1) := by decide +kernel
theorem dX3_readPerson_135 : decode cX3_readPerson 135 = .ok (.goto 10, 3) := by decide +kernel
theorem dX3_readPerson_138 : decode cX3_readPerson 138 = .ok (.aload_n 0, 1) := by decide +kernel
theorem dX3_readPerson_139 : decode cX3_readPerson 139 = .ok (.iconst 1, 1) := by decide +kernel
theorem dX3_readPerson_140 : decode cX3_readPerson 140 = .ok (.bipush 99, 2) := by decide +kernel
theorem dX3_readPerson_142 : decode cX3_readPerson 142 = .ok (.invokevirtual 103, 3) := by decide +kernel
theorem dX3_readPerson_145 : decode cX3_readPerson 145 = .ok (.istore 5, 2) := by decide +kernel
theorem dX3_readPerson_147 : decode cX3_readPerson 147 = .ok (.iload 5, 2) := by decide +kernel
theorem dX3_readPerson_149 : decode cX3_readPerson 149 = .ok (.ifCond .ge 5, 3) := by decide +kernel
theorem dX3_readPerson_152 : decode cX3_readPerson 152 = .ok (.iconst 0, 1) := by decide +kernel
theorem dX3_readPerson_153 : decode cX3_readPerson 153 = .ok (.ireturn, 1) := by decide +kernel
theorem dX3_readPerson_154 : decode cX3_readPerson 154 = .ok (.aload_n 0, 1) := by decide +kernel
theorem dX3_readPerson_155 : decode cX3_readPerson 155 = .ok (.getfield 31, 3) := by decide +kernel
theorem dX3_readPerson_158 : decode cX3_readPerson 158 = .ok (.getfield 118, 3) := by decide +kernel
theorem dX3_readPerson_161 : decode cX3_readPerson 161 = .ok (.iload_n 1, 1) := by decide +kernel
theorem dX3_readPerson_162 : decode cX3_readPerson 162 = .ok (.iload_n 2, 1) := by decide +kernel
theorem dX3_readPerson_163 : decode cX3_readPerson 163 = .ok (.iastore, 1) := by decide +kernel
theorem dX3_readPerson_164 : decode cX3_readPerson 164 = .ok (.aload_n 0, 1) := by decide +kernel
theorem dX3_readPerson_165 : decode cX3_readPerson 165 = .ok (.getfield 31, 3) := by decide +kernel
theorem dX3_readPerson_168 : decode cX3_readPerson 168 = .ok (.getfield 121, 3) := by decide +kernel
theorem dX3_readPerson_171 : decode cX3_readPerson 171 = .ok (.iload_n 1, 1) := by decide +kernel
theorem dX3_readPerson_172 : decode cX3_readPerson 172 = .ok (.iload_n 3, 1) := by decide +kernel
theorem dX3_readPerson_173 : decode cX3_readPerson 173 = .ok (.iastore, 1) := by decide +kernel
theorem dX3_readPerson_174 : decode cX3_readPerson 174 = .ok (.aload_n 0, 1) := by decide +kernel
theorem dX3_readPerson_175 : decode cX3_readPerson 175 = .ok (.getfield 31, 3) := by decide +kernel
theorem dX3_readPerson_178 : decode cX3_readPerson 178 = .ok (.getfield 124, 3) := by decide +kernel
theorem dX3_readPerson_181 : decode cX3_readPerson 181 = .ok (.iload_n 1, 1) := by decide +kernel
theorem dX3_readPerson_182 : decode cX3_readPerson 182 = .ok (.iload 4, 2) := by decide +kernel
theorem dX3_readPerson_184 : decode cX3_readPerson 184 = .ok (.iastore, 1) := by decide +kernel
theorem dX3_readPerson_185 : decode cX3_readPerson 185 = .ok (.aload_n 0, 1) := by decide +kernel
theorem dX3_readPerson_186 : decode cX3_readPerson 186 = .ok (.getfield 31, 3) := by decide +kernel
theorem dX3_readPerson_189 : decode cX3_readPerson 189 = .ok (.getfield 127, 3) := by decide +kernel
theorem dX3_readPerson_192 : decode cX3_readPerson 192 = .ok (.iload_n 1, 1) := by decide +kernel
theorem dX3_readPerson_193 : decode cX3_readPerson 193 = .ok (.iload 5, 2) := by decide +kernel
theorem dX3_readPerson_195 : decode cX3_readPerson 195 = .ok (.iastore, 1) := by decide +kernel
theorem dX3_readPerson_196 : decode cX3_readPerson 196 = .ok (.aload_n 0, 1) := by decide +kernel
theorem dX3_readPerson_197 : decode cX3_readPerson 197 = .ok (.getfield 31, 3) := by decide +kernel
theorem dX3_readPerson_200 : decode cX3_readPerson 200 = .ok (.dup, 1) := by decide +kernel
theorem dX3_readPerson_201 : decode cX3_readPerson 201 = .ok (.getfield 111, 3) := by decide +kernel
theorem dX3_readPerson_204 : decode cX3_readPerson 204 = .ok (.iconst 1, 1) := by decide +kernel
theorem dX3_readPerson_205 : decode cX3_readPerson 205 = .ok (.iadd, 1) := by decide +kernel
theorem dX3_readPerson_206 : decode cX3_readPerson 206 = .ok (.putfield 111, 3) := by decide +kernel
theorem dX3_readPerson_209 : decode cX3_readPerson 209 = .ok (.iconst 1, 1) := by decide +kernel
theorem dX3_readPerson_210 : decode cX3_readPerson 210 = .ok (.ireturn, 1) := by decide +kernel
theorem dX3_readPiece_0 : decode cX3_readPiece 0 = .ok (.aload_n 0, 1) := by decide +kernel
theorem dX3_readPiece_1 : decode cX3_readPiece 1 = .ok (.getfield 31, 3) := by decide +kernel
theorem dX3_readPiece_4 : decode cX3_readPiece 4 = .ok (.getfield 130, 3) := by decide +kernel
theorem dX3_readPiece_7 : decode cX3_readPiece 7 = .ok (.istore_n 1, 1) := by decide +kernel
theorem dX3_readPiece_8 : decode cX3_readPiece 8 = .ok (.aload_n 0, 1) := by decide +kernel
theorem dX3_readPiece_9 : decode cX3_readPiece 9 = .ok (.iload_n 1, 1) := by decide +kernel
theorem dX3_readPiece_10 : decode cX3_readPiece 10 = .ok (.bipush 10, 2) := by decide +kernel
theorem dX3_readPiece_12 : decode cX3_readPiece 12 = .ok (.if_icmp .ge 7, 3) := by decide +kernel
theorem dX3_readPiece_15 : decode cX3_readPiece 15 = .ok (.iconst 1, 1) := by decide +kernel
theorem dX3_readPiece_16 : decode cX3_readPiece 16 = .ok (.goto 4, 3) := by decide +kernel
theorem dX3_readPiece_19 : decode cX3_readPiece 19 = .ok (.iconst 0, 1) := by decide +kernel
theorem dX3_readPiece_20 : decode cX3_readPiece 20 = .ok (.iconst 2, 1) := by decide +kernel
theorem dX3_readPiece_21 : decode cX3_readPiece 21 = .ok (.invokevirtual 59, 3) := by decide +kernel
theorem dX3_readPiece_24 : decode cX3_readPiece 24 = .ok (.ifCond .ne 5, 3) := by decide +kernel
theorem dX3_readPiece_27 : decode cX3_readPiece 27 = .ok (.iconst 0, 1) := by decide +kernel
theorem dX3_readPiece_28 : decode cX3_readPiece 28 = .ok (.ireturn, 1) := by decide +kernel
theorem dX3_readPiece_29 : decode cX3_readPiece 29 = .ok (.aload_n 0, 1) := by decide +kernel
theorem dX3_readPiece_30 : decode cX3_readPiece 30 = .ok (.getfield 12, 3) := by decide +kernel
theorem dX3_readPiece_33 : decode cX3_readPiece 33 = .ok (.invokevirtual 63, 3) := by decide +kernel
theorem dX3_readPiece_36 : decode cX3_readPiece 36 = .ok (.aload_n 0, 1) := by decide +kernel
theorem dX3_readPiece_37 : decode cX3_readPiece 37 = .ok (.getfield 31, 3) := by decide +kernel
theorem dX3_readPiece_40 : decode cX3_readPiece 40 = .ok (.aload_n 0, 1) := by decide +kernel
theorem dX3_readPiece_41 : decode cX3_readPiece 41 = .ok (.getfield 12, 3) := by decide +kernel
theorem dX3_readPiece_44 : decode cX3_readPiece 44 = .ok (.getfield 93, 3) := by decide +kernel
theorem dX3_readPiece_47 : decode cX3_readPiece 47 = .ok (.invokevirtual 114, 3) := by decide +kernel
theorem dX3_readPiece_50 : decode cX3_readPiece 50 = .ok (.istore_n 2, 1) := by decide +kernel
theorem dX3_readPiece_51 : decode cX3_readPiece 51 = .ok (.aload_n 0, 1) := by decide +kernel
theorem dX3_readPiece_52 : decode cX3_readPiece 52 = .ok (.aload_n 0, 1) := by decide +kernel
theorem dX3_readPiece_53 : decode cX3_readPiece 53 = .ok (.getfield 12, 3) := by decide +kernel
theorem dX3_readPiece_56 : decode cX3_readPiece 56 = .ok (.getfield 52, 3) := by decide +kernel
theorem dX3_readPiece_59 : decode cX3_readPiece 59 = .ok (.bipush 43, 2) := by decide +kernel
theorem dX3_readPiece_61 : decode cX3_readPiece 61 = .ok (.if_icmp .ne 7, 3) := by decide +kernel
theorem dX3_readPiece_64 : decode cX3_readPiece 64 = .ok (.iconst 1, 1) := by decide +kernel
theorem dX3_readPiece_65 : decode cX3_readPiece 65 = .ok (.goto 4, 3) := by decide +kernel
theorem dX3_readPiece_68 : decode cX3_readPiece 68 = .ok (.iconst 0, 1) := by decide +kernel
theorem dX3_readPiece_69 : decode cX3_readPiece 69 = .ok (.iconst 1, 1) := by decide +kernel
theorem dX3_readPiece_70 : decode cX3_readPiece 70 = .ok (.invokevirtual 59, 3) := by decide +kernel
theorem dX3_readPiece_73 : decode cX3_readPiece 73 = .ok (.ifCond .eq 20, 3) := by decide +kernel
theorem dX3_readPiece_76 : decode cX3_readPiece 76 = .ok (.aload_n 0, 1) := by decide +kernel
theorem dX3_readPiece_77 : decode cX3_readPiece 77 = .ok (.iload_n 2, 1) := by decide +kernel
theorem dX3_readPiece_78 : decode cX3_readPiece 78 = .ok (.ifCond .lt 7, 3) := by decide +kernel
theorem dX3_readPiece_81 : decode cX3_readPiece 81 = .ok (.iconst 1, 1) := by decide +kernel
theorem dX3_readPiece_82 : decode cX3_readPiece 82 = .ok (.goto 4, 3) := by decide +kernel
theorem dX3_readPiece_85 : decode cX3_readPiece 85 = .ok (.iconst 0, 1) := by decide +kernel
theorem dX3_readPiece_86 : decode cX3_readPiece 86 = .ok (.iconst 4, 1) := by decide +kernel
theorem dX3_readPiece_87 : decode cX3_readPiece 87 = .ok (.invokevirtual 59, 3) := by decide +kernel
theorem dX3_readPiece_90 : decode cX3_readPiece 90 = .ok (.ifCond .ne 5, 3) := by decide +kernel
theorem dX3_readPiece_93 : decode cX3_readPiece 93 = .ok (.iconst 0, 1) := by decide +kernel
theorem dX3_readPiece_94 : decode cX3_readPiece 94 = .ok (.ireturn, 1) := by decide +kernel
theorem dX3_readPiece_95 : decode cX3_readPiece 95 = .ok (.aload_n 0, 1) := by decide +kernel
theorem dX3_readPiece_96 : decode cX3_readPiece 96 = .ok (.getfield 12, 3) := by decide +kernel
theorem dX3_readPiece_99 : decode cX3_readPiece 99 = .ok (.invokevirtual 63, 3) := by decide +kernel
theorem dX3_readPiece_102 : decode cX3_readPiece 102 = .ok (.aload_n 0, 1) := by decide +kernel
theorem dX3_readPiece_103 : decode cX3_readPiece 103 = .ok (.iconst 1, 1) := by decide +kernel
theorem dX3_readPiece_104 : decode cX3_readPiece 104 = .ok (.bipush 99, 2) := by decide +kernel
theorem dX3_readPiece_106 : decode cX3_readPiece 106 = .ok (.invokevirtual 103, 3) := by decide +kernel
theorem dX3_readPiece_109 : decode cX3_readPiece 109 = .ok (.istore_n 3, 1) := by decide +kernel
theorem dX3_readPiece_110 : decode cX3_readPiece 110 = .ok (.iload_n 3, 1) := by decide +kernel
theorem dX3_readPiece_111 : decode cX3_readPiece 111 = .ok (.ifCond .ge 7, 3) := by decide +kernel
theorem dX3_readPiece_114 : decode cX3_readPiece 114 = .ok (.iconst (-1), 1) := by decide +kernel
theorem dX3_readPiece_115 : decode cX3_readPiece 115 = .ok (.goto 10, 3) := by decide +kernel
theorem dX3_readPiece_118 : decode cX3_readPiece 118 = .ok (.aload_n 0, 1) := by decide +kernel
theorem dX3_readPiece_119 : decode cX3_readPiece 119 = .ok (.iconst 0, 1) := by decide +kernel
theorem dX3_readPiece_120 : decode cX3_readPiece 120 = .ok (.bipush 9, 2) := by decide +kernel
theorem dX3_readPiece_122 : decode cX3_readPiece 122 = .ok (.invokevirtual 103, 3) := by decide +kernel
theorem dX3_readPiece_125 : decode cX3_readPiece 125 = .ok (.istore 4, 2) := by decide +kernel
theorem dX3_readPiece_127 : decode cX3_readPiece 127 = .ok (.iload 4, 2) := by decide +kernel
theorem dX3_readPiece_129 : decode cX3_readPiece 129 = .ok (.ifCond .ge 5, 3) := by decide +kernel
theorem dX3_readPiece_132 : decode cX3_readPiece 132 = .ok (.iconst 0, 1) := by decide +kernel
theorem dX3_readPiece_133 : decode cX3_readPiece 133 = .ok (.ireturn, 1) := by decide +kernel
theorem dX3_readPiece_134 : decode cX3_readPiece 134 = .ok (.iconst (-1), 1) := by decide +kernel
theorem dX3_readPiece_135 : decode cX3_readPiece 135 = .ok (.istore 5, 2) := by decide +kernel
theorem dX3_readPiece_137 : decode cX3_readPiece 137 = .ok (.aload_n 0, 1) := by decide +kernel
theorem dX3_readPiece_138 : decode cX3_readPiece 138 = .ok (.getfield 12, 3) := by decide +kernel
theorem dX3_readPiece_141 : decode cX3_readPiece 141 = .ok (.getfield 52, 3) := by decide +kernel
theorem dX3_readPiece_144 : decode cX3_readPiece 144 = .ok (.bipush 42, 2) := by decide +kernel
theorem dX3_readPiece_146 : decode cX3_readPiece 146 = .ok (.if_icmp .ne 46, 3) := by decide +kernel
theorem dX3_readPiece_149 : decode cX3_readPiece 149 = .ok (.aload_n 0, 1) := by decide +kernel
theorem dX3_readPiece_150 : decode cX3_readPiece 150 = .ok (.getfield 12, 3) := by decide +kernel
theorem dX3_readPiece_153 : decode cX3_readPiece 153 = .ok (.getfield 93, 3) := by decide +kernel
theorem dX3_readPiece_156 : decode cX3_readPiece 156 = .ok (.istore 5, 2) := by decide +kernel
theorem dX3_readPiece_158 : decode cX3_readPiece 158 = .ok (.aload_n 0, 1) := by decide +kernel
theorem dX3_readPiece_159 : decode cX3_readPiece 159 = .ok (.iload 5, 2) := by decide +kernel
theorem dX3_readPiece_161 : decode cX3_readPiece 161 = .ok (.aload_n 0, 1) := by decide +kernel
theorem dX3_readPiece_162 : decode cX3_readPiece 162 = .ok (.getfield 31, 3) := by decide +kernel
theorem dX3_readPiece_165 : decode cX3_readPiece 165 = .ok (.getfield 96, 3) := by decide +kernel
theorem dX3_readPiece_168 : decode cX3_readPiece 168 = .ok (.if_icmp .ge 7, 3) := by decide +kernel
theorem dX3_readPiece_171 : decode cX3_readPiece 171 = .ok (.iconst 1, 1) := by decide +kernel
theorem dX3_readPiece_172 : decode cX3_readPiece 172 = .ok (.goto 4, 3) := by decide +kernel
theorem dX3_readPiece_175 : decode cX3_readPiece 175 = .ok (.iconst 0, 1) := by decide +kernel
theorem dX3_readPiece_176 : decode cX3_readPiece 176 = .ok (.iconst 4, 1) := by decide +kernel
theorem dX3_readPiece_177 : decode cX3_readPiece 177 = .ok (.invokevirtual 59, 3) := by decide +kernel
theorem dX3_readPiece_180 : decode cX3_readPiece 180 = .ok (.ifCond .ne 5, 3) := by decide +kernel
theorem dX3_readPiece_183 : decode cX3_readPiece 183 = .ok (.iconst 0, 1) := by decide +kernel
theorem dX3_readPiece_184 : decode cX3_readPiece 184 = .ok (.ireturn, 1) := by decide +kernel
theorem dX3_readPiece_185 : decode cX3_readPiece 185 = .ok (.aload_n 0, 1) := by decide +kernel
theorem dX3_readPiece_186 : decode cX3_readPiece 186 = .ok (.getfield 12, 3) := by decide +kernel
theorem dX3_readPiece_189 : decode cX3_readPiece 189 = .ok (.invokevirtual 63, 3) := by decide +kernel
theorem dX3_readPiece_192 : decode cX3_readPiece 192 = .ok (.aload_n 0, 1) := by decide +kernel
theorem dX3_readPiece_193 : decode cX3_readPiece 193 = .ok (.getfield 31, 3) := by decide +kernel
theorem dX3_readPiece_196 : decode cX3_readPiece 196 = .ok (.getfield 133, 3) := by decide +kernel
theorem dX3_readPiece_199 : decode cX3_readPiece 199 = .ok (.iload_n 1, 1) := by decide +kernel
theorem dX3_readPiece_200 : decode cX3_readPiece 200 = .ok (.iload_n 2, 1) := by decide +kernel
theorem dX3_readPiece_201 : decode cX3_readPiece 201 = .ok (.iastore, 1) := by decide +kernel
theorem dX3_readPiece_202 : decode cX3_readPiece 202 = .ok (.aload_n 0, 1) := by decide +kernel
theorem dX3_readPiece_203 : decode cX3_readPiece 203 = .ok (.getfield 31, 3) := by decide +kernel
theorem dX3_readPiece_206 : decode cX3_readPiece 206 = .ok (.getfield 136, 3) := by decide +kernel
theorem dX3_readPiece_209 : decode cX3_readPiece 209 = .ok (.iload_n 1, 1) := by decide +kernel
theorem dX3_readPiece_210 : decode cX3_readPiece 210 = .ok (.iload_n 3, 1) := by decide +kernel
theorem dX3_readPiece_211 : decode cX3_readPiece 211 = .ok (.iastore, 1) := by decide +kernel
theorem dX3_readPiece_212 : decode cX3_readPiece 212 = .ok (.aload_n 0, 1) := by decide +kernel
theorem dX3_readPiece_213 : decode cX3_readPiece 213 = .ok (.getfield 31, 3) := by decide +kernel
theorem dX3_readPiece_216 : decode cX3_readPiece 216 = .ok (.getfield 139, 3) := by decide +kernel
theorem dX3_readPiece_219 : decode cX3_readPiece 219 = .ok (.iload_n 1, 1) := by decide +kernel
theorem dX3_readPiece_220 : decode cX3_readPiece 220 = .ok (.iload 4, 2) := by decide +kernel
theorem dX3_readPiece_222 : decode cX3_readPiece 222 = .ok (.iastore, 1) := by decide +kernel
theorem dX3_readPiece_223 : decode cX3_readPiece 223 = .ok (.aload_n 0, 1) := by decide +kernel
theorem dX3_readPiece_224 : decode cX3_readPiece 224 = .ok (.getfield 31, 3) := by decide +kernel
theorem dX3_readPiece_227 : decode cX3_readPiece 227 = .ok (.getfield 142, 3) := by decide +kernel
theorem dX3_readPiece_230 : decode cX3_readPiece 230 = .ok (.iload_n 1, 1) := by decide +kernel
theorem dX3_readPiece_231 : decode cX3_readPiece 231 = .ok (.iload 5, 2) := by decide +kernel
theorem dX3_readPiece_233 : decode cX3_readPiece 233 = .ok (.iastore, 1) := by decide +kernel
theorem dX3_readPiece_234 : decode cX3_readPiece 234 = .ok (.aload_n 0, 1) := by decide +kernel
theorem dX3_readPiece_235 : decode cX3_readPiece 235 = .ok (.getfield 31, 3) := by decide +kernel
theorem dX3_readPiece_238 : decode cX3_readPiece 238 = .ok (.dup, 1) := by decide +kernel
theorem dX3_readPiece_239 : decode cX3_readPiece 239 = .ok (.getfield 130, 3) := by decide +kernel
theorem dX3_readPiece_242 : decode cX3_readPiece 242 = .ok (.iconst 1, 1) := by decide +kernel
theorem dX3_readPiece_243 : decode cX3_readPiece 243 = .ok (.iadd, 1) := by decide +kernel
theorem dX3_readPiece_244 : decode cX3_readPiece 244 = .ok (.putfield 130, 3) := by decide +kernel
theorem dX3_readPiece_247 : decode cX3_readPiece 247 = .ok (.iconst 1, 1) := by decide +kernel
theorem dX3_readPiece_248 : decode cX3_readPiece 248 = .ok (.ireturn, 1) := by decide +kernel
theorem dX3_readWait_0 : decode cX3_readWait 0 = .ok (.aload_n 0, 1) := by decide +kernel
theorem dX3_readWait_1 : decode cX3_readWait 1 = .ok (.aload_n 0, 1) := by decide +kernel
theorem dX3_readWait_2 : decode cX3_readWait 2 = .ok (.getfield 45, 3) := by decide +kernel
theorem dX3_readWait_5 : decode cX3_readWait 5 = .ok (.invokestatic 145, 3) := by decide +kernel
theorem dX3_readWait_8 : decode cX3_readWait 8 = .ok (.bipush 10, 2) := by decide +kernel
theorem dX3_readWait_10 : decode cX3_readWait 10 = .ok (.if_icmp .ge 7, 3) := by decide +kernel
theorem dX3_readWait_13 : decode cX3_readWait 13 = .ok (.iconst 1, 1) := by decide +kernel
theorem dX3_readWait_14 : decode cX3_readWait 14 = .ok (.goto 4, 3) := by decide +kernel
theorem dX3_readWait_17 : decode cX3_readWait 17 = .ok (.iconst 0, 1) := by decide +kernel
theorem dX3_readWait_18 : decode cX3_readWait 18 = .ok (.iconst 2, 1) := by decide +kernel
theorem dX3_readWait_19 : decode cX3_readWait 19 = .ok (.invokevirtual 59, 3) := by decide +kernel
theorem dX3_readWait_22 : decode cX3_readWait 22 = .ok (.ifCond .ne 5, 3) := by decide +kernel
theorem dX3_readWait_25 : decode cX3_readWait 25 = .ok (.iconst 0, 1) := by decide +kernel
theorem dX3_readWait_26 : decode cX3_readWait 26 = .ok (.ireturn, 1) := by decide +kernel
theorem dX3_readWait_27 : decode cX3_readWait 27 = .ok (.aload_n 0, 1) := by decide +kernel
theorem dX3_readWait_28 : decode cX3_readWait 28 = .ok (.getfield 12, 3) := by decide +kernel
theorem dX3_readWait_31 : decode cX3_readWait 31 = .ok (.invokevirtual 63, 3) := by decide +kernel
theorem dX3_readWait_34 : decode cX3_readWait 34 = .ok (.aload_n 0, 1) := by decide +kernel
theorem dX3_readWait_35 : decode cX3_readWait 35 = .ok (.getfield 12, 3) := by decide +kernel
theorem dX3_readWait_38 : decode cX3_readWait 38 = .ok (.getfield 93, 3) := by decide +kernel
theorem dX3_readWait_41 : decode cX3_readWait 41 = .ok (.istore_n 1, 1) := by decide +kernel
theorem dX3_readWait_42 : decode cX3_readWait 42 = .ok (.aload_n 0, 1) := by decide +kernel
theorem dX3_readWait_43 : decode cX3_readWait 43 = .ok (.aload_n 0, 1) := by decide +kernel
theorem dX3_readWait_44 : decode cX3_readWait 44 = .ok (.getfield 12, 3) := by decide +kernel
theorem dX3_readWait_47 : decode cX3_readWait 47 = .ok (.getfield 52, 3) := by decide +kernel
theorem dX3_readWait_50 : decode cX3_readWait 50 = .ok (.bipush 42, 2) := by decide +kernel
theorem dX3_readWait_52 : decode cX3_readWait 52 = .ok (.if_icmp .ne 7, 3) := by decide +kernel
theorem dX3_readWait_55 : decode cX3_readWait 55 = .ok (.iconst 1, 1) := by decide +kernel
theorem dX3_readWait_56 : decode cX3_readWait 56 = .ok (.goto 4, 3) := by decide +kernel
theorem dX3_readWait_59 : decode cX3_readWait 59 = .ok (.iconst 0, 1) := by decide +kernel
theorem dX3_readWait_60 : decode cX3_readWait 60 = .ok (.iconst 1, 1) := by decide +kernel
theorem dX3_readWait_61 : decode cX3_readWait 61 = .ok (.invokevirtual 59, 3) := by decide +kernel
theorem dX3_readWait_64 : decode cX3_readWait 64 = .ok (.ifCond .eq 46, 3) := by decide +kernel
theorem dX3_readWait_67 : decode cX3_readWait 67 = .ok (.aload_n 0, 1) := by decide +kernel
theorem dX3_readWait_68 : decode cX3_readWait 68 = .ok (.iload_n 1, 1) := by decide +kernel
theorem dX3_readWait_69 : decode cX3_readWait 69 = .ok (.bipush 20, 2) := by decide +kernel
theorem dX3_readWait_71 : decode cX3_readWait 71 = .ok (.if_icmp .ge 7, 3) := by decide +kernel
theorem dX3_readWait_74 : decode cX3_readWait 74 = .ok (.iconst 1, 1) := by decide +kernel
theorem dX3_readWait_75 : decode cX3_readWait 75 = .ok (.goto 4, 3) := by decide +kernel
theorem dX3_readWait_78 : decode cX3_readWait 78 = .ok (.iconst 0, 1) := by decide +kernel
theorem dX3_readWait_79 : decode cX3_readWait 79 = .ok (.iconst 2, 1) := by decide +kernel
theorem dX3_readWait_80 : decode cX3_readWait 80 = .ok (.invokevirtual 59, 3) := by decide +kernel
theorem dX3_readWait_83 : decode cX3_readWait 83 = .ok (.ifCond .eq 27, 3) := by decide +kernel
theorem dX3_readWait_86 : decode cX3_readWait 86 = .ok (.aload_n 0, 1) := by decide +kernel
theorem dX3_readWait_87 : decode cX3_readWait 87 = .ok (.aload_n 0, 1) := by decide +kernel
theorem dX3_readWait_88 : decode cX3_readWait 88 = .ok (.getfield 45, 3) := by decide +kernel
theorem dX3_readWait_91 : decode cX3_readWait 91 = .ok (.iload_n 1, 1) := by decide +kernel
theorem dX3_readWait_92 : decode cX3_readWait 92 = .ok (.ishr, 1) := by decide +kernel
theorem dX3_readWait_93 : decode cX3_readWait 93 = .ok (.iconst 1, 1) := by decide +kernel
theorem dX3_readWait_94 : decode cX3_readWait 94 = .ok (.iand, 1) := by decide +kernel
theorem dX3_readWait_95 : decode cX3_readWait 95 = .ok (.ifCond .ne 7, 3) := by decide +kernel
theorem dX3_readWait_98 : decode cX3_readWait 98 = .ok (.iconst 1, 1) := by decide +kernel
theorem dX3_readWait_99 : decode cX3_readWait 99 = .ok (.goto 4, 3) := by decide +kernel
theorem dX3_readWait_102 : decode cX3_readWait 102 = .ok (.iconst 0, 1) := by decide +kernel
theorem dX3_readWait_103 : decode cX3_readWait 103 = .ok (.iconst 3, 1) := by decide +kernel
theorem dX3_readWait_104 : decode cX3_readWait 104 = .ok (.invokevirtual 59, 3) := by decide +kernel
theorem dX3_readWait_107 : decode cX3_readWait 107 = .ok (.ifCond .ne 5, 3) := by decide +kernel
theorem dX3_readWait_110 : decode cX3_readWait 110 = .ok (.iconst 0, 1) := by decide +kernel
theorem dX3_readWait_111 : decode cX3_readWait 111 = .ok (.ireturn, 1) := by decide +kernel
theorem dX3_readWait_112 : decode cX3_readWait 112 = .ok (.aload_n 0, 1) := by decide +kernel
theorem dX3_readWait_113 : decode cX3_readWait 113 = .ok (.getfield 12, 3) := by decide +kernel
theorem dX3_readWait_116 : decode cX3_readWait 116 = .ok (.invokevirtual 63, 3) := by decide +kernel
theorem dX3_readWait_119 : decode cX3_readWait 119 = .ok (.aload_n 0, 1) := by decide +kernel
theorem dX3_readWait_120 : decode cX3_readWait 120 = .ok (.iconst 0, 1) := by decide +kernel
theorem dX3_readWait_121 : decode cX3_readWait 121 = .ok (.sipush 999, 3) := by decide +kernel
theorem dX3_readWait_124 : decode cX3_readWait 124 = .ok (.invokevirtual 103, 3) := by decide +kernel
theorem dX3_readWait_127 : decode cX3_readWait 127 = .ok (.istore_n 2, 1) := by decide +kernel
theorem dX3_readWait_128 : decode cX3_readWait 128 = .ok (.iload_n 2, 1) := by decide +kernel
theorem dX3_readWait_129 : decode cX3_readWait 129 = .ok (.ifCond .ge 5, 3) := by decide +kernel
theorem dX3_readWait_132 : decode cX3_readWait 132 = .ok (.iconst 0, 1) := by decide +kernel
theorem dX3_readWait_133 : decode cX3_readWait 133 = .ok (.ireturn, 1) := by decide +kernel
theorem dX3_readWait_134 : decode cX3_readWait 134 = .ok (.aload_n 0, 1) := by decide +kernel
theorem dX3_readWait_135 : decode cX3_readWait 135 = .ok (.dup, 1) := by decide +kernel
theorem dX3_readWait_136 : decode cX3_readWait 136 = .ok (.getfield 45, 3) := by decide +kernel
theorem dX3_readWait_139 : decode cX3_readWait 139 = .ok (.iconst 1, 1) := by decide +kernel
theorem dX3_readWait_140 : decode cX3_readWait 140 = .ok (.iload_n 1, 1) := by decide +kernel
theorem dX3_readWait_141 : decode cX3_readWait 141 = .ok (.ishl, 1) := by decide +kernel
theorem dX3_readWait_142 : decode cX3_readWait 142 = .ok (.ior, 1) := by decide +kernel
theorem dX3_readWait_143 : decode cX3_readWait 143 = .ok (.putfield 45, 3) := by decide +kernel
theorem dX3_readWait_146 : decode cX3_readWait 146 = .ok (.aload_n 0, 1) := by decide +kernel
theorem dX3_readWait_147 : decode cX3_readWait 147 = .ok (.getfield 31, 3) := by decide +kernel
theorem dX3_readWait_150 : decode cX3_readWait 150 = .ok (.getfield 150, 3) := by decide +kernel
theorem dX3_readWait_153 : decode cX3_readWait 153 = .ok (.iload_n 1, 1) := by decide +kernel
theorem dX3_readWait_154 : decode cX3_readWait 154 = .ok (.iload_n 2, 1) := by decide +kernel
theorem dX3_readWait_155 : decode cX3_readWait 155 = .ok (.iastore, 1) := by decide +kernel
theorem dX3_readWait_156 : decode cX3_readWait 156 = .ok (.iconst 1, 1) := by decide +kernel
theorem dX3_readWait_157 : decode cX3_readWait 157 = .ok (.ireturn, 1) := by decide +kernel
theorem dX3_startOnce_0 : decode cX3_startOnce 0 = .ok (.iconst 1, 1) := by decide +kernel
theorem dX3_startOnce_1 : decode cX3_startOnce 1 = .ok (.aload_n 0, 1) := by decide +kernel
theorem dX3_startOnce_2 : decode cX3_startOnce 2 = .ok (.getfield 12, 3) := by decide +kernel
theorem dX3_startOnce_5 : decode cX3_startOnce 5 = .ok (.getfield 52, 3) := by decide +kernel
theorem dX3_startOnce_8 : decode cX3_startOnce 8 = .ok (.iconst 4, 1) := by decide +kernel
theorem dX3_startOnce_9 : decode cX3_startOnce 9 = .ok (.isub, 1) := by decide +kernel
theorem dX3_startOnce_10 : decode cX3_startOnce 10 = .ok (.ishl, 1) := by decide +kernel
theorem dX3_startOnce_11 : decode cX3_startOnce 11 = .ok (.istore_n 1, 1) := by decide +kernel
theorem dX3_startOnce_12 : decode cX3_startOnce 12 = .ok (.aload_n 0, 1) := by decide +kernel
theorem dX3_startOnce_13 : decode cX3_startOnce 13 = .ok (.aload_n 0, 1) := by decide +kernel
theorem dX3_startOnce_14 : decode cX3_startOnce 14 = .ok (.getfield 42, 3) := by decide +kernel
theorem dX3_startOnce_17 : decode cX3_startOnce 17 = .ok (.iload_n 1, 1) := by decide +kernel
theorem dX3_startOnce_18 : decode cX3_startOnce 18 = .ok (.iand, 1) := by decide +kernel
theorem dX3_startOnce_19 : decode cX3_startOnce 19 = .ok (.ifCond .ne 7, 3) := by decide +kernel
theorem dX3_startOnce_22 : decode cX3_startOnce 22 = .ok (.iconst 1, 1) := by decide +kernel
theorem dX3_startOnce_23 : decode cX3_startOnce 23 = .ok (.goto 4, 3) := by decide +kernel
theorem dX3_startOnce_26 : decode cX3_startOnce 26 = .ok (.iconst 0, 1) := by decide +kernel
theorem dX3_startOnce_27 : decode cX3_startOnce 27 = .ok (.iconst 3, 1) := by decide +kernel
theorem dX3_startOnce_28 : decode cX3_startOnce 28 = .ok (.invokevirtual 59, 3) := by decide +kernel
theorem dX3_startOnce_31 : decode cX3_startOnce 31 = .ok (.ifCond .ne 5, 3) := by decide +kernel
theorem dX3_startOnce_34 : decode cX3_startOnce 34 = .ok (.iconst 0, 1) := by decide +kernel
theorem dX3_startOnce_35 : decode cX3_startOnce 35 = .ok (.ireturn, 1) := by decide +kernel
theorem dX3_startOnce_36 : decode cX3_startOnce 36 = .ok (.aload_n 0, 1) := by decide +kernel
theorem dX3_startOnce_37 : decode cX3_startOnce 37 = .ok (.dup, 1) := by decide +kernel
theorem dX3_startOnce_38 : decode cX3_startOnce 38 = .ok (.getfield 42, 3) := by decide +kernel
theorem dX3_startOnce_41 : decode cX3_startOnce 41 = .ok (.iload_n 1, 1) := by decide +kernel
theorem dX3_startOnce_42 : decode cX3_startOnce 42 = .ok (.ior, 1) := by decide +kernel
theorem dX3_startOnce_43 : decode cX3_startOnce 43 = .ok (.putfield 42, 3) := by decide +kernel
theorem dX3_startOnce_46 : decode cX3_startOnce 46 = .ok (.aload_n 0, 1) := by decide +kernel
theorem dX3_startOnce_47 : decode cX3_startOnce 47 = .ok (.getfield 12, 3) := by decide +kernel
theorem dX3_startOnce_50 : decode cX3_startOnce 50 = .ok (.invokevirtual 63, 3) := by decide +kernel
theorem dX3_startOnce_53 : decode cX3_startOnce 53 = .ok (.iconst 1, 1) := by decide +kernel
theorem dX3_startOnce_54 : decode cX3_startOnce 54 = .ok (.ireturn, 1) := by decide +kernel
theorem dX3_readRule_0 : decode cX3_readRule 0 = .ok (.aload_n 0, 1) := by decide +kernel
theorem dX3_readRule_1 : decode cX3_readRule 1 = .ok (.invokevirtual 153, 3) := by decide +kernel
theorem dX3_readRule_4 : decode cX3_readRule 4 = .ok (.ifCond .ne 5, 3) := by decide +kernel
theorem dX3_readRule_7 : decode cX3_readRule 7 = .ok (.iconst 0, 1) := by decide +kernel
theorem dX3_readRule_8 : decode cX3_readRule 8 = .ok (.ireturn, 1) := by decide +kernel
theorem dX3_readRule_9 : decode cX3_readRule 9 = .ok (.aload_n 0, 1) := by decide +kernel
theorem dX3_readRule_10 : decode cX3_readRule 10 = .ok (.getfield 31, 3) := by decide +kernel
theorem dX3_readRule_13 : decode cX3_readRule 13 = .ok (.aload_n 0, 1) := by decide +kernel
theorem dX3_readRule_14 : decode cX3_readRule 14 = .ok (.bipush 13, 2) := by decide +kernel
theorem dX3_readRule_16 : decode cX3_readRule 16 = .ok (.bipush 15, 2) := by decide +kernel
theorem dX3_readRule_18 : decode cX3_readRule 18 = .ok (.invokevirtual 99, 3) := by decide +kernel
theorem dX3_readRule_21 : decode cX3_readRule 21 = .ok (.putfield 156, 3) := by decide +kernel
theorem dX3_readRule_24 : decode cX3_readRule 24 = .ok (.aload_n 0, 1) := by decide +kernel
theorem dX3_readRule_25 : decode cX3_readRule 25 = .ok (.getfield 31, 3) := by decide +kernel
theorem dX3_readRule_28 : decode cX3_readRule 28 = .ok (.getfield 156, 3) := by decide +kernel
theorem dX3_readRule_31 : decode cX3_readRule 31 = .ok (.ifCond .lt 7, 3) := by decide +kernel
theorem dX3_readRule_34 : decode cX3_readRule 34 = .ok (.iconst 1, 1) := by decide +kernel
theorem dX3_readRule_35 : decode cX3_readRule 35 = .ok (.goto 4, 3) := by decide +kernel
theorem dX3_readRule_38 : decode cX3_readRule 38 = .ok (.iconst 0, 1) := by decide +kernel
theorem dX3_readRule_39 : decode cX3_readRule 39 = .ok (.ireturn, 1) := by decide +kernel
theorem dX3_readCurve_0 : decode cX3_readCurve 0 = .ok (.aload_n 0, 1) := by decide +kernel
theorem dX3_readCurve_1 : decode cX3_readCurve 1 = .ok (.invokevirtual 153, 3) := by decide +kernel
theorem dX3_readCurve_4 : decode cX3_readCurve 4 = .ok (.ifCond .ne 5, 3) := by decide +kernel
theorem dX3_readCurve_7 : decode cX3_readCurve 7 = .ok (.iconst 0, 1) := by decide +kernel
theorem dX3_readCurve_8 : decode cX3_readCurve 8 = .ok (.ireturn, 1) := by decide +kernel
theorem dX3_readCurve_9 : decode cX3_readCurve 9 = .ok (.aload_n 0, 1) := by decide +kernel
theorem dX3_readCurve_10 : decode cX3_readCurve 10 = .ok (.getfield 31, 3) := by decide +kernel
theorem dX3_readCurve_13 : decode cX3_readCurve 13 = .ok (.aload_n 0, 1) := by decide +kernel
theorem dX3_readCurve_14 : decode cX3_readCurve 14 = .ok (.iconst 0, 1) := by decide +kernel
theorem dX3_readCurve_15 : decode cX3_readCurve 15 = .ok (.bipush 99, 2) := by decide +kernel
theorem dX3_readCurve_17 : decode cX3_readCurve 17 = .ok (.invokevirtual 103, 3) := by decide +kernel
theorem dX3_readCurve_20 : decode cX3_readCurve 20 = .ok (.putfield 159, 3) := by decide +kernel
theorem dX3_readCurve_23 : decode cX3_readCurve 23 = .ok (.aload_n 0, 1) := by decide +kernel
theorem dX3_readCurve_24 : decode cX3_readCurve 24 = .ok (.getfield 31, 3) := by decide +kernel
theorem dX3_readCurve_27 : decode cX3_readCurve 27 = .ok (.getfield 159, 3) := by decide +kernel
theorem dX3_readCurve_30 : decode cX3_readCurve 30 = .ok (.ifCond .lt 7, 3) := by decide +kernel
theorem dX3_readCurve_33 : decode cX3_readCurve 33 = .ok (.iconst 1, 1) := by decide +kernel
theorem dX3_readCurve_34 : decode cX3_readCurve 34 = .ok (.goto 4, 3) := by decide +kernel
theorem dX3_readCurve_37 : decode cX3_readCurve 37 = .ok (.iconst 0, 1) := by decide +kernel
theorem dX3_readCurve_38 : decode cX3_readCurve 38 = .ok (.ireturn, 1) := by decide +kernel
theorem dX3_readSeed_0 : decode cX3_readSeed 0 = .ok (.aload_n 0, 1) := by decide +kernel
theorem dX3_readSeed_1 : decode cX3_readSeed 1 = .ok (.invokevirtual 153, 3) := by decide +kernel
theorem dX3_readSeed_4 : decode cX3_readSeed 4 = .ok (.ifCond .ne 5, 3) := by decide +kernel
theorem dX3_readSeed_7 : decode cX3_readSeed 7 = .ok (.iconst 0, 1) := by decide +kernel
theorem dX3_readSeed_8 : decode cX3_readSeed 8 = .ok (.ireturn, 1) := by decide +kernel
theorem dX3_readSeed_9 : decode cX3_readSeed 9 = .ok (.aload_n 0, 1) := by decide +kernel
theorem dX3_readSeed_10 : decode cX3_readSeed 10 = .ok (.getfield 31, 3) := by decide +kernel
theorem dX3_readSeed_13 : decode cX3_readSeed 13 = .ok (.aload_n 0, 1) := by decide +kernel
theorem dX3_readSeed_14 : decode cX3_readSeed 14 = .ok (.iconst 0, 1) := by decide +kernel
theorem dX3_readSeed_15 : decode cX3_readSeed 15 = .ok (.ldc 162, 2) := by decide +kernel
theorem dX3_readSeed_17 : decode cX3_readSeed 17 = .ok (.invokevirtual 103, 3) := by decide +kernel
theorem dX3_readSeed_20 : decode cX3_readSeed 20 = .ok (.putfield 163, 3) := by decide +kernel
theorem dX3_readSeed_23 : decode cX3_readSeed 23 = .ok (.aload_n 0, 1) := by decide +kernel
theorem dX3_readSeed_24 : decode cX3_readSeed 24 = .ok (.getfield 31, 3) := by decide +kernel
theorem dX3_readSeed_27 : decode cX3_readSeed 27 = .ok (.getfield 163, 3) := by decide +kernel
theorem dX3_readSeed_30 : decode cX3_readSeed 30 = .ok (.ifCond .lt 7, 3) := by decide +kernel
theorem dX3_readSeed_33 : decode cX3_readSeed 33 = .ok (.iconst 1, 1) := by decide +kernel
theorem dX3_readSeed_34 : decode cX3_readSeed 34 = .ok (.goto 4, 3) := by decide +kernel
theorem dX3_readSeed_37 : decode cX3_readSeed 37 = .ok (.iconst 0, 1) := by decide +kernel
theorem dX3_readSeed_38 : decode cX3_readSeed 38 = .ok (.ireturn, 1) := by decide +kernel
theorem dX3_readLaw_0 : decode cX3_readLaw 0 = .ok (.aload_n 0, 1) := by decide +kernel
theorem dX3_readLaw_1 : decode cX3_readLaw 1 = .ok (.getfield 12, 3) := by decide +kernel
theorem dX3_readLaw_4 : decode cX3_readLaw 4 = .ok (.invokevirtual 63, 3) := by decide +kernel
theorem dX3_readLaw_7 : decode cX3_readLaw 7 = .ok (.aload_n 0, 1) := by decide +kernel
theorem dX3_readLaw_8 : decode cX3_readLaw 8 = .ok (.getfield 12, 3) := by decide +kernel
theorem dX3_readLaw_11 : decode cX3_readLaw 11 = .ok (.getfield 52, 3) := by decide +kernel
theorem dX3_readLaw_14 : decode cX3_readLaw 14 = .ok (.bipush 16, 2) := by decide +kernel
theorem dX3_readLaw_16 : decode cX3_readLaw 16 = .ok (.isub, 1) := by decide +kernel
theorem dX3_readLaw_17 : decode cX3_readLaw 17 = .ok (.istore_n 1, 1) := by decide +kernel
theorem dX3_readLaw_18 : decode cX3_readLaw 18 = .ok (.aload_n 0, 1) := by decide +kernel
theorem dX3_readLaw_19 : decode cX3_readLaw 19 = .ok (.iload_n 1, 1) := by decide +kernel
theorem dX3_readLaw_20 : decode cX3_readLaw 20 = .ok (.ifCond .lt 12, 3) := by decide +kernel
theorem dX3_readLaw_23 : decode cX3_readLaw 23 = .ok (.iload_n 1, 1) := by decide +kernel
theorem dX3_readLaw_24 : decode cX3_readLaw 24 = .ok (.iconst 2, 1) := by decide +kernel
theorem dX3_readLaw_25 : decode cX3_readLaw 25 = .ok (.if_icmp .gt 7, 3) := by decide +kernel
theorem dX3_readLaw_28 : decode cX3_readLaw 28 = .ok (.iconst 1, 1) := by decide +kernel
theorem dX3_readLaw_29 : decode cX3_readLaw 29 = .ok (.goto 4, 3) := by decide +kernel
theorem dX3_readLaw_32 : decode cX3_readLaw 32 = .ok (.iconst 0, 1) := by decide +kernel
theorem dX3_readLaw_33 : decode cX3_readLaw 33 = .ok (.iconst 1, 1) := by decide +kernel
theorem dX3_readLaw_34 : decode cX3_readLaw 34 = .ok (.invokevirtual 59, 3) := by decide +kernel
theorem dX3_readLaw_37 : decode cX3_readLaw 37 = .ok (.ifCond .eq 31, 3) := by decide +kernel
theorem dX3_readLaw_40 : decode cX3_readLaw 40 = .ok (.aload_n 0, 1) := by decide +kernel
theorem dX3_readLaw_41 : decode cX3_readLaw 41 = .ok (.aload_n 0, 1) := by decide +kernel
theorem dX3_readLaw_42 : decode cX3_readLaw 42 = .ok (.getfield 31, 3) := by decide +kernel
theorem dX3_readLaw_45 : decode cX3_readLaw 45 = .ok (.getfield 166, 3) := by decide +kernel
theorem dX3_readLaw_48 : decode cX3_readLaw 48 = .ok (.iload_n 1, 1) := by decide +kernel
theorem dX3_readLaw_49 : decode cX3_readLaw 49 = .ok (.aaload, 1) := by decide +kernel
theorem dX3_readLaw_50 : decode cX3_readLaw 50 = .ok (.getfield 170, 3) := by decide +kernel
theorem dX3_readLaw_53 : decode cX3_readLaw 53 = .ok (.ifCond .ne 7, 3) := by decide +kernel
theorem dX3_readLaw_56 : decode cX3_readLaw 56 = .ok (.iconst 1, 1) := by decide +kernel
theorem dX3_readLaw_57 : decode cX3_readLaw 57 = .ok (.goto 4, 3) := by decide +kernel
theorem dX3_readLaw_60 : decode cX3_readLaw 60 = .ok (.iconst 0, 1) := by decide +kernel
theorem dX3_readLaw_61 : decode cX3_readLaw 61 = .ok (.iconst 3, 1) := by decide +kernel
theorem dX3_readLaw_62 : decode cX3_readLaw 62 = .ok (.invokevirtual 59, 3) := by decide +kernel
theorem dX3_readLaw_65 : decode cX3_readLaw 65 = .ok (.ifCond .ne 5, 3) := by decide +kernel
theorem dX3_readLaw_68 : decode cX3_readLaw 68 = .ok (.iconst 0, 1) := by decide +kernel
theorem dX3_readLaw_69 : decode cX3_readLaw 69 = .ok (.ireturn, 1) := by decide +kernel
theorem dX3_readLaw_70 : decode cX3_readLaw 70 = .ok (.aload_n 0, 1) := by decide +kernel
theorem dX3_readLaw_71 : decode cX3_readLaw 71 = .ok (.getfield 12, 3) := by decide +kernel
theorem dX3_readLaw_74 : decode cX3_readLaw 74 = .ok (.invokevirtual 63, 3) := by decide +kernel
theorem dX3_readLaw_77 : decode cX3_readLaw 77 = .ok (.aload_n 0, 1) := by decide +kernel
theorem dX3_readLaw_78 : decode cX3_readLaw 78 = .ok (.aload_n 0, 1) := by decide +kernel
theorem dX3_readLaw_79 : decode cX3_readLaw 79 = .ok (.getfield 31, 3) := by decide +kernel
theorem dX3_readLaw_82 : decode cX3_readLaw 82 = .ok (.getfield 166, 3) := by decide +kernel
theorem dX3_readLaw_85 : decode cX3_readLaw 85 = .ok (.iload_n 1, 1) := by decide +kernel
theorem dX3_readLaw_86 : decode cX3_readLaw 86 = .ok (.aaload, 1) := by decide +kernel
theorem dX3_readLaw_87 : decode cX3_readLaw 87 = .ok (.invokevirtual 175, 3) := by decide +kernel
theorem dX3_readLaw_90 : decode cX3_readLaw 90 = .ok (.ireturn, 1) := by decide +kernel
theorem dX3_readFormula_0 : decode cX3_readFormula 0 = .ok (.aload_n 0, 1) := by decide +kernel
theorem dX3_readFormula_1 : decode cX3_readFormula 1 = .ok (.iconst 0, 1) := by decide +kernel
theorem dX3_readFormula_2 : decode cX3_readFormula 2 = .ok (.putfield 179, 3) := by decide +kernel
theorem dX3_readFormula_5 : decode cX3_readFormula 5 = .ok (.aload_n 0, 1) := by decide +kernel
theorem dX3_readFormula_6 : decode cX3_readFormula 6 = .ok (.iconst 0, 1) := by decide +kernel
theorem dX3_readFormula_7 : decode cX3_readFormula 7 = .ok (.putfield 182, 3) := by decide +kernel
theorem dX3_readFormula_10 : decode cX3_readFormula 10 = .ok (.iconst 1, 1) := by decide +kernel
theorem dX3_readFormula_11 : decode cX3_readFormula 11 = .ok (.istore_n 2, 1) := by decide +kernel
theorem dX3_readFormula_12 : decode cX3_readFormula 12 = .ok (.iconst 1, 1) := by decide +kernel
theorem dX3_readFormula_13 : decode cX3_readFormula 13 = .ok (.istore_n 3, 1) := by decide +kernel
theorem dX3_readFormula_14 : decode cX3_readFormula 14 = .ok (.iconst 0, 1) := by decide +kernel
theorem dX3_readFormula_15 : decode cX3_readFormula 15 = .ok (.istore 4, 2) := by decide +kernel
theorem dX3_readFormula_17 : decode cX3_readFormula 17 = .ok (.iload 4, 2) := by decide +kernel
theorem dX3_readFormula_19 : decode cX3_readFormula 19 = .ok (.sipush 700, 3) := by decide +kernel
theorem dX3_readFormula_22 : decode cX3_readFormula 22 = .ok (.if_icmp .gt 125, 3) := by decide +kernel
theorem dX3_readFormula_25 : decode cX3_readFormula 25 = .ok (.iload_n 3, 1) := by decide +kernel
theorem dX3_readFormula_26 : decode cX3_readFormula 26 = .ok (.ifCond .eq 121, 3) := by decide +kernel
theorem dX3_readFormula_29 : decode cX3_readFormula 29 = .ok (.iload_n 2, 1) := by decide +kernel
theorem dX3_readFormula_30 : decode cX3_readFormula 30 = .ok (.ifCond .eq 42, 3) := by decide +kernel
theorem dX3_readFormula_33 : decode cX3_readFormula 33 = .ok (.aload_n 0, 1) := by decide +kernel
theorem dX3_readFormula_34 : decode cX3_readFormula 34 = .ok (.getfield 12, 3) := by decide +kernel
theorem dX3_readFormula_37 : decode cX3_readFormula 37 = .ok (.getfield 52, 3) := by decide +kernel
theorem dX3_readFormula_40 : decode cX3_readFormula 40 = .ok (.bipush 39, 2) := by decide +kernel
theorem dX3_readFormula_42 : decode cX3_readFormula 42 = .ok (.if_icmp .eq 15, 3) := by decide +kernel
theorem dX3_readFormula_45 : decode cX3_readFormula 45 = .ok (.aload_n 0, 1) := by decide +kernel
theorem dX3_readFormula_46 : decode cX3_readFormula 46 = .ok (.getfield 12, 3) := by decide +kernel
theorem dX3_readFormula_49 : decode cX3_readFormula 49 = .ok (.getfield 52, 3) := by decide +kernel
theorem dX3_readFormula_52 : decode cX3_readFormula 52 = .ok (.bipush 21, 2) := by decide +kernel
theorem dX3_readFormula_54 : decode cX3_readFormula 54 = .ok (.if_icmp .ne 7, 3) := by decide +kernel
theorem dX3_readFormula_57 : decode cX3_readFormula 57 = .ok (.iconst 1, 1) := by decide +kernel
theorem dX3_readFormula_58 : decode cX3_readFormula 58 = .ok (.goto 4, 3) := by decide +kernel
theorem dX3_readFormula_61 : decode cX3_readFormula 61 = .ok (.iconst 0, 1) := by decide +kernel
theorem dX3_readFormula_62 : decode cX3_readFormula 62 = .ok (.istore_n 2, 1) := by decide +kernel
theorem dX3_readFormula_63 : decode cX3_readFormula 63 = .ok (.aload_n 0, 1) := by decide +kernel
theorem dX3_readFormula_64 : decode cX3_readFormula 64 = .ok (.aload_n 1, 1) := by decide +kernel
theorem dX3_readFormula_65 : decode cX3_readFormula 65 = .ok (.invokevirtual 185, 3) := by decide +kernel
theorem dX3_readFormula_68 : decode cX3_readFormula 68 = .ok (.istore_n 3, 1) := by decide +kernel
theorem dX3_readFormula_69 : decode cX3_readFormula 69 = .ok (.goto 61, 3) := by decide +kernel
theorem dX3_readFormula_72 : decode cX3_readFormula 72 = .ok (.aload_n 0, 1) := by decide +kernel
theorem dX3_readFormula_73 : decode cX3_readFormula 73 = .ok (.getfield 12, 3) := by decide +kernel
theorem dX3_readFormula_76 : decode cX3_readFormula 76 = .ok (.getfield 52, 3) := by decide +kernel
theorem dX3_readFormula_79 : decode cX3_readFormula 79 = .ok (.invokestatic 188, 3) := by decide +kernel
theorem dX3_readFormula_82 : decode cX3_readFormula 82 = .ok (.ifCond .eq 14, 3) := by decide +kernel
theorem dX3_readFormula_85 : decode cX3_readFormula 85 = .ok (.iconst 1, 1) := by decide +kernel
theorem dX3_readFormula_86 : decode cX3_readFormula 86 = .ok (.istore_n 2, 1) := by decide +kernel
theorem dX3_readFormula_87 : decode cX3_readFormula 87 = .ok (.aload_n 0, 1) := by decide +kernel
theorem dX3_readFormula_88 : decode cX3_readFormula 88 = .ok (.aload_n 1, 1) := by decide +kernel
theorem dX3_readFormula_89 : decode cX3_readFormula 89 = .ok (.invokevirtual 192, 3) := by decide +kernel
theorem dX3_readFormula_92 : decode cX3_readFormula 92 = .ok (.istore_n 3, 1) := by decide +kernel
theorem dX3_readFormula_93 : decode cX3_readFormula 93 = .ok (.goto 37, 3) := by decide +kernel
theorem dX3_readFormula_96 : decode cX3_readFormula 96 = .ok (.aload_n 0, 1) := by decide +kernel
theorem dX3_readFormula_97 : decode cX3_readFormula 97 = .ok (.getfield 12, 3) := by decide +kernel
theorem dX3_readFormula_100 : decode cX3_readFormula 100 = .ok (.getfield 52, 3) := by decide +kernel
theorem dX3_readFormula_103 : decode cX3_readFormula 103 = .ok (.bipush 40, 2) := by decide +kernel
theorem dX3_readFormula_105 : decode cX3_readFormula 105 = .ok (.if_icmp .ne 14, 3) := by decide +kernel
theorem dX3_readFormula_108 : decode cX3_readFormula 108 = .ok (.aload_n 0, 1) := by decide +kernel
theorem dX3_readFormula_109 : decode cX3_readFormula 109 = .ok (.getfield 182, 3) := by decide +kernel
theorem dX3_readFormula_112 : decode cX3_readFormula 112 = .ok (.ifCond .le 7, 3) := by decide +kernel
theorem dX3_readFormula_115 : decode cX3_readFormula 115 = .ok (.iconst 1, 1) := by decide +kernel
theorem dX3_readFormula_116 : decode cX3_readFormula 116 = .ok (.goto 4, 3) := by decide +kernel
theorem dX3_readFormula_119 : decode cX3_readFormula 119 = .ok (.iconst 0, 1) := by decide +kernel
theorem dX3_readFormula_120 : decode cX3_readFormula 120 = .ok (.istore_n 3, 1) := by decide +kernel
theorem dX3_readFormula_121 : decode cX3_readFormula 121 = .ok (.iload_n 3, 1) := by decide +kernel
theorem dX3_readFormula_122 : decode cX3_readFormula 122 = .ok (.ifCond .eq 8, 3) := by decide +kernel
theorem dX3_readFormula_125 : decode cX3_readFormula 125 = .ok (.aload_n 0, 1) := by decide +kernel
theorem dX3_readFormula_126 : decode cX3_readFormula 126 = .ok (.aload_n 1, 1) := by decide +kernel
theorem dX3_readFormula_127 : decode cX3_readFormula 127 = .ok (.invokevirtual 195, 3) := by decide +kernel
theorem dX3_readFormula_130 : decode cX3_readFormula 130 = .ok (.iload_n 3, 1) := by decide +kernel
theorem dX3_readFormula_131 : decode cX3_readFormula 131 = .ok (.ifCond .eq 10, 3) := by decide +kernel
theorem dX3_readFormula_134 : decode cX3_readFormula 134 = .ok (.aload_n 0, 1) := by decide +kernel
theorem dX3_readFormula_135 : decode cX3_readFormula 135 = .ok (.getfield 12, 3) := by decide +kernel
theorem dX3_readFormula_138 : decode cX3_readFormula 138 = .ok (.invokevirtual 63, 3) := by decide +kernel
theorem dX3_readFormula_141 : decode cX3_readFormula 141 = .ok (.iinc 4 1, 3) := by decide +kernel
theorem dX3_readFormula_144 : decode cX3_readFormula 144 = .ok (.goto (-127), 3) := by decide +kernel
theorem dX3_readFormula_147 : decode cX3_readFormula 147 = .ok (.aload_n 0, 1) := by decide +kernel
theorem dX3_readFormula_148 : decode cX3_readFormula 148 = .ok (.aload_n 1, 1) := by decide +kernel
theorem dX3_readFormula_149 : decode cX3_readFormula 149 = .ok (.iconst 1, 1) := by decide +kernel
theorem dX3_readFormula_150 : decode cX3_readFormula 150 = .ok (.invokevirtual 199, 3) := by decide +kernel
theorem dX3_readFormula_153 : decode cX3_readFormula 153 = .ok (.aload_n 0, 1) := by decide +kernel
theorem dX3_readFormula_154 : decode cX3_readFormula 154 = .ok (.getfield 18, 3) := by decide +kernel
theorem dX3_readFormula_157 : decode cX3_readFormula 157 = .ok (.ifCond .ne 27, 3) := by decide +kernel
theorem dX3_readFormula_160 : decode cX3_readFormula 160 = .ok (.aload_n 0, 1) := by decide +kernel
theorem dX3_readFormula_161 : decode cX3_readFormula 161 = .ok (.aload_n 0, 1) := by decide +kernel
theorem dX3_readFormula_162 : decode cX3_readFormula 162 = .ok (.getfield 182, 3) := by decide +kernel
theorem dX3_readFormula_165 : decode cX3_readFormula 165 = .ok (.ifCond .ne 7, 3) := by decide +kernel
theorem dX3_readFormula_168 : decode cX3_readFormula 168 = .ok (.iconst 1, 1) := by decide +kernel
theorem dX3_readFormula_169 : decode cX3_readFormula 169 = .ok (.goto 4, 3) := by decide +kernel
theorem dX3_readFormula_172 : decode cX3_readFormula 172 = .ok (.iconst 0, 1) := by decide +kernel
theorem dX3_readFormula_173 : decode cX3_readFormula 173 = .ok (.iconst 1, 1) := by decide +kernel
theorem dX3_readFormula_174 : decode cX3_readFormula 174 = .ok (.invokevirtual 59, 3) := by decide +kernel
theorem dX3_readFormula_177 : decode cX3_readFormula 177 = .ok (.ifCond .eq 7, 3) := by decide +kernel
theorem dX3_readFormula_180 : decode cX3_readFormula 180 = .ok (.iconst 1, 1) := by decide +kernel
theorem dX3_readFormula_181 : decode cX3_readFormula 181 = .ok (.goto 4, 3) := by decide +kernel
theorem dX3_readFormula_184 : decode cX3_readFormula 184 = .ok (.iconst 0, 1) := by decide +kernel
theorem dX3_readFormula_185 : decode cX3_readFormula 185 = .ok (.ireturn, 1) := by decide +kernel
theorem dX3_isFact_0 : decode cX3_isFact 0 = .ok (.iload_n 0, 1) := by decide +kernel
theorem dX3_isFact_1 : decode cX3_isFact 1 = .ok (.bipush 22, 2) := by decide +kernel
theorem dX3_isFact_3 : decode cX3_isFact 3 = .ok (.if_icmp .lt 13, 3) := by decide +kernel
theorem dX3_isFact_6 : decode cX3_isFact 6 = .ok (.iload_n 0, 1) := by decide +kernel
theorem dX3_isFact_7 : decode cX3_isFact 7 = .ok (.bipush 28, 2) := by decide +kernel
theorem dX3_isFact_9 : decode cX3_isFact 9 = .ok (.if_icmp .gt 7, 3) := by decide +kernel
theorem dX3_isFact_12 : decode cX3_isFact 12 = .ok (.iconst 1, 1) := by decide +kernel
theorem dX3_isFact_13 : decode cX3_isFact 13 = .ok (.goto 4, 3) := by decide +kernel
theorem dX3_isFact_16 : decode cX3_isFact 16 = .ok (.iconst 0, 1) := by decide +kernel
theorem dX3_isFact_17 : decode cX3_isFact 17 = .ok (.ireturn, 1) := by decide +kernel
theorem dX3_isJoining_0 : decode cX3_isJoining 0 = .ok (.iload_n 0, 1) := by decide +kernel
theorem dX3_isJoining_1 : decode cX3_isJoining 1 = .ok (.bipush 19, 2) := by decide +kernel
theorem dX3_isJoining_3 : decode cX3_isJoining 3 = .ok (.if_icmp .eq 21, 3) := by decide +kernel
theorem dX3_isJoining_6 : decode cX3_isJoining 6 = .ok (.iload_n 0, 1) := by decide +kernel
theorem dX3_isJoining_7 : decode cX3_isJoining 7 = .ok (.bipush 20, 2) := by decide +kernel
theorem dX3_isJoining_9 : decode cX3_isJoining 9 = .ok (.if_icmp .eq 15, 3) := by decide +kernel
theorem dX3_isJoining_12 : decode cX3_isJoining 12 = .ok (.iload_n 0, 1) := by decide +kernel
theorem dX3_isJoining_13 : decode cX3_isJoining 13 = .ok (.bipush 29, 2) := by decide +kernel
theorem dX3_isJoining_15 : decode cX3_isJoining 15 = .ok (.if_icmp .lt 13, 3) := by decide +kernel
theorem dX3_isJoining_18 : decode cX3_isJoining 18 = .ok (.iload_n 0, 1) := by decide +kernel
theorem dX3_isJoining_19 : decode cX3_isJoining 19 = .ok (.bipush 38, 2) := by decide +kernel
theorem dX3_isJoining_21 : decode cX3_isJoining 21 = .ok (.if_icmp .gt 7, 3) := by decide +kernel
theorem dX3_isJoining_24 : decode cX3_isJoining 24 = .ok (.iconst 1, 1) := by decide +kernel
theorem dX3_isJoining_25 : decode cX3_isJoining 25 = .ok (.goto 4, 3) := by decide +kernel
theorem dX3_isJoining_28 : decode cX3_isJoining 28 = .ok (.iconst 0, 1) := by decide +kernel
theorem dX3_isJoining_29 : decode cX3_isJoining 29 = .ok (.ireturn, 1) := by decide +kernel
theorem dX3_latestBinds_0 : decode cX3_latestBinds 0 = .ok (.aload_n 0, 1) := by decide +kernel
theorem dX3_latestBinds_1 : decode cX3_latestBinds 1 = .ok (.getfield 179, 3) := by decide +kernel
theorem dX3_latestBinds_4 : decode cX3_latestBinds 4 = .ok (.ifCond .ne 7, 3) := by decide +kernel
theorem dX3_latestBinds_7 : decode cX3_latestBinds 7 = .ok (.iconst (-1), 1) := by decide +kernel
theorem dX3_latestBinds_8 : decode cX3_latestBinds 8 = .ok (.goto 18, 3) := by decide +kernel
theorem dX3_latestBinds_11 : decode cX3_latestBinds 11 = .ok (.getstatic 203, 3) := by decide +kernel
theorem dX3_latestBinds_14 : decode cX3_latestBinds 14 = .ok (.aload_n 0, 1) := by decide +kernel
theorem dX3_latestBinds_15 : decode cX3_latestBinds 15 = .ok (.getfield 35, 3) := by decide +kernel
theorem dX3_latestBinds_18 : decode cX3_latestBinds 18 = .ok (.aload_n 0, 1) := by decide +kernel
theorem dX3_latestBinds_19 : decode cX3_latestBinds 19 = .ok (.getfield 179, 3) := by decide +kernel
theorem dX3_latestBinds_22 : decode cX3_latestBinds 22 = .ok (.iconst 1, 1) := by decide +kernel
theorem dX3_latestBinds_23 : decode cX3_latestBinds 23 = .ok (.isub, 1) := by decide +kernel
theorem dX3_latestBinds_24 : decode cX3_latestBinds 24 = .ok (.iaload, 1) := by decide +kernel
theorem dX3_latestBinds_25 : decode cX3_latestBinds 25 = .ok (.iaload, 1) := by decide +kernel
theorem dX3_latestBinds_26 : decode cX3_latestBinds 26 = .ok (.ireturn, 1) := by decide +kernel
theorem dX3_readOperand_0 : decode cX3_readOperand 0 = .ok (.aload_n 0, 1) := by decide +kernel
theorem dX3_readOperand_1 : decode cX3_readOperand 1 = .ok (.getfield 12, 3) := by decide +kernel
theorem dX3_readOperand_4 : decode cX3_readOperand 4 = .ok (.getfield 52, 3) := by decide +kernel
theorem dX3_readOperand_7 : decode cX3_readOperand 7 = .ok (.istore_n 2, 1) := by decide +kernel
theorem dX3_readOperand_8 : decode cX3_readOperand 8 = .ok (.iload_n 2, 1) := by decide +kernel
theorem dX3_readOperand_9 : decode cX3_readOperand 9 = .ok (.bipush 39, 2) := by decide +kernel
theorem dX3_readOperand_11 : decode cX3_readOperand 11 = .ok (.if_icmp .ne 38, 3) := by decide +kernel
theorem dX3_readOperand_14 : decode cX3_readOperand 14 = .ok (.aload_n 0, 1) := by decide +kernel
theorem dX3_readOperand_15 : decode cX3_readOperand 15 = .ok (.aload_n 0, 1) := by decide +kernel
theorem dX3_readOperand_16 : decode cX3_readOperand 16 = .ok (.getfield 182, 3) := by decide +kernel
theorem dX3_readOperand_19 : decode cX3_readOperand 19 = .ok (.bipush 8, 2) := by decide +kernel
theorem dX3_readOperand_21 : decode cX3_readOperand 21 = .ok (.if_icmp .ge 7, 3) := by decide +kernel
theorem dX3_readOperand_24 : decode cX3_readOperand 24 = .ok (.iconst 1, 1) := by decide +kernel
theorem dX3_readOperand_25 : decode cX3_readOperand 25 = .ok (.goto 4, 3) := by decide +kernel
theorem dX3_readOperand_28 : decode cX3_readOperand 28 = .ok (.iconst 0, 1) := by decide +kernel
theorem dX3_readOperand_29 : decode cX3_readOperand 29 = .ok (.iconst 2, 1) := by decide +kernel
theorem dX3_readOperand_30 : decode cX3_readOperand 30 = .ok (.invokevirtual 59, 3) := by decide +kernel
theorem dX3_readOperand_33 : decode cX3_readOperand 33 = .ok (.ifCond .eq 14, 3) := by decide +kernel
theorem dX3_readOperand_36 : decode cX3_readOperand 36 = .ok (.aload_n 0, 1) := by decide +kernel
theorem dX3_readOperand_37 : decode cX3_readOperand 37 = .ok (.invokevirtual 206, 3) := by decide +kernel
theorem dX3_readOperand_40 : decode cX3_readOperand 40 = .ok (.ifCond .eq 7, 3) := by decide +kernel
theorem dX3_readOperand_43 : decode cX3_readOperand 43 = .ok (.iconst 1, 1) := by decide +kernel
theorem dX3_readOperand_44 : decode cX3_readOperand 44 = .ok (.goto 4, 3) := by decide +kernel
theorem dX3_readOperand_47 : decode cX3_readOperand 47 = .ok (.iconst 0, 1) := by decide +kernel
theorem dX3_readOperand_48 : decode cX3_readOperand 48 = .ok (.ireturn, 1) := by decide +kernel
theorem dX3_readOperand_49 : decode cX3_readOperand 49 = .ok (.iload_n 2, 1) := by decide +kernel
theorem dX3_readOperand_50 : decode cX3_readOperand 50 = .ok (.bipush 21, 2) := by decide +kernel
theorem dX3_readOperand_52 : decode cX3_readOperand 52 = .ok (.if_icmp .ne 49, 3) := by decide +kernel
theorem dX3_readOperand_55 : decode cX3_readOperand 55 = .ok (.aload_n 0, 1) := by decide +kernel
theorem dX3_readOperand_56 : decode cX3_readOperand 56 = .ok (.aload_n 0, 1) := by decide +kernel
theorem dX3_readOperand_57 : decode cX3_readOperand 57 = .ok (.invokevirtual 209, 3) := by decide +kernel
theorem dX3_readOperand_60 : decode cX3_readOperand 60 = .ok (.getstatic 203, 3) := by decide +kernel
theorem dX3_readOperand_63 : decode cX3_readOperand 63 = .ok (.iload_n 2, 1) := by decide +kernel
theorem dX3_readOperand_64 : decode cX3_readOperand 64 = .ok (.iaload, 1) := by decide +kernel
theorem dX3_readOperand_65 : decode cX3_readOperand 65 = .ok (.if_icmp .gt 7, 3) := by decide +kernel
theorem dX3_readOperand_68 : decode cX3_readOperand 68 = .ok (.iconst 1, 1) := by decide +kernel
theorem dX3_readOperand_69 : decode cX3_readOperand 69 = .ok (.goto 4, 3) := by decide +kernel
theorem dX3_readOperand_72 : decode cX3_readOperand 72 = .ok (.iconst 0, 1) := by decide +kernel
theorem dX3_readOperand_73 : decode cX3_readOperand 73 = .ok (.iconst 1, 1) := by decide +kernel
theorem dX3_readOperand_74 : decode cX3_readOperand 74 = .ok (.invokevirtual 59, 3) := by decide +kernel
theorem dX3_readOperand_77 : decode cX3_readOperand 77 = .ok (.ifCond .eq 22, 3) := by decide +kernel
theorem dX3_readOperand_80 : decode cX3_readOperand 80 = .ok (.aload_n 0, 1) := by decide +kernel
theorem dX3_readOperand_81 : decode cX3_readOperand 81 = .ok (.invokevirtual 213, 3) := by decide +kernel
theorem dX3_readOperand_84 : decode cX3_readOperand 84 = .ok (.ifCond .eq 15, 3) := by decide +kernel
theorem dX3_readOperand_87 : decode cX3_readOperand 87 = .ok (.aload_n 0, 1) := by decide +kernel
theorem dX3_readOperand_88 : decode cX3_readOperand 88 = .ok (.iload_n 2, 1) := by decide +kernel
theorem dX3_readOperand_89 : decode cX3_readOperand 89 = .ok (.invokevirtual 216, 3) := by decide +kernel
theorem dX3_readOperand_92 : decode cX3_readOperand 92 = .ok (.ifCond .eq 7, 3) := by decide +kernel
theorem dX3_readOperand_95 : decode cX3_readOperand 95 = .ok (.iconst 1, 1) := by decide +kernel
theorem dX3_readOperand_96 : decode cX3_readOperand 96 = .ok (.goto 4, 3) := by decide +kernel
theorem dX3_readOperand_99 : decode cX3_readOperand 99 = .ok (.iconst 0, 1) := by decide +kernel
theorem dX3_readOperand_100 : decode cX3_readOperand 100 = .ok (.ireturn, 1) := by decide +kernel
theorem dX3_readOperand_101 : decode cX3_readOperand 101 = .ok (.iload_n 2, 1) := by decide +kernel
theorem dX3_readOperand_102 : decode cX3_readOperand 102 = .ok (.bipush 42, 2) := by decide +kernel
theorem dX3_readOperand_104 : decode cX3_readOperand 104 = .ok (.if_icmp .ne 58, 3) := by decide +kernel
theorem dX3_readOperand_107 : decode cX3_readOperand 107 = .ok (.aload_n 0, 1) := by decide +kernel
theorem dX3_readOperand_108 : decode cX3_readOperand 108 = .ok (.aload_n 0, 1) := by decide +kernel
theorem dX3_readOperand_109 : decode cX3_readOperand 109 = .ok (.getfield 12, 3) := by decide +kernel
theorem dX3_readOperand_112 : decode cX3_readOperand 112 = .ok (.getfield 93, 3) := by decide +kernel
theorem dX3_readOperand_115 : decode cX3_readOperand 115 = .ok (.sipush 10000, 3) := by decide +kernel
theorem dX3_readOperand_118 : decode cX3_readOperand 118 = .ok (.if_icmp .ge 7, 3) := by decide +kernel
theorem dX3_readOperand_121 : decode cX3_readOperand 121 = .ok (.iconst 1, 1) := by decide +kernel
theorem dX3_readOperand_122 : decode cX3_readOperand 122 = .ok (.goto 4, 3) := by decide +kernel
theorem dX3_readOperand_125 : decode cX3_readOperand 125 = .ok (.iconst 0, 1) := by decide +kernel
theorem dX3_readOperand_126 : decode cX3_readOperand 126 = .ok (.iconst 2, 1) := by decide +kernel
theorem dX3_readOperand_127 : decode cX3_readOperand 127 = .ok (.invokevirtual 59, 3) := by decide +kernel
theorem dX3_readOperand_130 : decode cX3_readOperand 130 = .ok (.istore_n 3, 1) := by decide +kernel
theorem dX3_readOperand_131 : decode cX3_readOperand 131 = .ok (.iload_n 3, 1) := by decide +kernel
theorem dX3_readOperand_132 : decode cX3_readOperand 132 = .ok (.ifCond .eq 28, 3) := by decide +kernel
theorem dX3_readOperand_135 : decode cX3_readOperand 135 = .ok (.aload_n 0, 1) := by decide +kernel
theorem dX3_readOperand_136 : decode cX3_readOperand 136 = .ok (.invokevirtual 213, 3) := by decide +kernel
theorem dX3_readOperand_139 : decode cX3_readOperand 139 = .ok (.ifCond .eq 21, 3) := by decide +kernel
theorem dX3_readOperand_142 : decode cX3_readOperand 142 = .ok (.aload_n 1, 1) := by decide +kernel
theorem dX3_readOperand_143 : decode cX3_readOperand 143 = .ok (.aload_n 0, 1) := by decide +kernel
theorem dX3_readOperand_144 : decode cX3_readOperand 144 = .ok (.getfield 12, 3) := by decide +kernel
theorem dX3_readOperand_147 : decode cX3_readOperand 147 = .ok (.getfield 93, 3) := by decide +kernel
theorem dX3_readOperand_150 : decode cX3_readOperand 150 = .ok (.invokestatic 219, 3) := by decide +kernel
theorem dX3_readOperand_153 : decode cX3_readOperand 153 = .ok (.ifCond .eq 7, 3) := by decide +kernel
theorem dX3_readOperand_156 : decode cX3_readOperand 156 = .ok (.iconst 1, 1) := by decide +kernel
theorem dX3_readOperand_157 : decode cX3_readOperand 157 = .ok (.goto 4, 3) := by decide +kernel
theorem dX3_readOperand_160 : decode cX3_readOperand 160 = .ok (.iconst 0, 1) := by decide +kernel
theorem dX3_readOperand_161 : decode cX3_readOperand 161 = .ok (.ireturn, 1) := by decide +kernel
theorem dX3_readOperand_162 : decode cX3_readOperand 162 = .ok (.aload_n 0, 1) := by decide +kernel
theorem dX3_readOperand_163 : decode cX3_readOperand 163 = .ok (.iload_n 2, 1) := by decide +kernel
theorem dX3_readOperand_164 : decode cX3_readOperand 164 = .ok (.invokestatic 223, 3) := by decide +kernel
theorem dX3_readOperand_167 : decode cX3_readOperand 167 = .ok (.iconst 1, 1) := by decide +kernel
theorem dX3_readOperand_168 : decode cX3_readOperand 168 = .ok (.invokevirtual 59, 3) := by decide +kernel
theorem dX3_readOperand_171 : decode cX3_readOperand 171 = .ok (.ifCond .eq 26, 3) := by decide +kernel
theorem dX3_readOperand_174 : decode cX3_readOperand 174 = .ok (.aload_n 0, 1) := by decide +kernel
theorem dX3_readOperand_175 : decode cX3_readOperand 175 = .ok (.invokevirtual 213, 3) := by decide +kernel
theorem dX3_readOperand_178 : decode cX3_readOperand 178 = .ok (.ifCond .eq 19, 3) := by decide +kernel
theorem dX3_readOperand_181 : decode cX3_readOperand 181 = .ok (.aload_n 1, 1) := by decide +kernel
theorem dX3_readOperand_182 : decode cX3_readOperand 182 = .ok (.sipush 10000, 3) := by decide +kernel
theorem dX3_readOperand_185 : decode cX3_readOperand 185 = .ok (.iload_n 2, 1) := by decide +kernel
theorem dX3_readOperand_186 : decode cX3_readOperand 186 = .ok (.iadd, 1) := by decide +kernel
theorem dX3_readOperand_187 : decode cX3_readOperand 187 = .ok (.invokestatic 219, 3) := by decide +kernel
theorem dX3_readOperand_190 : decode cX3_readOperand 190 = .ok (.ifCond .eq 7, 3) := by decide +kernel
theorem dX3_readOperand_193 : decode cX3_readOperand 193 = .ok (.iconst 1, 1) := by decide +kernel
theorem dX3_readOperand_194 : decode cX3_readOperand 194 = .ok (.goto 4, 3) := by decide +kernel
theorem dX3_readOperand_197 : decode cX3_readOperand 197 = .ok (.iconst 0, 1) := by decide +kernel
theorem dX3_readOperand_198 : decode cX3_readOperand 198 = .ok (.ireturn, 1) := by decide +kernel
theorem dX3_readJoining_0 : decode cX3_readJoining 0 = .ok (.getstatic 203, 3) := by decide +kernel
theorem dX3_readJoining_3 : decode cX3_readJoining 3 = .ok (.aload_n 0, 1) := by decide +kernel
theorem dX3_readJoining_4 : decode cX3_readJoining 4 = .ok (.getfield 12, 3) := by decide +kernel
theorem dX3_readJoining_7 : decode cX3_readJoining 7 = .ok (.getfield 52, 3) := by decide +kernel
theorem dX3_readJoining_10 : decode cX3_readJoining 10 = .ok (.iaload, 1) := by decide +kernel
theorem dX3_readJoining_11 : decode cX3_readJoining 11 = .ok (.istore_n 2, 1) := by decide +kernel
theorem dX3_readJoining_12 : decode cX3_readJoining 12 = .ok (.iload_n 2, 1) := by decide +kernel
theorem dX3_readJoining_13 : decode cX3_readJoining 13 = .ok (.iconst 4, 1) := by decide +kernel
theorem dX3_readJoining_14 : decode cX3_readJoining 14 = .ok (.if_icmp .ne 7, 3) := by decide +kernel
theorem dX3_readJoining_17 : decode cX3_readJoining 17 = .ok (.iconst 1, 1) := by decide +kernel
theorem dX3_readJoining_18 : decode cX3_readJoining 18 = .ok (.goto 4, 3) := by decide +kernel
theorem dX3_readJoining_21 : decode cX3_readJoining 21 = .ok (.iconst 0, 1) := by decide +kernel
theorem dX3_readJoining_22 : decode cX3_readJoining 22 = .ok (.istore_n 3, 1) := by decide +kernel
theorem dX3_readJoining_23 : decode cX3_readJoining 23 = .ok (.aload_n 0, 1) := by decide +kernel
theorem dX3_readJoining_24 : decode cX3_readJoining 24 = .ok (.aload_n 1, 1) := by decide +kernel
theorem dX3_readJoining_25 : decode cX3_readJoining 25 = .ok (.iload_n 3, 1) := by decide +kernel
theorem dX3_readJoining_26 : decode cX3_readJoining 26 = .ok (.ifCond .eq 9, 3) := by decide +kernel
theorem dX3_readJoining_29 : decode cX3_readJoining 29 = .ok (.iload_n 2, 1) := by decide +kernel
theorem dX3_readJoining_30 : decode cX3_readJoining 30 = .ok (.iconst 1, 1) := by decide +kernel
theorem dX3_readJoining_31 : decode cX3_readJoining 31 = .ok (.iadd, 1) := by decide +kernel
theorem dX3_readJoining_32 : decode cX3_readJoining 32 = .ok (.goto 4, 3) := by decide +kernel
theorem dX3_readJoining_35 : decode cX3_readJoining 35 = .ok (.iload_n 2, 1) := by decide +kernel
theorem dX3_readJoining_36 : decode cX3_readJoining 36 = .ok (.invokevirtual 199, 3) := by decide +kernel
theorem dX3_readJoining_39 : decode cX3_readJoining 39 = .ok (.aload_n 0, 1) := by decide +kernel
theorem dX3_readJoining_40 : decode cX3_readJoining 40 = .ok (.iload_n 3, 1) := by decide +kernel
theorem dX3_readJoining_41 : decode cX3_readJoining 41 = .ok (.ifCond .eq 11, 3) := by decide +kernel
theorem dX3_readJoining_44 : decode cX3_readJoining 44 = .ok (.aload_n 0, 1) := by decide +kernel
theorem dX3_readJoining_45 : decode cX3_readJoining 45 = .ok (.invokevirtual 209, 3) := by decide +kernel
theorem dX3_readJoining_48 : decode cX3_readJoining 48 = .ok (.iload_n 2, 1) := by decide +kernel
theorem dX3_readJoining_49 : decode cX3_readJoining 49 = .ok (.if_icmp .ge 7, 3) := by decide +kernel
theorem dX3_readJoining_52 : decode cX3_readJoining 52 = .ok (.iconst 1, 1) := by decide +kernel
theorem dX3_readJoining_53 : decode cX3_readJoining 53 = .ok (.goto 4, 3) := by decide +kernel
theorem dX3_readJoining_56 : decode cX3_readJoining 56 = .ok (.iconst 0, 1) := by decide +kernel
theorem dX3_readJoining_57 : decode cX3_readJoining 57 = .ok (.iconst 1, 1) := by decide +kernel
theorem dX3_readJoining_58 : decode cX3_readJoining 58 = .ok (.invokevirtual 59, 3) := by decide +kernel
theorem dX3_readJoining_61 : decode cX3_readJoining 61 = .ok (.ifCond .eq 28, 3) := by decide +kernel
theorem dX3_readJoining_64 : decode cX3_readJoining 64 = .ok (.aload_n 0, 1) := by decide +kernel
theorem dX3_readJoining_65 : decode cX3_readJoining 65 = .ok (.invokevirtual 213, 3) := by decide +kernel
theorem dX3_readJoining_68 : decode cX3_readJoining 68 = .ok (.ifCond .eq 21, 3) := by decide +kernel
theorem dX3_readJoining_71 : decode cX3_readJoining 71 = .ok (.aload_n 0, 1) := by decide +kernel
theorem dX3_readJoining_72 : decode cX3_readJoining 72 = .ok (.aload_n 0, 1) := by decide +kernel
theorem dX3_readJoining_73 : decode cX3_readJoining 73 = .ok (.getfield 12, 3) := by decide +kernel
theorem dX3_readJoining_76 : decode cX3_readJoining 76 = .ok (.getfield 52, 3) := by decide +kernel
theorem dX3_readJoining_79 : decode cX3_readJoining 79 = .ok (.invokevirtual 216, 3) := by decide +kernel
theorem dX3_readJoining_82 : decode cX3_readJoining 82 = .ok (.ifCond .eq 7, 3) := by decide +kernel
theorem dX3_readJoining_85 : decode cX3_readJoining 85 = .ok (.iconst 1, 1) := by decide +kernel
theorem dX3_readJoining_86 : decode cX3_readJoining 86 = .ok (.goto 4, 3) := by decide +kernel
theorem dX3_readJoining_89 : decode cX3_readJoining 89 = .ok (.iconst 0, 1) := by decide +kernel
theorem dX3_readJoining_90 : decode cX3_readJoining 90 = .ok (.ireturn, 1) := by decide +kernel
theorem dX3_openBracket_0 : decode cX3_openBracket 0 = .ok (.aload_n 0, 1) := by decide +kernel
theorem dX3_openBracket_1 : decode cX3_openBracket 1 = .ok (.dup, 1) := by decide +kernel
theorem dX3_openBracket_2 : decode cX3_openBracket 2 = .ok (.getfield 182, 3) := by decide +kernel
theorem dX3_openBracket_5 : decode cX3_openBracket 5 = .ok (.iconst 1, 1) := by decide +kernel
theorem dX3_openBracket_6 : decode cX3_openBracket 6 = .ok (.iadd, 1) := by decide +kernel
theorem dX3_openBracket_7 : decode cX3_openBracket 7 = .ok (.putfield 182, 3) := by decide +kernel
theorem dX3_openBracket_10 : decode cX3_openBracket 10 = .ok (.aload_n 0, 1) := by decide +kernel
theorem dX3_openBracket_11 : decode cX3_openBracket 11 = .ok (.bipush 39, 2) := by decide +kernel
theorem dX3_openBracket_13 : decode cX3_openBracket 13 = .ok (.invokevirtual 216, 3) := by decide +kernel
theorem dX3_openBracket_16 : decode cX3_openBracket 16 = .ok (.ireturn, 1) := by decide +kernel
theorem dX3_closeBracket_0 : decode cX3_closeBracket 0 = .ok (.aload_n 0, 1) := by decide +kernel
theorem dX3_closeBracket_1 : decode cX3_closeBracket 1 = .ok (.aload_n 1, 1) := by decide +kernel
theorem dX3_closeBracket_2 : decode cX3_closeBracket 2 = .ok (.iconst 1, 1) := by decide +kernel
theorem dX3_closeBracket_3 : decode cX3_closeBracket 3 = .ok (.invokevirtual 199, 3) := by decide +kernel
theorem dX3_closeBracket_6 : decode cX3_closeBracket 6 = .ok (.aload_n 0, 1) := by decide +kernel
theorem dX3_closeBracket_7 : decode cX3_closeBracket 7 = .ok (.dup, 1) := by decide +kernel
theorem dX3_closeBracket_8 : decode cX3_closeBracket 8 = .ok (.getfield 179, 3) := by decide +kernel
theorem dX3_closeBracket_11 : decode cX3_closeBracket 11 = .ok (.iconst 1, 1) := by decide +kernel
theorem dX3_closeBracket_12 : decode cX3_closeBracket 12 = .ok (.isub, 1) := by decide +kernel
theorem dX3_closeBracket_13 : decode cX3_closeBracket 13 = .ok (.putfield 179, 3) := by decide +kernel
theorem dX3_closeBracket_16 : decode cX3_closeBracket 16 = .ok (.aload_n 0, 1) := by decide +kernel
theorem dX3_closeBracket_17 : decode cX3_closeBracket 17 = .ok (.dup, 1) := by decide +kernel
theorem dX3_closeBracket_18 : decode cX3_closeBracket 18 = .ok (.getfield 182, 3) := by decide +kernel
theorem dX3_closeBracket_21 : decode cX3_closeBracket 21 = .ok (.iconst 1, 1) := by decide +kernel
theorem dX3_closeBracket_22 : decode cX3_closeBracket 22 = .ok (.isub, 1) := by decide +kernel
theorem dX3_closeBracket_23 : decode cX3_closeBracket 23 = .ok (.putfield 182, 3) := by decide +kernel
theorem dX3_closeBracket_26 : decode cX3_closeBracket 26 = .ok (.return_, 1) := by decide +kernel
theorem dX3_openSign_0 : decode cX3_openSign 0 = .ok (.aload_n 0, 1) := by decide +kernel
theorem dX3_openSign_1 : decode cX3_openSign 1 = .ok (.getfield 179, 3) := by decide +kernel
theorem dX3_openSign_4 : decode cX3_openSign 4 = .ok (.aload_n 0, 1) := by decide +kernel
theorem dX3_openSign_5 : decode cX3_openSign 5 = .ok (.getfield 35, 3) := by decide +kernel
theorem dX3_openSign_8 : decode cX3_openSign 8 = .ok (.arraylength, 1) := by decide +kernel
theorem dX3_openSign_9 : decode cX3_openSign 9 = .ok (.if_icmp .ge 23, 3) := by decide +kernel
theorem dX3_openSign_12 : decode cX3_openSign 12 = .ok (.aload_n 0, 1) := by decide +kernel
theorem dX3_openSign_13 : decode cX3_openSign 13 = .ok (.getfield 35, 3) := by decide +kernel
theorem dX3_openSign_16 : decode cX3_openSign 16 = .ok (.aload_n 0, 1) := by decide +kernel
theorem dX3_openSign_17 : decode cX3_openSign 17 = .ok (.getfield 179, 3) := by decide +kernel
theorem dX3_openSign_20 : decode cX3_openSign 20 = .ok (.iload_n 1, 1) := by decide +kernel
theorem dX3_openSign_21 : decode cX3_openSign 21 = .ok (.iastore, 1) := by decide +kernel
theorem dX3_openSign_22 : decode cX3_openSign 22 = .ok (.aload_n 0, 1) := by decide +kernel
theorem dX3_openSign_23 : decode cX3_openSign 23 = .ok (.dup, 1) := by decide +kernel
theorem dX3_openSign_24 : decode cX3_openSign 24 = .ok (.getfield 179, 3) := by decide +kernel
theorem dX3_openSign_27 : decode cX3_openSign 27 = .ok (.iconst 1, 1) := by decide +kernel
theorem dX3_openSign_28 : decode cX3_openSign 28 = .ok (.iadd, 1) := by decide +kernel
theorem dX3_openSign_29 : decode cX3_openSign 29 = .ok (.putfield 179, 3) := by decide +kernel
theorem dX3_openSign_32 : decode cX3_openSign 32 = .ok (.iconst 1, 1) := by decide +kernel
theorem dX3_openSign_33 : decode cX3_openSign 33 = .ok (.ireturn, 1) := by decide +kernel
theorem dX3_put_0 : decode cX3_put 0 = .ok (.aload_n 0, 1) := by decide +kernel
theorem dX3_put_1 : decode cX3_put 1 = .ok (.iload_n 1, 1) := by decide +kernel
theorem dX3_put_2 : decode cX3_put 2 = .ok (.invokevirtual 226, 3) := by decide +kernel
theorem dX3_put_5 : decode cX3_put 5 = .ok (.iconst 1, 1) := by decide +kernel
theorem dX3_put_6 : decode cX3_put 6 = .ok (.ireturn, 1) := by decide +kernel
theorem dX3_countKnot_0 : decode cX3_countKnot 0 = .ok (.aload_n 0, 1) := by decide +kernel
theorem dX3_countKnot_1 : decode cX3_countKnot 1 = .ok (.aload_n 0, 1) := by decide +kernel
theorem dX3_countKnot_2 : decode cX3_countKnot 2 = .ok (.getfield 31, 3) := by decide +kernel
theorem dX3_countKnot_5 : decode cX3_countKnot 5 = .ok (.getfield 229, 3) := by decide +kernel
theorem dX3_countKnot_8 : decode cX3_countKnot 8 = .ok (.bipush 64, 2) := by decide +kernel
theorem dX3_countKnot_10 : decode cX3_countKnot 10 = .ok (.if_icmp .ge 7, 3) := by decide +kernel
theorem dX3_countKnot_13 : decode cX3_countKnot 13 = .ok (.iconst 1, 1) := by decide +kernel
theorem dX3_countKnot_14 : decode cX3_countKnot 14 = .ok (.goto 4, 3) := by decide +kernel
theorem dX3_countKnot_17 : decode cX3_countKnot 17 = .ok (.iconst 0, 1) := by decide +kernel
theorem dX3_countKnot_18 : decode cX3_countKnot 18 = .ok (.iconst 2, 1) := by decide +kernel
theorem dX3_countKnot_19 : decode cX3_countKnot 19 = .ok (.invokevirtual 59, 3) := by decide +kernel
theorem dX3_countKnot_22 : decode cX3_countKnot 22 = .ok (.ifCond .ne 5, 3) := by decide +kernel
theorem dX3_countKnot_25 : decode cX3_countKnot 25 = .ok (.iconst 0, 1) := by decide +kernel
theorem dX3_countKnot_26 : decode cX3_countKnot 26 = .ok (.ireturn, 1) := by decide +kernel
theorem dX3_countKnot_27 : decode cX3_countKnot 27 = .ok (.aload_n 0, 1) := by decide +kernel
theorem dX3_countKnot_28 : decode cX3_countKnot 28 = .ok (.getfield 31, 3) := by decide +kernel
theorem dX3_countKnot_31 : decode cX3_countKnot 31 = .ok (.dup, 1) := by decide +kernel
theorem dX3_countKnot_32 : decode cX3_countKnot 32 = .ok (.getfield 229, 3) := by decide +kernel
theorem dX3_countKnot_35 : decode cX3_countKnot 35 = .ok (.iconst 1, 1) := by decide +kernel
theorem dX3_countKnot_36 : decode cX3_countKnot 36 = .ok (.iadd, 1) := by decide +kernel
theorem dX3_countKnot_37 : decode cX3_countKnot 37 = .ok (.putfield 229, 3) := by decide +kernel
theorem dX3_countKnot_40 : decode cX3_countKnot 40 = .ok (.iconst 1, 1) := by decide +kernel
theorem dX3_countKnot_41 : decode cX3_countKnot 41 = .ok (.ireturn, 1) := by decide +kernel
theorem dX3_closeSigns_0 : decode cX3_closeSigns 0 = .ok (.aload_n 0, 1) := by decide +kernel
theorem dX3_closeSigns_1 : decode cX3_closeSigns 1 = .ok (.getfield 179, 3) := by decide +kernel
theorem dX3_closeSigns_4 : decode cX3_closeSigns 4 = .ok (.ifCond .le 41, 3) := by decide +kernel
theorem dX3_closeSigns_7 : decode cX3_closeSigns 7 = .ok (.aload_n 0, 1) := by decide +kernel
theorem dX3_closeSigns_8 : decode cX3_closeSigns 8 = .ok (.invokevirtual 209, 3) := by decide +kernel
theorem dX3_closeSigns_11 : decode cX3_closeSigns 11 = .ok (.iload_n 2, 1) := by decide +kernel
theorem dX3_closeSigns_12 : decode cX3_closeSigns 12 = .ok (.if_icmp .lt 33, 3) := by decide +kernel
theorem dX3_closeSigns_15 : decode cX3_closeSigns 15 = .ok (.aload_n 0, 1) := by decide +kernel
theorem dX3_closeSigns_16 : decode cX3_closeSigns 16 = .ok (.dup, 1) := by decide +kernel
theorem dX3_closeSigns_17 : decode cX3_closeSigns 17 = .ok (.getfield 179, 3) := by decide +kernel
theorem dX3_closeSigns_20 : decode cX3_closeSigns 20 = .ok (.iconst 1, 1) := by decide +kernel
theorem dX3_closeSigns_21 : decode cX3_closeSigns 21 = .ok (.isub, 1) := by decide +kernel
theorem dX3_closeSigns_22 : decode cX3_closeSigns 22 = .ok (.putfield 179, 3) := by decide +kernel
theorem dX3_closeSigns_25 : decode cX3_closeSigns 25 = .ok (.aload_n 1, 1) := by decide +kernel
theorem dX3_closeSigns_26 : decode cX3_closeSigns 26 = .ok (.sipush 10000, 3) := by decide +kernel
theorem dX3_closeSigns_29 : decode cX3_closeSigns 29 = .ok (.aload_n 0, 1) := by decide +kernel
theorem dX3_closeSigns_30 : decode cX3_closeSigns 30 = .ok (.getfield 35, 3) := by decide +kernel
theorem dX3_closeSigns_33 : decode cX3_closeSigns 33 = .ok (.aload_n 0, 1) := by decide +kernel
theorem dX3_closeSigns_34 : decode cX3_closeSigns 34 = .ok (.getfield 179, 3) := by decide +kernel
theorem dX3_closeSigns_37 : decode cX3_closeSigns 37 = .ok (.iaload, 1) := by decide +kernel
theorem dX3_closeSigns_38 : decode cX3_closeSigns 38 = .ok (.iadd, 1) := by decide +kernel
theorem dX3_closeSigns_39 : decode cX3_closeSigns 39 = .ok (.invokevirtual 226, 3) := by decide +kernel
theorem dX3_closeSigns_42 : decode cX3_closeSigns 42 = .ok (.goto (-42), 3) := by decide +kernel
theorem dX3_closeSigns_45 : decode cX3_closeSigns 45 = .ok (.return_, 1) := by decide +kernel

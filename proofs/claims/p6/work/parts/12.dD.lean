theorem dX7_init_0 : decode cX7_init 0 = .ok (.aload_n 0, 1) := by decide +kernel
theorem dX7_init_1 : decode cX7_init 1 = .ok (.invokespecial 3, 3) := by decide +kernel
theorem dX7_init_4 : decode cX7_init 4 = .ok (.aload_n 0, 1) := by decide +kernel
theorem dX7_init_5 : decode cX7_init 5 = .ok (.new 9, 3) := by decide +kernel
theorem dX7_init_8 : decode cX7_init 8 = .ok (.dup, 1) := by decide +kernel
theorem dX7_init_9 : decode cX7_init 9 = .ok (.invokespecial 11, 3) := by decide +kernel
theorem dX7_init_12 : decode cX7_init 12 = .ok (.putfield 12, 3) := by decide +kernel
theorem dX7_init_15 : decode cX7_init 15 = .ok (.aload_n 0, 1) := by decide +kernel
theorem dX7_init_16 : decode cX7_init 16 = .ok (.new 18, 3) := by decide +kernel
theorem dX7_init_19 : decode cX7_init 19 = .ok (.dup, 1) := by decide +kernel
theorem dX7_init_20 : decode cX7_init 20 = .ok (.invokespecial 20, 3) := by decide +kernel
theorem dX7_init_23 : decode cX7_init 23 = .ok (.putfield 21, 3) := by decide +kernel
theorem dX7_init_26 : decode cX7_init 26 = .ok (.aload_n 0, 1) := by decide +kernel
theorem dX7_init_27 : decode cX7_init 27 = .ok (.new 25, 3) := by decide +kernel
theorem dX7_init_30 : decode cX7_init 30 = .ok (.dup, 1) := by decide +kernel
theorem dX7_init_31 : decode cX7_init 31 = .ok (.aload_n 0, 1) := by decide +kernel
theorem dX7_init_32 : decode cX7_init 32 = .ok (.getfield 21, 3) := by decide +kernel
theorem dX7_init_35 : decode cX7_init 35 = .ok (.invokespecial 27, 3) := by decide +kernel
theorem dX7_init_38 : decode cX7_init 38 = .ok (.putfield 30, 3) := by decide +kernel
theorem dX7_init_41 : decode cX7_init 41 = .ok (.aload_n 0, 1) := by decide +kernel
theorem dX7_init_42 : decode cX7_init 42 = .ok (.new 25, 3) := by decide +kernel
theorem dX7_init_45 : decode cX7_init 45 = .ok (.dup, 1) := by decide +kernel
theorem dX7_init_46 : decode cX7_init 46 = .ok (.aload_n 0, 1) := by decide +kernel
theorem dX7_init_47 : decode cX7_init 47 = .ok (.getfield 21, 3) := by decide +kernel
theorem dX7_init_50 : decode cX7_init 50 = .ok (.invokespecial 27, 3) := by decide +kernel
theorem dX7_init_53 : decode cX7_init 53 = .ok (.putfield 34, 3) := by decide +kernel
theorem dX7_init_56 : decode cX7_init 56 = .ok (.aload_n 0, 1) := by decide +kernel
theorem dX7_init_57 : decode cX7_init 57 = .ok (.iconst 0, 1) := by decide +kernel
theorem dX7_init_58 : decode cX7_init 58 = .ok (.putfield 37, 3) := by decide +kernel
theorem dX7_init_61 : decode cX7_init 61 = .ok (.aload_n 0, 1) := by decide +kernel
theorem dX7_init_62 : decode cX7_init 62 = .ok (.new 25, 3) := by decide +kernel
theorem dX7_init_65 : decode cX7_init 65 = .ok (.dup, 1) := by decide +kernel
theorem dX7_init_66 : decode cX7_init 66 = .ok (.aload_n 0, 1) := by decide +kernel
theorem dX7_init_67 : decode cX7_init 67 = .ok (.getfield 21, 3) := by decide +kernel
theorem dX7_init_70 : decode cX7_init 70 = .ok (.invokespecial 27, 3) := by decide +kernel
theorem dX7_init_73 : decode cX7_init 73 = .ok (.putfield 41, 3) := by decide +kernel
theorem dX7_init_76 : decode cX7_init 76 = .ok (.aload_n 0, 1) := by decide +kernel
theorem dX7_init_77 : decode cX7_init 77 = .ok (.new 25, 3) := by decide +kernel
theorem dX7_init_80 : decode cX7_init 80 = .ok (.dup, 1) := by decide +kernel
theorem dX7_init_81 : decode cX7_init 81 = .ok (.aload_n 0, 1) := by decide +kernel
theorem dX7_init_82 : decode cX7_init 82 = .ok (.getfield 21, 3) := by decide +kernel
theorem dX7_init_85 : decode cX7_init 85 = .ok (.invokespecial 27, 3) := by decide +kernel
theorem dX7_init_88 : decode cX7_init 88 = .ok (.putfield 44, 3) := by decide +kernel
theorem dX7_init_91 : decode cX7_init 91 = .ok (.aload_n 0, 1) := by decide +kernel
theorem dX7_init_92 : decode cX7_init 92 = .ok (.new 47, 3) := by decide +kernel
theorem dX7_init_95 : decode cX7_init 95 = .ok (.dup, 1) := by decide +kernel
theorem dX7_init_96 : decode cX7_init 96 = .ok (.invokespecial 49, 3) := by decide +kernel
theorem dX7_init_99 : decode cX7_init 99 = .ok (.putfield 50, 3) := by decide +kernel
theorem dX7_init_102 : decode cX7_init 102 = .ok (.aload_n 0, 1) := by decide +kernel
theorem dX7_init_103 : decode cX7_init 103 = .ok (.new 54, 3) := by decide +kernel
theorem dX7_init_106 : decode cX7_init 106 = .ok (.dup, 1) := by decide +kernel
theorem dX7_init_107 : decode cX7_init 107 = .ok (.invokespecial 56, 3) := by decide +kernel
theorem dX7_init_110 : decode cX7_init 110 = .ok (.putfield 57, 3) := by decide +kernel
theorem dX7_init_113 : decode cX7_init 113 = .ok (.aload_n 0, 1) := by decide +kernel
theorem dX7_init_114 : decode cX7_init 114 = .ok (.bipush 10, 2) := by decide +kernel
theorem dX7_init_116 : decode cX7_init 116 = .ok (.newarray .int, 2) := by decide +kernel
theorem dX7_init_118 : decode cX7_init 118 = .ok (.putfield 61, 3) := by decide +kernel
theorem dX7_init_121 : decode cX7_init 121 = .ok (.aload_n 0, 1) := by decide +kernel
theorem dX7_init_122 : decode cX7_init 122 = .ok (.bipush 25, 2) := by decide +kernel
theorem dX7_init_124 : decode cX7_init 124 = .ok (.newarray .int, 2) := by decide +kernel
theorem dX7_init_126 : decode cX7_init 126 = .ok (.putfield 65, 3) := by decide +kernel
theorem dX7_init_129 : decode cX7_init 129 = .ok (.aload_n 0, 1) := by decide +kernel
theorem dX7_init_130 : decode cX7_init 130 = .ok (.bipush 25, 2) := by decide +kernel
theorem dX7_init_132 : decode cX7_init 132 = .ok (.newarray .int, 2) := by decide +kernel
theorem dX7_init_134 : decode cX7_init 134 = .ok (.putfield 68, 3) := by decide +kernel
theorem dX7_init_137 : decode cX7_init 137 = .ok (.return_, 1) := by decide +kernel
theorem dX7_feed_0 : decode cX7_feed 0 = .ok (.aload_n 0, 1) := by decide +kernel
theorem dX7_feed_1 : decode cX7_feed 1 = .ok (.getfield 12, 3) := by decide +kernel
theorem dX7_feed_4 : decode cX7_feed 4 = .ok (.getfield 71, 3) := by decide +kernel
theorem dX7_feed_7 : decode cX7_feed 7 = .ok (.astore 6, 2) := by decide +kernel
theorem dX7_feed_9 : decode cX7_feed 9 = .ok (.aload 6, 2) := by decide +kernel
theorem dX7_feed_11 : decode cX7_feed 11 = .ok (.getfield 75, 3) := by decide +kernel
theorem dX7_feed_14 : decode cX7_feed 14 = .ok (.bipush 20, 2) := by decide +kernel
theorem dX7_feed_16 : decode cX7_feed 16 = .ok (.iadd, 1) := by decide +kernel
theorem dX7_feed_17 : decode cX7_feed 17 = .ok (.sipush 700, 3) := by decide +kernel
theorem dX7_feed_20 : decode cX7_feed 20 = .ok (.if_icmp .le 5, 3) := by decide +kernel
theorem dX7_feed_23 : decode cX7_feed 23 = .ok (.iconst (-1), 1) := by decide +kernel
theorem dX7_feed_24 : decode cX7_feed 24 = .ok (.ireturn, 1) := by decide +kernel
theorem dX7_feed_25 : decode cX7_feed 25 = .ok (.aload 6, 2) := by decide +kernel
theorem dX7_feed_27 : decode cX7_feed 27 = .ok (.iload_n 1, 1) := by decide +kernel
theorem dX7_feed_28 : decode cX7_feed 28 = .ok (.invokevirtual 81, 3) := by decide +kernel
theorem dX7_feed_31 : decode cX7_feed 31 = .ok (.aload 6, 2) := by decide +kernel
theorem dX7_feed_33 : decode cX7_feed 33 = .ok (.iload_n 2, 1) := by decide +kernel
theorem dX7_feed_34 : decode cX7_feed 34 = .ok (.invokevirtual 81, 3) := by decide +kernel
theorem dX7_feed_37 : decode cX7_feed 37 = .ok (.aload 6, 2) := by decide +kernel
theorem dX7_feed_39 : decode cX7_feed 39 = .ok (.iload_n 3, 1) := by decide +kernel
theorem dX7_feed_40 : decode cX7_feed 40 = .ok (.invokevirtual 81, 3) := by decide +kernel
theorem dX7_feed_43 : decode cX7_feed 43 = .ok (.aload 6, 2) := by decide +kernel
theorem dX7_feed_45 : decode cX7_feed 45 = .ok (.iload 4, 2) := by decide +kernel
theorem dX7_feed_47 : decode cX7_feed 47 = .ok (.invokevirtual 81, 3) := by decide +kernel
theorem dX7_feed_50 : decode cX7_feed 50 = .ok (.aload 6, 2) := by decide +kernel
theorem dX7_feed_52 : decode cX7_feed 52 = .ok (.iload 5, 2) := by decide +kernel
theorem dX7_feed_54 : decode cX7_feed 54 = .ok (.invokevirtual 81, 3) := by decide +kernel
theorem dX7_feed_57 : decode cX7_feed 57 = .ok (.aload 6, 2) := by decide +kernel
theorem dX7_feed_59 : decode cX7_feed 59 = .ok (.getfield 75, 3) := by decide +kernel
theorem dX7_feed_62 : decode cX7_feed 62 = .ok (.ireturn, 1) := by decide +kernel
theorem dX7_text_0 : decode cX7_text 0 = .ok (.iload_n 1, 1) := by decide +kernel
theorem dX7_text_1 : decode cX7_text 1 = .ok (.ifCond .lt 17, 3) := by decide +kernel
theorem dX7_text_4 : decode cX7_text 4 = .ok (.iload_n 1, 1) := by decide +kernel
theorem dX7_text_5 : decode cX7_text 5 = .ok (.aload_n 0, 1) := by decide +kernel
theorem dX7_text_6 : decode cX7_text 6 = .ok (.getfield 12, 3) := by decide +kernel
theorem dX7_text_9 : decode cX7_text 9 = .ok (.getfield 71, 3) := by decide +kernel
theorem dX7_text_12 : decode cX7_text 12 = .ok (.getfield 75, 3) := by decide +kernel
theorem dX7_text_15 : decode cX7_text 15 = .ok (.if_icmp .le 6, 3) := by decide +kernel
theorem dX7_text_18 : decode cX7_text 18 = .ok (.bipush (-2), 2) := by decide +kernel
theorem dX7_text_20 : decode cX7_text 20 = .ok (.ireturn, 1) := by decide +kernel
theorem dX7_text_21 : decode cX7_text 21 = .ok (.aload_n 0, 1) := by decide +kernel
theorem dX7_text_22 : decode cX7_text 22 = .ok (.getfield 12, 3) := by decide +kernel
theorem dX7_text_25 : decode cX7_text 25 = .ok (.iload_n 1, 1) := by decide +kernel
theorem dX7_text_26 : decode cX7_text 26 = .ok (.invokevirtual 85, 3) := by decide +kernel
theorem dX7_text_29 : decode cX7_text 29 = .ok (.istore_n 2, 1) := by decide +kernel
theorem dX7_text_30 : decode cX7_text 30 = .ok (.aload_n 0, 1) := by decide +kernel
theorem dX7_text_31 : decode cX7_text 31 = .ok (.getfield 12, 3) := by decide +kernel
theorem dX7_text_34 : decode cX7_text 34 = .ok (.getfield 71, 3) := by decide +kernel
theorem dX7_text_37 : decode cX7_text 37 = .ok (.iconst 0, 1) := by decide +kernel
theorem dX7_text_38 : decode cX7_text 38 = .ok (.putfield 75, 3) := by decide +kernel
theorem dX7_text_41 : decode cX7_text 41 = .ok (.iload_n 2, 1) := by decide +kernel
theorem dX7_text_42 : decode cX7_text 42 = .ok (.ifCond .ne 5, 3) := by decide +kernel
theorem dX7_text_45 : decode cX7_text 45 = .ok (.iconst (-1), 1) := by decide +kernel
theorem dX7_text_46 : decode cX7_text 46 = .ok (.ireturn, 1) := by decide +kernel
theorem dX7_text_47 : decode cX7_text 47 = .ok (.aload_n 0, 1) := by decide +kernel
theorem dX7_text_48 : decode cX7_text 48 = .ok (.getfield 21, 3) := by decide +kernel
theorem dX7_text_51 : decode cX7_text 51 = .ok (.astore_n 3, 1) := by decide +kernel
theorem dX7_text_52 : decode cX7_text 52 = .ok (.aload_n 0, 1) := by decide +kernel
theorem dX7_text_53 : decode cX7_text 53 = .ok (.aload_n 0, 1) := by decide +kernel
theorem dX7_text_54 : decode cX7_text 54 = .ok (.getfield 12, 3) := by decide +kernel
theorem dX7_text_57 : decode cX7_text 57 = .ok (.getfield 89, 3) := by decide +kernel
theorem dX7_text_60 : decode cX7_text 60 = .ok (.putfield 21, 3) := by decide +kernel
theorem dX7_text_63 : decode cX7_text 63 = .ok (.aload_n 0, 1) := by decide +kernel
theorem dX7_text_64 : decode cX7_text 64 = .ok (.getfield 12, 3) := by decide +kernel
theorem dX7_text_67 : decode cX7_text 67 = .ok (.aload_n 3, 1) := by decide +kernel
theorem dX7_text_68 : decode cX7_text 68 = .ok (.putfield 89, 3) := by decide +kernel
theorem dX7_text_71 : decode cX7_text 71 = .ok (.aload_n 0, 1) := by decide +kernel
theorem dX7_text_72 : decode cX7_text 72 = .ok (.getfield 30, 3) := by decide +kernel
theorem dX7_text_75 : decode cX7_text 75 = .ok (.aload_n 0, 1) := by decide +kernel
theorem dX7_text_76 : decode cX7_text 76 = .ok (.getfield 21, 3) := by decide +kernel
theorem dX7_text_79 : decode cX7_text 79 = .ok (.invokevirtual 90, 3) := by decide +kernel
theorem dX7_text_82 : decode cX7_text 82 = .ok (.aload_n 0, 1) := by decide +kernel
theorem dX7_text_83 : decode cX7_text 83 = .ok (.iconst 0, 1) := by decide +kernel
theorem dX7_text_84 : decode cX7_text 84 = .ok (.putfield 37, 3) := by decide +kernel
theorem dX7_text_87 : decode cX7_text 87 = .ok (.aload_n 0, 1) := by decide +kernel
theorem dX7_text_88 : decode cX7_text 88 = .ok (.getfield 50, 3) := by decide +kernel
theorem dX7_text_91 : decode cX7_text 91 = .ok (.iconst 0, 1) := by decide +kernel
theorem dX7_text_92 : decode cX7_text 92 = .ok (.putfield 93, 3) := by decide +kernel
theorem dX7_text_95 : decode cX7_text 95 = .ok (.aload_n 0, 1) := by decide +kernel
theorem dX7_text_96 : decode cX7_text 96 = .ok (.getfield 57, 3) := by decide +kernel
theorem dX7_text_99 : decode cX7_text 99 = .ok (.invokevirtual 96, 3) := by decide +kernel
theorem dX7_text_102 : decode cX7_text 102 = .ok (.aload_n 0, 1) := by decide +kernel
theorem dX7_text_103 : decode cX7_text 103 = .ok (.getfield 12, 3) := by decide +kernel
theorem dX7_text_106 : decode cX7_text 106 = .ok (.getfield 99, 3) := by decide +kernel
theorem dX7_text_109 : decode cX7_text 109 = .ok (.ireturn, 1) := by decide +kernel
theorem dX7_fault_0 : decode cX7_fault 0 = .ok (.iload_n 1, 1) := by decide +kernel
theorem dX7_fault_1 : decode cX7_fault 1 = .ok (.ifCond .ne 11, 3) := by decide +kernel
theorem dX7_fault_4 : decode cX7_fault 4 = .ok (.aload_n 0, 1) := by decide +kernel
theorem dX7_fault_5 : decode cX7_fault 5 = .ok (.getfield 12, 3) := by decide +kernel
theorem dX7_fault_8 : decode cX7_fault 8 = .ok (.getfield 102, 3) := by decide +kernel
theorem dX7_fault_11 : decode cX7_fault 11 = .ok (.ireturn, 1) := by decide +kernel
theorem dX7_fault_12 : decode cX7_fault 12 = .ok (.iload_n 1, 1) := by decide +kernel
theorem dX7_fault_13 : decode cX7_fault 13 = .ok (.iconst 1, 1) := by decide +kernel
theorem dX7_fault_14 : decode cX7_fault 14 = .ok (.if_icmp .ne 13, 3) := by decide +kernel
theorem dX7_fault_17 : decode cX7_fault 17 = .ok (.aload_n 0, 1) := by decide +kernel
theorem dX7_fault_18 : decode cX7_fault 18 = .ok (.getfield 12, 3) := by decide +kernel
theorem dX7_fault_21 : decode cX7_fault 21 = .ok (.getfield 105, 3) := by decide +kernel
theorem dX7_fault_24 : decode cX7_fault 24 = .ok (.goto 4, 3) := by decide +kernel
theorem dX7_fault_27 : decode cX7_fault 27 = .ok (.iconst (-1), 1) := by decide +kernel
theorem dX7_fault_28 : decode cX7_fault 28 = .ok (.ireturn, 1) := by decide +kernel
theorem dX7_named_0 : decode cX7_named 0 = .ok (.aload_n 0, 1) := by decide +kernel
theorem dX7_named_1 : decode cX7_named 1 = .ok (.getfield 21, 3) := by decide +kernel
theorem dX7_named_4 : decode cX7_named 4 = .ok (.iload_n 1, 1) := by decide +kernel
theorem dX7_named_5 : decode cX7_named 5 = .ok (.invokevirtual 108, 3) := by decide +kernel
theorem dX7_named_8 : decode cX7_named 8 = .ok (.ireturn, 1) := by decide +kernel
theorem dX7_person_0 : decode cX7_person 0 = .ok (.aload_n 0, 1) := by decide +kernel
theorem dX7_person_1 : decode cX7_person 1 = .ok (.iload_n 1, 1) := by decide +kernel
theorem dX7_person_2 : decode cX7_person 2 = .ok (.invokevirtual 112, 3) := by decide +kernel
theorem dX7_person_5 : decode cX7_person 5 = .ok (.ifCond .ne 13, 3) := by decide +kernel
theorem dX7_person_8 : decode cX7_person 8 = .ok (.new 115, 3) := by decide +kernel
theorem dX7_person_11 : decode cX7_person 11 = .ok (.dup, 1) := by decide +kernel
theorem dX7_person_12 : decode cX7_person 12 = .ok (.ldc 117, 2) := by decide +kernel
theorem dX7_person_14 : decode cX7_person 14 = .ok (.invokespecial 119, 3) := by decide +kernel
theorem dX7_person_17 : decode cX7_person 17 = .ok (.athrow, 1) := by decide +kernel
theorem dX7_person_18 : decode cX7_person 18 = .ok (.iload_n 2, 1) := by decide +kernel
theorem dX7_person_19 : decode cX7_person 19 = .ok (.tableswitch 83 0 4 #[33, 43, 53, 63, 73], 33) := by decide +kernel
theorem dX7_person_52 : decode cX7_person 52 = .ok (.aload_n 0, 1) := by decide +kernel
theorem dX7_person_53 : decode cX7_person 53 = .ok (.getfield 21, 3) := by decide +kernel
theorem dX7_person_56 : decode cX7_person 56 = .ok (.getfield 122, 3) := by decide +kernel
theorem dX7_person_59 : decode cX7_person 59 = .ok (.iload_n 1, 1) := by decide +kernel
theorem dX7_person_60 : decode cX7_person 60 = .ok (.iaload, 1) := by decide +kernel
theorem dX7_person_61 : decode cX7_person 61 = .ok (.ireturn, 1) := by decide +kernel
theorem dX7_person_62 : decode cX7_person 62 = .ok (.aload_n 0, 1) := by decide +kernel
theorem dX7_person_63 : decode cX7_person 63 = .ok (.getfield 21, 3) := by decide +kernel
theorem dX7_person_66 : decode cX7_person 66 = .ok (.getfield 125, 3) := by decide +kernel
theorem dX7_person_69 : decode cX7_person 69 = .ok (.iload_n 1, 1) := by decide +kernel
theorem dX7_person_70 : decode cX7_person 70 = .ok (.iaload, 1) := by decide +kernel
theorem dX7_person_71 : decode cX7_person 71 = .ok (.ireturn, 1) := by decide +kernel
theorem dX7_person_72 : decode cX7_person 72 = .ok (.aload_n 0, 1) := by decide +kernel
theorem dX7_person_73 : decode cX7_person 73 = .ok (.getfield 30, 3) := by decide +kernel
theorem dX7_person_76 : decode cX7_person 76 = .ok (.getfield 128, 3) := by decide +kernel
theorem dX7_person_79 : decode cX7_person 79 = .ok (.iload_n 1, 1) := by decide +kernel
theorem dX7_person_80 : decode cX7_person 80 = .ok (.iaload, 1) := by decide +kernel
theorem dX7_person_81 : decode cX7_person 81 = .ok (.ireturn, 1) := by decide +kernel
theorem dX7_person_82 : decode cX7_person 82 = .ok (.aload_n 0, 1) := by decide +kernel
theorem dX7_person_83 : decode cX7_person 83 = .ok (.getfield 30, 3) := by decide +kernel
theorem dX7_person_86 : decode cX7_person 86 = .ok (.getfield 131, 3) := by decide +kernel
theorem dX7_person_89 : decode cX7_person 89 = .ok (.iload_n 1, 1) := by decide +kernel
theorem dX7_person_90 : decode cX7_person 90 = .ok (.iaload, 1) := by decide +kernel
theorem dX7_person_91 : decode cX7_person 91 = .ok (.ireturn, 1) := by decide +kernel
theorem dX7_person_92 : decode cX7_person 92 = .ok (.aload_n 0, 1) := by decide +kernel
theorem dX7_person_93 : decode cX7_person 93 = .ok (.getfield 30, 3) := by decide +kernel
theorem dX7_person_96 : decode cX7_person 96 = .ok (.getfield 134, 3) := by decide +kernel
theorem dX7_person_99 : decode cX7_person 99 = .ok (.iload_n 1, 1) := by decide +kernel
theorem dX7_person_100 : decode cX7_person 100 = .ok (.iaload, 1) := by decide +kernel
theorem dX7_person_101 : decode cX7_person 101 = .ok (.ireturn, 1) := by decide +kernel
theorem dX7_person_102 : decode cX7_person 102 = .ok (.new 137, 3) := by decide +kernel
theorem dX7_person_105 : decode cX7_person 105 = .ok (.dup, 1) := by decide +kernel
theorem dX7_person_106 : decode cX7_person 106 = .ok (.ldc 139, 2) := by decide +kernel
theorem dX7_person_108 : decode cX7_person 108 = .ok (.invokespecial 141, 3) := by decide +kernel
theorem dX7_person_111 : decode cX7_person 111 = .ok (.athrow, 1) := by decide +kernel
theorem dX7_piece_0 : decode cX7_piece 0 = .ok (.aload_n 0, 1) := by decide +kernel
theorem dX7_piece_1 : decode cX7_piece 1 = .ok (.iload_n 1, 1) := by decide +kernel
theorem dX7_piece_2 : decode cX7_piece 2 = .ok (.invokevirtual 142, 3) := by decide +kernel
theorem dX7_piece_5 : decode cX7_piece 5 = .ok (.ifCond .ne 5, 3) := by decide +kernel
theorem dX7_piece_8 : decode cX7_piece 8 = .ok (.iconst (-1), 1) := by decide +kernel
theorem dX7_piece_9 : decode cX7_piece 9 = .ok (.ireturn, 1) := by decide +kernel
theorem dX7_piece_10 : decode cX7_piece 10 = .ok (.iload_n 2, 1) := by decide +kernel
theorem dX7_piece_11 : decode cX7_piece 11 = .ok (.tableswitch 96 0 5 #[37, 47, 57, 67, 77, 87], 37) := by decide +kernel
theorem dX7_piece_48 : decode cX7_piece 48 = .ok (.aload_n 0, 1) := by decide +kernel
theorem dX7_piece_49 : decode cX7_piece 49 = .ok (.getfield 21, 3) := by decide +kernel
theorem dX7_piece_52 : decode cX7_piece 52 = .ok (.getfield 145, 3) := by decide +kernel
theorem dX7_piece_55 : decode cX7_piece 55 = .ok (.iload_n 1, 1) := by decide +kernel
theorem dX7_piece_56 : decode cX7_piece 56 = .ok (.iaload, 1) := by decide +kernel
theorem dX7_piece_57 : decode cX7_piece 57 = .ok (.ireturn, 1) := by decide +kernel
theorem dX7_piece_58 : decode cX7_piece 58 = .ok (.aload_n 0, 1) := by decide +kernel
theorem dX7_piece_59 : decode cX7_piece 59 = .ok (.getfield 21, 3) := by decide +kernel
theorem dX7_piece_62 : decode cX7_piece 62 = .ok (.getfield 148, 3) := by decide +kernel
theorem dX7_piece_65 : decode cX7_piece 65 = .ok (.iload_n 1, 1) := by decide +kernel
theorem dX7_piece_66 : decode cX7_piece 66 = .ok (.iaload, 1) := by decide +kernel
theorem dX7_piece_67 : decode cX7_piece 67 = .ok (.ireturn, 1) := by decide +kernel
theorem dX7_piece_68 : decode cX7_piece 68 = .ok (.aload_n 0, 1) := by decide +kernel
theorem dX7_piece_69 : decode cX7_piece 69 = .ok (.getfield 21, 3) := by decide +kernel
theorem dX7_piece_72 : decode cX7_piece 72 = .ok (.getfield 151, 3) := by decide +kernel
theorem dX7_piece_75 : decode cX7_piece 75 = .ok (.iload_n 1, 1) := by decide +kernel
theorem dX7_piece_76 : decode cX7_piece 76 = .ok (.iaload, 1) := by decide +kernel
theorem dX7_piece_77 : decode cX7_piece 77 = .ok (.ireturn, 1) := by decide +kernel
theorem dX7_piece_78 : decode cX7_piece 78 = .ok (.aload_n 0, 1) := by decide +kernel
theorem dX7_piece_79 : decode cX7_piece 79 = .ok (.getfield 30, 3) := by decide +kernel
theorem dX7_piece_82 : decode cX7_piece 82 = .ok (.getfield 154, 3) := by decide +kernel
theorem dX7_piece_85 : decode cX7_piece 85 = .ok (.iload_n 1, 1) := by decide +kernel
theorem dX7_piece_86 : decode cX7_piece 86 = .ok (.iaload, 1) := by decide +kernel
theorem dX7_piece_87 : decode cX7_piece 87 = .ok (.ireturn, 1) := by decide +kernel
theorem dX7_piece_88 : decode cX7_piece 88 = .ok (.aload_n 0, 1) := by decide +kernel
theorem dX7_piece_89 : decode cX7_piece 89 = .ok (.getfield 30, 3) := by decide +kernel
theorem dX7_piece_92 : decode cX7_piece 92 = .ok (.getfield 157, 3) := by decide +kernel
theorem dX7_piece_95 : decode cX7_piece 95 = .ok (.iload_n 1, 1) := by decide +kernel
theorem dX7_piece_96 : decode cX7_piece 96 = .ok (.iaload, 1) := by decide +kernel
theorem dX7_piece_97 : decode cX7_piece 97 = .ok (.ireturn, 1) := by decide +kernel
theorem dX7_piece_98 : decode cX7_piece 98 = .ok (.aload_n 0, 1) := by decide +kernel
theorem dX7_piece_99 : decode cX7_piece 99 = .ok (.getfield 30, 3) := by decide +kernel
theorem dX7_piece_102 : decode cX7_piece 102 = .ok (.iload_n 1, 1) := by decide +kernel
theorem dX7_piece_103 : decode cX7_piece 103 = .ok (.invokevirtual 160, 3) := by decide +kernel
theorem dX7_piece_106 : decode cX7_piece 106 = .ok (.ireturn, 1) := by decide +kernel
theorem dX7_piece_107 : decode cX7_piece 107 = .ok (.iconst (-1), 1) := by decide +kernel
theorem dX7_piece_108 : decode cX7_piece 108 = .ok (.ireturn, 1) := by decide +kernel
theorem dX7_place_0 : decode cX7_place 0 = .ok (.aload_n 0, 1) := by decide +kernel
theorem dX7_place_1 : decode cX7_place 1 = .ok (.iload_n 1, 1) := by decide +kernel
theorem dX7_place_2 : decode cX7_place 2 = .ok (.invokevirtual 163, 3) := by decide +kernel
theorem dX7_place_5 : decode cX7_place 5 = .ok (.ifCond .ne 5, 3) := by decide +kernel
theorem dX7_place_8 : decode cX7_place 8 = .ok (.iconst (-1), 1) := by decide +kernel
theorem dX7_place_9 : decode cX7_place 9 = .ok (.ireturn, 1) := by decide +kernel
theorem dX7_place_10 : decode cX7_place 10 = .ok (.iload_n 2, 1) := by decide +kernel
theorem dX7_place_11 : decode cX7_place 11 = .ok (.tableswitch 82 0 4 #[33, 43, 53, 63, 73], 33) := by decide +kernel
theorem dX7_place_44 : decode cX7_place 44 = .ok (.aload_n 0, 1) := by decide +kernel
theorem dX7_place_45 : decode cX7_place 45 = .ok (.getfield 21, 3) := by decide +kernel
theorem dX7_place_48 : decode cX7_place 48 = .ok (.getfield 166, 3) := by decide +kernel
theorem dX7_place_51 : decode cX7_place 51 = .ok (.iload_n 1, 1) := by decide +kernel
theorem dX7_place_52 : decode cX7_place 52 = .ok (.iaload, 1) := by decide +kernel
theorem dX7_place_53 : decode cX7_place 53 = .ok (.ireturn, 1) := by decide +kernel
theorem dX7_place_54 : decode cX7_place 54 = .ok (.aload_n 0, 1) := by decide +kernel
theorem dX7_place_55 : decode cX7_place 55 = .ok (.getfield 21, 3) := by decide +kernel
theorem dX7_place_58 : decode cX7_place 58 = .ok (.getfield 169, 3) := by decide +kernel
theorem dX7_place_61 : decode cX7_place 61 = .ok (.iload_n 1, 1) := by decide +kernel
theorem dX7_place_62 : decode cX7_place 62 = .ok (.iaload, 1) := by decide +kernel
theorem dX7_place_63 : decode cX7_place 63 = .ok (.ireturn, 1) := by decide +kernel
theorem dX7_place_64 : decode cX7_place 64 = .ok (.aload_n 0, 1) := by decide +kernel
theorem dX7_place_65 : decode cX7_place 65 = .ok (.getfield 30, 3) := by decide +kernel
theorem dX7_place_68 : decode cX7_place 68 = .ok (.getfield 172, 3) := by decide +kernel
theorem dX7_place_71 : decode cX7_place 71 = .ok (.iload_n 1, 1) := by decide +kernel
theorem dX7_place_72 : decode cX7_place 72 = .ok (.iaload, 1) := by decide +kernel
theorem dX7_place_73 : decode cX7_place 73 = .ok (.ireturn, 1) := by decide +kernel
theorem dX7_place_74 : decode cX7_place 74 = .ok (.aload_n 0, 1) := by decide +kernel
theorem dX7_place_75 : decode cX7_place 75 = .ok (.getfield 30, 3) := by decide +kernel
theorem dX7_place_78 : decode cX7_place 78 = .ok (.getfield 175, 3) := by decide +kernel
theorem dX7_place_81 : decode cX7_place 81 = .ok (.iload_n 1, 1) := by decide +kernel
theorem dX7_place_82 : decode cX7_place 82 = .ok (.iaload, 1) := by decide +kernel
theorem dX7_place_83 : decode cX7_place 83 = .ok (.ireturn, 1) := by decide +kernel
theorem dX7_place_84 : decode cX7_place 84 = .ok (.aload_n 0, 1) := by decide +kernel
theorem dX7_place_85 : decode cX7_place 85 = .ok (.getfield 30, 3) := by decide +kernel
theorem dX7_place_88 : decode cX7_place 88 = .ok (.iload_n 1, 1) := by decide +kernel
theorem dX7_place_89 : decode cX7_place 89 = .ok (.invokevirtual 178, 3) := by decide +kernel
theorem dX7_place_92 : decode cX7_place 92 = .ok (.ireturn, 1) := by decide +kernel
theorem dX7_place_93 : decode cX7_place 93 = .ok (.iconst (-1), 1) := by decide +kernel
theorem dX7_place_94 : decode cX7_place 94 = .ok (.ireturn, 1) := by decide +kernel
theorem dX7_waits_0 : decode cX7_waits 0 = .ok (.iload_n 1, 1) := by decide +kernel
theorem dX7_waits_1 : decode cX7_waits 1 = .ok (.ifCond .lt 9, 3) := by decide +kernel
theorem dX7_waits_4 : decode cX7_waits 4 = .ok (.iload_n 1, 1) := by decide +kernel
theorem dX7_waits_5 : decode cX7_waits 5 = .ok (.bipush 20, 2) := by decide +kernel
theorem dX7_waits_7 : decode cX7_waits 7 = .ok (.if_icmp .le 7, 3) := by decide +kernel
theorem dX7_waits_10 : decode cX7_waits 10 = .ok (.iconst (-1), 1) := by decide +kernel
theorem dX7_waits_11 : decode cX7_waits 11 = .ok (.goto 12, 3) := by decide +kernel
theorem dX7_waits_14 : decode cX7_waits 14 = .ok (.aload_n 0, 1) := by decide +kernel
theorem dX7_waits_15 : decode cX7_waits 15 = .ok (.getfield 21, 3) := by decide +kernel
theorem dX7_waits_18 : decode cX7_waits 18 = .ok (.getfield 181, 3) := by decide +kernel
theorem dX7_waits_21 : decode cX7_waits 21 = .ok (.iload_n 1, 1) := by decide +kernel
theorem dX7_waits_22 : decode cX7_waits 22 = .ok (.iaload, 1) := by decide +kernel
theorem dX7_waits_23 : decode cX7_waits 23 = .ok (.ireturn, 1) := by decide +kernel
theorem dX7_law_0 : decode cX7_law 0 = .ok (.iload_n 1, 1) := by decide +kernel
theorem dX7_law_1 : decode cX7_law 1 = .ok (.ifCond .lt 16, 3) := by decide +kernel
theorem dX7_law_4 : decode cX7_law 4 = .ok (.iload_n 1, 1) := by decide +kernel
theorem dX7_law_5 : decode cX7_law 5 = .ok (.iconst 3, 1) := by decide +kernel
theorem dX7_law_6 : decode cX7_law 6 = .ok (.if_icmp .ge 11, 3) := by decide +kernel
theorem dX7_law_9 : decode cX7_law 9 = .ok (.aload_n 0, 1) := by decide +kernel
theorem dX7_law_10 : decode cX7_law 10 = .ok (.iload_n 2, 1) := by decide +kernel
theorem dX7_law_11 : decode cX7_law 11 = .ok (.invokevirtual 142, 3) := by decide +kernel
theorem dX7_law_14 : decode cX7_law 14 = .ok (.ifCond .ne 7, 3) := by decide +kernel
theorem dX7_law_17 : decode cX7_law 17 = .ok (.ldc2_w 184, 3) := by decide +kernel
theorem dX7_law_20 : decode cX7_law 20 = .ok (.lreturn, 1) := by decide +kernel
theorem dX7_law_21 : decode cX7_law 21 = .ok (.aload_n 0, 1) := by decide +kernel
theorem dX7_law_22 : decode cX7_law 22 = .ok (.getfield 30, 3) := by decide +kernel
theorem dX7_law_25 : decode cX7_law 25 = .ok (.iload_n 1, 1) := by decide +kernel
theorem dX7_law_26 : decode cX7_law 26 = .ok (.iload_n 2, 1) := by decide +kernel
theorem dX7_law_27 : decode cX7_law 27 = .ok (.aload_n 0, 1) := by decide +kernel
theorem dX7_law_28 : decode cX7_law 28 = .ok (.getfield 30, 3) := by decide +kernel
theorem dX7_law_31 : decode cX7_law 31 = .ok (.getfield 128, 3) := by decide +kernel
theorem dX7_law_34 : decode cX7_law 34 = .ok (.aload_n 0, 1) := by decide +kernel
theorem dX7_law_35 : decode cX7_law 35 = .ok (.getfield 21, 3) := by decide +kernel
theorem dX7_law_38 : decode cX7_law 38 = .ok (.getfield 145, 3) := by decide +kernel
theorem dX7_law_41 : decode cX7_law 41 = .ok (.iload_n 2, 1) := by decide +kernel
theorem dX7_law_42 : decode cX7_law 42 = .ok (.iaload, 1) := by decide +kernel
theorem dX7_law_43 : decode cX7_law 43 = .ok (.iaload, 1) := by decide +kernel
theorem dX7_law_44 : decode cX7_law 44 = .ok (.invokevirtual 186, 3) := by decide +kernel
theorem dX7_law_47 : decode cX7_law 47 = .ok (.lreturn, 1) := by decide +kernel
theorem dX7_count_0 : decode cX7_count 0 = .ok (.iload_n 1, 1) := by decide +kernel
theorem dX7_count_1 : decode cX7_count 1 = .ok (.tableswitch 181 0 15 #[79, 87, 95, 103, 111, 119, 127, 127, 127, 127, 127, 141, 149, 157, 165, 173], 79) := by decide +kernel
theorem dX7_count_80 : decode cX7_count 80 = .ok (.aload_n 0, 1) := by decide +kernel
theorem dX7_count_81 : decode cX7_count 81 = .ok (.getfield 21, 3) := by decide +kernel
theorem dX7_count_84 : decode cX7_count 84 = .ok (.getfield 190, 3) := by decide +kernel
theorem dX7_count_87 : decode cX7_count 87 = .ok (.ireturn, 1) := by decide +kernel
theorem dX7_count_88 : decode cX7_count 88 = .ok (.aload_n 0, 1) := by decide +kernel
theorem dX7_count_89 : decode cX7_count 89 = .ok (.getfield 21, 3) := by decide +kernel
theorem dX7_count_92 : decode cX7_count 92 = .ok (.getfield 193, 3) := by decide +kernel
theorem dX7_count_95 : decode cX7_count 95 = .ok (.ireturn, 1) := by decide +kernel
theorem dX7_count_96 : decode cX7_count 96 = .ok (.aload_n 0, 1) := by decide +kernel
theorem dX7_count_97 : decode cX7_count 97 = .ok (.getfield 21, 3) := by decide +kernel
theorem dX7_count_100 : decode cX7_count 100 = .ok (.getfield 196, 3) := by decide +kernel
theorem dX7_count_103 : decode cX7_count 103 = .ok (.ireturn, 1) := by decide +kernel
theorem dX7_count_104 : decode cX7_count 104 = .ok (.aload_n 0, 1) := by decide +kernel
theorem dX7_count_105 : decode cX7_count 105 = .ok (.getfield 21, 3) := by decide +kernel
theorem dX7_count_108 : decode cX7_count 108 = .ok (.getfield 199, 3) := by decide +kernel
theorem dX7_count_111 : decode cX7_count 111 = .ok (.ireturn, 1) := by decide +kernel
theorem dX7_count_112 : decode cX7_count 112 = .ok (.aload_n 0, 1) := by decide +kernel
theorem dX7_count_113 : decode cX7_count 113 = .ok (.getfield 30, 3) := by decide +kernel
theorem dX7_count_116 : decode cX7_count 116 = .ok (.getfield 202, 3) := by decide +kernel
theorem dX7_count_119 : decode cX7_count 119 = .ok (.ireturn, 1) := by decide +kernel
theorem dX7_count_120 : decode cX7_count 120 = .ok (.aload_n 0, 1) := by decide +kernel
theorem dX7_count_121 : decode cX7_count 121 = .ok (.getfield 30, 3) := by decide +kernel
theorem dX7_count_124 : decode cX7_count 124 = .ok (.getfield 205, 3) := by decide +kernel
theorem dX7_count_127 : decode cX7_count 127 = .ok (.ireturn, 1) := by decide +kernel
theorem dX7_count_128 : decode cX7_count 128 = .ok (.aload_n 0, 1) := by decide +kernel
theorem dX7_count_129 : decode cX7_count 129 = .ok (.getfield 30, 3) := by decide +kernel
theorem dX7_count_132 : decode cX7_count 132 = .ok (.iload_n 1, 1) := by decide +kernel
theorem dX7_count_133 : decode cX7_count 133 = .ok (.bipush 6, 2) := by decide +kernel
theorem dX7_count_135 : decode cX7_count 135 = .ok (.isub, 1) := by decide +kernel
theorem dX7_count_136 : decode cX7_count 136 = .ok (.iconst 1, 1) := by decide +kernel
theorem dX7_count_137 : decode cX7_count 137 = .ok (.iadd, 1) := by decide +kernel
theorem dX7_count_138 : decode cX7_count 138 = .ok (.invokevirtual 208, 3) := by decide +kernel
theorem dX7_count_141 : decode cX7_count 141 = .ok (.ireturn, 1) := by decide +kernel
theorem dX7_count_142 : decode cX7_count 142 = .ok (.aload_n 0, 1) := by decide +kernel
theorem dX7_count_143 : decode cX7_count 143 = .ok (.getfield 30, 3) := by decide +kernel
theorem dX7_count_146 : decode cX7_count 146 = .ok (.invokevirtual 211, 3) := by decide +kernel
theorem dX7_count_149 : decode cX7_count 149 = .ok (.ireturn, 1) := by decide +kernel
theorem dX7_count_150 : decode cX7_count 150 = .ok (.aload_n 0, 1) := by decide +kernel
theorem dX7_count_151 : decode cX7_count 151 = .ok (.getfield 21, 3) := by decide +kernel
theorem dX7_count_154 : decode cX7_count 154 = .ok (.getfield 215, 3) := by decide +kernel
theorem dX7_count_157 : decode cX7_count 157 = .ok (.ireturn, 1) := by decide +kernel
theorem dX7_count_158 : decode cX7_count 158 = .ok (.aload_n 0, 1) := by decide +kernel
theorem dX7_count_159 : decode cX7_count 159 = .ok (.getfield 57, 3) := by decide +kernel
theorem dX7_count_162 : decode cX7_count 162 = .ok (.getfield 218, 3) := by decide +kernel
theorem dX7_count_165 : decode cX7_count 165 = .ok (.ireturn, 1) := by decide +kernel
theorem dX7_count_166 : decode cX7_count 166 = .ok (.aload_n 0, 1) := by decide +kernel
theorem dX7_count_167 : decode cX7_count 167 = .ok (.getfield 57, 3) := by decide +kernel
theorem dX7_count_170 : decode cX7_count 170 = .ok (.invokevirtual 219, 3) := by decide +kernel
theorem dX7_count_173 : decode cX7_count 173 = .ok (.ireturn, 1) := by decide +kernel
theorem dX7_count_174 : decode cX7_count 174 = .ok (.aload_n 0, 1) := by decide +kernel
theorem dX7_count_175 : decode cX7_count 175 = .ok (.getfield 50, 3) := by decide +kernel
theorem dX7_count_178 : decode cX7_count 178 = .ok (.getfield 93, 3) := by decide +kernel
theorem dX7_count_181 : decode cX7_count 181 = .ok (.ireturn, 1) := by decide +kernel
theorem dX7_count_182 : decode cX7_count 182 = .ok (.iconst (-1), 1) := by decide +kernel
theorem dX7_count_183 : decode cX7_count 183 = .ok (.ireturn, 1) := by decide +kernel
theorem dX7_isPlace_0 : decode cX7_isPlace 0 = .ok (.iload_n 1, 1) := by decide +kernel
theorem dX7_isPlace_1 : decode cX7_isPlace 1 = .ok (.ifCond .lt 18, 3) := by decide +kernel
theorem dX7_isPlace_4 : decode cX7_isPlace 4 = .ok (.iload_n 1, 1) := by decide +kernel
theorem dX7_isPlace_5 : decode cX7_isPlace 5 = .ok (.aload_n 0, 1) := by decide +kernel
theorem dX7_isPlace_6 : decode cX7_isPlace 6 = .ok (.getfield 21, 3) := by decide +kernel
theorem dX7_isPlace_9 : decode cX7_isPlace 9 = .ok (.getfield 190, 3) := by decide +kernel
theorem dX7_isPlace_12 : decode cX7_isPlace 12 = .ok (.if_icmp .ge 7, 3) := by decide +kernel
theorem dX7_isPlace_15 : decode cX7_isPlace 15 = .ok (.iconst 1, 1) := by decide +kernel
theorem dX7_isPlace_16 : decode cX7_isPlace 16 = .ok (.goto 4, 3) := by decide +kernel
theorem dX7_isPlace_19 : decode cX7_isPlace 19 = .ok (.iconst 0, 1) := by decide +kernel
theorem dX7_isPlace_20 : decode cX7_isPlace 20 = .ok (.ireturn, 1) := by decide +kernel
theorem dX7_isPerson_0 : decode cX7_isPerson 0 = .ok (.iload_n 1, 1) := by decide +kernel
theorem dX7_isPerson_1 : decode cX7_isPerson 1 = .ok (.ifCond .lt 18, 3) := by decide +kernel
theorem dX7_isPerson_4 : decode cX7_isPerson 4 = .ok (.iload_n 1, 1) := by decide +kernel
theorem dX7_isPerson_5 : decode cX7_isPerson 5 = .ok (.aload_n 0, 1) := by decide +kernel
theorem dX7_isPerson_6 : decode cX7_isPerson 6 = .ok (.getfield 21, 3) := by decide +kernel
theorem dX7_isPerson_9 : decode cX7_isPerson 9 = .ok (.getfield 193, 3) := by decide +kernel
theorem dX7_isPerson_12 : decode cX7_isPerson 12 = .ok (.if_icmp .ge 7, 3) := by decide +kernel
theorem dX7_isPerson_15 : decode cX7_isPerson 15 = .ok (.iconst 1, 1) := by decide +kernel
theorem dX7_isPerson_16 : decode cX7_isPerson 16 = .ok (.goto 4, 3) := by decide +kernel
theorem dX7_isPerson_19 : decode cX7_isPerson 19 = .ok (.iconst 0, 1) := by decide +kernel
theorem dX7_isPerson_20 : decode cX7_isPerson 20 = .ok (.ireturn, 1) := by decide +kernel
theorem dX7_isPiece_0 : decode cX7_isPiece 0 = .ok (.iload_n 1, 1) := by decide +kernel
theorem dX7_isPiece_1 : decode cX7_isPiece 1 = .ok (.ifCond .lt 18, 3) := by decide +kernel
theorem dX7_isPiece_4 : decode cX7_isPiece 4 = .ok (.iload_n 1, 1) := by decide +kernel
theorem dX7_isPiece_5 : decode cX7_isPiece 5 = .ok (.aload_n 0, 1) := by decide +kernel
theorem dX7_isPiece_6 : decode cX7_isPiece 6 = .ok (.getfield 21, 3) := by decide +kernel
theorem dX7_isPiece_9 : decode cX7_isPiece 9 = .ok (.getfield 196, 3) := by decide +kernel
theorem dX7_isPiece_12 : decode cX7_isPiece 12 = .ok (.if_icmp .ge 7, 3) := by decide +kernel
theorem dX7_isPiece_15 : decode cX7_isPiece 15 = .ok (.iconst 1, 1) := by decide +kernel
theorem dX7_isPiece_16 : decode cX7_isPiece 16 = .ok (.goto 4, 3) := by decide +kernel
theorem dX7_isPiece_19 : decode cX7_isPiece 19 = .ok (.iconst 0, 1) := by decide +kernel
theorem dX7_isPiece_20 : decode cX7_isPiece 20 = .ok (.ireturn, 1) := by decide +kernel
theorem dX7_move_0 : decode cX7_move 0 = .ok (.aload_n 0, 1) := by decide +kernel
theorem dX7_move_1 : decode cX7_move 1 = .ok (.iload_n 1, 1) := by decide +kernel
theorem dX7_move_2 : decode cX7_move 2 = .ok (.invokevirtual 142, 3) := by decide +kernel
theorem dX7_move_5 : decode cX7_move 5 = .ok (.ifCond .eq 35, 3) := by decide +kernel
theorem dX7_move_8 : decode cX7_move 8 = .ok (.aload_n 0, 1) := by decide +kernel
theorem dX7_move_9 : decode cX7_move 9 = .ok (.iload_n 2, 1) := by decide +kernel
theorem dX7_move_10 : decode cX7_move 10 = .ok (.invokevirtual 163, 3) := by decide +kernel
theorem dX7_move_13 : decode cX7_move 13 = .ok (.ifCond .eq 27, 3) := by decide +kernel
theorem dX7_move_16 : decode cX7_move 16 = .ok (.aload_n 0, 1) := by decide +kernel
theorem dX7_move_17 : decode cX7_move 17 = .ok (.getfield 30, 3) := by decide +kernel
theorem dX7_move_20 : decode cX7_move 20 = .ok (.getfield 157, 3) := by decide +kernel
theorem dX7_move_23 : decode cX7_move 23 = .ok (.iload_n 1, 1) := by decide +kernel
theorem dX7_move_24 : decode cX7_move 24 = .ok (.iaload, 1) := by decide +kernel
theorem dX7_move_25 : decode cX7_move 25 = .ok (.ifCond .lt 15, 3) := by decide +kernel
theorem dX7_move_28 : decode cX7_move 28 = .ok (.aload_n 0, 1) := by decide +kernel
theorem dX7_move_29 : decode cX7_move 29 = .ok (.getfield 30, 3) := by decide +kernel
theorem dX7_move_32 : decode cX7_move 32 = .ok (.iload_n 2, 1) := by decide +kernel
theorem dX7_move_33 : decode cX7_move 33 = .ok (.invokevirtual 178, 3) := by decide +kernel
theorem dX7_move_36 : decode cX7_move 36 = .ok (.iload_n 1, 1) := by decide +kernel
theorem dX7_move_37 : decode cX7_move 37 = .ok (.if_icmp .ne 5, 3) := by decide +kernel
theorem dX7_move_40 : decode cX7_move 40 = .ok (.iconst 0, 1) := by decide +kernel
theorem dX7_move_41 : decode cX7_move 41 = .ok (.ireturn, 1) := by decide +kernel
theorem dX7_move_42 : decode cX7_move 42 = .ok (.aload_n 0, 1) := by decide +kernel
theorem dX7_move_43 : decode cX7_move 43 = .ok (.getfield 30, 3) := by decide +kernel
theorem dX7_move_46 : decode cX7_move 46 = .ok (.getfield 157, 3) := by decide +kernel
theorem dX7_move_49 : decode cX7_move 49 = .ok (.iload_n 1, 1) := by decide +kernel
theorem dX7_move_50 : decode cX7_move 50 = .ok (.iaload, 1) := by decide +kernel
theorem dX7_move_51 : decode cX7_move 51 = .ok (.iload_n 2, 1) := by decide +kernel
theorem dX7_move_52 : decode cX7_move 52 = .ok (.if_icmp .eq 17, 3) := by decide +kernel
theorem dX7_move_55 : decode cX7_move 55 = .ok (.aload_n 0, 1) := by decide +kernel
theorem dX7_move_56 : decode cX7_move 56 = .ok (.getfield 30, 3) := by decide +kernel
theorem dX7_move_59 : decode cX7_move 59 = .ok (.iload_n 2, 1) := by decide +kernel
theorem dX7_move_60 : decode cX7_move 60 = .ok (.iload_n 1, 1) := by decide +kernel
theorem dX7_move_61 : decode cX7_move 61 = .ok (.invokevirtual 222, 3) := by decide +kernel
theorem dX7_move_64 : decode cX7_move 64 = .ok (.ifCond .ne 5, 3) := by decide +kernel
theorem dX7_move_67 : decode cX7_move 67 = .ok (.iconst 0, 1) := by decide +kernel
theorem dX7_move_68 : decode cX7_move 68 = .ok (.ireturn, 1) := by decide +kernel
theorem dX7_move_69 : decode cX7_move 69 = .ok (.aload_n 0, 1) := by decide +kernel
theorem dX7_move_70 : decode cX7_move 70 = .ok (.getfield 50, 3) := by decide +kernel
theorem dX7_move_73 : decode cX7_move 73 = .ok (.aload_n 0, 1) := by decide +kernel
theorem dX7_move_74 : decode cX7_move 74 = .ok (.getfield 30, 3) := by decide +kernel
theorem dX7_move_77 : decode cX7_move 77 = .ok (.invokevirtual 226, 3) := by decide +kernel
theorem dX7_move_80 : decode cX7_move 80 = .ok (.aload_n 0, 1) := by decide +kernel
theorem dX7_move_81 : decode cX7_move 81 = .ok (.getfield 30, 3) := by decide +kernel
theorem dX7_move_84 : decode cX7_move 84 = .ok (.iload_n 1, 1) := by decide +kernel
theorem dX7_move_85 : decode cX7_move 85 = .ok (.iconst 1, 1) := by decide +kernel
theorem dX7_move_86 : decode cX7_move 86 = .ok (.invokevirtual 230, 3) := by decide +kernel
theorem dX7_move_89 : decode cX7_move 89 = .ok (.aload_n 0, 1) := by decide +kernel
theorem dX7_move_90 : decode cX7_move 90 = .ok (.getfield 30, 3) := by decide +kernel
theorem dX7_move_93 : decode cX7_move 93 = .ok (.iload_n 2, 1) := by decide +kernel
theorem dX7_move_94 : decode cX7_move 94 = .ok (.iload_n 1, 1) := by decide +kernel
theorem dX7_move_95 : decode cX7_move 95 = .ok (.invokevirtual 234, 3) := by decide +kernel
theorem dX7_move_98 : decode cX7_move 98 = .ok (.iconst 1, 1) := by decide +kernel
theorem dX7_move_99 : decode cX7_move 99 = .ok (.ireturn, 1) := by decide +kernel
theorem dX7_turn_0 : decode cX7_turn 0 = .ok (.aload_n 0, 1) := by decide +kernel
theorem dX7_turn_1 : decode cX7_turn 1 = .ok (.iload_n 1, 1) := by decide +kernel
theorem dX7_turn_2 : decode cX7_turn 2 = .ok (.invokevirtual 163, 3) := by decide +kernel
theorem dX7_turn_5 : decode cX7_turn 5 = .ok (.ifCond .ne 5, 3) := by decide +kernel
theorem dX7_turn_8 : decode cX7_turn 8 = .ok (.iconst (-1), 1) := by decide +kernel
theorem dX7_turn_9 : decode cX7_turn 9 = .ok (.ireturn, 1) := by decide +kernel
theorem dX7_turn_10 : decode cX7_turn 10 = .ok (.aload_n 0, 1) := by decide +kernel
theorem dX7_turn_11 : decode cX7_turn 11 = .ok (.getfield 44, 3) := by decide +kernel
theorem dX7_turn_14 : decode cX7_turn 14 = .ok (.aload_n 0, 1) := by decide +kernel
theorem dX7_turn_15 : decode cX7_turn 15 = .ok (.getfield 30, 3) := by decide +kernel
theorem dX7_turn_18 : decode cX7_turn 18 = .ok (.invokevirtual 237, 3) := by decide +kernel
theorem dX7_turn_21 : decode cX7_turn 21 = .ok (.aload_n 0, 1) := by decide +kernel
theorem dX7_turn_22 : decode cX7_turn 22 = .ok (.getfield 30, 3) := by decide +kernel
theorem dX7_turn_25 : decode cX7_turn 25 = .ok (.iload_n 1, 1) := by decide +kernel
theorem dX7_turn_26 : decode cX7_turn 26 = .ok (.invokevirtual 240, 3) := by decide +kernel
theorem dX7_turn_29 : decode cX7_turn 29 = .ok (.istore_n 2, 1) := by decide +kernel
theorem dX7_turn_30 : decode cX7_turn 30 = .ok (.iload_n 2, 1) := by decide +kernel
theorem dX7_turn_31 : decode cX7_turn 31 = .ok (.ifCond .le 14, 3) := by decide +kernel
theorem dX7_turn_34 : decode cX7_turn 34 = .ok (.aload_n 0, 1) := by decide +kernel
theorem dX7_turn_35 : decode cX7_turn 35 = .ok (.getfield 50, 3) := by decide +kernel
theorem dX7_turn_38 : decode cX7_turn 38 = .ok (.aload_n 0, 1) := by decide +kernel
theorem dX7_turn_39 : decode cX7_turn 39 = .ok (.getfield 44, 3) := by decide +kernel
theorem dX7_turn_42 : decode cX7_turn 42 = .ok (.invokevirtual 226, 3) := by decide +kernel
theorem dX7_turn_45 : decode cX7_turn 45 = .ok (.iload_n 2, 1) := by decide +kernel
theorem dX7_turn_46 : decode cX7_turn 46 = .ok (.ireturn, 1) := by decide +kernel
theorem dX7_help_0 : decode cX7_help 0 = .ok (.aload_n 0, 1) := by decide +kernel
theorem dX7_help_1 : decode cX7_help 1 = .ok (.iload_n 1, 1) := by decide +kernel
theorem dX7_help_2 : decode cX7_help 2 = .ok (.invokevirtual 112, 3) := by decide +kernel
theorem dX7_help_5 : decode cX7_help 5 = .ok (.ifCond .eq 27, 3) := by decide +kernel
theorem dX7_help_8 : decode cX7_help 8 = .ok (.iload_n 2, 1) := by decide +kernel
theorem dX7_help_9 : decode cX7_help 9 = .ok (.iconst 1, 1) := by decide +kernel
theorem dX7_help_10 : decode cX7_help 10 = .ok (.if_icmp .lt 22, 3) := by decide +kernel
theorem dX7_help_13 : decode cX7_help 13 = .ok (.iload_n 2, 1) := by decide +kernel
theorem dX7_help_14 : decode cX7_help 14 = .ok (.bipush 99, 2) := by decide +kernel
theorem dX7_help_16 : decode cX7_help 16 = .ok (.if_icmp .gt 16, 3) := by decide +kernel
theorem dX7_help_19 : decode cX7_help 19 = .ok (.aload_n 0, 1) := by decide +kernel
theorem dX7_help_20 : decode cX7_help 20 = .ok (.getfield 30, 3) := by decide +kernel
theorem dX7_help_23 : decode cX7_help 23 = .ok (.getfield 128, 3) := by decide +kernel
theorem dX7_help_26 : decode cX7_help 26 = .ok (.iload_n 1, 1) := by decide +kernel
theorem dX7_help_27 : decode cX7_help 27 = .ok (.iaload, 1) := by decide +kernel
theorem dX7_help_28 : decode cX7_help 28 = .ok (.iload_n 2, 1) := by decide +kernel
theorem dX7_help_29 : decode cX7_help 29 = .ok (.if_icmp .ne 5, 3) := by decide +kernel
theorem dX7_help_32 : decode cX7_help 32 = .ok (.iconst 0, 1) := by decide +kernel
theorem dX7_help_33 : decode cX7_help 33 = .ok (.ireturn, 1) := by decide +kernel
theorem dX7_help_34 : decode cX7_help 34 = .ok (.aload_n 0, 1) := by decide +kernel
theorem dX7_help_35 : decode cX7_help 35 = .ok (.getfield 50, 3) := by decide +kernel
theorem dX7_help_38 : decode cX7_help 38 = .ok (.aload_n 0, 1) := by decide +kernel
theorem dX7_help_39 : decode cX7_help 39 = .ok (.getfield 30, 3) := by decide +kernel
theorem dX7_help_42 : decode cX7_help 42 = .ok (.invokevirtual 226, 3) := by decide +kernel
theorem dX7_help_45 : decode cX7_help 45 = .ok (.aload_n 0, 1) := by decide +kernel
theorem dX7_help_46 : decode cX7_help 46 = .ok (.getfield 30, 3) := by decide +kernel
theorem dX7_help_49 : decode cX7_help 49 = .ok (.getfield 128, 3) := by decide +kernel
theorem dX7_help_52 : decode cX7_help 52 = .ok (.iload_n 1, 1) := by decide +kernel
theorem dX7_help_53 : decode cX7_help 53 = .ok (.iload_n 2, 1) := by decide +kernel
theorem dX7_help_54 : decode cX7_help 54 = .ok (.iastore, 1) := by decide +kernel
theorem dX7_help_55 : decode cX7_help 55 = .ok (.iconst 1, 1) := by decide +kernel
theorem dX7_help_56 : decode cX7_help 56 = .ok (.ireturn, 1) := by decide +kernel
theorem dX7_go_0 : decode cX7_go 0 = .ok (.iload_n 1, 1) := by decide +kernel
theorem dX7_go_1 : decode cX7_go 1 = .ok (.ifCond .lt 23, 3) := by decide +kernel
theorem dX7_go_4 : decode cX7_go 4 = .ok (.iload_n 1, 1) := by decide +kernel
theorem dX7_go_5 : decode cX7_go 5 = .ok (.bipush 21, 2) := by decide +kernel
theorem dX7_go_7 : decode cX7_go 7 = .ok (.if_icmp .gt 17, 3) := by decide +kernel
theorem dX7_go_10 : decode cX7_go 10 = .ok (.aload_n 0, 1) := by decide +kernel
theorem dX7_go_11 : decode cX7_go 11 = .ok (.getfield 30, 3) := by decide +kernel
theorem dX7_go_14 : decode cX7_go 14 = .ok (.getfield 202, 3) := by decide +kernel
theorem dX7_go_17 : decode cX7_go 17 = .ok (.iload_n 1, 1) := by decide +kernel
theorem dX7_go_18 : decode cX7_go 18 = .ok (.iadd, 1) := by decide +kernel
theorem dX7_go_19 : decode cX7_go 19 = .ok (.bipush 21, 2) := by decide +kernel
theorem dX7_go_21 : decode cX7_go 21 = .ok (.if_icmp .le 5, 3) := by decide +kernel
theorem dX7_go_24 : decode cX7_go 24 = .ok (.iconst (-1), 1) := by decide +kernel
theorem dX7_go_25 : decode cX7_go 25 = .ok (.ireturn, 1) := by decide +kernel
theorem dX7_go_26 : decode cX7_go 26 = .ok (.aload_n 0, 1) := by decide +kernel
theorem dX7_go_27 : decode cX7_go 27 = .ok (.getfield 30, 3) := by decide +kernel
theorem dX7_go_30 : decode cX7_go 30 = .ok (.iconst 1, 1) := by decide +kernel
theorem dX7_go_31 : decode cX7_go 31 = .ok (.putfield 243, 3) := by decide +kernel
theorem dX7_go_34 : decode cX7_go 34 = .ok (.iconst 0, 1) := by decide +kernel
theorem dX7_go_35 : decode cX7_go 35 = .ok (.istore_n 2, 1) := by decide +kernel
theorem dX7_go_36 : decode cX7_go 36 = .ok (.iload_n 2, 1) := by decide +kernel
theorem dX7_go_37 : decode cX7_go 37 = .ok (.iload_n 1, 1) := by decide +kernel
theorem dX7_go_38 : decode cX7_go 38 = .ok (.if_icmp .ge 16, 3) := by decide +kernel
theorem dX7_go_41 : decode cX7_go 41 = .ok (.aload_n 0, 1) := by decide +kernel
theorem dX7_go_42 : decode cX7_go 42 = .ok (.getfield 30, 3) := by decide +kernel
theorem dX7_go_45 : decode cX7_go 45 = .ok (.invokevirtual 246, 3) := by decide +kernel
theorem dX7_go_48 : decode cX7_go 48 = .ok (.iinc 2 1, 3) := by decide +kernel
theorem dX7_go_51 : decode cX7_go 51 = .ok (.goto (-15), 3) := by decide +kernel
theorem dX7_go_54 : decode cX7_go 54 = .ok (.iload_n 1, 1) := by decide +kernel
theorem dX7_go_55 : decode cX7_go 55 = .ok (.ifCond .le 11, 3) := by decide +kernel
theorem dX7_go_58 : decode cX7_go 58 = .ok (.aload_n 0, 1) := by decide +kernel
theorem dX7_go_59 : decode cX7_go 59 = .ok (.getfield 50, 3) := by decide +kernel
theorem dX7_go_62 : decode cX7_go 62 = .ok (.iconst 0, 1) := by decide +kernel
theorem dX7_go_63 : decode cX7_go 63 = .ok (.putfield 93, 3) := by decide +kernel
theorem dX7_go_66 : decode cX7_go 66 = .ok (.aload_n 0, 1) := by decide +kernel
theorem dX7_go_67 : decode cX7_go 67 = .ok (.getfield 30, 3) := by decide +kernel
theorem dX7_go_70 : decode cX7_go 70 = .ok (.getfield 202, 3) := by decide +kernel
theorem dX7_go_73 : decode cX7_go 73 = .ok (.ireturn, 1) := by decide +kernel
theorem dX7_undo_0 : decode cX7_undo 0 = .ok (.aload_n 0, 1) := by decide +kernel
theorem dX7_undo_1 : decode cX7_undo 1 = .ok (.getfield 50, 3) := by decide +kernel
theorem dX7_undo_4 : decode cX7_undo 4 = .ok (.getfield 93, 3) := by decide +kernel
theorem dX7_undo_7 : decode cX7_undo 7 = .ok (.ifCond .ne 5, 3) := by decide +kernel
theorem dX7_undo_10 : decode cX7_undo 10 = .ok (.iconst (-1), 1) := by decide +kernel
theorem dX7_undo_11 : decode cX7_undo 11 = .ok (.ireturn, 1) := by decide +kernel
theorem dX7_undo_12 : decode cX7_undo 12 = .ok (.aload_n 0, 1) := by decide +kernel
theorem dX7_undo_13 : decode cX7_undo 13 = .ok (.getfield 50, 3) := by decide +kernel
theorem dX7_undo_16 : decode cX7_undo 16 = .ok (.aload_n 0, 1) := by decide +kernel
theorem dX7_undo_17 : decode cX7_undo 17 = .ok (.getfield 30, 3) := by decide +kernel
theorem dX7_undo_20 : decode cX7_undo 20 = .ok (.invokevirtual 249, 3) := by decide +kernel
theorem dX7_undo_23 : decode cX7_undo 23 = .ok (.aload_n 0, 1) := by decide +kernel
theorem dX7_undo_24 : decode cX7_undo 24 = .ok (.getfield 50, 3) := by decide +kernel
theorem dX7_undo_27 : decode cX7_undo 27 = .ok (.getfield 93, 3) := by decide +kernel
theorem dX7_undo_30 : decode cX7_undo 30 = .ok (.ireturn, 1) := by decide +kernel
theorem dX7_keep_0 : decode cX7_keep 0 = .ok (.aload_n 0, 1) := by decide +kernel
theorem dX7_keep_1 : decode cX7_keep 1 = .ok (.getfield 34, 3) := by decide +kernel
theorem dX7_keep_4 : decode cX7_keep 4 = .ok (.aload_n 0, 1) := by decide +kernel
theorem dX7_keep_5 : decode cX7_keep 5 = .ok (.getfield 30, 3) := by decide +kernel
theorem dX7_keep_8 : decode cX7_keep 8 = .ok (.invokevirtual 237, 3) := by decide +kernel
theorem dX7_keep_11 : decode cX7_keep 11 = .ok (.aload_n 0, 1) := by decide +kernel
theorem dX7_keep_12 : decode cX7_keep 12 = .ok (.iconst 1, 1) := by decide +kernel
theorem dX7_keep_13 : decode cX7_keep 13 = .ok (.putfield 37, 3) := by decide +kernel
theorem dX7_keep_16 : decode cX7_keep 16 = .ok (.aload_n 0, 1) := by decide +kernel
theorem dX7_keep_17 : decode cX7_keep 17 = .ok (.getfield 30, 3) := by decide +kernel
theorem dX7_keep_20 : decode cX7_keep 20 = .ok (.getfield 202, 3) := by decide +kernel
theorem dX7_keep_23 : decode cX7_keep 23 = .ok (.ireturn, 1) := by decide +kernel
theorem dX7_back_0 : decode cX7_back 0 = .ok (.aload_n 0, 1) := by decide +kernel
theorem dX7_back_1 : decode cX7_back 1 = .ok (.getfield 37, 3) := by decide +kernel
theorem dX7_back_4 : decode cX7_back 4 = .ok (.ifCond .ne 5, 3) := by decide +kernel
theorem dX7_back_7 : decode cX7_back 7 = .ok (.iconst (-1), 1) := by decide +kernel
theorem dX7_back_8 : decode cX7_back 8 = .ok (.ireturn, 1) := by decide +kernel
theorem dX7_back_9 : decode cX7_back 9 = .ok (.aload_n 0, 1) := by decide +kernel
theorem dX7_back_10 : decode cX7_back 10 = .ok (.getfield 30, 3) := by decide +kernel
theorem dX7_back_13 : decode cX7_back 13 = .ok (.aload_n 0, 1) := by decide +kernel
theorem dX7_back_14 : decode cX7_back 14 = .ok (.getfield 34, 3) := by decide +kernel
theorem dX7_back_17 : decode cX7_back 17 = .ok (.invokevirtual 237, 3) := by decide +kernel
theorem dX7_back_20 : decode cX7_back 20 = .ok (.aload_n 0, 1) := by decide +kernel
theorem dX7_back_21 : decode cX7_back 21 = .ok (.getfield 50, 3) := by decide +kernel
theorem dX7_back_24 : decode cX7_back 24 = .ok (.iconst 0, 1) := by decide +kernel
theorem dX7_back_25 : decode cX7_back 25 = .ok (.putfield 93, 3) := by decide +kernel
theorem dX7_back_28 : decode cX7_back 28 = .ok (.aload_n 0, 1) := by decide +kernel
theorem dX7_back_29 : decode cX7_back 29 = .ok (.getfield 30, 3) := by decide +kernel
theorem dX7_back_32 : decode cX7_back 32 = .ok (.getfield 202, 3) := by decide +kernel
theorem dX7_back_35 : decode cX7_back 35 = .ok (.ireturn, 1) := by decide +kernel
theorem dX7_least_0 : decode cX7_least 0 = .ok (.iload_n 1, 1) := by decide +kernel
theorem dX7_least_1 : decode cX7_least 1 = .ok (.ifCond .lt 20, 3) := by decide +kernel
theorem dX7_least_4 : decode cX7_least 4 = .ok (.iload_n 1, 1) := by decide +kernel
theorem dX7_least_5 : decode cX7_least 5 = .ok (.iconst 4, 1) := by decide +kernel
theorem dX7_least_6 : decode cX7_least 6 = .ok (.if_icmp .gt 15, 3) := by decide +kernel
theorem dX7_least_9 : decode cX7_least 9 = .ok (.aload_n 0, 1) := by decide +kernel
theorem dX7_least_10 : decode cX7_least 10 = .ok (.getfield 30, 3) := by decide +kernel
theorem dX7_least_13 : decode cX7_least 13 = .ok (.getfield 202, 3) := by decide +kernel
theorem dX7_least_16 : decode cX7_least 16 = .ok (.bipush 20, 2) := by decide +kernel
theorem dX7_least_18 : decode cX7_least 18 = .ok (.if_icmp .le 5, 3) := by decide +kernel
theorem dX7_least_21 : decode cX7_least 21 = .ok (.iconst (-1), 1) := by decide +kernel
theorem dX7_least_22 : decode cX7_least 22 = .ok (.ireturn, 1) := by decide +kernel
theorem dX7_least_23 : decode cX7_least 23 = .ok (.aload_n 0, 1) := by decide +kernel
theorem dX7_least_24 : decode cX7_least 24 = .ok (.invokevirtual 252, 3) := by decide +kernel
theorem dX7_least_27 : decode cX7_least 27 = .ok (.istore_n 2, 1) := by decide +kernel
theorem dX7_least_28 : decode cX7_least 28 = .ok (.iload_n 2, 1) := by decide +kernel
theorem dX7_least_29 : decode cX7_least 29 = .ok (.iconst 4, 1) := by decide +kernel
theorem dX7_least_30 : decode cX7_least 30 = .ok (.if_icmp .le 6, 3) := by decide +kernel
theorem dX7_least_33 : decode cX7_least 33 = .ok (.bipush (-4), 2) := by decide +kernel
theorem dX7_least_35 : decode cX7_least 35 = .ok (.ireturn, 1) := by decide +kernel
theorem dX7_least_36 : decode cX7_least 36 = .ok (.aload_n 0, 1) := by decide +kernel
theorem dX7_least_37 : decode cX7_least 37 = .ok (.iload_n 2, 1) := by decide +kernel
theorem dX7_least_38 : decode cX7_least 38 = .ok (.invokevirtual 255, 3) := by decide +kernel
theorem dX7_least_41 : decode cX7_least 41 = .ok (.istore_n 3, 1) := by decide +kernel
theorem dX7_least_42 : decode cX7_least 42 = .ok (.iload_n 3, 1) := by decide +kernel
theorem dX7_least_43 : decode cX7_least 43 = .ok (.ifCond .ge 6, 3) := by decide +kernel
theorem dX7_least_46 : decode cX7_least 46 = .ok (.bipush (-3), 2) := by decide +kernel
theorem dX7_least_48 : decode cX7_least 48 = .ok (.ireturn, 1) := by decide +kernel
theorem dX7_least_49 : decode cX7_least 49 = .ok (.iload_n 1, 1) := by decide +kernel
theorem dX7_least_50 : decode cX7_least 50 = .ok (.ifCond .ne 9, 3) := by decide +kernel
theorem dX7_least_53 : decode cX7_least 53 = .ok (.iload_n 3, 1) := by decide +kernel
theorem dX7_least_54 : decode cX7_least 54 = .ok (.sipush 1024, 3) := by decide +kernel
theorem dX7_least_57 : decode cX7_least 57 = .ok (.idiv, 1) := by decide +kernel
theorem dX7_least_58 : decode cX7_least 58 = .ok (.ireturn, 1) := by decide +kernel
theorem dX7_least_59 : decode cX7_least 59 = .ok (.iload_n 1, 1) := by decide +kernel
theorem dX7_least_60 : decode cX7_least 60 = .ok (.iload_n 2, 1) := by decide +kernel
theorem dX7_least_61 : decode cX7_least 61 = .ok (.if_icmp .le 8, 3) := by decide +kernel
theorem dX7_least_64 : decode cX7_least 64 = .ok (.bipush (-2), 2) := by decide +kernel
theorem dX7_least_66 : decode cX7_least 66 = .ok (.goto 15, 3) := by decide +kernel
theorem dX7_least_69 : decode cX7_least 69 = .ok (.aload_n 0, 1) := by decide +kernel
theorem dX7_least_70 : decode cX7_least 70 = .ok (.iload_n 3, 1) := by decide +kernel
theorem dX7_least_71 : decode cX7_least 71 = .ok (.sipush 1024, 3) := by decide +kernel
theorem dX7_least_74 : decode cX7_least 74 = .ok (.irem, 1) := by decide +kernel
theorem dX7_least_75 : decode cX7_least 75 = .ok (.iload_n 2, 1) := by decide +kernel
theorem dX7_least_76 : decode cX7_least 76 = .ok (.iload_n 1, 1) := by decide +kernel
theorem dX7_least_77 : decode cX7_least 77 = .ok (.isub, 1) := by decide +kernel
theorem dX7_least_78 : decode cX7_least 78 = .ok (.invokevirtual 258, 3) := by decide +kernel
theorem dX7_least_81 : decode cX7_least 81 = .ok (.ireturn, 1) := by decide +kernel
theorem dX7_listComing_0 : decode cX7_listComing 0 = .ok (.iconst 0, 1) := by decide +kernel
theorem dX7_listComing_1 : decode cX7_listComing 1 = .ok (.istore_n 1, 1) := by decide +kernel
theorem dX7_listComing_2 : decode cX7_listComing 2 = .ok (.iconst 0, 1) := by decide +kernel
theorem dX7_listComing_3 : decode cX7_listComing 3 = .ok (.istore_n 2, 1) := by decide +kernel
theorem dX7_listComing_4 : decode cX7_listComing 4 = .ok (.iload_n 2, 1) := by decide +kernel
theorem dX7_listComing_5 : decode cX7_listComing 5 = .ok (.aload_n 0, 1) := by decide +kernel
theorem dX7_listComing_6 : decode cX7_listComing 6 = .ok (.getfield 21, 3) := by decide +kernel
theorem dX7_listComing_9 : decode cX7_listComing 9 = .ok (.getfield 196, 3) := by decide +kernel
theorem dX7_listComing_12 : decode cX7_listComing 12 = .ok (.if_icmp .ge 27, 3) := by decide +kernel
theorem dX7_listComing_15 : decode cX7_listComing 15 = .ok (.aload_n 0, 1) := by decide +kernel
theorem dX7_listComing_16 : decode cX7_listComing 16 = .ok (.iload_n 2, 1) := by decide +kernel
theorem dX7_listComing_17 : decode cX7_listComing 17 = .ok (.invokevirtual 262, 3) := by decide +kernel
theorem dX7_listComing_20 : decode cX7_listComing 20 = .ok (.ifCond .eq 13, 3) := by decide +kernel
theorem dX7_listComing_23 : decode cX7_listComing 23 = .ok (.aload_n 0, 1) := by decide +kernel
theorem dX7_listComing_24 : decode cX7_listComing 24 = .ok (.getfield 61, 3) := by decide +kernel
theorem dX7_listComing_27 : decode cX7_listComing 27 = .ok (.iload_n 1, 1) := by decide +kernel
theorem dX7_listComing_28 : decode cX7_listComing 28 = .ok (.iload_n 2, 1) := by decide +kernel
theorem dX7_listComing_29 : decode cX7_listComing 29 = .ok (.iastore, 1) := by decide +kernel
theorem dX7_listComing_30 : decode cX7_listComing 30 = .ok (.iinc 1 1, 3) := by decide +kernel
theorem dX7_listComing_33 : decode cX7_listComing 33 = .ok (.iinc 2 1, 3) := by decide +kernel
theorem dX7_listComing_36 : decode cX7_listComing 36 = .ok (.goto (-32), 3) := by decide +kernel
theorem dX7_listComing_39 : decode cX7_listComing 39 = .ok (.iload_n 1, 1) := by decide +kernel
theorem dX7_listComing_40 : decode cX7_listComing 40 = .ok (.ireturn, 1) := by decide +kernel
theorem dX7_comesNow_0 : decode cX7_comesNow 0 = .ok (.aload_n 0, 1) := by decide +kernel
theorem dX7_comesNow_1 : decode cX7_comesNow 1 = .ok (.iload_n 1, 1) := by decide +kernel
theorem dX7_comesNow_2 : decode cX7_comesNow 2 = .ok (.invokevirtual 142, 3) := by decide +kernel
theorem dX7_comesNow_5 : decode cX7_comesNow 5 = .ok (.ifCond .eq 46, 3) := by decide +kernel
theorem dX7_comesNow_8 : decode cX7_comesNow 8 = .ok (.aload_n 0, 1) := by decide +kernel
theorem dX7_comesNow_9 : decode cX7_comesNow 9 = .ok (.getfield 30, 3) := by decide +kernel
theorem dX7_comesNow_12 : decode cX7_comesNow 12 = .ok (.getfield 202, 3) := by decide +kernel
theorem dX7_comesNow_15 : decode cX7_comesNow 15 = .ok (.bipush 20, 2) := by decide +kernel
theorem dX7_comesNow_17 : decode cX7_comesNow 17 = .ok (.if_icmp .gt 34, 3) := by decide +kernel
theorem dX7_comesNow_20 : decode cX7_comesNow 20 = .ok (.aload_n 0, 1) := by decide +kernel
theorem dX7_comesNow_21 : decode cX7_comesNow 21 = .ok (.getfield 21, 3) := by decide +kernel
theorem dX7_comesNow_24 : decode cX7_comesNow 24 = .ok (.getfield 122, 3) := by decide +kernel
theorem dX7_comesNow_27 : decode cX7_comesNow 27 = .ok (.aload_n 0, 1) := by decide +kernel
theorem dX7_comesNow_28 : decode cX7_comesNow 28 = .ok (.getfield 21, 3) := by decide +kernel
theorem dX7_comesNow_31 : decode cX7_comesNow 31 = .ok (.getfield 145, 3) := by decide +kernel
theorem dX7_comesNow_34 : decode cX7_comesNow 34 = .ok (.iload_n 1, 1) := by decide +kernel
theorem dX7_comesNow_35 : decode cX7_comesNow 35 = .ok (.iaload, 1) := by decide +kernel
theorem dX7_comesNow_36 : decode cX7_comesNow 36 = .ok (.iaload, 1) := by decide +kernel
theorem dX7_comesNow_37 : decode cX7_comesNow 37 = .ok (.aload_n 0, 1) := by decide +kernel
theorem dX7_comesNow_38 : decode cX7_comesNow 38 = .ok (.getfield 30, 3) := by decide +kernel
theorem dX7_comesNow_41 : decode cX7_comesNow 41 = .ok (.getfield 202, 3) := by decide +kernel
theorem dX7_comesNow_44 : decode cX7_comesNow 44 = .ok (.if_icmp .ne 7, 3) := by decide +kernel
theorem dX7_comesNow_47 : decode cX7_comesNow 47 = .ok (.iconst 1, 1) := by decide +kernel
theorem dX7_comesNow_48 : decode cX7_comesNow 48 = .ok (.goto 4, 3) := by decide +kernel
theorem dX7_comesNow_51 : decode cX7_comesNow 51 = .ok (.iconst 0, 1) := by decide +kernel
theorem dX7_comesNow_52 : decode cX7_comesNow 52 = .ok (.ireturn, 1) := by decide +kernel
theorem dX7_digit_0 : decode cX7_digit 0 = .ok (.aload_n 0, 1) := by decide +kernel
theorem dX7_digit_1 : decode cX7_digit 1 = .ok (.getfield 21, 3) := by decide +kernel
theorem dX7_digit_4 : decode cX7_digit 4 = .ok (.getfield 190, 3) := by decide +kernel
theorem dX7_digit_7 : decode cX7_digit 7 = .ok (.ifCond .ne 5, 3) := by decide +kernel
theorem dX7_digit_10 : decode cX7_digit 10 = .ok (.iconst (-1), 1) := by decide +kernel
theorem dX7_digit_11 : decode cX7_digit 11 = .ok (.ireturn, 1) := by decide +kernel
theorem dX7_digit_12 : decode cX7_digit 12 = .ok (.iload_n 1, 1) := by decide +kernel
theorem dX7_digit_13 : decode cX7_digit 13 = .ok (.istore_n 3, 1) := by decide +kernel
theorem dX7_digit_14 : decode cX7_digit 14 = .ok (.iconst 0, 1) := by decide +kernel
theorem dX7_digit_15 : decode cX7_digit 15 = .ok (.istore 4, 2) := by decide +kernel
theorem dX7_digit_17 : decode cX7_digit 17 = .ok (.iload 4, 2) := by decide +kernel
theorem dX7_digit_19 : decode cX7_digit 19 = .ok (.iload_n 2, 1) := by decide +kernel
theorem dX7_digit_20 : decode cX7_digit 20 = .ok (.if_icmp .ge 19, 3) := by decide +kernel
theorem dX7_digit_23 : decode cX7_digit 23 = .ok (.iload_n 3, 1) := by decide +kernel
theorem dX7_digit_24 : decode cX7_digit 24 = .ok (.aload_n 0, 1) := by decide +kernel
theorem dX7_digit_25 : decode cX7_digit 25 = .ok (.getfield 21, 3) := by decide +kernel
theorem dX7_digit_28 : decode cX7_digit 28 = .ok (.getfield 190, 3) := by decide +kernel
theorem dX7_digit_31 : decode cX7_digit 31 = .ok (.idiv, 1) := by decide +kernel
theorem dX7_digit_32 : decode cX7_digit 32 = .ok (.istore_n 3, 1) := by decide +kernel
theorem dX7_digit_33 : decode cX7_digit 33 = .ok (.iinc 4 1, 3) := by decide +kernel
theorem dX7_digit_36 : decode cX7_digit 36 = .ok (.goto (-19), 3) := by decide +kernel
theorem dX7_digit_39 : decode cX7_digit 39 = .ok (.iload_n 3, 1) := by decide +kernel
theorem dX7_digit_40 : decode cX7_digit 40 = .ok (.aload_n 0, 1) := by decide +kernel
theorem dX7_digit_41 : decode cX7_digit 41 = .ok (.getfield 21, 3) := by decide +kernel
theorem dX7_digit_44 : decode cX7_digit 44 = .ok (.getfield 190, 3) := by decide +kernel
theorem dX7_digit_47 : decode cX7_digit 47 = .ok (.irem, 1) := by decide +kernel
theorem dX7_digit_48 : decode cX7_digit 48 = .ok (.ireturn, 1) := by decide +kernel
theorem dX7_findLeast_0 : decode cX7_findLeast 0 = .ok (.iconst 1, 1) := by decide +kernel
theorem dX7_findLeast_1 : decode cX7_findLeast 1 = .ok (.istore_n 2, 1) := by decide +kernel
theorem dX7_findLeast_2 : decode cX7_findLeast 2 = .ok (.iconst 0, 1) := by decide +kernel
theorem dX7_findLeast_3 : decode cX7_findLeast 3 = .ok (.istore_n 3, 1) := by decide +kernel
theorem dX7_findLeast_4 : decode cX7_findLeast 4 = .ok (.iload_n 3, 1) := by decide +kernel
theorem dX7_findLeast_5 : decode cX7_findLeast 5 = .ok (.iload_n 1, 1) := by decide +kernel
theorem dX7_findLeast_6 : decode cX7_findLeast 6 = .ok (.if_icmp .ge 19, 3) := by decide +kernel
theorem dX7_findLeast_9 : decode cX7_findLeast 9 = .ok (.iload_n 2, 1) := by decide +kernel
theorem dX7_findLeast_10 : decode cX7_findLeast 10 = .ok (.aload_n 0, 1) := by decide +kernel
theorem dX7_findLeast_11 : decode cX7_findLeast 11 = .ok (.getfield 21, 3) := by decide +kernel
theorem dX7_findLeast_14 : decode cX7_findLeast 14 = .ok (.getfield 190, 3) := by decide +kernel
theorem dX7_findLeast_17 : decode cX7_findLeast 17 = .ok (.imul, 1) := by decide +kernel
theorem dX7_findLeast_18 : decode cX7_findLeast 18 = .ok (.istore_n 2, 1) := by decide +kernel
theorem dX7_findLeast_19 : decode cX7_findLeast 19 = .ok (.iinc 3 1, 3) := by decide +kernel
theorem dX7_findLeast_22 : decode cX7_findLeast 22 = .ok (.goto (-18), 3) := by decide +kernel
theorem dX7_findLeast_25 : decode cX7_findLeast 25 = .ok (.aload_n 0, 1) := by decide +kernel
theorem dX7_findLeast_26 : decode cX7_findLeast 26 = .ok (.invokevirtual 265, 3) := by decide +kernel
theorem dX7_findLeast_29 : decode cX7_findLeast 29 = .ok (.aload_n 0, 1) := by decide +kernel
theorem dX7_findLeast_30 : decode cX7_findLeast 30 = .ok (.getfield 41, 3) := by decide +kernel
theorem dX7_findLeast_33 : decode cX7_findLeast 33 = .ok (.aload_n 0, 1) := by decide +kernel
theorem dX7_findLeast_34 : decode cX7_findLeast 34 = .ok (.getfield 21, 3) := by decide +kernel
theorem dX7_findLeast_37 : decode cX7_findLeast 37 = .ok (.getfield 181, 3) := by decide +kernel
theorem dX7_findLeast_40 : decode cX7_findLeast 40 = .ok (.aload_n 0, 1) := by decide +kernel
theorem dX7_findLeast_41 : decode cX7_findLeast 41 = .ok (.getfield 30, 3) := by decide +kernel
theorem dX7_findLeast_44 : decode cX7_findLeast 44 = .ok (.getfield 202, 3) := by decide +kernel
theorem dX7_findLeast_47 : decode cX7_findLeast 47 = .ok (.iaload, 1) := by decide +kernel
theorem dX7_findLeast_48 : decode cX7_findLeast 48 = .ok (.invokevirtual 268, 3) := by decide +kernel
theorem dX7_findLeast_51 : decode cX7_findLeast 51 = .ok (.pop, 1) := by decide +kernel
theorem dX7_findLeast_52 : decode cX7_findLeast 52 = .ok (.aload_n 0, 1) := by decide +kernel
theorem dX7_findLeast_53 : decode cX7_findLeast 53 = .ok (.getfield 44, 3) := by decide +kernel
theorem dX7_findLeast_56 : decode cX7_findLeast 56 = .ok (.aload_n 0, 1) := by decide +kernel
theorem dX7_findLeast_57 : decode cX7_findLeast 57 = .ok (.getfield 41, 3) := by decide +kernel
theorem dX7_findLeast_60 : decode cX7_findLeast 60 = .ok (.invokevirtual 237, 3) := by decide +kernel
theorem dX7_findLeast_63 : decode cX7_findLeast 63 = .ok (.iconst (-1), 1) := by decide +kernel
theorem dX7_findLeast_64 : decode cX7_findLeast 64 = .ok (.istore_n 3, 1) := by decide +kernel
theorem dX7_findLeast_65 : decode cX7_findLeast 65 = .ok (.iconst 0, 1) := by decide +kernel
theorem dX7_findLeast_66 : decode cX7_findLeast 66 = .ok (.istore 4, 2) := by decide +kernel
theorem dX7_findLeast_68 : decode cX7_findLeast 68 = .ok (.iload 4, 2) := by decide +kernel
theorem dX7_findLeast_70 : decode cX7_findLeast 70 = .ok (.iload_n 2, 1) := by decide +kernel
theorem dX7_findLeast_71 : decode cX7_findLeast 71 = .ok (.if_icmp .ge 143, 3) := by decide +kernel
theorem dX7_findLeast_74 : decode cX7_findLeast 74 = .ok (.iload_n 3, 1) := by decide +kernel
theorem dX7_findLeast_75 : decode cX7_findLeast 75 = .ok (.ifCond .lt 10, 3) := by decide +kernel
theorem dX7_findLeast_78 : decode cX7_findLeast 78 = .ok (.iload_n 3, 1) := by decide +kernel
theorem dX7_findLeast_79 : decode cX7_findLeast 79 = .ok (.sipush 1024, 3) := by decide +kernel
theorem dX7_findLeast_82 : decode cX7_findLeast 82 = .ok (.if_icmp .lt 132, 3) := by decide +kernel
theorem dX7_findLeast_85 : decode cX7_findLeast 85 = .ok (.aload_n 0, 1) := by decide +kernel
theorem dX7_findLeast_86 : decode cX7_findLeast 86 = .ok (.getfield 41, 3) := by decide +kernel
theorem dX7_findLeast_89 : decode cX7_findLeast 89 = .ok (.aload_n 0, 1) := by decide +kernel
theorem dX7_findLeast_90 : decode cX7_findLeast 90 = .ok (.getfield 44, 3) := by decide +kernel
theorem dX7_findLeast_93 : decode cX7_findLeast 93 = .ok (.invokevirtual 237, 3) := by decide +kernel
theorem dX7_findLeast_96 : decode cX7_findLeast 96 = .ok (.iconst 0, 1) := by decide +kernel
theorem dX7_findLeast_97 : decode cX7_findLeast 97 = .ok (.istore 5, 2) := by decide +kernel
theorem dX7_findLeast_99 : decode cX7_findLeast 99 = .ok (.iload 5, 2) := by decide +kernel
theorem dX7_findLeast_101 : decode cX7_findLeast 101 = .ok (.iload_n 1, 1) := by decide +kernel
theorem dX7_findLeast_102 : decode cX7_findLeast 102 = .ok (.if_icmp .ge 36, 3) := by decide +kernel
theorem dX7_findLeast_105 : decode cX7_findLeast 105 = .ok (.aload_n 0, 1) := by decide +kernel
theorem dX7_findLeast_106 : decode cX7_findLeast 106 = .ok (.getfield 41, 3) := by decide +kernel
theorem dX7_findLeast_109 : decode cX7_findLeast 109 = .ok (.getfield 271, 3) := by decide +kernel
theorem dX7_findLeast_112 : decode cX7_findLeast 112 = .ok (.aload_n 0, 1) := by decide +kernel
theorem dX7_findLeast_113 : decode cX7_findLeast 113 = .ok (.getfield 61, 3) := by decide +kernel
theorem dX7_findLeast_116 : decode cX7_findLeast 116 = .ok (.iload 5, 2) := by decide +kernel
theorem dX7_findLeast_118 : decode cX7_findLeast 118 = .ok (.iaload, 1) := by decide +kernel
theorem dX7_findLeast_119 : decode cX7_findLeast 119 = .ok (.aload_n 0, 1) := by decide +kernel
theorem dX7_findLeast_120 : decode cX7_findLeast 120 = .ok (.iload 4, 2) := by decide +kernel
theorem dX7_findLeast_122 : decode cX7_findLeast 122 = .ok (.iload_n 1, 1) := by decide +kernel
theorem dX7_findLeast_123 : decode cX7_findLeast 123 = .ok (.iconst 1, 1) := by decide +kernel
theorem dX7_findLeast_124 : decode cX7_findLeast 124 = .ok (.isub, 1) := by decide +kernel
theorem dX7_findLeast_125 : decode cX7_findLeast 125 = .ok (.iload 5, 2) := by decide +kernel
theorem dX7_findLeast_127 : decode cX7_findLeast 127 = .ok (.isub, 1) := by decide +kernel
theorem dX7_findLeast_128 : decode cX7_findLeast 128 = .ok (.invokevirtual 258, 3) := by decide +kernel
theorem dX7_findLeast_131 : decode cX7_findLeast 131 = .ok (.iastore, 1) := by decide +kernel
theorem dX7_findLeast_132 : decode cX7_findLeast 132 = .ok (.iinc 5 1, 3) := by decide +kernel
theorem dX7_findLeast_135 : decode cX7_findLeast 135 = .ok (.goto (-36), 3) := by decide +kernel
theorem dX7_findLeast_138 : decode cX7_findLeast 138 = .ok (.aload_n 0, 1) := by decide +kernel
theorem dX7_findLeast_139 : decode cX7_findLeast 139 = .ok (.getfield 41, 3) := by decide +kernel
theorem dX7_findLeast_142 : decode cX7_findLeast 142 = .ok (.invokevirtual 274, 3) := by decide +kernel
theorem dX7_findLeast_145 : decode cX7_findLeast 145 = .ok (.aload_n 0, 1) := by decide +kernel
theorem dX7_findLeast_146 : decode cX7_findLeast 146 = .ok (.iload_n 1, 1) := by decide +kernel
theorem dX7_findLeast_147 : decode cX7_findLeast 147 = .ok (.invokevirtual 277, 3) := by decide +kernel
theorem dX7_findLeast_150 : decode cX7_findLeast 150 = .ok (.ifCond .ne 58, 3) := by decide +kernel
theorem dX7_findLeast_153 : decode cX7_findLeast 153 = .ok (.aload_n 0, 1) := by decide +kernel
theorem dX7_findLeast_154 : decode cX7_findLeast 154 = .ok (.getfield 41, 3) := by decide +kernel
theorem dX7_findLeast_157 : decode cX7_findLeast 157 = .ok (.invokevirtual 280, 3) := by decide +kernel
theorem dX7_findLeast_160 : decode cX7_findLeast 160 = .ok (.aload_n 0, 1) := by decide +kernel
theorem dX7_findLeast_161 : decode cX7_findLeast 161 = .ok (.getfield 41, 3) := by decide +kernel
theorem dX7_findLeast_164 : decode cX7_findLeast 164 = .ok (.invokevirtual 283, 3) := by decide +kernel
theorem dX7_findLeast_167 : decode cX7_findLeast 167 = .ok (.aload_n 0, 1) := by decide +kernel
theorem dX7_findLeast_168 : decode cX7_findLeast 168 = .ok (.getfield 41, 3) := by decide +kernel
theorem dX7_findLeast_171 : decode cX7_findLeast 171 = .ok (.getfield 205, 3) := by decide +kernel
theorem dX7_findLeast_174 : decode cX7_findLeast 174 = .ok (.aload_n 0, 1) := by decide +kernel
theorem dX7_findLeast_175 : decode cX7_findLeast 175 = .ok (.getfield 30, 3) := by decide +kernel
theorem dX7_findLeast_178 : decode cX7_findLeast 178 = .ok (.getfield 205, 3) := by decide +kernel
theorem dX7_findLeast_181 : decode cX7_findLeast 181 = .ok (.isub, 1) := by decide +kernel
theorem dX7_findLeast_182 : decode cX7_findLeast 182 = .ok (.sipush 1024, 3) := by decide +kernel
theorem dX7_findLeast_185 : decode cX7_findLeast 185 = .ok (.imul, 1) := by decide +kernel
theorem dX7_findLeast_186 : decode cX7_findLeast 186 = .ok (.iload 4, 2) := by decide +kernel
theorem dX7_findLeast_188 : decode cX7_findLeast 188 = .ok (.iadd, 1) := by decide +kernel
theorem dX7_findLeast_189 : decode cX7_findLeast 189 = .ok (.istore 5, 2) := by decide +kernel
theorem dX7_findLeast_191 : decode cX7_findLeast 191 = .ok (.iload_n 3, 1) := by decide +kernel
theorem dX7_findLeast_192 : decode cX7_findLeast 192 = .ok (.ifCond .lt 9, 3) := by decide +kernel
theorem dX7_findLeast_195 : decode cX7_findLeast 195 = .ok (.iload 5, 2) := by decide +kernel
theorem dX7_findLeast_197 : decode cX7_findLeast 197 = .ok (.iload_n 3, 1) := by decide +kernel
theorem dX7_findLeast_198 : decode cX7_findLeast 198 = .ok (.if_icmp .ge 8, 3) := by decide +kernel
theorem dX7_findLeast_201 : decode cX7_findLeast 201 = .ok (.iload 5, 2) := by decide +kernel
theorem dX7_findLeast_203 : decode cX7_findLeast 203 = .ok (.goto 4, 3) := by decide +kernel
theorem dX7_findLeast_206 : decode cX7_findLeast 206 = .ok (.iload_n 3, 1) := by decide +kernel
theorem dX7_findLeast_207 : decode cX7_findLeast 207 = .ok (.istore_n 3, 1) := by decide +kernel
theorem dX7_findLeast_208 : decode cX7_findLeast 208 = .ok (.iinc 4 1, 3) := by decide +kernel
theorem dX7_findLeast_211 : decode cX7_findLeast 211 = .ok (.goto (-143), 3) := by decide +kernel
theorem dX7_findLeast_214 : decode cX7_findLeast 214 = .ok (.iload_n 3, 1) := by decide +kernel
theorem dX7_findLeast_215 : decode cX7_findLeast 215 = .ok (.ireturn, 1) := by decide +kernel
theorem dX7_comingLeft_0 : decode cX7_comingLeft 0 = .ok (.iconst 0, 1) := by decide +kernel
theorem dX7_comingLeft_1 : decode cX7_comingLeft 1 = .ok (.istore_n 2, 1) := by decide +kernel
theorem dX7_comingLeft_2 : decode cX7_comingLeft 2 = .ok (.iload_n 2, 1) := by decide +kernel
theorem dX7_comingLeft_3 : decode cX7_comingLeft 3 = .ok (.iload_n 1, 1) := by decide +kernel
theorem dX7_comingLeft_4 : decode cX7_comingLeft 4 = .ok (.if_icmp .ge 29, 3) := by decide +kernel
theorem dX7_comingLeft_7 : decode cX7_comingLeft 7 = .ok (.aload_n 0, 1) := by decide +kernel
theorem dX7_comingLeft_8 : decode cX7_comingLeft 8 = .ok (.getfield 41, 3) := by decide +kernel
theorem dX7_comingLeft_11 : decode cX7_comingLeft 11 = .ok (.getfield 154, 3) := by decide +kernel
theorem dX7_comingLeft_14 : decode cX7_comingLeft 14 = .ok (.aload_n 0, 1) := by decide +kernel
theorem dX7_comingLeft_15 : decode cX7_comingLeft 15 = .ok (.getfield 61, 3) := by decide +kernel
theorem dX7_comingLeft_18 : decode cX7_comingLeft 18 = .ok (.iload_n 2, 1) := by decide +kernel
theorem dX7_comingLeft_19 : decode cX7_comingLeft 19 = .ok (.iaload, 1) := by decide +kernel
theorem dX7_comingLeft_20 : decode cX7_comingLeft 20 = .ok (.iaload, 1) := by decide +kernel
theorem dX7_comingLeft_21 : decode cX7_comingLeft 21 = .ok (.iconst 5, 1) := by decide +kernel
theorem dX7_comingLeft_22 : decode cX7_comingLeft 22 = .ok (.if_icmp .ne 5, 3) := by decide +kernel
theorem dX7_comingLeft_25 : decode cX7_comingLeft 25 = .ok (.iconst 1, 1) := by decide +kernel
theorem dX7_comingLeft_26 : decode cX7_comingLeft 26 = .ok (.ireturn, 1) := by decide +kernel
theorem dX7_comingLeft_27 : decode cX7_comingLeft 27 = .ok (.iinc 2 1, 3) := by decide +kernel
theorem dX7_comingLeft_30 : decode cX7_comingLeft 30 = .ok (.goto (-28), 3) := by decide +kernel
theorem dX7_comingLeft_33 : decode cX7_comingLeft 33 = .ok (.iconst 0, 1) := by decide +kernel
theorem dX7_comingLeft_34 : decode cX7_comingLeft 34 = .ok (.ireturn, 1) := by decide +kernel
theorem dX7_mine_0 : decode cX7_mine 0 = .ok (.iload_n 2, 1) := by decide +kernel
theorem dX7_mine_1 : decode cX7_mine 1 = .ok (.ifCond .lt 16, 3) := by decide +kernel
theorem dX7_mine_4 : decode cX7_mine 4 = .ok (.iload_n 2, 1) := by decide +kernel
theorem dX7_mine_5 : decode cX7_mine 5 = .ok (.iconst 3, 1) := by decide +kernel
theorem dX7_mine_6 : decode cX7_mine 6 = .ok (.if_icmp .gt 11, 3) := by decide +kernel
theorem dX7_mine_9 : decode cX7_mine 9 = .ok (.aload_n 0, 1) := by decide +kernel
theorem dX7_mine_10 : decode cX7_mine 10 = .ok (.iload_n 1, 1) := by decide +kernel
theorem dX7_mine_11 : decode cX7_mine 11 = .ok (.invokevirtual 262, 3) := by decide +kernel
theorem dX7_mine_14 : decode cX7_mine 14 = .ok (.ifCond .ne 5, 3) := by decide +kernel
theorem dX7_mine_17 : decode cX7_mine 17 = .ok (.iconst (-1), 1) := by decide +kernel
theorem dX7_mine_18 : decode cX7_mine 18 = .ok (.ireturn, 1) := by decide +kernel
theorem dX7_mine_19 : decode cX7_mine 19 = .ok (.aload_n 0, 1) := by decide +kernel
theorem dX7_mine_20 : decode cX7_mine 20 = .ok (.iload_n 1, 1) := by decide +kernel
theorem dX7_mine_21 : decode cX7_mine 21 = .ok (.iload_n 2, 1) := by decide +kernel
theorem dX7_mine_22 : decode cX7_mine 22 = .ok (.iconst 2, 1) := by decide +kernel
theorem dX7_mine_23 : decode cX7_mine 23 = .ok (.if_icmp .lt 7, 3) := by decide +kernel
theorem dX7_mine_26 : decode cX7_mine 26 = .ok (.iconst 1, 1) := by decide +kernel
theorem dX7_mine_27 : decode cX7_mine 27 = .ok (.goto 4, 3) := by decide +kernel
theorem dX7_mine_30 : decode cX7_mine 30 = .ok (.iconst 0, 1) := by decide +kernel
theorem dX7_mine_31 : decode cX7_mine 31 = .ok (.invokevirtual 286, 3) := by decide +kernel
theorem dX7_mine_34 : decode cX7_mine 34 = .ok (.istore_n 3, 1) := by decide +kernel
theorem dX7_mine_35 : decode cX7_mine 35 = .ok (.iload_n 3, 1) := by decide +kernel
theorem dX7_mine_36 : decode cX7_mine 36 = .ok (.ifCond .ge 6, 3) := by decide +kernel
theorem dX7_mine_39 : decode cX7_mine 39 = .ok (.bipush (-2), 2) := by decide +kernel
theorem dX7_mine_41 : decode cX7_mine 41 = .ok (.ireturn, 1) := by decide +kernel
theorem dX7_mine_42 : decode cX7_mine 42 = .ok (.iload_n 2, 1) := by decide +kernel
theorem dX7_mine_43 : decode cX7_mine 43 = .ok (.iconst 2, 1) := by decide +kernel
theorem dX7_mine_44 : decode cX7_mine 44 = .ok (.irem, 1) := by decide +kernel
theorem dX7_mine_45 : decode cX7_mine 45 = .ok (.ifCond .ne 9, 3) := by decide +kernel
theorem dX7_mine_48 : decode cX7_mine 48 = .ok (.iload_n 3, 1) := by decide +kernel
theorem dX7_mine_49 : decode cX7_mine 49 = .ok (.iconst 5, 1) := by decide +kernel
theorem dX7_mine_50 : decode cX7_mine 50 = .ok (.irem, 1) := by decide +kernel
theorem dX7_mine_51 : decode cX7_mine 51 = .ok (.goto 6, 3) := by decide +kernel
theorem dX7_mine_54 : decode cX7_mine 54 = .ok (.iload_n 3, 1) := by decide +kernel
theorem dX7_mine_55 : decode cX7_mine 55 = .ok (.iconst 5, 1) := by decide +kernel
theorem dX7_mine_56 : decode cX7_mine 56 = .ok (.idiv, 1) := by decide +kernel
theorem dX7_mine_57 : decode cX7_mine 57 = .ok (.ireturn, 1) := by decide +kernel
theorem dX7_findMine_0 : decode cX7_findMine 0 = .ok (.iconst (-1), 1) := by decide +kernel
theorem dX7_findMine_1 : decode cX7_findMine 1 = .ok (.istore_n 3, 1) := by decide +kernel
theorem dX7_findMine_2 : decode cX7_findMine 2 = .ok (.iconst 0, 1) := by decide +kernel
theorem dX7_findMine_3 : decode cX7_findMine 3 = .ok (.istore 4, 2) := by decide +kernel
theorem dX7_findMine_5 : decode cX7_findMine 5 = .ok (.iload 4, 2) := by decide +kernel
theorem dX7_findMine_7 : decode cX7_findMine 7 = .ok (.aload_n 0, 1) := by decide +kernel
theorem dX7_findMine_8 : decode cX7_findMine 8 = .ok (.getfield 21, 3) := by decide +kernel
theorem dX7_findMine_11 : decode cX7_findMine 11 = .ok (.getfield 190, 3) := by decide +kernel
theorem dX7_findMine_14 : decode cX7_findMine 14 = .ok (.if_icmp .ge 148, 3) := by decide +kernel
theorem dX7_findMine_17 : decode cX7_findMine 17 = .ok (.aload_n 0, 1) := by decide +kernel
theorem dX7_findMine_18 : decode cX7_findMine 18 = .ok (.invokevirtual 265, 3) := by decide +kernel
theorem dX7_findMine_21 : decode cX7_findMine 21 = .ok (.aload_n 0, 1) := by decide +kernel
theorem dX7_findMine_22 : decode cX7_findMine 22 = .ok (.getfield 41, 3) := by decide +kernel
theorem dX7_findMine_25 : decode cX7_findMine 25 = .ok (.getfield 271, 3) := by decide +kernel
theorem dX7_findMine_28 : decode cX7_findMine 28 = .ok (.iload_n 1, 1) := by decide +kernel
theorem dX7_findMine_29 : decode cX7_findMine 29 = .ok (.iload 4, 2) := by decide +kernel
theorem dX7_findMine_31 : decode cX7_findMine 31 = .ok (.iastore, 1) := by decide +kernel
theorem dX7_findMine_32 : decode cX7_findMine 32 = .ok (.aload_n 0, 1) := by decide +kernel
theorem dX7_findMine_33 : decode cX7_findMine 33 = .ok (.getfield 41, 3) := by decide +kernel
theorem dX7_findMine_36 : decode cX7_findMine 36 = .ok (.aload_n 0, 1) := by decide +kernel
theorem dX7_findMine_37 : decode cX7_findMine 37 = .ok (.getfield 21, 3) := by decide +kernel
theorem dX7_findMine_40 : decode cX7_findMine 40 = .ok (.getfield 181, 3) := by decide +kernel
theorem dX7_findMine_43 : decode cX7_findMine 43 = .ok (.aload_n 0, 1) := by decide +kernel
theorem dX7_findMine_44 : decode cX7_findMine 44 = .ok (.getfield 30, 3) := by decide +kernel
theorem dX7_findMine_47 : decode cX7_findMine 47 = .ok (.getfield 202, 3) := by decide +kernel
theorem dX7_findMine_50 : decode cX7_findMine 50 = .ok (.iaload, 1) := by decide +kernel
theorem dX7_findMine_51 : decode cX7_findMine 51 = .ok (.invokevirtual 268, 3) := by decide +kernel
theorem dX7_findMine_54 : decode cX7_findMine 54 = .ok (.pop, 1) := by decide +kernel
theorem dX7_findMine_55 : decode cX7_findMine 55 = .ok (.aload_n 0, 1) := by decide +kernel
theorem dX7_findMine_56 : decode cX7_findMine 56 = .ok (.getfield 41, 3) := by decide +kernel
theorem dX7_findMine_59 : decode cX7_findMine 59 = .ok (.invokevirtual 274, 3) := by decide +kernel
theorem dX7_findMine_62 : decode cX7_findMine 62 = .ok (.aload_n 0, 1) := by decide +kernel
theorem dX7_findMine_63 : decode cX7_findMine 63 = .ok (.getfield 41, 3) := by decide +kernel
theorem dX7_findMine_66 : decode cX7_findMine 66 = .ok (.getfield 154, 3) := by decide +kernel
theorem dX7_findMine_69 : decode cX7_findMine 69 = .ok (.iload_n 1, 1) := by decide +kernel
theorem dX7_findMine_70 : decode cX7_findMine 70 = .ok (.iaload, 1) := by decide +kernel
theorem dX7_findMine_71 : decode cX7_findMine 71 = .ok (.iconst 1, 1) := by decide +kernel
theorem dX7_findMine_72 : decode cX7_findMine 72 = .ok (.if_icmp .ne 84, 3) := by decide +kernel
theorem dX7_findMine_75 : decode cX7_findMine 75 = .ok (.aload_n 0, 1) := by decide +kernel
theorem dX7_findMine_76 : decode cX7_findMine 76 = .ok (.getfield 41, 3) := by decide +kernel
theorem dX7_findMine_79 : decode cX7_findMine 79 = .ok (.invokevirtual 280, 3) := by decide +kernel
theorem dX7_findMine_82 : decode cX7_findMine 82 = .ok (.aload_n 0, 1) := by decide +kernel
theorem dX7_findMine_83 : decode cX7_findMine 83 = .ok (.getfield 41, 3) := by decide +kernel
theorem dX7_findMine_86 : decode cX7_findMine 86 = .ok (.invokevirtual 283, 3) := by decide +kernel
theorem dX7_findMine_89 : decode cX7_findMine 89 = .ok (.iload_n 2, 1) := by decide +kernel
theorem dX7_findMine_90 : decode cX7_findMine 90 = .ok (.ifCond .eq 21, 3) := by decide +kernel
theorem dX7_findMine_93 : decode cX7_findMine 93 = .ok (.aload_n 0, 1) := by decide +kernel
theorem dX7_findMine_94 : decode cX7_findMine 94 = .ok (.getfield 41, 3) := by decide +kernel
theorem dX7_findMine_97 : decode cX7_findMine 97 = .ok (.getfield 205, 3) := by decide +kernel
theorem dX7_findMine_100 : decode cX7_findMine 100 = .ok (.aload_n 0, 1) := by decide +kernel
theorem dX7_findMine_101 : decode cX7_findMine 101 = .ok (.getfield 30, 3) := by decide +kernel
theorem dX7_findMine_104 : decode cX7_findMine 104 = .ok (.getfield 205, 3) := by decide +kernel
theorem dX7_findMine_107 : decode cX7_findMine 107 = .ok (.isub, 1) := by decide +kernel
theorem dX7_findMine_108 : decode cX7_findMine 108 = .ok (.goto 20, 3) := by decide +kernel
theorem dX7_findMine_111 : decode cX7_findMine 111 = .ok (.aload_n 0, 1) := by decide +kernel
theorem dX7_findMine_112 : decode cX7_findMine 112 = .ok (.getfield 41, 3) := by decide +kernel
theorem dX7_findMine_115 : decode cX7_findMine 115 = .ok (.getfield 134, 3) := by decide +kernel
theorem dX7_findMine_118 : decode cX7_findMine 118 = .ok (.aload_n 0, 1) := by decide +kernel
theorem dX7_findMine_119 : decode cX7_findMine 119 = .ok (.getfield 21, 3) := by decide +kernel
theorem dX7_findMine_122 : decode cX7_findMine 122 = .ok (.getfield 145, 3) := by decide +kernel
theorem dX7_findMine_125 : decode cX7_findMine 125 = .ok (.iload_n 1, 1) := by decide +kernel
theorem dX7_findMine_126 : decode cX7_findMine 126 = .ok (.iaload, 1) := by decide +kernel
theorem dX7_findMine_127 : decode cX7_findMine 127 = .ok (.iaload, 1) := by decide +kernel
theorem dX7_findMine_128 : decode cX7_findMine 128 = .ok (.istore 5, 2) := by decide +kernel
theorem dX7_findMine_130 : decode cX7_findMine 130 = .ok (.iload 5, 2) := by decide +kernel
theorem dX7_findMine_132 : decode cX7_findMine 132 = .ok (.iconst 5, 1) := by decide +kernel
theorem dX7_findMine_133 : decode cX7_findMine 133 = .ok (.imul, 1) := by decide +kernel
theorem dX7_findMine_134 : decode cX7_findMine 134 = .ok (.iload 4, 2) := by decide +kernel
theorem dX7_findMine_136 : decode cX7_findMine 136 = .ok (.iadd, 1) := by decide +kernel
theorem dX7_findMine_137 : decode cX7_findMine 137 = .ok (.istore 6, 2) := by decide +kernel
theorem dX7_findMine_139 : decode cX7_findMine 139 = .ok (.iload_n 3, 1) := by decide +kernel
theorem dX7_findMine_140 : decode cX7_findMine 140 = .ok (.ifCond .lt 9, 3) := by decide +kernel
theorem dX7_findMine_143 : decode cX7_findMine 143 = .ok (.iload 6, 2) := by decide +kernel
theorem dX7_findMine_145 : decode cX7_findMine 145 = .ok (.iload_n 3, 1) := by decide +kernel
theorem dX7_findMine_146 : decode cX7_findMine 146 = .ok (.if_icmp .ge 8, 3) := by decide +kernel
theorem dX7_findMine_149 : decode cX7_findMine 149 = .ok (.iload 6, 2) := by decide +kernel
theorem dX7_findMine_151 : decode cX7_findMine 151 = .ok (.goto 4, 3) := by decide +kernel
theorem dX7_findMine_154 : decode cX7_findMine 154 = .ok (.iload_n 3, 1) := by decide +kernel
theorem dX7_findMine_155 : decode cX7_findMine 155 = .ok (.istore_n 3, 1) := by decide +kernel
theorem dX7_findMine_156 : decode cX7_findMine 156 = .ok (.iinc 4 1, 3) := by decide +kernel
theorem dX7_findMine_159 : decode cX7_findMine 159 = .ok (.goto (-154), 3) := by decide +kernel
theorem dX7_findMine_162 : decode cX7_findMine 162 = .ok (.iload_n 3, 1) := by decide +kernel
theorem dX7_findMine_163 : decode cX7_findMine 163 = .ok (.ireturn, 1) := by decide +kernel
theorem dX7_rests_0 : decode cX7_rests 0 = .ok (.aload_n 0, 1) := by decide +kernel
theorem dX7_rests_1 : decode cX7_rests 1 = .ok (.iload_n 1, 1) := by decide +kernel
theorem dX7_rests_2 : decode cX7_rests 2 = .ok (.iload_n 2, 1) := by decide +kernel
theorem dX7_rests_3 : decode cX7_rests 3 = .ok (.invokevirtual 290, 3) := by decide +kernel
theorem dX7_rests_6 : decode cX7_rests 6 = .ok (.ifCond .ne 5, 3) := by decide +kernel
theorem dX7_rests_9 : decode cX7_rests 9 = .ok (.iconst (-1), 1) := by decide +kernel
theorem dX7_rests_10 : decode cX7_rests 10 = .ok (.ireturn, 1) := by decide +kernel
theorem dX7_rests_11 : decode cX7_rests 11 = .ok (.aload_n 0, 1) := by decide +kernel
theorem dX7_rests_12 : decode cX7_rests 12 = .ok (.iload_n 1, 1) := by decide +kernel
theorem dX7_rests_13 : decode cX7_rests 13 = .ok (.iload_n 2, 1) := by decide +kernel
theorem dX7_rests_14 : decode cX7_rests 14 = .ok (.invokevirtual 293, 3) := by decide +kernel
theorem dX7_rests_17 : decode cX7_rests 17 = .ok (.iconst 0, 1) := by decide +kernel
theorem dX7_rests_18 : decode cX7_rests 18 = .ok (.istore_n 3, 1) := by decide +kernel
theorem dX7_rests_19 : decode cX7_rests 19 = .ok (.iconst 0, 1) := by decide +kernel
theorem dX7_rests_20 : decode cX7_rests 20 = .ok (.istore 4, 2) := by decide +kernel
theorem dX7_rests_22 : decode cX7_rests 22 = .ok (.iload 4, 2) := by decide +kernel
theorem dX7_rests_24 : decode cX7_rests 24 = .ok (.bipush 25, 2) := by decide +kernel
theorem dX7_rests_26 : decode cX7_rests 26 = .ok (.if_icmp .ge 21, 3) := by decide +kernel
theorem dX7_rests_29 : decode cX7_rests 29 = .ok (.aload_n 0, 1) := by decide +kernel
theorem dX7_rests_30 : decode cX7_rests 30 = .ok (.iload 4, 2) := by decide +kernel
theorem dX7_rests_32 : decode cX7_rests 32 = .ok (.invokevirtual 296, 3) := by decide +kernel
theorem dX7_rests_35 : decode cX7_rests 35 = .ok (.ifCond .eq 6, 3) := by decide +kernel
theorem dX7_rests_38 : decode cX7_rests 38 = .ok (.iinc 3 1, 3) := by decide +kernel
theorem dX7_rests_41 : decode cX7_rests 41 = .ok (.iinc 4 1, 3) := by decide +kernel
theorem dX7_rests_44 : decode cX7_rests 44 = .ok (.goto (-22), 3) := by decide +kernel
theorem dX7_rests_47 : decode cX7_rests 47 = .ok (.iload_n 3, 1) := by decide +kernel
theorem dX7_rests_48 : decode cX7_rests 48 = .ok (.ireturn, 1) := by decide +kernel
theorem dX7_rest_0 : decode cX7_rest 0 = .ok (.iload_n 3, 1) := by decide +kernel
theorem dX7_rest_1 : decode cX7_rest 1 = .ok (.ifCond .lt 12, 3) := by decide +kernel
theorem dX7_rest_4 : decode cX7_rest 4 = .ok (.aload_n 0, 1) := by decide +kernel
theorem dX7_rest_5 : decode cX7_rest 5 = .ok (.iload_n 1, 1) := by decide +kernel
theorem dX7_rest_6 : decode cX7_rest 6 = .ok (.iload_n 2, 1) := by decide +kernel
theorem dX7_rest_7 : decode cX7_rest 7 = .ok (.invokevirtual 290, 3) := by decide +kernel
theorem dX7_rest_10 : decode cX7_rest 10 = .ok (.ifCond .ne 5, 3) := by decide +kernel
theorem dX7_rest_13 : decode cX7_rest 13 = .ok (.iconst (-1), 1) := by decide +kernel
theorem dX7_rest_14 : decode cX7_rest 14 = .ok (.ireturn, 1) := by decide +kernel
theorem dX7_rest_15 : decode cX7_rest 15 = .ok (.aload_n 0, 1) := by decide +kernel
theorem dX7_rest_16 : decode cX7_rest 16 = .ok (.iload_n 1, 1) := by decide +kernel
theorem dX7_rest_17 : decode cX7_rest 17 = .ok (.iload_n 2, 1) := by decide +kernel
theorem dX7_rest_18 : decode cX7_rest 18 = .ok (.invokevirtual 293, 3) := by decide +kernel
theorem dX7_rest_21 : decode cX7_rest 21 = .ok (.iconst 0, 1) := by decide +kernel
theorem dX7_rest_22 : decode cX7_rest 22 = .ok (.istore 4, 2) := by decide +kernel
theorem dX7_rest_24 : decode cX7_rest 24 = .ok (.iconst 0, 1) := by decide +kernel
theorem dX7_rest_25 : decode cX7_rest 25 = .ok (.istore 5, 2) := by decide +kernel
theorem dX7_rest_27 : decode cX7_rest 27 = .ok (.iload 5, 2) := by decide +kernel
theorem dX7_rest_29 : decode cX7_rest 29 = .ok (.bipush 25, 2) := by decide +kernel
theorem dX7_rest_31 : decode cX7_rest 31 = .ok (.if_icmp .ge 40, 3) := by decide +kernel
theorem dX7_rest_34 : decode cX7_rest 34 = .ok (.aload_n 0, 1) := by decide +kernel
theorem dX7_rest_35 : decode cX7_rest 35 = .ok (.iload 5, 2) := by decide +kernel
theorem dX7_rest_37 : decode cX7_rest 37 = .ok (.invokevirtual 296, 3) := by decide +kernel
theorem dX7_rest_40 : decode cX7_rest 40 = .ok (.ifCond .eq 25, 3) := by decide +kernel
theorem dX7_rest_43 : decode cX7_rest 43 = .ok (.iload 4, 2) := by decide +kernel
theorem dX7_rest_45 : decode cX7_rest 45 = .ok (.iload_n 3, 1) := by decide +kernel
theorem dX7_rest_46 : decode cX7_rest 46 = .ok (.if_icmp .ne 16, 3) := by decide +kernel
theorem dX7_rest_49 : decode cX7_rest 49 = .ok (.iload 5, 2) := by decide +kernel
theorem dX7_rest_51 : decode cX7_rest 51 = .ok (.iconst 5, 1) := by decide +kernel
theorem dX7_rest_52 : decode cX7_rest 52 = .ok (.idiv, 1) := by decide +kernel
theorem dX7_rest_53 : decode cX7_rest 53 = .ok (.bipush 10, 2) := by decide +kernel
theorem dX7_rest_55 : decode cX7_rest 55 = .ok (.imul, 1) := by decide +kernel
theorem dX7_rest_56 : decode cX7_rest 56 = .ok (.iload 5, 2) := by decide +kernel
theorem dX7_rest_58 : decode cX7_rest 58 = .ok (.iconst 5, 1) := by decide +kernel
theorem dX7_rest_59 : decode cX7_rest 59 = .ok (.irem, 1) := by decide +kernel
theorem dX7_rest_60 : decode cX7_rest 60 = .ok (.iadd, 1) := by decide +kernel
theorem dX7_rest_61 : decode cX7_rest 61 = .ok (.ireturn, 1) := by decide +kernel
theorem dX7_rest_62 : decode cX7_rest 62 = .ok (.iinc 4 1, 3) := by decide +kernel
theorem dX7_rest_65 : decode cX7_rest 65 = .ok (.iinc 5 1, 3) := by decide +kernel
theorem dX7_rest_68 : decode cX7_rest 68 = .ok (.goto (-41), 3) := by decide +kernel
theorem dX7_rest_71 : decode cX7_rest 71 = .ok (.bipush (-2), 2) := by decide +kernel
theorem dX7_rest_73 : decode cX7_rest 73 = .ok (.ireturn, 1) := by decide +kernel
theorem dX7_canChoose_0 : decode cX7_canChoose 0 = .ok (.aload_n 0, 1) := by decide +kernel
theorem dX7_canChoose_1 : decode cX7_canChoose 1 = .ok (.iload_n 1, 1) := by decide +kernel
theorem dX7_canChoose_2 : decode cX7_canChoose 2 = .ok (.invokevirtual 262, 3) := by decide +kernel
theorem dX7_canChoose_5 : decode cX7_canChoose 5 = .ok (.ifCond .eq 46, 3) := by decide +kernel
theorem dX7_canChoose_8 : decode cX7_canChoose 8 = .ok (.aload_n 0, 1) := by decide +kernel
theorem dX7_canChoose_9 : decode cX7_canChoose 9 = .ok (.iload_n 2, 1) := by decide +kernel
theorem dX7_canChoose_10 : decode cX7_canChoose 10 = .ok (.invokevirtual 262, 3) := by decide +kernel
theorem dX7_canChoose_13 : decode cX7_canChoose 13 = .ok (.ifCond .eq 38, 3) := by decide +kernel
theorem dX7_canChoose_16 : decode cX7_canChoose 16 = .ok (.aload_n 0, 1) := by decide +kernel
theorem dX7_canChoose_17 : decode cX7_canChoose 17 = .ok (.getfield 21, 3) := by decide +kernel
theorem dX7_canChoose_20 : decode cX7_canChoose 20 = .ok (.getfield 145, 3) := by decide +kernel
theorem dX7_canChoose_23 : decode cX7_canChoose 23 = .ok (.iload_n 1, 1) := by decide +kernel
theorem dX7_canChoose_24 : decode cX7_canChoose 24 = .ok (.iaload, 1) := by decide +kernel
theorem dX7_canChoose_25 : decode cX7_canChoose 25 = .ok (.aload_n 0, 1) := by decide +kernel
theorem dX7_canChoose_26 : decode cX7_canChoose 26 = .ok (.getfield 21, 3) := by decide +kernel
theorem dX7_canChoose_29 : decode cX7_canChoose 29 = .ok (.getfield 145, 3) := by decide +kernel
theorem dX7_canChoose_32 : decode cX7_canChoose 32 = .ok (.iload_n 2, 1) := by decide +kernel
theorem dX7_canChoose_33 : decode cX7_canChoose 33 = .ok (.iaload, 1) := by decide +kernel
theorem dX7_canChoose_34 : decode cX7_canChoose 34 = .ok (.if_icmp .eq 17, 3) := by decide +kernel
theorem dX7_canChoose_37 : decode cX7_canChoose 37 = .ok (.aload_n 0, 1) := by decide +kernel
theorem dX7_canChoose_38 : decode cX7_canChoose 38 = .ok (.getfield 21, 3) := by decide +kernel
theorem dX7_canChoose_41 : decode cX7_canChoose 41 = .ok (.getfield 190, 3) := by decide +kernel
theorem dX7_canChoose_44 : decode cX7_canChoose 44 = .ok (.ifCond .le 7, 3) := by decide +kernel
theorem dX7_canChoose_47 : decode cX7_canChoose 47 = .ok (.iconst 1, 1) := by decide +kernel
theorem dX7_canChoose_48 : decode cX7_canChoose 48 = .ok (.goto 4, 3) := by decide +kernel
theorem dX7_canChoose_51 : decode cX7_canChoose 51 = .ok (.iconst 0, 1) := by decide +kernel
theorem dX7_canChoose_52 : decode cX7_canChoose 52 = .ok (.ireturn, 1) := by decide +kernel
theorem dX7_workOutCosts_0 : decode cX7_workOutCosts 0 = .ok (.iconst 0, 1) := by decide +kernel
theorem dX7_workOutCosts_1 : decode cX7_workOutCosts 1 = .ok (.istore_n 3, 1) := by decide +kernel
theorem dX7_workOutCosts_2 : decode cX7_workOutCosts 2 = .ok (.iload_n 3, 1) := by decide +kernel
theorem dX7_workOutCosts_3 : decode cX7_workOutCosts 3 = .ok (.aload_n 0, 1) := by decide +kernel
theorem dX7_workOutCosts_4 : decode cX7_workOutCosts 4 = .ok (.getfield 21, 3) := by decide +kernel
theorem dX7_workOutCosts_7 : decode cX7_workOutCosts 7 = .ok (.getfield 190, 3) := by decide +kernel
theorem dX7_workOutCosts_10 : decode cX7_workOutCosts 10 = .ok (.if_icmp .ge 94, 3) := by decide +kernel
theorem dX7_workOutCosts_13 : decode cX7_workOutCosts 13 = .ok (.iconst 0, 1) := by decide +kernel
theorem dX7_workOutCosts_14 : decode cX7_workOutCosts 14 = .ok (.istore 4, 2) := by decide +kernel
theorem dX7_workOutCosts_16 : decode cX7_workOutCosts 16 = .ok (.iload 4, 2) := by decide +kernel
theorem dX7_workOutCosts_18 : decode cX7_workOutCosts 18 = .ok (.aload_n 0, 1) := by decide +kernel
theorem dX7_workOutCosts_19 : decode cX7_workOutCosts 19 = .ok (.getfield 21, 3) := by decide +kernel
theorem dX7_workOutCosts_22 : decode cX7_workOutCosts 22 = .ok (.getfield 190, 3) := by decide +kernel
theorem dX7_workOutCosts_25 : decode cX7_workOutCosts 25 = .ok (.if_icmp .ge 73, 3) := by decide +kernel
theorem dX7_workOutCosts_28 : decode cX7_workOutCosts 28 = .ok (.aload_n 0, 1) := by decide +kernel
theorem dX7_workOutCosts_29 : decode cX7_workOutCosts 29 = .ok (.invokevirtual 265, 3) := by decide +kernel
theorem dX7_workOutCosts_32 : decode cX7_workOutCosts 32 = .ok (.aload_n 0, 1) := by decide +kernel
theorem dX7_workOutCosts_33 : decode cX7_workOutCosts 33 = .ok (.getfield 41, 3) := by decide +kernel
theorem dX7_workOutCosts_36 : decode cX7_workOutCosts 36 = .ok (.getfield 271, 3) := by decide +kernel
theorem dX7_workOutCosts_39 : decode cX7_workOutCosts 39 = .ok (.iload_n 1, 1) := by decide +kernel
theorem dX7_workOutCosts_40 : decode cX7_workOutCosts 40 = .ok (.iload_n 3, 1) := by decide +kernel
theorem dX7_workOutCosts_41 : decode cX7_workOutCosts 41 = .ok (.iastore, 1) := by decide +kernel
theorem dX7_workOutCosts_42 : decode cX7_workOutCosts 42 = .ok (.aload_n 0, 1) := by decide +kernel
theorem dX7_workOutCosts_43 : decode cX7_workOutCosts 43 = .ok (.getfield 41, 3) := by decide +kernel
theorem dX7_workOutCosts_46 : decode cX7_workOutCosts 46 = .ok (.getfield 271, 3) := by decide +kernel
theorem dX7_workOutCosts_49 : decode cX7_workOutCosts 49 = .ok (.iload_n 2, 1) := by decide +kernel
theorem dX7_workOutCosts_50 : decode cX7_workOutCosts 50 = .ok (.iload 4, 2) := by decide +kernel
theorem dX7_workOutCosts_52 : decode cX7_workOutCosts 52 = .ok (.iastore, 1) := by decide +kernel
theorem dX7_workOutCosts_53 : decode cX7_workOutCosts 53 = .ok (.aload_n 0, 1) := by decide +kernel
theorem dX7_workOutCosts_54 : decode cX7_workOutCosts 54 = .ok (.getfield 41, 3) := by decide +kernel
theorem dX7_workOutCosts_57 : decode cX7_workOutCosts 57 = .ok (.invokevirtual 283, 3) := by decide +kernel
theorem dX7_workOutCosts_60 : decode cX7_workOutCosts 60 = .ok (.aload_n 0, 1) := by decide +kernel
theorem dX7_workOutCosts_61 : decode cX7_workOutCosts 61 = .ok (.getfield 65, 3) := by decide +kernel
theorem dX7_workOutCosts_64 : decode cX7_workOutCosts 64 = .ok (.iload_n 3, 1) := by decide +kernel
theorem dX7_workOutCosts_65 : decode cX7_workOutCosts 65 = .ok (.iconst 5, 1) := by decide +kernel
theorem dX7_workOutCosts_66 : decode cX7_workOutCosts 66 = .ok (.imul, 1) := by decide +kernel
theorem dX7_workOutCosts_67 : decode cX7_workOutCosts 67 = .ok (.iload 4, 2) := by decide +kernel
theorem dX7_workOutCosts_69 : decode cX7_workOutCosts 69 = .ok (.iadd, 1) := by decide +kernel
theorem dX7_workOutCosts_70 : decode cX7_workOutCosts 70 = .ok (.aload_n 0, 1) := by decide +kernel
theorem dX7_workOutCosts_71 : decode cX7_workOutCosts 71 = .ok (.iload_n 1, 1) := by decide +kernel
theorem dX7_workOutCosts_72 : decode cX7_workOutCosts 72 = .ok (.invokevirtual 299, 3) := by decide +kernel
theorem dX7_workOutCosts_75 : decode cX7_workOutCosts 75 = .ok (.iastore, 1) := by decide +kernel
theorem dX7_workOutCosts_76 : decode cX7_workOutCosts 76 = .ok (.aload_n 0, 1) := by decide +kernel
theorem dX7_workOutCosts_77 : decode cX7_workOutCosts 77 = .ok (.getfield 68, 3) := by decide +kernel
theorem dX7_workOutCosts_80 : decode cX7_workOutCosts 80 = .ok (.iload_n 3, 1) := by decide +kernel
theorem dX7_workOutCosts_81 : decode cX7_workOutCosts 81 = .ok (.iconst 5, 1) := by decide +kernel
theorem dX7_workOutCosts_82 : decode cX7_workOutCosts 82 = .ok (.imul, 1) := by decide +kernel
theorem dX7_workOutCosts_83 : decode cX7_workOutCosts 83 = .ok (.iload 4, 2) := by decide +kernel
theorem dX7_workOutCosts_85 : decode cX7_workOutCosts 85 = .ok (.iadd, 1) := by decide +kernel
theorem dX7_workOutCosts_86 : decode cX7_workOutCosts 86 = .ok (.aload_n 0, 1) := by decide +kernel
theorem dX7_workOutCosts_87 : decode cX7_workOutCosts 87 = .ok (.iload_n 2, 1) := by decide +kernel
theorem dX7_workOutCosts_88 : decode cX7_workOutCosts 88 = .ok (.invokevirtual 299, 3) := by decide +kernel
theorem dX7_workOutCosts_91 : decode cX7_workOutCosts 91 = .ok (.iastore, 1) := by decide +kernel
theorem dX7_workOutCosts_92 : decode cX7_workOutCosts 92 = .ok (.iinc 4 1, 3) := by decide +kernel
theorem dX7_workOutCosts_95 : decode cX7_workOutCosts 95 = .ok (.goto (-79), 3) := by decide +kernel
theorem dX7_workOutCosts_98 : decode cX7_workOutCosts 98 = .ok (.iinc 3 1, 3) := by decide +kernel
theorem dX7_workOutCosts_101 : decode cX7_workOutCosts 101 = .ok (.goto (-99), 3) := by decide +kernel
theorem dX7_workOutCosts_104 : decode cX7_workOutCosts 104 = .ok (.return_, 1) := by decide +kernel
theorem dX7_costOf_0 : decode cX7_costOf 0 = .ok (.aload_n 0, 1) := by decide +kernel
theorem dX7_costOf_1 : decode cX7_costOf 1 = .ok (.getfield 41, 3) := by decide +kernel
theorem dX7_costOf_4 : decode cX7_costOf 4 = .ok (.getfield 134, 3) := by decide +kernel
theorem dX7_costOf_7 : decode cX7_costOf 7 = .ok (.aload_n 0, 1) := by decide +kernel
theorem dX7_costOf_8 : decode cX7_costOf 8 = .ok (.getfield 21, 3) := by decide +kernel
theorem dX7_costOf_11 : decode cX7_costOf 11 = .ok (.getfield 145, 3) := by decide +kernel
theorem dX7_costOf_14 : decode cX7_costOf 14 = .ok (.iload_n 1, 1) := by decide +kernel
theorem dX7_costOf_15 : decode cX7_costOf 15 = .ok (.iaload, 1) := by decide +kernel
theorem dX7_costOf_16 : decode cX7_costOf 16 = .ok (.iaload, 1) := by decide +kernel
theorem dX7_costOf_17 : decode cX7_costOf 17 = .ok (.aload_n 0, 1) := by decide +kernel
theorem dX7_costOf_18 : decode cX7_costOf 18 = .ok (.getfield 41, 3) := by decide +kernel
theorem dX7_costOf_21 : decode cX7_costOf 21 = .ok (.getfield 154, 3) := by decide +kernel
theorem dX7_costOf_24 : decode cX7_costOf 24 = .ok (.iload_n 1, 1) := by decide +kernel
theorem dX7_costOf_25 : decode cX7_costOf 25 = .ok (.iaload, 1) := by decide +kernel
theorem dX7_costOf_26 : decode cX7_costOf 26 = .ok (.iconst 5, 1) := by decide +kernel
theorem dX7_costOf_27 : decode cX7_costOf 27 = .ok (.if_icmp .ne 9, 3) := by decide +kernel
theorem dX7_costOf_30 : decode cX7_costOf 30 = .ok (.sipush 999, 3) := by decide +kernel
theorem dX7_costOf_33 : decode cX7_costOf 33 = .ok (.goto 4, 3) := by decide +kernel
theorem dX7_costOf_36 : decode cX7_costOf 36 = .ok (.iconst 0, 1) := by decide +kernel
theorem dX7_costOf_37 : decode cX7_costOf 37 = .ok (.iadd, 1) := by decide +kernel
theorem dX7_costOf_38 : decode cX7_costOf 38 = .ok (.ireturn, 1) := by decide +kernel
theorem dX7_isRest_0 : decode cX7_isRest 0 = .ok (.iload_n 1, 1) := by decide +kernel
theorem dX7_isRest_1 : decode cX7_isRest 1 = .ok (.iconst 5, 1) := by decide +kernel
theorem dX7_isRest_2 : decode cX7_isRest 2 = .ok (.idiv, 1) := by decide +kernel
theorem dX7_isRest_3 : decode cX7_isRest 3 = .ok (.istore_n 2, 1) := by decide +kernel
theorem dX7_isRest_4 : decode cX7_isRest 4 = .ok (.iload_n 1, 1) := by decide +kernel
theorem dX7_isRest_5 : decode cX7_isRest 5 = .ok (.iconst 5, 1) := by decide +kernel
theorem dX7_isRest_6 : decode cX7_isRest 6 = .ok (.irem, 1) := by decide +kernel
theorem dX7_isRest_7 : decode cX7_isRest 7 = .ok (.istore_n 3, 1) := by decide +kernel
theorem dX7_isRest_8 : decode cX7_isRest 8 = .ok (.iload_n 2, 1) := by decide +kernel
theorem dX7_isRest_9 : decode cX7_isRest 9 = .ok (.aload_n 0, 1) := by decide +kernel
theorem dX7_isRest_10 : decode cX7_isRest 10 = .ok (.getfield 21, 3) := by decide +kernel
theorem dX7_isRest_13 : decode cX7_isRest 13 = .ok (.getfield 190, 3) := by decide +kernel
theorem dX7_isRest_16 : decode cX7_isRest 16 = .ok (.if_icmp .ge 14, 3) := by decide +kernel
theorem dX7_isRest_19 : decode cX7_isRest 19 = .ok (.iload_n 3, 1) := by decide +kernel
theorem dX7_isRest_20 : decode cX7_isRest 20 = .ok (.aload_n 0, 1) := by decide +kernel
theorem dX7_isRest_21 : decode cX7_isRest 21 = .ok (.getfield 21, 3) := by decide +kernel
theorem dX7_isRest_24 : decode cX7_isRest 24 = .ok (.getfield 190, 3) := by decide +kernel
theorem dX7_isRest_27 : decode cX7_isRest 27 = .ok (.if_icmp .lt 5, 3) := by decide +kernel
theorem dX7_isRest_30 : decode cX7_isRest 30 = .ok (.iconst 0, 1) := by decide +kernel
theorem dX7_isRest_31 : decode cX7_isRest 31 = .ok (.ireturn, 1) := by decide +kernel
theorem dX7_isRest_32 : decode cX7_isRest 32 = .ok (.iconst 0, 1) := by decide +kernel
theorem dX7_isRest_33 : decode cX7_isRest 33 = .ok (.istore 4, 2) := by decide +kernel
theorem dX7_isRest_35 : decode cX7_isRest 35 = .ok (.iload 4, 2) := by decide +kernel
theorem dX7_isRest_37 : decode cX7_isRest 37 = .ok (.aload_n 0, 1) := by decide +kernel
theorem dX7_isRest_38 : decode cX7_isRest 38 = .ok (.getfield 21, 3) := by decide +kernel
theorem dX7_isRest_41 : decode cX7_isRest 41 = .ok (.getfield 190, 3) := by decide +kernel
theorem dX7_isRest_44 : decode cX7_isRest 44 = .ok (.if_icmp .ge 51, 3) := by decide +kernel
theorem dX7_isRest_47 : decode cX7_isRest 47 = .ok (.aload_n 0, 1) := by decide +kernel
theorem dX7_isRest_48 : decode cX7_isRest 48 = .ok (.getfield 65, 3) := by decide +kernel
theorem dX7_isRest_51 : decode cX7_isRest 51 = .ok (.iload 4, 2) := by decide +kernel
theorem dX7_isRest_53 : decode cX7_isRest 53 = .ok (.iconst 5, 1) := by decide +kernel
theorem dX7_isRest_54 : decode cX7_isRest 54 = .ok (.imul, 1) := by decide +kernel
theorem dX7_isRest_55 : decode cX7_isRest 55 = .ok (.iload_n 3, 1) := by decide +kernel
theorem dX7_isRest_56 : decode cX7_isRest 56 = .ok (.iadd, 1) := by decide +kernel
theorem dX7_isRest_57 : decode cX7_isRest 57 = .ok (.iaload, 1) := by decide +kernel
theorem dX7_isRest_58 : decode cX7_isRest 58 = .ok (.aload_n 0, 1) := by decide +kernel
theorem dX7_isRest_59 : decode cX7_isRest 59 = .ok (.getfield 65, 3) := by decide +kernel
theorem dX7_isRest_62 : decode cX7_isRest 62 = .ok (.iload_n 1, 1) := by decide +kernel
theorem dX7_isRest_63 : decode cX7_isRest 63 = .ok (.iaload, 1) := by decide +kernel
theorem dX7_isRest_64 : decode cX7_isRest 64 = .ok (.if_icmp .lt 23, 3) := by decide +kernel
theorem dX7_isRest_67 : decode cX7_isRest 67 = .ok (.aload_n 0, 1) := by decide +kernel
theorem dX7_isRest_68 : decode cX7_isRest 68 = .ok (.getfield 68, 3) := by decide +kernel
theorem dX7_isRest_71 : decode cX7_isRest 71 = .ok (.iload_n 2, 1) := by decide +kernel
theorem dX7_isRest_72 : decode cX7_isRest 72 = .ok (.iconst 5, 1) := by decide +kernel
theorem dX7_isRest_73 : decode cX7_isRest 73 = .ok (.imul, 1) := by decide +kernel
theorem dX7_isRest_74 : decode cX7_isRest 74 = .ok (.iload 4, 2) := by decide +kernel
theorem dX7_isRest_76 : decode cX7_isRest 76 = .ok (.iadd, 1) := by decide +kernel
theorem dX7_isRest_77 : decode cX7_isRest 77 = .ok (.iaload, 1) := by decide +kernel
theorem dX7_isRest_78 : decode cX7_isRest 78 = .ok (.aload_n 0, 1) := by decide +kernel
theorem dX7_isRest_79 : decode cX7_isRest 79 = .ok (.getfield 68, 3) := by decide +kernel
theorem dX7_isRest_82 : decode cX7_isRest 82 = .ok (.iload_n 1, 1) := by decide +kernel
theorem dX7_isRest_83 : decode cX7_isRest 83 = .ok (.iaload, 1) := by decide +kernel
theorem dX7_isRest_84 : decode cX7_isRest 84 = .ok (.if_icmp .ge 5, 3) := by decide +kernel
theorem dX7_isRest_87 : decode cX7_isRest 87 = .ok (.iconst 0, 1) := by decide +kernel
theorem dX7_isRest_88 : decode cX7_isRest 88 = .ok (.ireturn, 1) := by decide +kernel
theorem dX7_isRest_89 : decode cX7_isRest 89 = .ok (.iinc 4 1, 3) := by decide +kernel
theorem dX7_isRest_92 : decode cX7_isRest 92 = .ok (.goto (-57), 3) := by decide +kernel
theorem dX7_isRest_95 : decode cX7_isRest 95 = .ok (.iconst 1, 1) := by decide +kernel
theorem dX7_isRest_96 : decode cX7_isRest 96 = .ok (.ireturn, 1) := by decide +kernel
theorem dX7_startTrial_0 : decode cX7_startTrial 0 = .ok (.aload_n 0, 1) := by decide +kernel
theorem dX7_startTrial_1 : decode cX7_startTrial 1 = .ok (.getfield 41, 3) := by decide +kernel
theorem dX7_startTrial_4 : decode cX7_startTrial 4 = .ok (.aload_n 0, 1) := by decide +kernel
theorem dX7_startTrial_5 : decode cX7_startTrial 5 = .ok (.getfield 30, 3) := by decide +kernel
theorem dX7_startTrial_8 : decode cX7_startTrial 8 = .ok (.invokevirtual 237, 3) := by decide +kernel
theorem dX7_startTrial_11 : decode cX7_startTrial 11 = .ok (.aload_n 0, 1) := by decide +kernel
theorem dX7_startTrial_12 : decode cX7_startTrial 12 = .ok (.getfield 41, 3) := by decide +kernel
theorem dX7_startTrial_15 : decode cX7_startTrial 15 = .ok (.iconst 0, 1) := by decide +kernel
theorem dX7_startTrial_16 : decode cX7_startTrial 16 = .ok (.putfield 243, 3) := by decide +kernel
theorem dX7_startTrial_19 : decode cX7_startTrial 19 = .ok (.aload_n 0, 1) := by decide +kernel
theorem dX7_startTrial_20 : decode cX7_startTrial 20 = .ok (.getfield 41, 3) := by decide +kernel
theorem dX7_startTrial_23 : decode cX7_startTrial 23 = .ok (.iconst 1, 1) := by decide +kernel
theorem dX7_startTrial_24 : decode cX7_startTrial 24 = .ok (.putfield 302, 3) := by decide +kernel
theorem dX7_startTrial_27 : decode cX7_startTrial 27 = .ok (.aload_n 0, 1) := by decide +kernel
theorem dX7_startTrial_28 : decode cX7_startTrial 28 = .ok (.getfield 41, 3) := by decide +kernel
theorem dX7_startTrial_31 : decode cX7_startTrial 31 = .ok (.iconst 1, 1) := by decide +kernel
theorem dX7_startTrial_32 : decode cX7_startTrial 32 = .ok (.putfield 305, 3) := by decide +kernel
theorem dX7_startTrial_35 : decode cX7_startTrial 35 = .ok (.return_, 1) := by decide +kernel
theorem dX7_liftsOfTrial_0 : decode cX7_liftsOfTrial 0 = .ok (.aload_n 0, 1) := by decide +kernel
theorem dX7_liftsOfTrial_1 : decode cX7_liftsOfTrial 1 = .ok (.getfield 41, 3) := by decide +kernel
theorem dX7_liftsOfTrial_4 : decode cX7_liftsOfTrial 4 = .ok (.invokevirtual 283, 3) := by decide +kernel
theorem dX7_liftsOfTrial_7 : decode cX7_liftsOfTrial 7 = .ok (.aload_n 0, 1) := by decide +kernel
theorem dX7_liftsOfTrial_8 : decode cX7_liftsOfTrial 8 = .ok (.getfield 41, 3) := by decide +kernel
theorem dX7_liftsOfTrial_11 : decode cX7_liftsOfTrial 11 = .ok (.getfield 205, 3) := by decide +kernel
theorem dX7_liftsOfTrial_14 : decode cX7_liftsOfTrial 14 = .ok (.aload_n 0, 1) := by decide +kernel
theorem dX7_liftsOfTrial_15 : decode cX7_liftsOfTrial 15 = .ok (.getfield 30, 3) := by decide +kernel
theorem dX7_liftsOfTrial_18 : decode cX7_liftsOfTrial 18 = .ok (.getfield 205, 3) := by decide +kernel
theorem dX7_liftsOfTrial_21 : decode cX7_liftsOfTrial 21 = .ok (.isub, 1) := by decide +kernel
theorem dX7_liftsOfTrial_22 : decode cX7_liftsOfTrial 22 = .ok (.ireturn, 1) := by decide +kernel
theorem dX7_when_0 : decode cX7_when 0 = .ok (.aload_n 0, 1) := by decide +kernel
theorem dX7_when_1 : decode cX7_when 1 = .ok (.iload_n 1, 1) := by decide +kernel
theorem dX7_when_2 : decode cX7_when 2 = .ok (.invokevirtual 163, 3) := by decide +kernel
theorem dX7_when_5 : decode cX7_when 5 = .ok (.ifCond .eq 12, 3) := by decide +kernel
theorem dX7_when_8 : decode cX7_when 8 = .ok (.iload_n 2, 1) := by decide +kernel
theorem dX7_when_9 : decode cX7_when 9 = .ok (.ifCond .lt 8, 3) := by decide +kernel
theorem dX7_when_12 : decode cX7_when 12 = .ok (.iload_n 2, 1) := by decide +kernel
theorem dX7_when_13 : decode cX7_when 13 = .ok (.iconst 1, 1) := by decide +kernel
theorem dX7_when_14 : decode cX7_when 14 = .ok (.if_icmp .le 5, 3) := by decide +kernel
theorem dX7_when_17 : decode cX7_when 17 = .ok (.iconst (-1), 1) := by decide +kernel
theorem dX7_when_18 : decode cX7_when 18 = .ok (.ireturn, 1) := by decide +kernel
theorem dX7_when_19 : decode cX7_when 19 = .ok (.aload_n 0, 1) := by decide +kernel
theorem dX7_when_20 : decode cX7_when 20 = .ok (.invokevirtual 265, 3) := by decide +kernel
theorem dX7_when_23 : decode cX7_when 23 = .ok (.aload_n 0, 1) := by decide +kernel
theorem dX7_when_24 : decode cX7_when 24 = .ok (.getfield 44, 3) := by decide +kernel
theorem dX7_when_27 : decode cX7_when 27 = .ok (.aload_n 0, 1) := by decide +kernel
theorem dX7_when_28 : decode cX7_when 28 = .ok (.getfield 41, 3) := by decide +kernel
theorem dX7_when_31 : decode cX7_when 31 = .ok (.invokevirtual 237, 3) := by decide +kernel
theorem dX7_when_34 : decode cX7_when 34 = .ok (.aload_n 0, 1) := by decide +kernel
theorem dX7_when_35 : decode cX7_when 35 = .ok (.invokevirtual 308, 3) := by decide +kernel
theorem dX7_when_38 : decode cX7_when 38 = .ok (.istore_n 3, 1) := by decide +kernel
theorem dX7_when_39 : decode cX7_when 39 = .ok (.iload_n 3, 1) := by decide +kernel
theorem dX7_when_40 : decode cX7_when 40 = .ok (.istore 4, 2) := by decide +kernel
theorem dX7_when_42 : decode cX7_when 42 = .ok (.bipush (-2), 2) := by decide +kernel
theorem dX7_when_44 : decode cX7_when 44 = .ok (.istore 5, 2) := by decide +kernel
theorem dX7_when_46 : decode cX7_when 46 = .ok (.aload_n 0, 1) := by decide +kernel
theorem dX7_when_47 : decode cX7_when 47 = .ok (.getfield 30, 3) := by decide +kernel
theorem dX7_when_50 : decode cX7_when 50 = .ok (.getfield 202, 3) := by decide +kernel
theorem dX7_when_53 : decode cX7_when 53 = .ok (.istore 6, 2) := by decide +kernel
theorem dX7_when_55 : decode cX7_when 55 = .ok (.iload 6, 2) := by decide +kernel
theorem dX7_when_57 : decode cX7_when 57 = .ok (.bipush 20, 2) := by decide +kernel
theorem dX7_when_59 : decode cX7_when 59 = .ok (.if_icmp .ge 86, 3) := by decide +kernel
theorem dX7_when_62 : decode cX7_when 62 = .ok (.aload_n 0, 1) := by decide +kernel
theorem dX7_when_63 : decode cX7_when 63 = .ok (.getfield 41, 3) := by decide +kernel
theorem dX7_when_66 : decode cX7_when 66 = .ok (.aload_n 0, 1) := by decide +kernel
theorem dX7_when_67 : decode cX7_when 67 = .ok (.getfield 44, 3) := by decide +kernel
theorem dX7_when_70 : decode cX7_when 70 = .ok (.invokevirtual 237, 3) := by decide +kernel
theorem dX7_when_73 : decode cX7_when 73 = .ok (.aload_n 0, 1) := by decide +kernel
theorem dX7_when_74 : decode cX7_when 74 = .ok (.getfield 41, 3) := by decide +kernel
theorem dX7_when_77 : decode cX7_when 77 = .ok (.iload_n 1, 1) := by decide +kernel
theorem dX7_when_78 : decode cX7_when 78 = .ok (.invokevirtual 240, 3) := by decide +kernel
theorem dX7_when_81 : decode cX7_when 81 = .ok (.pop, 1) := by decide +kernel
theorem dX7_when_82 : decode cX7_when 82 = .ok (.aload_n 0, 1) := by decide +kernel
theorem dX7_when_83 : decode cX7_when 83 = .ok (.invokevirtual 308, 3) := by decide +kernel
theorem dX7_when_86 : decode cX7_when 86 = .ok (.istore 7, 2) := by decide +kernel
theorem dX7_when_88 : decode cX7_when 88 = .ok (.iload 7, 2) := by decide +kernel
theorem dX7_when_90 : decode cX7_when 90 = .ok (.aload_n 0, 1) := by decide +kernel
theorem dX7_when_91 : decode cX7_when 91 = .ok (.getfield 44, 3) := by decide +kernel
theorem dX7_when_94 : decode cX7_when 94 = .ok (.getfield 175, 3) := by decide +kernel
theorem dX7_when_97 : decode cX7_when 97 = .ok (.iload_n 1, 1) := by decide +kernel
theorem dX7_when_98 : decode cX7_when 98 = .ok (.iaload, 1) := by decide +kernel
theorem dX7_when_99 : decode cX7_when 99 = .ok (.iadd, 1) := by decide +kernel
theorem dX7_when_100 : decode cX7_when 100 = .ok (.iload 4, 2) := by decide +kernel
theorem dX7_when_102 : decode cX7_when 102 = .ok (.if_icmp .ge 30, 3) := by decide +kernel
theorem dX7_when_105 : decode cX7_when 105 = .ok (.iload 7, 2) := by decide +kernel
theorem dX7_when_107 : decode cX7_when 107 = .ok (.aload_n 0, 1) := by decide +kernel
theorem dX7_when_108 : decode cX7_when 108 = .ok (.getfield 44, 3) := by decide +kernel
theorem dX7_when_111 : decode cX7_when 111 = .ok (.getfield 175, 3) := by decide +kernel
theorem dX7_when_114 : decode cX7_when 114 = .ok (.iload_n 1, 1) := by decide +kernel
theorem dX7_when_115 : decode cX7_when 115 = .ok (.iaload, 1) := by decide +kernel
theorem dX7_when_116 : decode cX7_when 116 = .ok (.iadd, 1) := by decide +kernel
theorem dX7_when_117 : decode cX7_when 117 = .ok (.istore 4, 2) := by decide +kernel
theorem dX7_when_119 : decode cX7_when 119 = .ok (.iload_n 2, 1) := by decide +kernel
theorem dX7_when_120 : decode cX7_when 120 = .ok (.ifCond .ne 8, 3) := by decide +kernel
theorem dX7_when_123 : decode cX7_when 123 = .ok (.iload 6, 2) := by decide +kernel
theorem dX7_when_125 : decode cX7_when 125 = .ok (.goto 5, 3) := by decide +kernel
theorem dX7_when_128 : decode cX7_when 128 = .ok (.iload 7, 2) := by decide +kernel
theorem dX7_when_130 : decode cX7_when 130 = .ok (.istore 5, 2) := by decide +kernel
theorem dX7_when_132 : decode cX7_when 132 = .ok (.aload_n 0, 1) := by decide +kernel
theorem dX7_when_133 : decode cX7_when 133 = .ok (.getfield 44, 3) := by decide +kernel
theorem dX7_when_136 : decode cX7_when 136 = .ok (.invokevirtual 246, 3) := by decide +kernel
theorem dX7_when_139 : decode cX7_when 139 = .ok (.iinc 6 1, 3) := by decide +kernel
theorem dX7_when_142 : decode cX7_when 142 = .ok (.goto (-87), 3) := by decide +kernel
theorem dX7_when_145 : decode cX7_when 145 = .ok (.iload 5, 2) := by decide +kernel
theorem dX7_when_147 : decode cX7_when 147 = .ok (.ireturn, 1) := by decide +kernel
theorem dX7_byRule_0 : decode cX7_byRule 0 = .ok (.iload_n 1, 1) := by decide +kernel
theorem dX7_byRule_1 : decode cX7_byRule 1 = .ok (.ifCond .lt 8, 3) := by decide +kernel
theorem dX7_byRule_4 : decode cX7_byRule 4 = .ok (.iload_n 1, 1) := by decide +kernel
theorem dX7_byRule_5 : decode cX7_byRule 5 = .ok (.iconst 3, 1) := by decide +kernel
theorem dX7_byRule_6 : decode cX7_byRule 6 = .ok (.if_icmp .lt 5, 3) := by decide +kernel
theorem dX7_byRule_9 : decode cX7_byRule 9 = .ok (.iconst (-1), 1) := by decide +kernel
theorem dX7_byRule_10 : decode cX7_byRule 10 = .ok (.ireturn, 1) := by decide +kernel
theorem dX7_byRule_11 : decode cX7_byRule 11 = .ok (.aload_n 0, 1) := by decide +kernel
theorem dX7_byRule_12 : decode cX7_byRule 12 = .ok (.invokevirtual 265, 3) := by decide +kernel
theorem dX7_byRule_15 : decode cX7_byRule 15 = .ok (.aload_n 0, 1) := by decide +kernel
theorem dX7_byRule_16 : decode cX7_byRule 16 = .ok (.getfield 41, 3) := by decide +kernel
theorem dX7_byRule_19 : decode cX7_byRule 19 = .ok (.iload_n 1, 1) := by decide +kernel
theorem dX7_byRule_20 : decode cX7_byRule 20 = .ok (.putfield 311, 3) := by decide +kernel
theorem dX7_byRule_23 : decode cX7_byRule 23 = .ok (.aload_n 0, 1) := by decide +kernel
theorem dX7_byRule_24 : decode cX7_byRule 24 = .ok (.invokevirtual 308, 3) := by decide +kernel
theorem dX7_byRule_27 : decode cX7_byRule 27 = .ok (.ireturn, 1) := by decide +kernel
theorem dX7_bestRule_0 : decode cX7_bestRule 0 = .ok (.iconst 0, 1) := by decide +kernel
theorem dX7_bestRule_1 : decode cX7_bestRule 1 = .ok (.istore_n 1, 1) := by decide +kernel
theorem dX7_bestRule_2 : decode cX7_bestRule 2 = .ok (.ldc_w 312, 3) := by decide +kernel
theorem dX7_bestRule_5 : decode cX7_bestRule 5 = .ok (.istore_n 2, 1) := by decide +kernel
theorem dX7_bestRule_6 : decode cX7_bestRule 6 = .ok (.iconst 0, 1) := by decide +kernel
theorem dX7_bestRule_7 : decode cX7_bestRule 7 = .ok (.istore_n 3, 1) := by decide +kernel
theorem dX7_bestRule_8 : decode cX7_bestRule 8 = .ok (.iload_n 3, 1) := by decide +kernel
theorem dX7_bestRule_9 : decode cX7_bestRule 9 = .ok (.iconst 3, 1) := by decide +kernel
theorem dX7_bestRule_10 : decode cX7_bestRule 10 = .ok (.if_icmp .ge 38, 3) := by decide +kernel
theorem dX7_bestRule_13 : decode cX7_bestRule 13 = .ok (.aload_n 0, 1) := by decide +kernel
theorem dX7_bestRule_14 : decode cX7_bestRule 14 = .ok (.invokevirtual 265, 3) := by decide +kernel
theorem dX7_bestRule_17 : decode cX7_bestRule 17 = .ok (.aload_n 0, 1) := by decide +kernel
theorem dX7_bestRule_18 : decode cX7_bestRule 18 = .ok (.getfield 41, 3) := by decide +kernel
theorem dX7_bestRule_21 : decode cX7_bestRule 21 = .ok (.iload_n 3, 1) := by decide +kernel
theorem dX7_bestRule_22 : decode cX7_bestRule 22 = .ok (.putfield 311, 3) := by decide +kernel
theorem dX7_bestRule_25 : decode cX7_bestRule 25 = .ok (.aload_n 0, 1) := by decide +kernel
theorem dX7_bestRule_26 : decode cX7_bestRule 26 = .ok (.invokevirtual 308, 3) := by decide +kernel
theorem dX7_bestRule_29 : decode cX7_bestRule 29 = .ok (.istore 4, 2) := by decide +kernel
theorem dX7_bestRule_31 : decode cX7_bestRule 31 = .ok (.iload 4, 2) := by decide +kernel
theorem dX7_bestRule_33 : decode cX7_bestRule 33 = .ok (.iload_n 2, 1) := by decide +kernel
theorem dX7_bestRule_34 : decode cX7_bestRule 34 = .ok (.if_icmp .ge 8, 3) := by decide +kernel
theorem dX7_bestRule_37 : decode cX7_bestRule 37 = .ok (.iload 4, 2) := by decide +kernel
theorem dX7_bestRule_39 : decode cX7_bestRule 39 = .ok (.istore_n 2, 1) := by decide +kernel
theorem dX7_bestRule_40 : decode cX7_bestRule 40 = .ok (.iload_n 3, 1) := by decide +kernel
theorem dX7_bestRule_41 : decode cX7_bestRule 41 = .ok (.istore_n 1, 1) := by decide +kernel
theorem dX7_bestRule_42 : decode cX7_bestRule 42 = .ok (.iinc 3 1, 3) := by decide +kernel
theorem dX7_bestRule_45 : decode cX7_bestRule 45 = .ok (.goto (-37), 3) := by decide +kernel
theorem dX7_bestRule_48 : decode cX7_bestRule 48 = .ok (.iload_n 1, 1) := by decide +kernel
theorem dX7_bestRule_49 : decode cX7_bestRule 49 = .ok (.ireturn, 1) := by decide +kernel
theorem dX7_missed_0 : decode cX7_missed 0 = .ok (.iload_n 1, 1) := by decide +kernel
theorem dX7_missed_1 : decode cX7_missed 1 = .ok (.ifCond .lt 8, 3) := by decide +kernel
theorem dX7_missed_4 : decode cX7_missed 4 = .ok (.iload_n 1, 1) := by decide +kernel
theorem dX7_missed_5 : decode cX7_missed 5 = .ok (.iconst 1, 1) := by decide +kernel
theorem dX7_missed_6 : decode cX7_missed 6 = .ok (.if_icmp .le 5, 3) := by decide +kernel
theorem dX7_missed_9 : decode cX7_missed 9 = .ok (.iconst (-1), 1) := by decide +kernel
theorem dX7_missed_10 : decode cX7_missed 10 = .ok (.ireturn, 1) := by decide +kernel
theorem dX7_missed_11 : decode cX7_missed 11 = .ok (.aload_n 0, 1) := by decide +kernel
theorem dX7_missed_12 : decode cX7_missed 12 = .ok (.invokevirtual 265, 3) := by decide +kernel
theorem dX7_missed_15 : decode cX7_missed 15 = .ok (.aload_n 0, 1) := by decide +kernel
theorem dX7_missed_16 : decode cX7_missed 16 = .ok (.getfield 30, 3) := by decide +kernel
theorem dX7_missed_19 : decode cX7_missed 19 = .ok (.getfield 202, 3) := by decide +kernel
theorem dX7_missed_22 : decode cX7_missed 22 = .ok (.istore_n 2, 1) := by decide +kernel
theorem dX7_missed_23 : decode cX7_missed 23 = .ok (.iload_n 2, 1) := by decide +kernel
theorem dX7_missed_24 : decode cX7_missed 24 = .ok (.bipush 20, 2) := by decide +kernel
theorem dX7_missed_26 : decode cX7_missed 26 = .ok (.if_icmp .gt 92, 3) := by decide +kernel
theorem dX7_missed_29 : decode cX7_missed 29 = .ok (.aload_n 0, 1) := by decide +kernel
theorem dX7_missed_30 : decode cX7_missed 30 = .ok (.getfield 44, 3) := by decide +kernel
theorem dX7_missed_33 : decode cX7_missed 33 = .ok (.aload_n 0, 1) := by decide +kernel
theorem dX7_missed_34 : decode cX7_missed 34 = .ok (.getfield 41, 3) := by decide +kernel
theorem dX7_missed_37 : decode cX7_missed 37 = .ok (.invokevirtual 237, 3) := by decide +kernel
theorem dX7_missed_40 : decode cX7_missed 40 = .ok (.aload_n 0, 1) := by decide +kernel
theorem dX7_missed_41 : decode cX7_missed 41 = .ok (.getfield 41, 3) := by decide +kernel
theorem dX7_missed_44 : decode cX7_missed 44 = .ok (.aload_n 0, 1) := by decide +kernel
theorem dX7_missed_45 : decode cX7_missed 45 = .ok (.getfield 21, 3) := by decide +kernel
theorem dX7_missed_48 : decode cX7_missed 48 = .ok (.getfield 181, 3) := by decide +kernel
theorem dX7_missed_51 : decode cX7_missed 51 = .ok (.iload_n 2, 1) := by decide +kernel
theorem dX7_missed_52 : decode cX7_missed 52 = .ok (.iaload, 1) := by decide +kernel
theorem dX7_missed_53 : decode cX7_missed 53 = .ok (.invokevirtual 268, 3) := by decide +kernel
theorem dX7_missed_56 : decode cX7_missed 56 = .ok (.pop, 1) := by decide +kernel
theorem dX7_missed_57 : decode cX7_missed 57 = .ok (.aload_n 0, 1) := by decide +kernel
theorem dX7_missed_58 : decode cX7_missed 58 = .ok (.getfield 41, 3) := by decide +kernel
theorem dX7_missed_61 : decode cX7_missed 61 = .ok (.invokevirtual 313, 3) := by decide +kernel
theorem dX7_missed_64 : decode cX7_missed 64 = .ok (.istore_n 3, 1) := by decide +kernel
theorem dX7_missed_65 : decode cX7_missed 65 = .ok (.iload_n 3, 1) := by decide +kernel
theorem dX7_missed_66 : decode cX7_missed 66 = .ok (.ifCond .lt 32, 3) := by decide +kernel
theorem dX7_missed_69 : decode cX7_missed 69 = .ok (.iload_n 1, 1) := by decide +kernel
theorem dX7_missed_70 : decode cX7_missed 70 = .ok (.ifCond .ne 7, 3) := by decide +kernel
theorem dX7_missed_73 : decode cX7_missed 73 = .ok (.iload_n 3, 1) := by decide +kernel
theorem dX7_missed_74 : decode cX7_missed 74 = .ok (.goto 23, 3) := by decide +kernel
theorem dX7_missed_77 : decode cX7_missed 77 = .ok (.aload_n 0, 1) := by decide +kernel
theorem dX7_missed_78 : decode cX7_missed 78 = .ok (.getfield 44, 3) := by decide +kernel
theorem dX7_missed_81 : decode cX7_missed 81 = .ok (.ldc_w 312, 3) := by decide +kernel
theorem dX7_missed_84 : decode cX7_missed 84 = .ok (.invokevirtual 268, 3) := by decide +kernel
theorem dX7_missed_87 : decode cX7_missed 87 = .ok (.aload_n 0, 1) := by decide +kernel
theorem dX7_missed_88 : decode cX7_missed 88 = .ok (.getfield 21, 3) := by decide +kernel
theorem dX7_missed_91 : decode cX7_missed 91 = .ok (.getfield 181, 3) := by decide +kernel
theorem dX7_missed_94 : decode cX7_missed 94 = .ok (.iload_n 2, 1) := by decide +kernel
theorem dX7_missed_95 : decode cX7_missed 95 = .ok (.iaload, 1) := by decide +kernel
theorem dX7_missed_96 : decode cX7_missed 96 = .ok (.isub, 1) := by decide +kernel
theorem dX7_missed_97 : decode cX7_missed 97 = .ok (.ireturn, 1) := by decide +kernel
theorem dX7_missed_98 : decode cX7_missed 98 = .ok (.aload_n 0, 1) := by decide +kernel
theorem dX7_missed_99 : decode cX7_missed 99 = .ok (.getfield 41, 3) := by decide +kernel
theorem dX7_missed_102 : decode cX7_missed 102 = .ok (.invokevirtual 274, 3) := by decide +kernel
theorem dX7_missed_105 : decode cX7_missed 105 = .ok (.aload_n 0, 1) := by decide +kernel
theorem dX7_missed_106 : decode cX7_missed 106 = .ok (.getfield 41, 3) := by decide +kernel
theorem dX7_missed_109 : decode cX7_missed 109 = .ok (.invokevirtual 280, 3) := by decide +kernel
theorem dX7_missed_112 : decode cX7_missed 112 = .ok (.iinc 2 1, 3) := by decide +kernel
theorem dX7_missed_115 : decode cX7_missed 115 = .ok (.goto (-92), 3) := by decide +kernel
theorem dX7_missed_118 : decode cX7_missed 118 = .ok (.bipush (-2), 2) := by decide +kernel
theorem dX7_missed_120 : decode cX7_missed 120 = .ok (.ireturn, 1) := by decide +kernel
theorem dX7_falls_0 : decode cX7_falls 0 = .ok (.aload_n 0, 1) := by decide +kernel
theorem dX7_falls_1 : decode cX7_falls 1 = .ok (.getfield 30, 3) := by decide +kernel
theorem dX7_falls_4 : decode cX7_falls 4 = .ok (.getfield 202, 3) := by decide +kernel
theorem dX7_falls_7 : decode cX7_falls 7 = .ok (.bipush 20, 2) := by decide +kernel
theorem dX7_falls_9 : decode cX7_falls 9 = .ok (.if_icmp .le 5, 3) := by decide +kernel
theorem dX7_falls_12 : decode cX7_falls 12 = .ok (.iconst 0, 1) := by decide +kernel
theorem dX7_falls_13 : decode cX7_falls 13 = .ok (.ireturn, 1) := by decide +kernel
theorem dX7_falls_14 : decode cX7_falls 14 = .ok (.aload_n 0, 1) := by decide +kernel
theorem dX7_falls_15 : decode cX7_falls 15 = .ok (.invokevirtual 265, 3) := by decide +kernel
theorem dX7_falls_18 : decode cX7_falls 18 = .ok (.aload_n 0, 1) := by decide +kernel
theorem dX7_falls_19 : decode cX7_falls 19 = .ok (.getfield 41, 3) := by decide +kernel
theorem dX7_falls_22 : decode cX7_falls 22 = .ok (.aload_n 0, 1) := by decide +kernel
theorem dX7_falls_23 : decode cX7_falls 23 = .ok (.getfield 21, 3) := by decide +kernel
theorem dX7_falls_26 : decode cX7_falls 26 = .ok (.getfield 181, 3) := by decide +kernel
theorem dX7_falls_29 : decode cX7_falls 29 = .ok (.aload_n 0, 1) := by decide +kernel
theorem dX7_falls_30 : decode cX7_falls 30 = .ok (.getfield 30, 3) := by decide +kernel
theorem dX7_falls_33 : decode cX7_falls 33 = .ok (.getfield 202, 3) := by decide +kernel
theorem dX7_falls_36 : decode cX7_falls 36 = .ok (.iaload, 1) := by decide +kernel
theorem dX7_falls_37 : decode cX7_falls 37 = .ok (.invokevirtual 268, 3) := by decide +kernel
theorem dX7_falls_40 : decode cX7_falls 40 = .ok (.pop, 1) := by decide +kernel
theorem dX7_falls_41 : decode cX7_falls 41 = .ok (.aload_n 0, 1) := by decide +kernel
theorem dX7_falls_42 : decode cX7_falls 42 = .ok (.getfield 41, 3) := by decide +kernel
theorem dX7_falls_45 : decode cX7_falls 45 = .ok (.invokevirtual 274, 3) := by decide +kernel
theorem dX7_falls_48 : decode cX7_falls 48 = .ok (.aload_n 0, 1) := by decide +kernel
theorem dX7_falls_49 : decode cX7_falls 49 = .ok (.getfield 41, 3) := by decide +kernel
theorem dX7_falls_52 : decode cX7_falls 52 = .ok (.invokevirtual 316, 3) := by decide +kernel
theorem dX7_falls_55 : decode cX7_falls 55 = .ok (.ireturn, 1) := by decide +kernel
theorem dX7_asking_0 : decode cX7_asking 0 = .ok (.aload_n 0, 1) := by decide +kernel
theorem dX7_asking_1 : decode cX7_asking 1 = .ok (.invokevirtual 265, 3) := by decide +kernel
theorem dX7_asking_4 : decode cX7_asking 4 = .ok (.aload_n 0, 1) := by decide +kernel
theorem dX7_asking_5 : decode cX7_asking 5 = .ok (.invokevirtual 308, 3) := by decide +kernel
theorem dX7_asking_8 : decode cX7_asking 8 = .ok (.istore_n 1, 1) := by decide +kernel
theorem dX7_asking_9 : decode cX7_asking 9 = .ok (.aload_n 0, 1) := by decide +kernel
theorem dX7_asking_10 : decode cX7_asking 10 = .ok (.invokevirtual 265, 3) := by decide +kernel
theorem dX7_asking_13 : decode cX7_asking 13 = .ok (.aload_n 0, 1) := by decide +kernel
theorem dX7_asking_14 : decode cX7_asking 14 = .ok (.getfield 30, 3) := by decide +kernel
theorem dX7_asking_17 : decode cX7_asking 17 = .ok (.getfield 202, 3) := by decide +kernel
theorem dX7_asking_20 : decode cX7_asking 20 = .ok (.istore_n 2, 1) := by decide +kernel
theorem dX7_asking_21 : decode cX7_asking 21 = .ok (.iload_n 2, 1) := by decide +kernel
theorem dX7_asking_22 : decode cX7_asking 22 = .ok (.bipush 20, 2) := by decide +kernel
theorem dX7_asking_24 : decode cX7_asking 24 = .ok (.if_icmp .gt 55, 3) := by decide +kernel
theorem dX7_asking_27 : decode cX7_asking 27 = .ok (.iconst 0, 1) := by decide +kernel
theorem dX7_asking_28 : decode cX7_asking 28 = .ok (.istore_n 3, 1) := by decide +kernel
theorem dX7_asking_29 : decode cX7_asking 29 = .ok (.iload_n 3, 1) := by decide +kernel
theorem dX7_asking_30 : decode cX7_asking 30 = .ok (.aload_n 0, 1) := by decide +kernel
theorem dX7_asking_31 : decode cX7_asking 31 = .ok (.getfield 21, 3) := by decide +kernel
theorem dX7_asking_34 : decode cX7_asking 34 = .ok (.getfield 190, 3) := by decide +kernel
theorem dX7_asking_37 : decode cX7_asking 37 = .ok (.if_icmp .ge 29, 3) := by decide +kernel
theorem dX7_asking_40 : decode cX7_asking 40 = .ok (.aload_n 0, 1) := by decide +kernel
theorem dX7_asking_41 : decode cX7_asking 41 = .ok (.getfield 41, 3) := by decide +kernel
theorem dX7_asking_44 : decode cX7_asking 44 = .ok (.iload_n 3, 1) := by decide +kernel
theorem dX7_asking_45 : decode cX7_asking 45 = .ok (.invokevirtual 319, 3) := by decide +kernel
theorem dX7_asking_48 : decode cX7_asking 48 = .ok (.ifCond .eq 12, 3) := by decide +kernel
theorem dX7_asking_51 : decode cX7_asking 51 = .ok (.aload_n 0, 1) := by decide +kernel
theorem dX7_asking_52 : decode cX7_asking 52 = .ok (.getfield 41, 3) := by decide +kernel
theorem dX7_asking_55 : decode cX7_asking 55 = .ok (.iload_n 3, 1) := by decide +kernel
theorem dX7_asking_56 : decode cX7_asking 56 = .ok (.invokevirtual 240, 3) := by decide +kernel
theorem dX7_asking_59 : decode cX7_asking 59 = .ok (.pop, 1) := by decide +kernel
theorem dX7_asking_60 : decode cX7_asking 60 = .ok (.iinc 3 1, 3) := by decide +kernel
theorem dX7_asking_63 : decode cX7_asking 63 = .ok (.goto (-34), 3) := by decide +kernel
theorem dX7_asking_66 : decode cX7_asking 66 = .ok (.aload_n 0, 1) := by decide +kernel
theorem dX7_asking_67 : decode cX7_asking 67 = .ok (.getfield 41, 3) := by decide +kernel
theorem dX7_asking_70 : decode cX7_asking 70 = .ok (.invokevirtual 246, 3) := by decide +kernel
theorem dX7_asking_73 : decode cX7_asking 73 = .ok (.iinc 2 1, 3) := by decide +kernel
theorem dX7_asking_76 : decode cX7_asking 76 = .ok (.goto (-55), 3) := by decide +kernel
theorem dX7_asking_79 : decode cX7_asking 79 = .ok (.iload_n 1, 1) := by decide +kernel
theorem dX7_asking_80 : decode cX7_asking 80 = .ok (.aload_n 0, 1) := by decide +kernel
theorem dX7_asking_81 : decode cX7_asking 81 = .ok (.getfield 41, 3) := by decide +kernel
theorem dX7_asking_84 : decode cX7_asking 84 = .ok (.getfield 205, 3) := by decide +kernel
theorem dX7_asking_87 : decode cX7_asking 87 = .ok (.aload_n 0, 1) := by decide +kernel
theorem dX7_asking_88 : decode cX7_asking 88 = .ok (.getfield 30, 3) := by decide +kernel
theorem dX7_asking_91 : decode cX7_asking 91 = .ok (.getfield 205, 3) := by decide +kernel
theorem dX7_asking_94 : decode cX7_asking 94 = .ok (.isub, 1) := by decide +kernel
theorem dX7_asking_95 : decode cX7_asking 95 = .ok (.isub, 1) := by decide +kernel
theorem dX7_asking_96 : decode cX7_asking 96 = .ok (.istore_n 2, 1) := by decide +kernel
theorem dX7_asking_97 : decode cX7_asking 97 = .ok (.iload_n 2, 1) := by decide +kernel
theorem dX7_asking_98 : decode cX7_asking 98 = .ok (.ifCond .ge 7, 3) := by decide +kernel
theorem dX7_asking_101 : decode cX7_asking 101 = .ok (.iconst 0, 1) := by decide +kernel
theorem dX7_asking_102 : decode cX7_asking 102 = .ok (.goto 4, 3) := by decide +kernel
theorem dX7_asking_105 : decode cX7_asking 105 = .ok (.iload_n 2, 1) := by decide +kernel
theorem dX7_asking_106 : decode cX7_asking 106 = .ok (.ireturn, 1) := by decide +kernel
theorem dX7_feet_0 : decode cX7_feet 0 = .ok (.aload_n 0, 1) := by decide +kernel
theorem dX7_feet_1 : decode cX7_feet 1 = .ok (.invokevirtual 265, 3) := by decide +kernel
theorem dX7_feet_4 : decode cX7_feet 4 = .ok (.iconst 0, 1) := by decide +kernel
theorem dX7_feet_5 : decode cX7_feet 5 = .ok (.istore_n 1, 1) := by decide +kernel
theorem dX7_feet_6 : decode cX7_feet 6 = .ok (.aload_n 0, 1) := by decide +kernel
theorem dX7_feet_7 : decode cX7_feet 7 = .ok (.getfield 30, 3) := by decide +kernel
theorem dX7_feet_10 : decode cX7_feet 10 = .ok (.getfield 202, 3) := by decide +kernel
theorem dX7_feet_13 : decode cX7_feet 13 = .ok (.istore_n 2, 1) := by decide +kernel
theorem dX7_feet_14 : decode cX7_feet 14 = .ok (.iload_n 2, 1) := by decide +kernel
theorem dX7_feet_15 : decode cX7_feet 15 = .ok (.bipush 20, 2) := by decide +kernel
theorem dX7_feet_17 : decode cX7_feet 17 = .ok (.if_icmp .gt 84, 3) := by decide +kernel
theorem dX7_feet_20 : decode cX7_feet 20 = .ok (.aload_n 0, 1) := by decide +kernel
theorem dX7_feet_21 : decode cX7_feet 21 = .ok (.getfield 41, 3) := by decide +kernel
theorem dX7_feet_24 : decode cX7_feet 24 = .ok (.aload_n 0, 1) := by decide +kernel
theorem dX7_feet_25 : decode cX7_feet 25 = .ok (.getfield 21, 3) := by decide +kernel
theorem dX7_feet_28 : decode cX7_feet 28 = .ok (.getfield 181, 3) := by decide +kernel
theorem dX7_feet_31 : decode cX7_feet 31 = .ok (.iload_n 2, 1) := by decide +kernel
theorem dX7_feet_32 : decode cX7_feet 32 = .ok (.iaload, 1) := by decide +kernel
theorem dX7_feet_33 : decode cX7_feet 33 = .ok (.invokevirtual 268, 3) := by decide +kernel
theorem dX7_feet_36 : decode cX7_feet 36 = .ok (.pop, 1) := by decide +kernel
theorem dX7_feet_37 : decode cX7_feet 37 = .ok (.aload_n 0, 1) := by decide +kernel
theorem dX7_feet_38 : decode cX7_feet 38 = .ok (.getfield 41, 3) := by decide +kernel
theorem dX7_feet_41 : decode cX7_feet 41 = .ok (.invokevirtual 274, 3) := by decide +kernel
theorem dX7_feet_44 : decode cX7_feet 44 = .ok (.iconst 0, 1) := by decide +kernel
theorem dX7_feet_45 : decode cX7_feet 45 = .ok (.istore_n 3, 1) := by decide +kernel
theorem dX7_feet_46 : decode cX7_feet 46 = .ok (.iload_n 3, 1) := by decide +kernel
theorem dX7_feet_47 : decode cX7_feet 47 = .ok (.aload_n 0, 1) := by decide +kernel
theorem dX7_feet_48 : decode cX7_feet 48 = .ok (.getfield 21, 3) := by decide +kernel
theorem dX7_feet_51 : decode cX7_feet 51 = .ok (.getfield 190, 3) := by decide +kernel
theorem dX7_feet_54 : decode cX7_feet 54 = .ok (.if_icmp .ge 34, 3) := by decide +kernel
theorem dX7_feet_57 : decode cX7_feet 57 = .ok (.aload_n 0, 1) := by decide +kernel
theorem dX7_feet_58 : decode cX7_feet 58 = .ok (.getfield 21, 3) := by decide +kernel
theorem dX7_feet_61 : decode cX7_feet 61 = .ok (.getfield 166, 3) := by decide +kernel
theorem dX7_feet_64 : decode cX7_feet 64 = .ok (.iload_n 3, 1) := by decide +kernel
theorem dX7_feet_65 : decode cX7_feet 65 = .ok (.iaload, 1) := by decide +kernel
theorem dX7_feet_66 : decode cX7_feet 66 = .ok (.iconst 2, 1) := by decide +kernel
theorem dX7_feet_67 : decode cX7_feet 67 = .ok (.if_icmp .ne 15, 3) := by decide +kernel
theorem dX7_feet_70 : decode cX7_feet 70 = .ok (.iload_n 1, 1) := by decide +kernel
theorem dX7_feet_71 : decode cX7_feet 71 = .ok (.aload_n 0, 1) := by decide +kernel
theorem dX7_feet_72 : decode cX7_feet 72 = .ok (.getfield 41, 3) := by decide +kernel
theorem dX7_feet_75 : decode cX7_feet 75 = .ok (.getfield 175, 3) := by decide +kernel
theorem dX7_feet_78 : decode cX7_feet 78 = .ok (.iload_n 3, 1) := by decide +kernel
theorem dX7_feet_79 : decode cX7_feet 79 = .ok (.iaload, 1) := by decide +kernel
theorem dX7_feet_80 : decode cX7_feet 80 = .ok (.iadd, 1) := by decide +kernel
theorem dX7_feet_81 : decode cX7_feet 81 = .ok (.istore_n 1, 1) := by decide +kernel
theorem dX7_feet_82 : decode cX7_feet 82 = .ok (.iinc 3 1, 3) := by decide +kernel
theorem dX7_feet_85 : decode cX7_feet 85 = .ok (.goto (-39), 3) := by decide +kernel
theorem dX7_feet_88 : decode cX7_feet 88 = .ok (.aload_n 0, 1) := by decide +kernel
theorem dX7_feet_89 : decode cX7_feet 89 = .ok (.getfield 41, 3) := by decide +kernel
theorem dX7_feet_92 : decode cX7_feet 92 = .ok (.invokevirtual 280, 3) := by decide +kernel
theorem dX7_feet_95 : decode cX7_feet 95 = .ok (.iinc 2 1, 3) := by decide +kernel
theorem dX7_feet_98 : decode cX7_feet 98 = .ok (.goto (-84), 3) := by decide +kernel
theorem dX7_feet_101 : decode cX7_feet 101 = .ok (.iload_n 1, 1) := by decide +kernel
theorem dX7_feet_102 : decode cX7_feet 102 = .ok (.ireturn, 1) := by decide +kernel
theorem dX7_chance_0 : decode cX7_chance 0 = .ok (.iload_n 1, 1) := by decide +kernel
theorem dX7_chance_1 : decode cX7_chance 1 = .ok (.ifCond .lt 11, 3) := by decide +kernel
theorem dX7_chance_4 : decode cX7_chance 4 = .ok (.aload_n 0, 1) := by decide +kernel
theorem dX7_chance_5 : decode cX7_chance 5 = .ok (.iload_n 2, 1) := by decide +kernel
theorem dX7_chance_6 : decode cX7_chance 6 = .ok (.invokevirtual 142, 3) := by decide +kernel
theorem dX7_chance_9 : decode cX7_chance 9 = .ok (.ifCond .ne 5, 3) := by decide +kernel
theorem dX7_chance_12 : decode cX7_chance 12 = .ok (.iconst (-1), 1) := by decide +kernel
theorem dX7_chance_13 : decode cX7_chance 13 = .ok (.ireturn, 1) := by decide +kernel
theorem dX7_chance_14 : decode cX7_chance 14 = .ok (.iconst 0, 1) := by decide +kernel
theorem dX7_chance_15 : decode cX7_chance 15 = .ok (.istore_n 3, 1) := by decide +kernel
theorem dX7_chance_16 : decode cX7_chance 16 = .ok (.iload_n 1, 1) := by decide +kernel
theorem dX7_chance_17 : decode cX7_chance 17 = .ok (.istore 4, 2) := by decide +kernel
theorem dX7_chance_19 : decode cX7_chance 19 = .ok (.iconst 0, 1) := by decide +kernel
theorem dX7_chance_20 : decode cX7_chance 20 = .ok (.istore 5, 2) := by decide +kernel
theorem dX7_chance_22 : decode cX7_chance 22 = .ok (.iload 5, 2) := by decide +kernel
theorem dX7_chance_24 : decode cX7_chance 24 = .ok (.bipush 10, 2) := by decide +kernel
theorem dX7_chance_26 : decode cX7_chance 26 = .ok (.if_icmp .ge 62, 3) := by decide +kernel
theorem dX7_chance_29 : decode cX7_chance 29 = .ok (.aload_n 0, 1) := by decide +kernel
theorem dX7_chance_30 : decode cX7_chance 30 = .ok (.invokevirtual 265, 3) := by decide +kernel
theorem dX7_chance_33 : decode cX7_chance 33 = .ok (.aload_n 0, 1) := by decide +kernel
theorem dX7_chance_34 : decode cX7_chance 34 = .ok (.getfield 41, 3) := by decide +kernel
theorem dX7_chance_37 : decode cX7_chance 37 = .ok (.iconst 1, 1) := by decide +kernel
theorem dX7_chance_38 : decode cX7_chance 38 = .ok (.putfield 243, 3) := by decide +kernel
theorem dX7_chance_41 : decode cX7_chance 41 = .ok (.aload_n 0, 1) := by decide +kernel
theorem dX7_chance_42 : decode cX7_chance 42 = .ok (.getfield 41, 3) := by decide +kernel
theorem dX7_chance_45 : decode cX7_chance 45 = .ok (.iload 4, 2) := by decide +kernel
theorem dX7_chance_47 : decode cX7_chance 47 = .ok (.putfield 322, 3) := by decide +kernel
theorem dX7_chance_50 : decode cX7_chance 50 = .ok (.aload_n 0, 1) := by decide +kernel
theorem dX7_chance_51 : decode cX7_chance 51 = .ok (.getfield 41, 3) := by decide +kernel
theorem dX7_chance_54 : decode cX7_chance 54 = .ok (.invokevirtual 283, 3) := by decide +kernel
theorem dX7_chance_57 : decode cX7_chance 57 = .ok (.aload_n 0, 1) := by decide +kernel
theorem dX7_chance_58 : decode cX7_chance 58 = .ok (.getfield 41, 3) := by decide +kernel
theorem dX7_chance_61 : decode cX7_chance 61 = .ok (.getfield 322, 3) := by decide +kernel
theorem dX7_chance_64 : decode cX7_chance 64 = .ok (.istore 4, 2) := by decide +kernel
theorem dX7_chance_66 : decode cX7_chance 66 = .ok (.aload_n 0, 1) := by decide +kernel
theorem dX7_chance_67 : decode cX7_chance 67 = .ok (.getfield 41, 3) := by decide +kernel
theorem dX7_chance_70 : decode cX7_chance 70 = .ok (.getfield 154, 3) := by decide +kernel
theorem dX7_chance_73 : decode cX7_chance 73 = .ok (.iload_n 2, 1) := by decide +kernel
theorem dX7_chance_74 : decode cX7_chance 74 = .ok (.iaload, 1) := by decide +kernel
theorem dX7_chance_75 : decode cX7_chance 75 = .ok (.iconst 2, 1) := by decide +kernel
theorem dX7_chance_76 : decode cX7_chance 76 = .ok (.if_icmp .ne 6, 3) := by decide +kernel
theorem dX7_chance_79 : decode cX7_chance 79 = .ok (.iinc 3 1, 3) := by decide +kernel
theorem dX7_chance_82 : decode cX7_chance 82 = .ok (.iinc 5 1, 3) := by decide +kernel
theorem dX7_chance_85 : decode cX7_chance 85 = .ok (.goto (-63), 3) := by decide +kernel
theorem dX7_chance_88 : decode cX7_chance 88 = .ok (.iload_n 3, 1) := by decide +kernel
theorem dX7_chance_89 : decode cX7_chance 89 = .ok (.ireturn, 1) := by decide +kernel
theorem dX7_tried_0 : decode cX7_tried 0 = .ok (.iload_n 1, 1) := by decide +kernel
theorem dX7_tried_1 : decode cX7_tried 1 = .ok (.ifCond .lt 28, 3) := by decide +kernel
theorem dX7_tried_4 : decode cX7_tried 4 = .ok (.iload_n 1, 1) := by decide +kernel
theorem dX7_tried_5 : decode cX7_tried 5 = .ok (.iconst 4, 1) := by decide +kernel
theorem dX7_tried_6 : decode cX7_tried 6 = .ok (.if_icmp .gt 23, 3) := by decide +kernel
theorem dX7_tried_9 : decode cX7_tried 9 = .ok (.iload_n 1, 1) := by decide +kernel
theorem dX7_tried_10 : decode cX7_tried 10 = .ok (.iconst 2, 1) := by decide +kernel
theorem dX7_tried_11 : decode cX7_tried 11 = .ok (.if_icmp .ne 14, 3) := by decide +kernel
theorem dX7_tried_14 : decode cX7_tried 14 = .ok (.aload_n 0, 1) := by decide +kernel
theorem dX7_tried_15 : decode cX7_tried 15 = .ok (.iload_n 2, 1) := by decide +kernel
theorem dX7_tried_16 : decode cX7_tried 16 = .ok (.invokevirtual 112, 3) := by decide +kernel
theorem dX7_tried_19 : decode cX7_tried 19 = .ok (.ifCond .ne 12, 3) := by decide +kernel
theorem dX7_tried_22 : decode cX7_tried 22 = .ok (.goto 7, 3) := by decide +kernel
theorem dX7_tried_25 : decode cX7_tried 25 = .ok (.iload_n 2, 1) := by decide +kernel
theorem dX7_tried_26 : decode cX7_tried 26 = .ok (.ifCond .eq 5, 3) := by decide +kernel
theorem dX7_tried_29 : decode cX7_tried 29 = .ok (.iconst (-1), 1) := by decide +kernel
theorem dX7_tried_30 : decode cX7_tried 30 = .ok (.ireturn, 1) := by decide +kernel
theorem dX7_tried_31 : decode cX7_tried 31 = .ok (.aload_n 0, 1) := by decide +kernel
theorem dX7_tried_32 : decode cX7_tried 32 = .ok (.invokevirtual 265, 3) := by decide +kernel
theorem dX7_tried_35 : decode cX7_tried 35 = .ok (.iload_n 1, 1) := by decide +kernel
theorem dX7_tried_36 : decode cX7_tried 36 = .ok (.tableswitch 75 0 3 #[32, 43, 54, 65], 32) := by decide +kernel
theorem dX7_tried_68 : decode cX7_tried 68 = .ok (.aload_n 0, 1) := by decide +kernel
theorem dX7_tried_69 : decode cX7_tried 69 = .ok (.getfield 41, 3) := by decide +kernel
theorem dX7_tried_72 : decode cX7_tried 72 = .ok (.iconst 0, 1) := by decide +kernel
theorem dX7_tried_73 : decode cX7_tried 73 = .ok (.putfield 302, 3) := by decide +kernel
theorem dX7_tried_76 : decode cX7_tried 76 = .ok (.goto 43, 3) := by decide +kernel
theorem dX7_tried_79 : decode cX7_tried 79 = .ok (.aload_n 0, 1) := by decide +kernel
theorem dX7_tried_80 : decode cX7_tried 80 = .ok (.getfield 41, 3) := by decide +kernel
theorem dX7_tried_83 : decode cX7_tried 83 = .ok (.iconst 0, 1) := by decide +kernel
theorem dX7_tried_84 : decode cX7_tried 84 = .ok (.putfield 305, 3) := by decide +kernel
theorem dX7_tried_87 : decode cX7_tried 87 = .ok (.goto 32, 3) := by decide +kernel
theorem dX7_tried_90 : decode cX7_tried 90 = .ok (.aload_n 0, 1) := by decide +kernel
theorem dX7_tried_91 : decode cX7_tried 91 = .ok (.getfield 41, 3) := by decide +kernel
theorem dX7_tried_94 : decode cX7_tried 94 = .ok (.iload_n 2, 1) := by decide +kernel
theorem dX7_tried_95 : decode cX7_tried 95 = .ok (.invokevirtual 325, 3) := by decide +kernel
theorem dX7_tried_98 : decode cX7_tried 98 = .ok (.goto 21, 3) := by decide +kernel
theorem dX7_tried_101 : decode cX7_tried 101 = .ok (.aload_n 0, 1) := by decide +kernel
theorem dX7_tried_102 : decode cX7_tried 102 = .ok (.getfield 41, 3) := by decide +kernel
theorem dX7_tried_105 : decode cX7_tried 105 = .ok (.invokevirtual 328, 3) := by decide +kernel
theorem dX7_tried_108 : decode cX7_tried 108 = .ok (.goto 11, 3) := by decide +kernel
theorem dX7_tried_111 : decode cX7_tried 111 = .ok (.aload_n 0, 1) := by decide +kernel
theorem dX7_tried_112 : decode cX7_tried 112 = .ok (.getfield 41, 3) := by decide +kernel
theorem dX7_tried_115 : decode cX7_tried 115 = .ok (.iconst 0, 1) := by decide +kernel
theorem dX7_tried_116 : decode cX7_tried 116 = .ok (.putfield 331, 3) := by decide +kernel
theorem dX7_tried_119 : decode cX7_tried 119 = .ok (.aload_n 0, 1) := by decide +kernel
theorem dX7_tried_120 : decode cX7_tried 120 = .ok (.invokevirtual 308, 3) := by decide +kernel
theorem dX7_tried_123 : decode cX7_tried 123 = .ok (.ireturn, 1) := by decide +kernel
theorem dX7_see_0 : decode cX7_see 0 = .ok (.iload_n 1, 1) := by decide +kernel
theorem dX7_see_1 : decode cX7_see 1 = .ok (.ifCond .lt 25, 3) := by decide +kernel
theorem dX7_see_4 : decode cX7_see 4 = .ok (.iload_n 1, 1) := by decide +kernel
theorem dX7_see_5 : decode cX7_see 5 = .ok (.bipush 20, 2) := by decide +kernel
theorem dX7_see_7 : decode cX7_see 7 = .ok (.if_icmp .ge 19, 3) := by decide +kernel
theorem dX7_see_10 : decode cX7_see 10 = .ok (.aload_n 0, 1) := by decide +kernel
theorem dX7_see_11 : decode cX7_see 11 = .ok (.iload_n 2, 1) := by decide +kernel
theorem dX7_see_12 : decode cX7_see 12 = .ok (.invokevirtual 142, 3) := by decide +kernel
theorem dX7_see_15 : decode cX7_see 15 = .ok (.ifCond .eq 11, 3) := by decide +kernel
theorem dX7_see_18 : decode cX7_see 18 = .ok (.aload_n 0, 1) := by decide +kernel
theorem dX7_see_19 : decode cX7_see 19 = .ok (.iload_n 3, 1) := by decide +kernel
theorem dX7_see_20 : decode cX7_see 20 = .ok (.invokevirtual 163, 3) := by decide +kernel
theorem dX7_see_23 : decode cX7_see 23 = .ok (.ifCond .ne 5, 3) := by decide +kernel
theorem dX7_see_26 : decode cX7_see 26 = .ok (.iconst (-1), 1) := by decide +kernel
theorem dX7_see_27 : decode cX7_see 27 = .ok (.ireturn, 1) := by decide +kernel
theorem dX7_see_28 : decode cX7_see 28 = .ok (.aload_n 0, 1) := by decide +kernel
theorem dX7_see_29 : decode cX7_see 29 = .ok (.getfield 57, 3) := by decide +kernel
theorem dX7_see_32 : decode cX7_see 32 = .ok (.iload_n 1, 1) := by decide +kernel
theorem dX7_see_33 : decode cX7_see 33 = .ok (.iload_n 2, 1) := by decide +kernel
theorem dX7_see_34 : decode cX7_see 34 = .ok (.iload_n 3, 1) := by decide +kernel
theorem dX7_see_35 : decode cX7_see 35 = .ok (.iload 4, 2) := by decide +kernel
theorem dX7_see_37 : decode cX7_see 37 = .ok (.ifCond .eq 7, 3) := by decide +kernel
theorem dX7_see_40 : decode cX7_see 40 = .ok (.iconst 1, 1) := by decide +kernel
theorem dX7_see_41 : decode cX7_see 41 = .ok (.goto 4, 3) := by decide +kernel
theorem dX7_see_44 : decode cX7_see 44 = .ok (.iconst 0, 1) := by decide +kernel
theorem dX7_see_45 : decode cX7_see 45 = .ok (.invokevirtual 334, 3) := by decide +kernel
theorem dX7_see_48 : decode cX7_see 48 = .ok (.ireturn, 1) := by decide +kernel
theorem dX7_strike_0 : decode cX7_strike 0 = .ok (.iload_n 1, 1) := by decide +kernel
theorem dX7_strike_1 : decode cX7_strike 1 = .ok (.ifCond .lt 14, 3) := by decide +kernel
theorem dX7_strike_4 : decode cX7_strike 4 = .ok (.iload_n 1, 1) := by decide +kernel
theorem dX7_strike_5 : decode cX7_strike 5 = .ok (.aload_n 0, 1) := by decide +kernel
theorem dX7_strike_6 : decode cX7_strike 6 = .ok (.getfield 57, 3) := by decide +kernel
theorem dX7_strike_9 : decode cX7_strike 9 = .ok (.getfield 218, 3) := by decide +kernel
theorem dX7_strike_12 : decode cX7_strike 12 = .ok (.if_icmp .lt 5, 3) := by decide +kernel
theorem dX7_strike_15 : decode cX7_strike 15 = .ok (.iconst (-1), 1) := by decide +kernel
theorem dX7_strike_16 : decode cX7_strike 16 = .ok (.ireturn, 1) := by decide +kernel
theorem dX7_strike_17 : decode cX7_strike 17 = .ok (.aload_n 0, 1) := by decide +kernel
theorem dX7_strike_18 : decode cX7_strike 18 = .ok (.getfield 57, 3) := by decide +kernel
theorem dX7_strike_21 : decode cX7_strike 21 = .ok (.iconst (-1), 1) := by decide +kernel
theorem dX7_strike_22 : decode cX7_strike 22 = .ok (.iload_n 1, 1) := by decide +kernel
theorem dX7_strike_23 : decode cX7_strike 23 = .ok (.iconst 0, 1) := by decide +kernel
theorem dX7_strike_24 : decode cX7_strike 24 = .ok (.iconst 0, 1) := by decide +kernel
theorem dX7_strike_25 : decode cX7_strike 25 = .ok (.invokevirtual 334, 3) := by decide +kernel
theorem dX7_strike_28 : decode cX7_strike 28 = .ok (.ireturn, 1) := by decide +kernel
theorem dX7_known_0 : decode cX7_known 0 = .ok (.iload_n 1, 1) := by decide +kernel
theorem dX7_known_1 : decode cX7_known 1 = .ok (.iconst (-1), 1) := by decide +kernel
theorem dX7_known_2 : decode cX7_known 2 = .ok (.if_icmp .lt 14, 3) := by decide +kernel
theorem dX7_known_5 : decode cX7_known 5 = .ok (.iload_n 1, 1) := by decide +kernel
theorem dX7_known_6 : decode cX7_known 6 = .ok (.aload_n 0, 1) := by decide +kernel
theorem dX7_known_7 : decode cX7_known 7 = .ok (.getfield 57, 3) := by decide +kernel
theorem dX7_known_10 : decode cX7_known 10 = .ok (.getfield 218, 3) := by decide +kernel
theorem dX7_known_13 : decode cX7_known 13 = .ok (.if_icmp .le 5, 3) := by decide +kernel
theorem dX7_known_16 : decode cX7_known 16 = .ok (.iconst 0, 1) := by decide +kernel
theorem dX7_known_17 : decode cX7_known 17 = .ok (.ireturn, 1) := by decide +kernel
theorem dX7_known_18 : decode cX7_known 18 = .ok (.aload_n 0, 1) := by decide +kernel
theorem dX7_known_19 : decode cX7_known 19 = .ok (.getfield 57, 3) := by decide +kernel
theorem dX7_known_22 : decode cX7_known 22 = .ok (.iload_n 1, 1) := by decide +kernel
theorem dX7_known_23 : decode cX7_known 23 = .ok (.putfield 338, 3) := by decide +kernel
theorem dX7_known_26 : decode cX7_known 26 = .ok (.iconst 1, 1) := by decide +kernel
theorem dX7_known_27 : decode cX7_known 27 = .ok (.ireturn, 1) := by decide +kernel
theorem dX7_got_0 : decode cX7_got 0 = .ok (.aload_n 0, 1) := by decide +kernel
theorem dX7_got_1 : decode cX7_got 1 = .ok (.iload_n 1, 1) := by decide +kernel
theorem dX7_got_2 : decode cX7_got 2 = .ok (.invokevirtual 112, 3) := by decide +kernel
theorem dX7_got_5 : decode cX7_got 5 = .ok (.ifCond .ne 5, 3) := by decide +kernel
theorem dX7_got_8 : decode cX7_got 8 = .ok (.iconst (-1), 1) := by decide +kernel
theorem dX7_got_9 : decode cX7_got 9 = .ok (.ireturn, 1) := by decide +kernel
theorem dX7_got_10 : decode cX7_got 10 = .ok (.aload_n 0, 1) := by decide +kernel
theorem dX7_got_11 : decode cX7_got 11 = .ok (.getfield 57, 3) := by decide +kernel
theorem dX7_got_14 : decode cX7_got 14 = .ok (.invokevirtual 341, 3) := by decide +kernel
theorem dX7_got_17 : decode cX7_got 17 = .ok (.iconst 0, 1) := by decide +kernel
theorem dX7_got_18 : decode cX7_got 18 = .ok (.istore_n 2, 1) := by decide +kernel
theorem dX7_got_19 : decode cX7_got 19 = .ok (.iconst 0, 1) := by decide +kernel
theorem dX7_got_20 : decode cX7_got 20 = .ok (.istore_n 3, 1) := by decide +kernel
theorem dX7_got_21 : decode cX7_got 21 = .ok (.iload_n 3, 1) := by decide +kernel
theorem dX7_got_22 : decode cX7_got 22 = .ok (.aload_n 0, 1) := by decide +kernel
theorem dX7_got_23 : decode cX7_got 23 = .ok (.getfield 21, 3) := by decide +kernel
theorem dX7_got_26 : decode cX7_got 26 = .ok (.getfield 125, 3) := by decide +kernel
theorem dX7_got_29 : decode cX7_got 29 = .ok (.iload_n 1, 1) := by decide +kernel
theorem dX7_got_30 : decode cX7_got 30 = .ok (.iaload, 1) := by decide +kernel
theorem dX7_got_31 : decode cX7_got 31 = .ok (.if_icmp .ge 24, 3) := by decide +kernel
theorem dX7_got_34 : decode cX7_got 34 = .ok (.aload_n 0, 1) := by decide +kernel
theorem dX7_got_35 : decode cX7_got 35 = .ok (.iload_n 1, 1) := by decide +kernel
theorem dX7_got_36 : decode cX7_got 36 = .ok (.iload_n 3, 1) := by decide +kernel
theorem dX7_got_37 : decode cX7_got 37 = .ok (.invokevirtual 344, 3) := by decide +kernel
theorem dX7_got_40 : decode cX7_got 40 = .ok (.ifCond .eq 9, 3) := by decide +kernel
theorem dX7_got_43 : decode cX7_got 43 = .ok (.iload_n 2, 1) := by decide +kernel
theorem dX7_got_44 : decode cX7_got 44 = .ok (.iconst 1, 1) := by decide +kernel
theorem dX7_got_45 : decode cX7_got 45 = .ok (.iload_n 3, 1) := by decide +kernel
theorem dX7_got_46 : decode cX7_got 46 = .ok (.ishl, 1) := by decide +kernel
theorem dX7_got_47 : decode cX7_got 47 = .ok (.ior, 1) := by decide +kernel
theorem dX7_got_48 : decode cX7_got 48 = .ok (.istore_n 2, 1) := by decide +kernel
theorem dX7_got_49 : decode cX7_got 49 = .ok (.iinc 3 1, 3) := by decide +kernel
theorem dX7_got_52 : decode cX7_got 52 = .ok (.goto (-31), 3) := by decide +kernel
theorem dX7_got_55 : decode cX7_got 55 = .ok (.iload_n 2, 1) := by decide +kernel
theorem dX7_got_56 : decode cX7_got 56 = .ok (.ireturn, 1) := by decide +kernel
theorem dX7_agreesIfIn_0 : decode cX7_agreesIfIn 0 = .ok (.aload_n 0, 1) := by decide +kernel
theorem dX7_agreesIfIn_1 : decode cX7_agreesIfIn 1 = .ok (.getfield 41, 3) := by decide +kernel
theorem dX7_agreesIfIn_4 : decode cX7_agreesIfIn 4 = .ok (.aload_n 0, 1) := by decide +kernel
theorem dX7_agreesIfIn_5 : decode cX7_agreesIfIn 5 = .ok (.getfield 21, 3) := by decide +kernel
theorem dX7_agreesIfIn_8 : decode cX7_agreesIfIn 8 = .ok (.invokevirtual 90, 3) := by decide +kernel
theorem dX7_agreesIfIn_11 : decode cX7_agreesIfIn 11 = .ok (.aload_n 0, 1) := by decide +kernel
theorem dX7_agreesIfIn_12 : decode cX7_agreesIfIn 12 = .ok (.getfield 41, 3) := by decide +kernel
theorem dX7_agreesIfIn_15 : decode cX7_agreesIfIn 15 = .ok (.iconst 0, 1) := by decide +kernel
theorem dX7_agreesIfIn_16 : decode cX7_agreesIfIn 16 = .ok (.putfield 243, 3) := by decide +kernel
theorem dX7_agreesIfIn_19 : decode cX7_agreesIfIn 19 = .ok (.aload_n 0, 1) := by decide +kernel
theorem dX7_agreesIfIn_20 : decode cX7_agreesIfIn 20 = .ok (.getfield 41, 3) := by decide +kernel
theorem dX7_agreesIfIn_23 : decode cX7_agreesIfIn 23 = .ok (.iconst 1, 1) := by decide +kernel
theorem dX7_agreesIfIn_24 : decode cX7_agreesIfIn 24 = .ok (.putfield 302, 3) := by decide +kernel
theorem dX7_agreesIfIn_27 : decode cX7_agreesIfIn 27 = .ok (.aload_n 0, 1) := by decide +kernel
theorem dX7_agreesIfIn_28 : decode cX7_agreesIfIn 28 = .ok (.getfield 41, 3) := by decide +kernel
theorem dX7_agreesIfIn_31 : decode cX7_agreesIfIn 31 = .ok (.iconst 1, 1) := by decide +kernel
theorem dX7_agreesIfIn_32 : decode cX7_agreesIfIn 32 = .ok (.putfield 305, 3) := by decide +kernel
theorem dX7_agreesIfIn_35 : decode cX7_agreesIfIn 35 = .ok (.aload_n 0, 1) := by decide +kernel
theorem dX7_agreesIfIn_36 : decode cX7_agreesIfIn 36 = .ok (.getfield 41, 3) := by decide +kernel
theorem dX7_agreesIfIn_39 : decode cX7_agreesIfIn 39 = .ok (.getfield 347, 3) := by decide +kernel
theorem dX7_agreesIfIn_42 : decode cX7_agreesIfIn 42 = .ok (.iload_n 1, 1) := by decide +kernel
theorem dX7_agreesIfIn_43 : decode cX7_agreesIfIn 43 = .ok (.iload_n 2, 1) := by decide +kernel
theorem dX7_agreesIfIn_44 : decode cX7_agreesIfIn 44 = .ok (.iastore, 1) := by decide +kernel
theorem dX7_agreesIfIn_45 : decode cX7_agreesIfIn 45 = .ok (.iconst 0, 1) := by decide +kernel
theorem dX7_agreesIfIn_46 : decode cX7_agreesIfIn 46 = .ok (.istore_n 3, 1) := by decide +kernel
theorem dX7_agreesIfIn_47 : decode cX7_agreesIfIn 47 = .ok (.iload_n 3, 1) := by decide +kernel
theorem dX7_agreesIfIn_48 : decode cX7_agreesIfIn 48 = .ok (.bipush 20, 2) := by decide +kernel
theorem dX7_agreesIfIn_50 : decode cX7_agreesIfIn 50 = .ok (.if_icmp .ge 56, 3) := by decide +kernel
theorem dX7_agreesIfIn_53 : decode cX7_agreesIfIn 53 = .ok (.aload_n 0, 1) := by decide +kernel
theorem dX7_agreesIfIn_54 : decode cX7_agreesIfIn 54 = .ok (.getfield 41, 3) := by decide +kernel
theorem dX7_agreesIfIn_57 : decode cX7_agreesIfIn 57 = .ok (.aload_n 0, 1) := by decide +kernel
theorem dX7_agreesIfIn_58 : decode cX7_agreesIfIn 58 = .ok (.getfield 21, 3) := by decide +kernel
theorem dX7_agreesIfIn_61 : decode cX7_agreesIfIn 61 = .ok (.getfield 181, 3) := by decide +kernel
theorem dX7_agreesIfIn_64 : decode cX7_agreesIfIn 64 = .ok (.iload_n 3, 1) := by decide +kernel
theorem dX7_agreesIfIn_65 : decode cX7_agreesIfIn 65 = .ok (.iaload, 1) := by decide +kernel
theorem dX7_agreesIfIn_66 : decode cX7_agreesIfIn 66 = .ok (.invokevirtual 268, 3) := by decide +kernel
theorem dX7_agreesIfIn_69 : decode cX7_agreesIfIn 69 = .ok (.pop, 1) := by decide +kernel
theorem dX7_agreesIfIn_70 : decode cX7_agreesIfIn 70 = .ok (.aload_n 0, 1) := by decide +kernel
theorem dX7_agreesIfIn_71 : decode cX7_agreesIfIn 71 = .ok (.getfield 41, 3) := by decide +kernel
theorem dX7_agreesIfIn_74 : decode cX7_agreesIfIn 74 = .ok (.invokevirtual 274, 3) := by decide +kernel
theorem dX7_agreesIfIn_77 : decode cX7_agreesIfIn 77 = .ok (.aload_n 0, 1) := by decide +kernel
theorem dX7_agreesIfIn_78 : decode cX7_agreesIfIn 78 = .ok (.getfield 57, 3) := by decide +kernel
theorem dX7_agreesIfIn_81 : decode cX7_agreesIfIn 81 = .ok (.aload_n 0, 1) := by decide +kernel
theorem dX7_agreesIfIn_82 : decode cX7_agreesIfIn 82 = .ok (.getfield 41, 3) := by decide +kernel
theorem dX7_agreesIfIn_85 : decode cX7_agreesIfIn 85 = .ok (.invokevirtual 350, 3) := by decide +kernel
theorem dX7_agreesIfIn_88 : decode cX7_agreesIfIn 88 = .ok (.ifCond .ne 5, 3) := by decide +kernel
theorem dX7_agreesIfIn_91 : decode cX7_agreesIfIn 91 = .ok (.iconst 0, 1) := by decide +kernel
theorem dX7_agreesIfIn_92 : decode cX7_agreesIfIn 92 = .ok (.ireturn, 1) := by decide +kernel
theorem dX7_agreesIfIn_93 : decode cX7_agreesIfIn 93 = .ok (.aload_n 0, 1) := by decide +kernel
theorem dX7_agreesIfIn_94 : decode cX7_agreesIfIn 94 = .ok (.getfield 41, 3) := by decide +kernel
theorem dX7_agreesIfIn_97 : decode cX7_agreesIfIn 97 = .ok (.invokevirtual 280, 3) := by decide +kernel
theorem dX7_agreesIfIn_100 : decode cX7_agreesIfIn 100 = .ok (.iinc 3 1, 3) := by decide +kernel
theorem dX7_agreesIfIn_103 : decode cX7_agreesIfIn 103 = .ok (.goto (-56), 3) := by decide +kernel
theorem dX7_agreesIfIn_106 : decode cX7_agreesIfIn 106 = .ok (.iconst 1, 1) := by decide +kernel
theorem dX7_agreesIfIn_107 : decode cX7_agreesIfIn 107 = .ok (.ireturn, 1) := by decide +kernel

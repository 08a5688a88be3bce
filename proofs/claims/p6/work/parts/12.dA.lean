theorem dX0_init_0 : decode cX0_init 0 = .ok (.aload_n 0, 1) := by decide +kernel
theorem dX0_init_1 : decode cX0_init 1 = .ok (.invokespecial 3, 3) := by decide +kernel
theorem dX0_init_4 : decode cX0_init 4 = .ok (.aload_n 0, 1) := by decide +kernel
theorem dX0_init_5 : decode cX0_init 5 = .ok (.iconst 0, 1) := by decide +kernel
theorem dX0_init_6 : decode cX0_init 6 = .ok (.putfield 9, 3) := by decide +kernel
theorem dX0_init_9 : decode cX0_init 9 = .ok (.aload_n 0, 1) := by decide +kernel
theorem dX0_init_10 : decode cX0_init 10 = .ok (.iconst 0, 1) := by decide +kernel
theorem dX0_init_11 : decode cX0_init 11 = .ok (.putfield 15, 3) := by decide +kernel
theorem dX0_init_14 : decode cX0_init 14 = .ok (.aload_n 0, 1) := by decide +kernel
theorem dX0_init_15 : decode cX0_init 15 = .ok (.sipush 1520, 3) := by decide +kernel
theorem dX0_init_18 : decode cX0_init 18 = .ok (.newarray .int, 2) := by decide +kernel
theorem dX0_init_20 : decode cX0_init 20 = .ok (.putfield 18, 3) := by decide +kernel
theorem dX0_init_23 : decode cX0_init 23 = .ok (.return_, 1) := by decide +kernel
theorem dX0_save_0 : decode cX0_save 0 = .ok (.aload_n 0, 1) := by decide +kernel
theorem dX0_save_1 : decode cX0_save 1 = .ok (.getfield 15, 3) := by decide +kernel
theorem dX0_save_4 : decode cX0_save 4 = .ok (.bipush 76, 2) := by decide +kernel
theorem dX0_save_6 : decode cX0_save 6 = .ok (.imul, 1) := by decide +kernel
theorem dX0_save_7 : decode cX0_save 7 = .ok (.istore_n 2, 1) := by decide +kernel
theorem dX0_save_8 : decode cX0_save 8 = .ok (.aload_n 0, 1) := by decide +kernel
theorem dX0_save_9 : decode cX0_save 9 = .ok (.aload_n 1, 1) := by decide +kernel
theorem dX0_save_10 : decode cX0_save 10 = .ok (.getfield 22, 3) := by decide +kernel
theorem dX0_save_13 : decode cX0_save 13 = .ok (.iload_n 2, 1) := by decide +kernel
theorem dX0_save_14 : decode cX0_save 14 = .ok (.invokevirtual 27, 3) := by decide +kernel
theorem dX0_save_17 : decode cX0_save 17 = .ok (.istore_n 2, 1) := by decide +kernel
theorem dX0_save_18 : decode cX0_save 18 = .ok (.aload_n 0, 1) := by decide +kernel
theorem dX0_save_19 : decode cX0_save 19 = .ok (.aload_n 1, 1) := by decide +kernel
theorem dX0_save_20 : decode cX0_save 20 = .ok (.getfield 31, 3) := by decide +kernel
theorem dX0_save_23 : decode cX0_save 23 = .ok (.iload_n 2, 1) := by decide +kernel
theorem dX0_save_24 : decode cX0_save 24 = .ok (.invokevirtual 27, 3) := by decide +kernel
theorem dX0_save_27 : decode cX0_save 27 = .ok (.istore_n 2, 1) := by decide +kernel
theorem dX0_save_28 : decode cX0_save 28 = .ok (.aload_n 0, 1) := by decide +kernel
theorem dX0_save_29 : decode cX0_save 29 = .ok (.aload_n 1, 1) := by decide +kernel
theorem dX0_save_30 : decode cX0_save 30 = .ok (.getfield 34, 3) := by decide +kernel
theorem dX0_save_33 : decode cX0_save 33 = .ok (.iload_n 2, 1) := by decide +kernel
theorem dX0_save_34 : decode cX0_save 34 = .ok (.invokevirtual 27, 3) := by decide +kernel
theorem dX0_save_37 : decode cX0_save 37 = .ok (.istore_n 2, 1) := by decide +kernel
theorem dX0_save_38 : decode cX0_save 38 = .ok (.aload_n 0, 1) := by decide +kernel
theorem dX0_save_39 : decode cX0_save 39 = .ok (.aload_n 1, 1) := by decide +kernel
theorem dX0_save_40 : decode cX0_save 40 = .ok (.getfield 37, 3) := by decide +kernel
theorem dX0_save_43 : decode cX0_save 43 = .ok (.iload_n 2, 1) := by decide +kernel
theorem dX0_save_44 : decode cX0_save 44 = .ok (.invokevirtual 27, 3) := by decide +kernel
theorem dX0_save_47 : decode cX0_save 47 = .ok (.istore_n 2, 1) := by decide +kernel
theorem dX0_save_48 : decode cX0_save 48 = .ok (.aload_n 0, 1) := by decide +kernel
theorem dX0_save_49 : decode cX0_save 49 = .ok (.aload_n 1, 1) := by decide +kernel
theorem dX0_save_50 : decode cX0_save 50 = .ok (.getfield 40, 3) := by decide +kernel
theorem dX0_save_53 : decode cX0_save 53 = .ok (.iload_n 2, 1) := by decide +kernel
theorem dX0_save_54 : decode cX0_save 54 = .ok (.invokevirtual 27, 3) := by decide +kernel
theorem dX0_save_57 : decode cX0_save 57 = .ok (.pop, 1) := by decide +kernel
theorem dX0_save_58 : decode cX0_save 58 = .ok (.aload_n 0, 1) := by decide +kernel
theorem dX0_save_59 : decode cX0_save 59 = .ok (.aload_n 0, 1) := by decide +kernel
theorem dX0_save_60 : decode cX0_save 60 = .ok (.getfield 15, 3) := by decide +kernel
theorem dX0_save_63 : decode cX0_save 63 = .ok (.iconst 1, 1) := by decide +kernel
theorem dX0_save_64 : decode cX0_save 64 = .ok (.iadd, 1) := by decide +kernel
theorem dX0_save_65 : decode cX0_save 65 = .ok (.bipush 20, 2) := by decide +kernel
theorem dX0_save_67 : decode cX0_save 67 = .ok (.irem, 1) := by decide +kernel
theorem dX0_save_68 : decode cX0_save 68 = .ok (.putfield 15, 3) := by decide +kernel
theorem dX0_save_71 : decode cX0_save 71 = .ok (.aload_n 0, 1) := by decide +kernel
theorem dX0_save_72 : decode cX0_save 72 = .ok (.aload_n 0, 1) := by decide +kernel
theorem dX0_save_73 : decode cX0_save 73 = .ok (.getfield 9, 3) := by decide +kernel
theorem dX0_save_76 : decode cX0_save 76 = .ok (.bipush 20, 2) := by decide +kernel
theorem dX0_save_78 : decode cX0_save 78 = .ok (.if_icmp .ne 8, 3) := by decide +kernel
theorem dX0_save_81 : decode cX0_save 81 = .ok (.bipush 20, 2) := by decide +kernel
theorem dX0_save_83 : decode cX0_save 83 = .ok (.goto 9, 3) := by decide +kernel
theorem dX0_save_86 : decode cX0_save 86 = .ok (.aload_n 0, 1) := by decide +kernel
theorem dX0_save_87 : decode cX0_save 87 = .ok (.getfield 9, 3) := by decide +kernel
theorem dX0_save_90 : decode cX0_save 90 = .ok (.iconst 1, 1) := by decide +kernel
theorem dX0_save_91 : decode cX0_save 91 = .ok (.iadd, 1) := by decide +kernel
theorem dX0_save_92 : decode cX0_save 92 = .ok (.putfield 9, 3) := by decide +kernel
theorem dX0_save_95 : decode cX0_save 95 = .ok (.return_, 1) := by decide +kernel
theorem dX0_saveRow_0 : decode cX0_saveRow 0 = .ok (.aload_n 1, 1) := by decide +kernel
theorem dX0_saveRow_1 : decode cX0_saveRow 1 = .ok (.iconst 0, 1) := by decide +kernel
theorem dX0_saveRow_2 : decode cX0_saveRow 2 = .ok (.aload_n 0, 1) := by decide +kernel
theorem dX0_saveRow_3 : decode cX0_saveRow 3 = .ok (.getfield 18, 3) := by decide +kernel
theorem dX0_saveRow_6 : decode cX0_saveRow 6 = .ok (.iload_n 2, 1) := by decide +kernel
theorem dX0_saveRow_7 : decode cX0_saveRow 7 = .ok (.aload_n 1, 1) := by decide +kernel
theorem dX0_saveRow_8 : decode cX0_saveRow 8 = .ok (.arraylength, 1) := by decide +kernel
theorem dX0_saveRow_9 : decode cX0_saveRow 9 = .ok (.invokestatic 43, 3) := by decide +kernel
theorem dX0_saveRow_12 : decode cX0_saveRow 12 = .ok (.iload_n 2, 1) := by decide +kernel
theorem dX0_saveRow_13 : decode cX0_saveRow 13 = .ok (.aload_n 1, 1) := by decide +kernel
theorem dX0_saveRow_14 : decode cX0_saveRow 14 = .ok (.arraylength, 1) := by decide +kernel
theorem dX0_saveRow_15 : decode cX0_saveRow 15 = .ok (.iadd, 1) := by decide +kernel
theorem dX0_saveRow_16 : decode cX0_saveRow 16 = .ok (.ireturn, 1) := by decide +kernel
theorem dX0_bringBack_0 : decode cX0_bringBack 0 = .ok (.aload_n 0, 1) := by decide +kernel
theorem dX0_bringBack_1 : decode cX0_bringBack 1 = .ok (.getfield 9, 3) := by decide +kernel
theorem dX0_bringBack_4 : decode cX0_bringBack 4 = .ok (.ifCond .ne 4, 3) := by decide +kernel
theorem dX0_bringBack_7 : decode cX0_bringBack 7 = .ok (.return_, 1) := by decide +kernel
theorem dX0_bringBack_8 : decode cX0_bringBack 8 = .ok (.aload_n 0, 1) := by decide +kernel
theorem dX0_bringBack_9 : decode cX0_bringBack 9 = .ok (.aload_n 0, 1) := by decide +kernel
theorem dX0_bringBack_10 : decode cX0_bringBack 10 = .ok (.getfield 15, 3) := by decide +kernel
theorem dX0_bringBack_13 : decode cX0_bringBack 13 = .ok (.bipush 20, 2) := by decide +kernel
theorem dX0_bringBack_15 : decode cX0_bringBack 15 = .ok (.iadd, 1) := by decide +kernel
theorem dX0_bringBack_16 : decode cX0_bringBack 16 = .ok (.iconst 1, 1) := by decide +kernel
theorem dX0_bringBack_17 : decode cX0_bringBack 17 = .ok (.isub, 1) := by decide +kernel
theorem dX0_bringBack_18 : decode cX0_bringBack 18 = .ok (.bipush 20, 2) := by decide +kernel
theorem dX0_bringBack_20 : decode cX0_bringBack 20 = .ok (.irem, 1) := by decide +kernel
theorem dX0_bringBack_21 : decode cX0_bringBack 21 = .ok (.putfield 15, 3) := by decide +kernel
theorem dX0_bringBack_24 : decode cX0_bringBack 24 = .ok (.aload_n 0, 1) := by decide +kernel
theorem dX0_bringBack_25 : decode cX0_bringBack 25 = .ok (.dup, 1) := by decide +kernel
theorem dX0_bringBack_26 : decode cX0_bringBack 26 = .ok (.getfield 9, 3) := by decide +kernel
theorem dX0_bringBack_29 : decode cX0_bringBack 29 = .ok (.iconst 1, 1) := by decide +kernel
theorem dX0_bringBack_30 : decode cX0_bringBack 30 = .ok (.isub, 1) := by decide +kernel
theorem dX0_bringBack_31 : decode cX0_bringBack 31 = .ok (.putfield 9, 3) := by decide +kernel
theorem dX0_bringBack_34 : decode cX0_bringBack 34 = .ok (.aload_n 0, 1) := by decide +kernel
theorem dX0_bringBack_35 : decode cX0_bringBack 35 = .ok (.getfield 15, 3) := by decide +kernel
theorem dX0_bringBack_38 : decode cX0_bringBack 38 = .ok (.bipush 76, 2) := by decide +kernel
theorem dX0_bringBack_40 : decode cX0_bringBack 40 = .ok (.imul, 1) := by decide +kernel
theorem dX0_bringBack_41 : decode cX0_bringBack 41 = .ok (.istore_n 2, 1) := by decide +kernel
theorem dX0_bringBack_42 : decode cX0_bringBack 42 = .ok (.aload_n 0, 1) := by decide +kernel
theorem dX0_bringBack_43 : decode cX0_bringBack 43 = .ok (.aload_n 1, 1) := by decide +kernel
theorem dX0_bringBack_44 : decode cX0_bringBack 44 = .ok (.getfield 22, 3) := by decide +kernel
theorem dX0_bringBack_47 : decode cX0_bringBack 47 = .ok (.iload_n 2, 1) := by decide +kernel
theorem dX0_bringBack_48 : decode cX0_bringBack 48 = .ok (.invokevirtual 49, 3) := by decide +kernel
theorem dX0_bringBack_51 : decode cX0_bringBack 51 = .ok (.istore_n 2, 1) := by decide +kernel
theorem dX0_bringBack_52 : decode cX0_bringBack 52 = .ok (.aload_n 0, 1) := by decide +kernel
theorem dX0_bringBack_53 : decode cX0_bringBack 53 = .ok (.aload_n 1, 1) := by decide +kernel
theorem dX0_bringBack_54 : decode cX0_bringBack 54 = .ok (.getfield 31, 3) := by decide +kernel
theorem dX0_bringBack_57 : decode cX0_bringBack 57 = .ok (.iload_n 2, 1) := by decide +kernel
theorem dX0_bringBack_58 : decode cX0_bringBack 58 = .ok (.invokevirtual 49, 3) := by decide +kernel
theorem dX0_bringBack_61 : decode cX0_bringBack 61 = .ok (.istore_n 2, 1) := by decide +kernel
theorem dX0_bringBack_62 : decode cX0_bringBack 62 = .ok (.aload_n 0, 1) := by decide +kernel
theorem dX0_bringBack_63 : decode cX0_bringBack 63 = .ok (.aload_n 1, 1) := by decide +kernel
theorem dX0_bringBack_64 : decode cX0_bringBack 64 = .ok (.getfield 34, 3) := by decide +kernel
theorem dX0_bringBack_67 : decode cX0_bringBack 67 = .ok (.iload_n 2, 1) := by decide +kernel
theorem dX0_bringBack_68 : decode cX0_bringBack 68 = .ok (.invokevirtual 49, 3) := by decide +kernel
theorem dX0_bringBack_71 : decode cX0_bringBack 71 = .ok (.istore_n 2, 1) := by decide +kernel
theorem dX0_bringBack_72 : decode cX0_bringBack 72 = .ok (.aload_n 0, 1) := by decide +kernel
theorem dX0_bringBack_73 : decode cX0_bringBack 73 = .ok (.aload_n 1, 1) := by decide +kernel
theorem dX0_bringBack_74 : decode cX0_bringBack 74 = .ok (.getfield 37, 3) := by decide +kernel
theorem dX0_bringBack_77 : decode cX0_bringBack 77 = .ok (.iload_n 2, 1) := by decide +kernel
theorem dX0_bringBack_78 : decode cX0_bringBack 78 = .ok (.invokevirtual 49, 3) := by decide +kernel
theorem dX0_bringBack_81 : decode cX0_bringBack 81 = .ok (.istore_n 2, 1) := by decide +kernel
theorem dX0_bringBack_82 : decode cX0_bringBack 82 = .ok (.aload_n 0, 1) := by decide +kernel
theorem dX0_bringBack_83 : decode cX0_bringBack 83 = .ok (.aload_n 1, 1) := by decide +kernel
theorem dX0_bringBack_84 : decode cX0_bringBack 84 = .ok (.getfield 40, 3) := by decide +kernel
theorem dX0_bringBack_87 : decode cX0_bringBack 87 = .ok (.iload_n 2, 1) := by decide +kernel
theorem dX0_bringBack_88 : decode cX0_bringBack 88 = .ok (.invokevirtual 49, 3) := by decide +kernel
theorem dX0_bringBack_91 : decode cX0_bringBack 91 = .ok (.pop, 1) := by decide +kernel
theorem dX0_bringBack_92 : decode cX0_bringBack 92 = .ok (.return_, 1) := by decide +kernel
theorem dX0_bringRow_0 : decode cX0_bringRow 0 = .ok (.aload_n 0, 1) := by decide +kernel
theorem dX0_bringRow_1 : decode cX0_bringRow 1 = .ok (.getfield 18, 3) := by decide +kernel
theorem dX0_bringRow_4 : decode cX0_bringRow 4 = .ok (.iload_n 2, 1) := by decide +kernel
theorem dX0_bringRow_5 : decode cX0_bringRow 5 = .ok (.aload_n 1, 1) := by decide +kernel
theorem dX0_bringRow_6 : decode cX0_bringRow 6 = .ok (.iconst 0, 1) := by decide +kernel
theorem dX0_bringRow_7 : decode cX0_bringRow 7 = .ok (.aload_n 1, 1) := by decide +kernel
theorem dX0_bringRow_8 : decode cX0_bringRow 8 = .ok (.arraylength, 1) := by decide +kernel
theorem dX0_bringRow_9 : decode cX0_bringRow 9 = .ok (.invokestatic 43, 3) := by decide +kernel
theorem dX0_bringRow_12 : decode cX0_bringRow 12 = .ok (.iload_n 2, 1) := by decide +kernel
theorem dX0_bringRow_13 : decode cX0_bringRow 13 = .ok (.aload_n 1, 1) := by decide +kernel
theorem dX0_bringRow_14 : decode cX0_bringRow 14 = .ok (.arraylength, 1) := by decide +kernel
theorem dX0_bringRow_15 : decode cX0_bringRow 15 = .ok (.iadd, 1) := by decide +kernel
theorem dX0_bringRow_16 : decode cX0_bringRow 16 = .ok (.ireturn, 1) := by decide +kernel
theorem dX1_init_0 : decode cX1_init 0 = .ok (.aload_n 0, 1) := by decide +kernel
theorem dX1_init_1 : decode cX1_init 1 = .ok (.invokespecial 3, 3) := by decide +kernel
theorem dX1_init_4 : decode cX1_init 4 = .ok (.aload_n 0, 1) := by decide +kernel
theorem dX1_init_5 : decode cX1_init 5 = .ok (.bipush 64, 2) := by decide +kernel
theorem dX1_init_7 : decode cX1_init 7 = .ok (.newarray .int, 2) := by decide +kernel
theorem dX1_init_9 : decode cX1_init 9 = .ok (.putfield 9, 3) := by decide +kernel
theorem dX1_init_12 : decode cX1_init 12 = .ok (.aload_n 0, 1) := by decide +kernel
theorem dX1_init_13 : decode cX1_init 13 = .ok (.bipush 64, 2) := by decide +kernel
theorem dX1_init_15 : decode cX1_init 15 = .ok (.newarray .long, 2) := by decide +kernel
theorem dX1_init_17 : decode cX1_init 17 = .ok (.putfield 15, 3) := by decide +kernel
theorem dX1_init_20 : decode cX1_init 20 = .ok (.return_, 1) := by decide +kernel
theorem dX1_append_0 : decode cX1_append 0 = .ok (.aload_n 0, 1) := by decide +kernel
theorem dX1_append_1 : decode cX1_append 1 = .ok (.getfield 19, 3) := by decide +kernel
theorem dX1_append_4 : decode cX1_append 4 = .ok (.bipush 64, 2) := by decide +kernel
theorem dX1_append_6 : decode cX1_append 6 = .ok (.if_icmp .ge 23, 3) := by decide +kernel
theorem dX1_append_9 : decode cX1_append 9 = .ok (.aload_n 0, 1) := by decide +kernel
theorem dX1_append_10 : decode cX1_append 10 = .ok (.getfield 9, 3) := by decide +kernel
theorem dX1_append_13 : decode cX1_append 13 = .ok (.aload_n 0, 1) := by decide +kernel
theorem dX1_append_14 : decode cX1_append 14 = .ok (.getfield 19, 3) := by decide +kernel
theorem dX1_append_17 : decode cX1_append 17 = .ok (.iload_n 1, 1) := by decide +kernel
theorem dX1_append_18 : decode cX1_append 18 = .ok (.iastore, 1) := by decide +kernel
theorem dX1_append_19 : decode cX1_append 19 = .ok (.aload_n 0, 1) := by decide +kernel
theorem dX1_append_20 : decode cX1_append 20 = .ok (.dup, 1) := by decide +kernel
theorem dX1_append_21 : decode cX1_append 21 = .ok (.getfield 19, 3) := by decide +kernel
theorem dX1_append_24 : decode cX1_append 24 = .ok (.iconst 1, 1) := by decide +kernel
theorem dX1_append_25 : decode cX1_append 25 = .ok (.iadd, 1) := by decide +kernel
theorem dX1_append_26 : decode cX1_append 26 = .ok (.putfield 19, 3) := by decide +kernel
theorem dX1_append_29 : decode cX1_append 29 = .ok (.return_, 1) := by decide +kernel
theorem dX1_value_0 : decode cX1_value 0 = .ok (.iconst 0, 1) := by decide +kernel
theorem dX1_value_1 : decode cX1_value 1 = .ok (.istore_n 2, 1) := by decide +kernel
theorem dX1_value_2 : decode cX1_value 2 = .ok (.iconst 0, 1) := by decide +kernel
theorem dX1_value_3 : decode cX1_value 3 = .ok (.istore_n 3, 1) := by decide +kernel
theorem dX1_value_4 : decode cX1_value 4 = .ok (.iload_n 3, 1) := by decide +kernel
theorem dX1_value_5 : decode cX1_value 5 = .ok (.aload_n 0, 1) := by decide +kernel
theorem dX1_value_6 : decode cX1_value 6 = .ok (.getfield 19, 3) := by decide +kernel
theorem dX1_value_9 : decode cX1_value 9 = .ok (.if_icmp .ge 181, 3) := by decide +kernel
theorem dX1_value_12 : decode cX1_value 12 = .ok (.aload_n 0, 1) := by decide +kernel
theorem dX1_value_13 : decode cX1_value 13 = .ok (.getfield 9, 3) := by decide +kernel
theorem dX1_value_16 : decode cX1_value 16 = .ok (.iload_n 3, 1) := by decide +kernel
theorem dX1_value_17 : decode cX1_value 17 = .ok (.iaload, 1) := by decide +kernel
theorem dX1_value_18 : decode cX1_value 18 = .ok (.istore 4, 2) := by decide +kernel
theorem dX1_value_20 : decode cX1_value 20 = .ok (.iload 4, 2) := by decide +kernel
theorem dX1_value_22 : decode cX1_value 22 = .ok (.sipush 10000, 3) := by decide +kernel
theorem dX1_value_25 : decode cX1_value 25 = .ok (.isub, 1) := by decide +kernel
theorem dX1_value_26 : decode cX1_value 26 = .ok (.istore 5, 2) := by decide +kernel
theorem dX1_value_28 : decode cX1_value 28 = .ok (.iload 5, 2) := by decide +kernel
theorem dX1_value_30 : decode cX1_value 30 = .ok (.ifCond .ge 18, 3) := by decide +kernel
theorem dX1_value_33 : decode cX1_value 33 = .ok (.aload_n 0, 1) := by decide +kernel
theorem dX1_value_34 : decode cX1_value 34 = .ok (.getfield 15, 3) := by decide +kernel
theorem dX1_value_37 : decode cX1_value 37 = .ok (.iload_n 2, 1) := by decide +kernel
theorem dX1_value_38 : decode cX1_value 38 = .ok (.iload 4, 2) := by decide +kernel
theorem dX1_value_40 : decode cX1_value 40 = .ok (.i2l, 1) := by decide +kernel
theorem dX1_value_41 : decode cX1_value 41 = .ok (.lastore, 1) := by decide +kernel
theorem dX1_value_42 : decode cX1_value 42 = .ok (.iinc 2 1, 3) := by decide +kernel
theorem dX1_value_45 : decode cX1_value 45 = .ok (.goto 139, 3) := by decide +kernel
theorem dX1_value_48 : decode cX1_value 48 = .ok (.iload 5, 2) := by decide +kernel
theorem dX1_value_50 : decode cX1_value 50 = .ok (.bipush 22, 2) := by decide +kernel
theorem dX1_value_52 : decode cX1_value 52 = .ok (.if_icmp .lt 30, 3) := by decide +kernel
theorem dX1_value_55 : decode cX1_value 55 = .ok (.iload 5, 2) := by decide +kernel
theorem dX1_value_57 : decode cX1_value 57 = .ok (.bipush 28, 2) := by decide +kernel
theorem dX1_value_59 : decode cX1_value 59 = .ok (.if_icmp .gt 23, 3) := by decide +kernel
theorem dX1_value_62 : decode cX1_value 62 = .ok (.aload_n 0, 1) := by decide +kernel
theorem dX1_value_63 : decode cX1_value 63 = .ok (.getfield 15, 3) := by decide +kernel
theorem dX1_value_66 : decode cX1_value 66 = .ok (.iload_n 2, 1) := by decide +kernel
theorem dX1_value_67 : decode cX1_value 67 = .ok (.aload_n 1, 1) := by decide +kernel
theorem dX1_value_68 : decode cX1_value 68 = .ok (.iload 5, 2) := by decide +kernel
theorem dX1_value_70 : decode cX1_value 70 = .ok (.bipush 22, 2) := by decide +kernel
theorem dX1_value_72 : decode cX1_value 72 = .ok (.isub, 1) := by decide +kernel
theorem dX1_value_73 : decode cX1_value 73 = .ok (.iaload, 1) := by decide +kernel
theorem dX1_value_74 : decode cX1_value 74 = .ok (.i2l, 1) := by decide +kernel
theorem dX1_value_75 : decode cX1_value 75 = .ok (.lastore, 1) := by decide +kernel
theorem dX1_value_76 : decode cX1_value 76 = .ok (.iinc 2 1, 3) := by decide +kernel
theorem dX1_value_79 : decode cX1_value 79 = .ok (.goto 105, 3) := by decide +kernel
theorem dX1_value_82 : decode cX1_value 82 = .ok (.iload 5, 2) := by decide +kernel
theorem dX1_value_84 : decode cX1_value 84 = .ok (.bipush 21, 2) := by decide +kernel
theorem dX1_value_86 : decode cX1_value 86 = .ok (.if_icmp .ne 37, 3) := by decide +kernel
theorem dX1_value_89 : decode cX1_value 89 = .ok (.iload_n 2, 1) := by decide +kernel
theorem dX1_value_90 : decode cX1_value 90 = .ok (.iconst 1, 1) := by decide +kernel
theorem dX1_value_91 : decode cX1_value 91 = .ok (.if_icmp .lt 32, 3) := by decide +kernel
theorem dX1_value_94 : decode cX1_value 94 = .ok (.aload_n 0, 1) := by decide +kernel
theorem dX1_value_95 : decode cX1_value 95 = .ok (.getfield 15, 3) := by decide +kernel
theorem dX1_value_98 : decode cX1_value 98 = .ok (.iload_n 2, 1) := by decide +kernel
theorem dX1_value_99 : decode cX1_value 99 = .ok (.iconst 1, 1) := by decide +kernel
theorem dX1_value_100 : decode cX1_value 100 = .ok (.isub, 1) := by decide +kernel
theorem dX1_value_101 : decode cX1_value 101 = .ok (.aload_n 0, 1) := by decide +kernel
theorem dX1_value_102 : decode cX1_value 102 = .ok (.getfield 15, 3) := by decide +kernel
theorem dX1_value_105 : decode cX1_value 105 = .ok (.iload_n 2, 1) := by decide +kernel
theorem dX1_value_106 : decode cX1_value 106 = .ok (.iconst 1, 1) := by decide +kernel
theorem dX1_value_107 : decode cX1_value 107 = .ok (.isub, 1) := by decide +kernel
theorem dX1_value_108 : decode cX1_value 108 = .ok (.laload, 1) := by decide +kernel
theorem dX1_value_109 : decode cX1_value 109 = .ok (.lconst 0, 1) := by decide +kernel
theorem dX1_value_110 : decode cX1_value 110 = .ok (.lcmp, 1) := by decide +kernel
theorem dX1_value_111 : decode cX1_value 111 = .ok (.ifCond .ne 7, 3) := by decide +kernel
theorem dX1_value_114 : decode cX1_value 114 = .ok (.lconst 1, 1) := by decide +kernel
theorem dX1_value_115 : decode cX1_value 115 = .ok (.goto 4, 3) := by decide +kernel
theorem dX1_value_118 : decode cX1_value 118 = .ok (.lconst 0, 1) := by decide +kernel
theorem dX1_value_119 : decode cX1_value 119 = .ok (.lastore, 1) := by decide +kernel
theorem dX1_value_120 : decode cX1_value 120 = .ok (.goto 64, 3) := by decide +kernel
theorem dX1_value_123 : decode cX1_value 123 = .ok (.iload_n 2, 1) := by decide +kernel
theorem dX1_value_124 : decode cX1_value 124 = .ok (.iconst 2, 1) := by decide +kernel
theorem dX1_value_125 : decode cX1_value 125 = .ok (.if_icmp .lt 59, 3) := by decide +kernel
theorem dX1_value_128 : decode cX1_value 128 = .ok (.iinc 2 (-1), 3) := by decide +kernel
theorem dX1_value_131 : decode cX1_value 131 = .ok (.iload 5, 2) := by decide +kernel
theorem dX1_value_133 : decode cX1_value 133 = .ok (.aload_n 0, 1) := by decide +kernel
theorem dX1_value_134 : decode cX1_value 134 = .ok (.getfield 15, 3) := by decide +kernel
theorem dX1_value_137 : decode cX1_value 137 = .ok (.iload_n 2, 1) := by decide +kernel
theorem dX1_value_138 : decode cX1_value 138 = .ok (.iconst 1, 1) := by decide +kernel
theorem dX1_value_139 : decode cX1_value 139 = .ok (.isub, 1) := by decide +kernel
theorem dX1_value_140 : decode cX1_value 140 = .ok (.laload, 1) := by decide +kernel
theorem dX1_value_141 : decode cX1_value 141 = .ok (.aload_n 0, 1) := by decide +kernel
theorem dX1_value_142 : decode cX1_value 142 = .ok (.getfield 15, 3) := by decide +kernel
theorem dX1_value_145 : decode cX1_value 145 = .ok (.iload_n 2, 1) := by decide +kernel
theorem dX1_value_146 : decode cX1_value 146 = .ok (.laload, 1) := by decide +kernel
theorem dX1_value_147 : decode cX1_value 147 = .ok (.invokestatic 23, 3) := by decide +kernel
theorem dX1_value_150 : decode cX1_value 150 = .ok (.lstore 6, 2) := by decide +kernel
theorem dX1_value_152 : decode cX1_value 152 = .ok (.lload 6, 2) := by decide +kernel
theorem dX1_value_154 : decode cX1_value 154 = .ok (.ldc2_w 27, 3) := by decide +kernel
theorem dX1_value_157 : decode cX1_value 157 = .ok (.lcmp, 1) := by decide +kernel
theorem dX1_value_158 : decode cX1_value 158 = .ok (.ifCond .lt 12, 3) := by decide +kernel
theorem dX1_value_161 : decode cX1_value 161 = .ok (.lload 6, 2) := by decide +kernel
theorem dX1_value_163 : decode cX1_value 163 = .ok (.ldc2_w 29, 3) := by decide +kernel
theorem dX1_value_166 : decode cX1_value 166 = .ok (.lcmp, 1) := by decide +kernel
theorem dX1_value_167 : decode cX1_value 167 = .ok (.ifCond .le 7, 3) := by decide +kernel
theorem dX1_value_170 : decode cX1_value 170 = .ok (.ldc2_w 31, 3) := by decide +kernel
theorem dX1_value_173 : decode cX1_value 173 = .ok (.lreturn, 1) := by decide +kernel
theorem dX1_value_174 : decode cX1_value 174 = .ok (.aload_n 0, 1) := by decide +kernel
theorem dX1_value_175 : decode cX1_value 175 = .ok (.getfield 15, 3) := by decide +kernel
theorem dX1_value_178 : decode cX1_value 178 = .ok (.iload_n 2, 1) := by decide +kernel
theorem dX1_value_179 : decode cX1_value 179 = .ok (.iconst 1, 1) := by decide +kernel
theorem dX1_value_180 : decode cX1_value 180 = .ok (.isub, 1) := by decide +kernel
theorem dX1_value_181 : decode cX1_value 181 = .ok (.lload 6, 2) := by decide +kernel
theorem dX1_value_183 : decode cX1_value 183 = .ok (.lastore, 1) := by decide +kernel
theorem dX1_value_184 : decode cX1_value 184 = .ok (.iinc 3 1, 3) := by decide +kernel
theorem dX1_value_187 : decode cX1_value 187 = .ok (.goto (-183), 3) := by decide +kernel
theorem dX1_value_190 : decode cX1_value 190 = .ok (.iload_n 2, 1) := by decide +kernel
theorem dX1_value_191 : decode cX1_value 191 = .ok (.iconst 1, 1) := by decide +kernel
theorem dX1_value_192 : decode cX1_value 192 = .ok (.if_icmp .ne 12, 3) := by decide +kernel
theorem dX1_value_195 : decode cX1_value 195 = .ok (.aload_n 0, 1) := by decide +kernel
theorem dX1_value_196 : decode cX1_value 196 = .ok (.getfield 15, 3) := by decide +kernel
theorem dX1_value_199 : decode cX1_value 199 = .ok (.iconst 0, 1) := by decide +kernel
theorem dX1_value_200 : decode cX1_value 200 = .ok (.laload, 1) := by decide +kernel
theorem dX1_value_201 : decode cX1_value 201 = .ok (.goto 6, 3) := by decide +kernel
theorem dX1_value_204 : decode cX1_value 204 = .ok (.ldc2_w 31, 3) := by decide +kernel
theorem dX1_value_207 : decode cX1_value 207 = .ok (.lreturn, 1) := by decide +kernel
theorem dX1_joined_0 : decode cX1_joined 0 = .ok (.iload_n 0, 1) := by decide +kernel
theorem dX1_joined_1 : decode cX1_joined 1 = .ok (.tableswitch 258 19 37 #[91, 109, 258, 258, 258, 258, 258, 258, 258, 258, 127, 139, 151, 163, 175, 187, 199, 203, 207], 91) := by decide +kernel
theorem dX1_joined_92 : decode cX1_joined 92 = .ok (.lload_n 1, 1) := by decide +kernel
theorem dX1_joined_93 : decode cX1_joined 93 = .ok (.lconst 0, 1) := by decide +kernel
theorem dX1_joined_94 : decode cX1_joined 94 = .ok (.lcmp, 1) := by decide +kernel
theorem dX1_joined_95 : decode cX1_joined 95 = .ok (.ifCond .ne 9, 3) := by decide +kernel
theorem dX1_joined_98 : decode cX1_joined 98 = .ok (.lload_n 3, 1) := by decide +kernel
theorem dX1_joined_99 : decode cX1_joined 99 = .ok (.lconst 0, 1) := by decide +kernel
theorem dX1_joined_100 : decode cX1_joined 100 = .ok (.lcmp, 1) := by decide +kernel
theorem dX1_joined_101 : decode cX1_joined 101 = .ok (.ifCond .eq 7, 3) := by decide +kernel
theorem dX1_joined_104 : decode cX1_joined 104 = .ok (.lconst 1, 1) := by decide +kernel
theorem dX1_joined_105 : decode cX1_joined 105 = .ok (.goto 4, 3) := by decide +kernel
theorem dX1_joined_108 : decode cX1_joined 108 = .ok (.lconst 0, 1) := by decide +kernel
theorem dX1_joined_109 : decode cX1_joined 109 = .ok (.lreturn, 1) := by decide +kernel
theorem dX1_joined_110 : decode cX1_joined 110 = .ok (.lload_n 1, 1) := by decide +kernel
theorem dX1_joined_111 : decode cX1_joined 111 = .ok (.lconst 0, 1) := by decide +kernel
theorem dX1_joined_112 : decode cX1_joined 112 = .ok (.lcmp, 1) := by decide +kernel
theorem dX1_joined_113 : decode cX1_joined 113 = .ok (.ifCond .eq 13, 3) := by decide +kernel
theorem dX1_joined_116 : decode cX1_joined 116 = .ok (.lload_n 3, 1) := by decide +kernel
theorem dX1_joined_117 : decode cX1_joined 117 = .ok (.lconst 0, 1) := by decide +kernel
theorem dX1_joined_118 : decode cX1_joined 118 = .ok (.lcmp, 1) := by decide +kernel
theorem dX1_joined_119 : decode cX1_joined 119 = .ok (.ifCond .eq 7, 3) := by decide +kernel
theorem dX1_joined_122 : decode cX1_joined 122 = .ok (.lconst 1, 1) := by decide +kernel
theorem dX1_joined_123 : decode cX1_joined 123 = .ok (.goto 4, 3) := by decide +kernel
theorem dX1_joined_126 : decode cX1_joined 126 = .ok (.lconst 0, 1) := by decide +kernel
theorem dX1_joined_127 : decode cX1_joined 127 = .ok (.lreturn, 1) := by decide +kernel
theorem dX1_joined_128 : decode cX1_joined 128 = .ok (.lload_n 1, 1) := by decide +kernel
theorem dX1_joined_129 : decode cX1_joined 129 = .ok (.lload_n 3, 1) := by decide +kernel
theorem dX1_joined_130 : decode cX1_joined 130 = .ok (.lcmp, 1) := by decide +kernel
theorem dX1_joined_131 : decode cX1_joined 131 = .ok (.ifCond .ge 7, 3) := by decide +kernel
theorem dX1_joined_134 : decode cX1_joined 134 = .ok (.lconst 1, 1) := by decide +kernel
theorem dX1_joined_135 : decode cX1_joined 135 = .ok (.goto 4, 3) := by decide +kernel
theorem dX1_joined_138 : decode cX1_joined 138 = .ok (.lconst 0, 1) := by decide +kernel
theorem dX1_joined_139 : decode cX1_joined 139 = .ok (.lreturn, 1) := by decide +kernel
theorem dX1_joined_140 : decode cX1_joined 140 = .ok (.lload_n 1, 1) := by decide +kernel
theorem dX1_joined_141 : decode cX1_joined 141 = .ok (.lload_n 3, 1) := by decide +kernel
theorem dX1_joined_142 : decode cX1_joined 142 = .ok (.lcmp, 1) := by decide +kernel
theorem dX1_joined_143 : decode cX1_joined 143 = .ok (.ifCond .gt 7, 3) := by decide +kernel
theorem dX1_joined_146 : decode cX1_joined 146 = .ok (.lconst 1, 1) := by decide +kernel
theorem dX1_joined_147 : decode cX1_joined 147 = .ok (.goto 4, 3) := by decide +kernel
theorem dX1_joined_150 : decode cX1_joined 150 = .ok (.lconst 0, 1) := by decide +kernel
theorem dX1_joined_151 : decode cX1_joined 151 = .ok (.lreturn, 1) := by decide +kernel
theorem dX1_joined_152 : decode cX1_joined 152 = .ok (.lload_n 1, 1) := by decide +kernel
theorem dX1_joined_153 : decode cX1_joined 153 = .ok (.lload_n 3, 1) := by decide +kernel
theorem dX1_joined_154 : decode cX1_joined 154 = .ok (.lcmp, 1) := by decide +kernel
theorem dX1_joined_155 : decode cX1_joined 155 = .ok (.ifCond .ne 7, 3) := by decide +kernel
theorem dX1_joined_158 : decode cX1_joined 158 = .ok (.lconst 1, 1) := by decide +kernel
theorem dX1_joined_159 : decode cX1_joined 159 = .ok (.goto 4, 3) := by decide +kernel
theorem dX1_joined_162 : decode cX1_joined 162 = .ok (.lconst 0, 1) := by decide +kernel
theorem dX1_joined_163 : decode cX1_joined 163 = .ok (.lreturn, 1) := by decide +kernel
theorem dX1_joined_164 : decode cX1_joined 164 = .ok (.lload_n 1, 1) := by decide +kernel
theorem dX1_joined_165 : decode cX1_joined 165 = .ok (.lload_n 3, 1) := by decide +kernel
theorem dX1_joined_166 : decode cX1_joined 166 = .ok (.lcmp, 1) := by decide +kernel
theorem dX1_joined_167 : decode cX1_joined 167 = .ok (.ifCond .eq 7, 3) := by decide +kernel
theorem dX1_joined_170 : decode cX1_joined 170 = .ok (.lconst 1, 1) := by decide +kernel
theorem dX1_joined_171 : decode cX1_joined 171 = .ok (.goto 4, 3) := by decide +kernel
theorem dX1_joined_174 : decode cX1_joined 174 = .ok (.lconst 0, 1) := by decide +kernel
theorem dX1_joined_175 : decode cX1_joined 175 = .ok (.lreturn, 1) := by decide +kernel
theorem dX1_joined_176 : decode cX1_joined 176 = .ok (.lload_n 1, 1) := by decide +kernel
theorem dX1_joined_177 : decode cX1_joined 177 = .ok (.lload_n 3, 1) := by decide +kernel
theorem dX1_joined_178 : decode cX1_joined 178 = .ok (.lcmp, 1) := by decide +kernel
theorem dX1_joined_179 : decode cX1_joined 179 = .ok (.ifCond .lt 7, 3) := by decide +kernel
theorem dX1_joined_182 : decode cX1_joined 182 = .ok (.lconst 1, 1) := by decide +kernel
theorem dX1_joined_183 : decode cX1_joined 183 = .ok (.goto 4, 3) := by decide +kernel
theorem dX1_joined_186 : decode cX1_joined 186 = .ok (.lconst 0, 1) := by decide +kernel
theorem dX1_joined_187 : decode cX1_joined 187 = .ok (.lreturn, 1) := by decide +kernel
theorem dX1_joined_188 : decode cX1_joined 188 = .ok (.lload_n 1, 1) := by decide +kernel
theorem dX1_joined_189 : decode cX1_joined 189 = .ok (.lload_n 3, 1) := by decide +kernel
theorem dX1_joined_190 : decode cX1_joined 190 = .ok (.lcmp, 1) := by decide +kernel
theorem dX1_joined_191 : decode cX1_joined 191 = .ok (.ifCond .le 7, 3) := by decide +kernel
theorem dX1_joined_194 : decode cX1_joined 194 = .ok (.lconst 1, 1) := by decide +kernel
theorem dX1_joined_195 : decode cX1_joined 195 = .ok (.goto 4, 3) := by decide +kernel
theorem dX1_joined_198 : decode cX1_joined 198 = .ok (.lconst 0, 1) := by decide +kernel
theorem dX1_joined_199 : decode cX1_joined 199 = .ok (.lreturn, 1) := by decide +kernel
theorem dX1_joined_200 : decode cX1_joined 200 = .ok (.lload_n 1, 1) := by decide +kernel
theorem dX1_joined_201 : decode cX1_joined 201 = .ok (.lload_n 3, 1) := by decide +kernel
theorem dX1_joined_202 : decode cX1_joined 202 = .ok (.ladd, 1) := by decide +kernel
theorem dX1_joined_203 : decode cX1_joined 203 = .ok (.lreturn, 1) := by decide +kernel
theorem dX1_joined_204 : decode cX1_joined 204 = .ok (.lload_n 1, 1) := by decide +kernel
theorem dX1_joined_205 : decode cX1_joined 205 = .ok (.lload_n 3, 1) := by decide +kernel
theorem dX1_joined_206 : decode cX1_joined 206 = .ok (.lsub, 1) := by decide +kernel
theorem dX1_joined_207 : decode cX1_joined 207 = .ok (.lreturn, 1) := by decide +kernel
theorem dX1_joined_208 : decode cX1_joined 208 = .ok (.lload_n 1, 1) := by decide +kernel
theorem dX1_joined_209 : decode cX1_joined 209 = .ok (.lconst 0, 1) := by decide +kernel
theorem dX1_joined_210 : decode cX1_joined 210 = .ok (.lcmp, 1) := by decide +kernel
theorem dX1_joined_211 : decode cX1_joined 211 = .ok (.ifCond .ne 5, 3) := by decide +kernel
theorem dX1_joined_214 : decode cX1_joined 214 = .ok (.lconst 0, 1) := by decide +kernel
theorem dX1_joined_215 : decode cX1_joined 215 = .ok (.lreturn, 1) := by decide +kernel
theorem dX1_joined_216 : decode cX1_joined 216 = .ok (.ldc2_w 29, 3) := by decide +kernel
theorem dX1_joined_219 : decode cX1_joined 219 = .ok (.lload_n 1, 1) := by decide +kernel
theorem dX1_joined_220 : decode cX1_joined 220 = .ok (.lconst 0, 1) := by decide +kernel
theorem dX1_joined_221 : decode cX1_joined 221 = .ok (.lcmp, 1) := by decide +kernel
theorem dX1_joined_222 : decode cX1_joined 222 = .ok (.ifCond .ge 8, 3) := by decide +kernel
theorem dX1_joined_225 : decode cX1_joined 225 = .ok (.lload_n 1, 1) := by decide +kernel
theorem dX1_joined_226 : decode cX1_joined 226 = .ok (.lneg, 1) := by decide +kernel
theorem dX1_joined_227 : decode cX1_joined 227 = .ok (.goto 4, 3) := by decide +kernel
theorem dX1_joined_230 : decode cX1_joined 230 = .ok (.lload_n 1, 1) := by decide +kernel
theorem dX1_joined_231 : decode cX1_joined 231 = .ok (.ldiv, 1) := by decide +kernel
theorem dX1_joined_232 : decode cX1_joined 232 = .ok (.lstore 5, 2) := by decide +kernel
theorem dX1_joined_234 : decode cX1_joined 234 = .ok (.lload_n 3, 1) := by decide +kernel
theorem dX1_joined_235 : decode cX1_joined 235 = .ok (.lload 5, 2) := by decide +kernel
theorem dX1_joined_237 : decode cX1_joined 237 = .ok (.lcmp, 1) := by decide +kernel
theorem dX1_joined_238 : decode cX1_joined 238 = .ok (.ifCond .gt 11, 3) := by decide +kernel
theorem dX1_joined_241 : decode cX1_joined 241 = .ok (.lload_n 3, 1) := by decide +kernel
theorem dX1_joined_242 : decode cX1_joined 242 = .ok (.lload 5, 2) := by decide +kernel
theorem dX1_joined_244 : decode cX1_joined 244 = .ok (.lneg, 1) := by decide +kernel
theorem dX1_joined_245 : decode cX1_joined 245 = .ok (.lcmp, 1) := by decide +kernel
theorem dX1_joined_246 : decode cX1_joined 246 = .ok (.ifCond .ge 9, 3) := by decide +kernel
theorem dX1_joined_249 : decode cX1_joined 249 = .ok (.ldc2_w 31, 3) := by decide +kernel
theorem dX1_joined_252 : decode cX1_joined 252 = .ok (.goto 6, 3) := by decide +kernel
theorem dX1_joined_255 : decode cX1_joined 255 = .ok (.lload_n 1, 1) := by decide +kernel
theorem dX1_joined_256 : decode cX1_joined 256 = .ok (.lload_n 3, 1) := by decide +kernel
theorem dX1_joined_257 : decode cX1_joined 257 = .ok (.lmul, 1) := by decide +kernel
theorem dX1_joined_258 : decode cX1_joined 258 = .ok (.lreturn, 1) := by decide +kernel
theorem dX1_joined_259 : decode cX1_joined 259 = .ok (.lload_n 3, 1) := by decide +kernel
theorem dX1_joined_260 : decode cX1_joined 260 = .ok (.lconst 0, 1) := by decide +kernel
theorem dX1_joined_261 : decode cX1_joined 261 = .ok (.lcmp, 1) := by decide +kernel
theorem dX1_joined_262 : decode cX1_joined 262 = .ok (.ifCond .ne 9, 3) := by decide +kernel
theorem dX1_joined_265 : decode cX1_joined 265 = .ok (.ldc2_w 31, 3) := by decide +kernel
theorem dX1_joined_268 : decode cX1_joined 268 = .ok (.goto 6, 3) := by decide +kernel
theorem dX1_joined_271 : decode cX1_joined 271 = .ok (.lload_n 1, 1) := by decide +kernel
theorem dX1_joined_272 : decode cX1_joined 272 = .ok (.lload_n 3, 1) := by decide +kernel
theorem dX1_joined_273 : decode cX1_joined 273 = .ok (.ldiv, 1) := by decide +kernel
theorem dX1_joined_274 : decode cX1_joined 274 = .ok (.lreturn, 1) := by decide +kernel
theorem dX2_init_0 : decode cX2_init 0 = .ok (.aload_n 0, 1) := by decide +kernel
theorem dX2_init_1 : decode cX2_init 1 = .ok (.invokespecial 3, 3) := by decide +kernel
theorem dX2_init_4 : decode cX2_init 4 = .ok (.aload_n 0, 1) := by decide +kernel
theorem dX2_init_5 : decode cX2_init 5 = .ok (.iconst 5, 1) := by decide +kernel
theorem dX2_init_6 : decode cX2_init 6 = .ok (.newarray .int, 2) := by decide +kernel
theorem dX2_init_8 : decode cX2_init 8 = .ok (.putfield 9, 3) := by decide +kernel
theorem dX2_init_11 : decode cX2_init 11 = .ok (.aload_n 0, 1) := by decide +kernel
theorem dX2_init_12 : decode cX2_init 12 = .ok (.iconst 5, 1) := by decide +kernel
theorem dX2_init_13 : decode cX2_init 13 = .ok (.newarray .int, 2) := by decide +kernel
theorem dX2_init_15 : decode cX2_init 15 = .ok (.putfield 15, 3) := by decide +kernel
theorem dX2_init_18 : decode cX2_init 18 = .ok (.aload_n 0, 1) := by decide +kernel
theorem dX2_init_19 : decode cX2_init 19 = .ok (.bipush 6, 2) := by decide +kernel
theorem dX2_init_21 : decode cX2_init 21 = .ok (.newarray .int, 2) := by decide +kernel
theorem dX2_init_23 : decode cX2_init 23 = .ok (.putfield 18, 3) := by decide +kernel
theorem dX2_init_26 : decode cX2_init 26 = .ok (.aload_n 0, 1) := by decide +kernel
theorem dX2_init_27 : decode cX2_init 27 = .ok (.bipush 6, 2) := by decide +kernel
theorem dX2_init_29 : decode cX2_init 29 = .ok (.newarray .int, 2) := by decide +kernel
theorem dX2_init_31 : decode cX2_init 31 = .ok (.putfield 21, 3) := by decide +kernel
theorem dX2_init_34 : decode cX2_init 34 = .ok (.aload_n 0, 1) := by decide +kernel
theorem dX2_init_35 : decode cX2_init 35 = .ok (.bipush 6, 2) := by decide +kernel
theorem dX2_init_37 : decode cX2_init 37 = .ok (.newarray .int, 2) := by decide +kernel
theorem dX2_init_39 : decode cX2_init 39 = .ok (.putfield 24, 3) := by decide +kernel
theorem dX2_init_42 : decode cX2_init 42 = .ok (.aload_n 0, 1) := by decide +kernel
theorem dX2_init_43 : decode cX2_init 43 = .ok (.bipush 6, 2) := by decide +kernel
theorem dX2_init_45 : decode cX2_init 45 = .ok (.newarray .int, 2) := by decide +kernel
theorem dX2_init_47 : decode cX2_init 47 = .ok (.putfield 27, 3) := by decide +kernel
theorem dX2_init_50 : decode cX2_init 50 = .ok (.aload_n 0, 1) := by decide +kernel
theorem dX2_init_51 : decode cX2_init 51 = .ok (.bipush 10, 2) := by decide +kernel
theorem dX2_init_53 : decode cX2_init 53 = .ok (.newarray .int, 2) := by decide +kernel
theorem dX2_init_55 : decode cX2_init 55 = .ok (.putfield 30, 3) := by decide +kernel
theorem dX2_init_58 : decode cX2_init 58 = .ok (.aload_n 0, 1) := by decide +kernel
theorem dX2_init_59 : decode cX2_init 59 = .ok (.bipush 10, 2) := by decide +kernel
theorem dX2_init_61 : decode cX2_init 61 = .ok (.newarray .int, 2) := by decide +kernel
theorem dX2_init_63 : decode cX2_init 63 = .ok (.putfield 33, 3) := by decide +kernel
theorem dX2_init_66 : decode cX2_init 66 = .ok (.aload_n 0, 1) := by decide +kernel
theorem dX2_init_67 : decode cX2_init 67 = .ok (.bipush 10, 2) := by decide +kernel
theorem dX2_init_69 : decode cX2_init 69 = .ok (.newarray .int, 2) := by decide +kernel
theorem dX2_init_71 : decode cX2_init 71 = .ok (.putfield 36, 3) := by decide +kernel
theorem dX2_init_74 : decode cX2_init 74 = .ok (.aload_n 0, 1) := by decide +kernel
theorem dX2_init_75 : decode cX2_init 75 = .ok (.bipush 10, 2) := by decide +kernel
theorem dX2_init_77 : decode cX2_init 77 = .ok (.newarray .int, 2) := by decide +kernel
theorem dX2_init_79 : decode cX2_init 79 = .ok (.putfield 39, 3) := by decide +kernel
theorem dX2_init_82 : decode cX2_init 82 = .ok (.aload_n 0, 1) := by decide +kernel
theorem dX2_init_83 : decode cX2_init 83 = .ok (.bipush 21, 2) := by decide +kernel
theorem dX2_init_85 : decode cX2_init 85 = .ok (.newarray .int, 2) := by decide +kernel
theorem dX2_init_87 : decode cX2_init 87 = .ok (.putfield 42, 3) := by decide +kernel
theorem dX2_init_90 : decode cX2_init 90 = .ok (.aload_n 0, 1) := by decide +kernel
theorem dX2_init_91 : decode cX2_init 91 = .ok (.iconst 3, 1) := by decide +kernel
theorem dX2_init_92 : decode cX2_init 92 = .ok (.anewarray 45, 3) := by decide +kernel
theorem dX2_init_95 : decode cX2_init 95 = .ok (.putfield 47, 3) := by decide +kernel
theorem dX2_init_98 : decode cX2_init 98 = .ok (.iconst 0, 1) := by decide +kernel
theorem dX2_init_99 : decode cX2_init 99 = .ok (.istore_n 1, 1) := by decide +kernel
theorem dX2_init_100 : decode cX2_init 100 = .ok (.iload_n 1, 1) := by decide +kernel
theorem dX2_init_101 : decode cX2_init 101 = .ok (.iconst 3, 1) := by decide +kernel
theorem dX2_init_102 : decode cX2_init 102 = .ok (.if_icmp .ge 22, 3) := by decide +kernel
theorem dX2_init_105 : decode cX2_init 105 = .ok (.aload_n 0, 1) := by decide +kernel
theorem dX2_init_106 : decode cX2_init 106 = .ok (.getfield 47, 3) := by decide +kernel
theorem dX2_init_109 : decode cX2_init 109 = .ok (.iload_n 1, 1) := by decide +kernel
theorem dX2_init_110 : decode cX2_init 110 = .ok (.new 45, 3) := by decide +kernel
theorem dX2_init_113 : decode cX2_init 113 = .ok (.dup, 1) := by decide +kernel
theorem dX2_init_114 : decode cX2_init 114 = .ok (.invokespecial 51, 3) := by decide +kernel
theorem dX2_init_117 : decode cX2_init 117 = .ok (.aastore, 1) := by decide +kernel
theorem dX2_init_118 : decode cX2_init 118 = .ok (.iinc 1 1, 3) := by decide +kernel
theorem dX2_init_121 : decode cX2_init 121 = .ok (.goto (-21), 3) := by decide +kernel
theorem dX2_init_124 : decode cX2_init 124 = .ok (.aload_n 0, 1) := by decide +kernel
theorem dX2_init_125 : decode cX2_init 125 = .ok (.invokevirtual 52, 3) := by decide +kernel
theorem dX2_init_128 : decode cX2_init 128 = .ok (.return_, 1) := by decide +kernel
theorem dX2_clear_0 : decode cX2_clear 0 = .ok (.aload_n 0, 1) := by decide +kernel
theorem dX2_clear_1 : decode cX2_clear 1 = .ok (.iconst 0, 1) := by decide +kernel
theorem dX2_clear_2 : decode cX2_clear 2 = .ok (.putfield 55, 3) := by decide +kernel
theorem dX2_clear_5 : decode cX2_clear 5 = .ok (.aload_n 0, 1) := by decide +kernel
theorem dX2_clear_6 : decode cX2_clear 6 = .ok (.iconst 0, 1) := by decide +kernel
theorem dX2_clear_7 : decode cX2_clear 7 = .ok (.putfield 59, 3) := by decide +kernel
theorem dX2_clear_10 : decode cX2_clear 10 = .ok (.aload_n 0, 1) := by decide +kernel
theorem dX2_clear_11 : decode cX2_clear 11 = .ok (.iconst 0, 1) := by decide +kernel
theorem dX2_clear_12 : decode cX2_clear 12 = .ok (.putfield 62, 3) := by decide +kernel
theorem dX2_clear_15 : decode cX2_clear 15 = .ok (.aload_n 0, 1) := by decide +kernel
theorem dX2_clear_16 : decode cX2_clear 16 = .ok (.iconst 0, 1) := by decide +kernel
theorem dX2_clear_17 : decode cX2_clear 17 = .ok (.putfield 65, 3) := by decide +kernel
theorem dX2_clear_20 : decode cX2_clear 20 = .ok (.aload_n 0, 1) := by decide +kernel
theorem dX2_clear_21 : decode cX2_clear 21 = .ok (.iconst 0, 1) := by decide +kernel
theorem dX2_clear_22 : decode cX2_clear 22 = .ok (.putfield 68, 3) := by decide +kernel
theorem dX2_clear_25 : decode cX2_clear 25 = .ok (.aload_n 0, 1) := by decide +kernel
theorem dX2_clear_26 : decode cX2_clear 26 = .ok (.iconst 0, 1) := by decide +kernel
theorem dX2_clear_27 : decode cX2_clear 27 = .ok (.putfield 71, 3) := by decide +kernel
theorem dX2_clear_30 : decode cX2_clear 30 = .ok (.aload_n 0, 1) := by decide +kernel
theorem dX2_clear_31 : decode cX2_clear 31 = .ok (.iconst 0, 1) := by decide +kernel
theorem dX2_clear_32 : decode cX2_clear 32 = .ok (.putfield 74, 3) := by decide +kernel
theorem dX2_clear_35 : decode cX2_clear 35 = .ok (.iconst 0, 1) := by decide +kernel
theorem dX2_clear_36 : decode cX2_clear 36 = .ok (.istore_n 1, 1) := by decide +kernel
theorem dX2_clear_37 : decode cX2_clear 37 = .ok (.iload_n 1, 1) := by decide +kernel
theorem dX2_clear_38 : decode cX2_clear 38 = .ok (.bipush 20, 2) := by decide +kernel
theorem dX2_clear_40 : decode cX2_clear 40 = .ok (.if_icmp .gt 17, 3) := by decide +kernel
theorem dX2_clear_43 : decode cX2_clear 43 = .ok (.aload_n 0, 1) := by decide +kernel
theorem dX2_clear_44 : decode cX2_clear 44 = .ok (.getfield 42, 3) := by decide +kernel
theorem dX2_clear_47 : decode cX2_clear 47 = .ok (.iload_n 1, 1) := by decide +kernel
theorem dX2_clear_48 : decode cX2_clear 48 = .ok (.bipush 60, 2) := by decide +kernel
theorem dX2_clear_50 : decode cX2_clear 50 = .ok (.iastore, 1) := by decide +kernel
theorem dX2_clear_51 : decode cX2_clear 51 = .ok (.iinc 1 1, 3) := by decide +kernel
theorem dX2_clear_54 : decode cX2_clear 54 = .ok (.goto (-17), 3) := by decide +kernel
theorem dX2_clear_57 : decode cX2_clear 57 = .ok (.iconst 0, 1) := by decide +kernel
theorem dX2_clear_58 : decode cX2_clear 58 = .ok (.istore_n 1, 1) := by decide +kernel
theorem dX2_clear_59 : decode cX2_clear 59 = .ok (.iload_n 1, 1) := by decide +kernel
theorem dX2_clear_60 : decode cX2_clear 60 = .ok (.iconst 3, 1) := by decide +kernel
theorem dX2_clear_61 : decode cX2_clear 61 = .ok (.if_icmp .ge 19, 3) := by decide +kernel
theorem dX2_clear_64 : decode cX2_clear 64 = .ok (.aload_n 0, 1) := by decide +kernel
theorem dX2_clear_65 : decode cX2_clear 65 = .ok (.getfield 47, 3) := by decide +kernel
theorem dX2_clear_68 : decode cX2_clear 68 = .ok (.iload_n 1, 1) := by decide +kernel
theorem dX2_clear_69 : decode cX2_clear 69 = .ok (.aaload, 1) := by decide +kernel
theorem dX2_clear_70 : decode cX2_clear 70 = .ok (.iconst 0, 1) := by decide +kernel
theorem dX2_clear_71 : decode cX2_clear 71 = .ok (.putfield 77, 3) := by decide +kernel
theorem dX2_clear_74 : decode cX2_clear 74 = .ok (.iinc 1 1, 3) := by decide +kernel
theorem dX2_clear_77 : decode cX2_clear 77 = .ok (.goto (-18), 3) := by decide +kernel
theorem dX2_clear_80 : decode cX2_clear 80 = .ok (.return_, 1) := by decide +kernel
theorem dX2_personNamed_0 : decode cX2_personNamed 0 = .ok (.iconst 0, 1) := by decide +kernel
theorem dX2_personNamed_1 : decode cX2_personNamed 1 = .ok (.istore_n 2, 1) := by decide +kernel
theorem dX2_personNamed_2 : decode cX2_personNamed 2 = .ok (.iload_n 2, 1) := by decide +kernel
theorem dX2_personNamed_3 : decode cX2_personNamed 3 = .ok (.aload_n 0, 1) := by decide +kernel
theorem dX2_personNamed_4 : decode cX2_personNamed 4 = .ok (.getfield 59, 3) := by decide +kernel
theorem dX2_personNamed_7 : decode cX2_personNamed 7 = .ok (.if_icmp .ge 21, 3) := by decide +kernel
theorem dX2_personNamed_10 : decode cX2_personNamed 10 = .ok (.aload_n 0, 1) := by decide +kernel
theorem dX2_personNamed_11 : decode cX2_personNamed 11 = .ok (.getfield 18, 3) := by decide +kernel
theorem dX2_personNamed_14 : decode cX2_personNamed 14 = .ok (.iload_n 2, 1) := by decide +kernel
theorem dX2_personNamed_15 : decode cX2_personNamed 15 = .ok (.iaload, 1) := by decide +kernel
theorem dX2_personNamed_16 : decode cX2_personNamed 16 = .ok (.iload_n 1, 1) := by decide +kernel
theorem dX2_personNamed_17 : decode cX2_personNamed 17 = .ok (.if_icmp .ne 5, 3) := by decide +kernel
theorem dX2_personNamed_20 : decode cX2_personNamed 20 = .ok (.iload_n 2, 1) := by decide +kernel
theorem dX2_personNamed_21 : decode cX2_personNamed 21 = .ok (.ireturn, 1) := by decide +kernel
theorem dX2_personNamed_22 : decode cX2_personNamed 22 = .ok (.iinc 2 1, 3) := by decide +kernel
theorem dX2_personNamed_25 : decode cX2_personNamed 25 = .ok (.goto (-23), 3) := by decide +kernel
theorem dX2_personNamed_28 : decode cX2_personNamed 28 = .ok (.iconst (-1), 1) := by decide +kernel
theorem dX2_personNamed_29 : decode cX2_personNamed 29 = .ok (.ireturn, 1) := by decide +kernel
theorem dX4_init_0 : decode cX4_init 0 = .ok (.aload_n 0, 1) := by decide +kernel
theorem dX4_init_1 : decode cX4_init 1 = .ok (.invokespecial 3, 3) := by decide +kernel
theorem dX4_init_4 : decode cX4_init 4 = .ok (.aload_n 0, 1) := by decide +kernel
theorem dX4_init_5 : decode cX4_init 5 = .ok (.iconst 0, 1) := by decide +kernel
theorem dX4_init_6 : decode cX4_init 6 = .ok (.putfield 9, 3) := by decide +kernel
theorem dX4_init_9 : decode cX4_init 9 = .ok (.aload_n 0, 1) := by decide +kernel
theorem dX4_init_10 : decode cX4_init 10 = .ok (.iconst (-1), 1) := by decide +kernel
theorem dX4_init_11 : decode cX4_init 11 = .ok (.putfield 15, 3) := by decide +kernel
theorem dX4_init_14 : decode cX4_init 14 = .ok (.aload_n 0, 1) := by decide +kernel
theorem dX4_init_15 : decode cX4_init 15 = .ok (.bipush 24, 2) := by decide +kernel
theorem dX4_init_17 : decode cX4_init 17 = .ok (.newarray .int, 2) := by decide +kernel
theorem dX4_init_19 : decode cX4_init 19 = .ok (.putfield 18, 3) := by decide +kernel
theorem dX4_init_22 : decode cX4_init 22 = .ok (.aload_n 0, 1) := by decide +kernel
theorem dX4_init_23 : decode cX4_init 23 = .ok (.bipush 24, 2) := by decide +kernel
theorem dX4_init_25 : decode cX4_init 25 = .ok (.newarray .int, 2) := by decide +kernel
theorem dX4_init_27 : decode cX4_init 27 = .ok (.putfield 22, 3) := by decide +kernel
theorem dX4_init_30 : decode cX4_init 30 = .ok (.aload_n 0, 1) := by decide +kernel
theorem dX4_init_31 : decode cX4_init 31 = .ok (.bipush 24, 2) := by decide +kernel
theorem dX4_init_33 : decode cX4_init 33 = .ok (.newarray .int, 2) := by decide +kernel
theorem dX4_init_35 : decode cX4_init 35 = .ok (.putfield 25, 3) := by decide +kernel
theorem dX4_init_38 : decode cX4_init 38 = .ok (.aload_n 0, 1) := by decide +kernel
theorem dX4_init_39 : decode cX4_init 39 = .ok (.bipush 24, 2) := by decide +kernel
theorem dX4_init_41 : decode cX4_init 41 = .ok (.newarray .int, 2) := by decide +kernel
theorem dX4_init_43 : decode cX4_init 43 = .ok (.putfield 28, 3) := by decide +kernel
theorem dX4_init_46 : decode cX4_init 46 = .ok (.aload_n 0, 1) := by decide +kernel
theorem dX4_init_47 : decode cX4_init 47 = .ok (.bipush 24, 2) := by decide +kernel
theorem dX4_init_49 : decode cX4_init 49 = .ok (.newarray .boolean, 2) := by decide +kernel
theorem dX4_init_51 : decode cX4_init 51 = .ok (.putfield 31, 3) := by decide +kernel
theorem dX4_init_54 : decode cX4_init 54 = .ok (.return_, 1) := by decide +kernel
theorem dX4_forget_0 : decode cX4_forget 0 = .ok (.aload_n 0, 1) := by decide +kernel
theorem dX4_forget_1 : decode cX4_forget 1 = .ok (.iconst 0, 1) := by decide +kernel
theorem dX4_forget_2 : decode cX4_forget 2 = .ok (.putfield 9, 3) := by decide +kernel
theorem dX4_forget_5 : decode cX4_forget 5 = .ok (.aload_n 0, 1) := by decide +kernel
theorem dX4_forget_6 : decode cX4_forget 6 = .ok (.iconst (-1), 1) := by decide +kernel
theorem dX4_forget_7 : decode cX4_forget 7 = .ok (.putfield 15, 3) := by decide +kernel
theorem dX4_forget_10 : decode cX4_forget 10 = .ok (.return_, 1) := by decide +kernel
theorem dX4_add_0 : decode cX4_add 0 = .ok (.aload_n 0, 1) := by decide +kernel
theorem dX4_add_1 : decode cX4_add 1 = .ok (.getfield 9, 3) := by decide +kernel
theorem dX4_add_4 : decode cX4_add 4 = .ok (.bipush 24, 2) := by decide +kernel
theorem dX4_add_6 : decode cX4_add 6 = .ok (.if_icmp .lt 5, 3) := by decide +kernel
theorem dX4_add_9 : decode cX4_add 9 = .ok (.iconst (-1), 1) := by decide +kernel
theorem dX4_add_10 : decode cX4_add 10 = .ok (.ireturn, 1) := by decide +kernel
theorem dX4_add_11 : decode cX4_add 11 = .ok (.aload_n 0, 1) := by decide +kernel
theorem dX4_add_12 : decode cX4_add 12 = .ok (.getfield 18, 3) := by decide +kernel
theorem dX4_add_15 : decode cX4_add 15 = .ok (.aload_n 0, 1) := by decide +kernel
theorem dX4_add_16 : decode cX4_add 16 = .ok (.getfield 9, 3) := by decide +kernel
theorem dX4_add_19 : decode cX4_add 19 = .ok (.iload_n 1, 1) := by decide +kernel
theorem dX4_add_20 : decode cX4_add 20 = .ok (.iastore, 1) := by decide +kernel
theorem dX4_add_21 : decode cX4_add 21 = .ok (.aload_n 0, 1) := by decide +kernel
theorem dX4_add_22 : decode cX4_add 22 = .ok (.getfield 22, 3) := by decide +kernel
theorem dX4_add_25 : decode cX4_add 25 = .ok (.aload_n 0, 1) := by decide +kernel
theorem dX4_add_26 : decode cX4_add 26 = .ok (.getfield 9, 3) := by decide +kernel
theorem dX4_add_29 : decode cX4_add 29 = .ok (.iload_n 2, 1) := by decide +kernel
theorem dX4_add_30 : decode cX4_add 30 = .ok (.iastore, 1) := by decide +kernel
theorem dX4_add_31 : decode cX4_add 31 = .ok (.aload_n 0, 1) := by decide +kernel
theorem dX4_add_32 : decode cX4_add 32 = .ok (.getfield 25, 3) := by decide +kernel
theorem dX4_add_35 : decode cX4_add 35 = .ok (.aload_n 0, 1) := by decide +kernel
theorem dX4_add_36 : decode cX4_add 36 = .ok (.getfield 9, 3) := by decide +kernel
theorem dX4_add_39 : decode cX4_add 39 = .ok (.iload_n 3, 1) := by decide +kernel
theorem dX4_add_40 : decode cX4_add 40 = .ok (.iastore, 1) := by decide +kernel
theorem dX4_add_41 : decode cX4_add 41 = .ok (.aload_n 0, 1) := by decide +kernel
theorem dX4_add_42 : decode cX4_add 42 = .ok (.getfield 28, 3) := by decide +kernel
theorem dX4_add_45 : decode cX4_add 45 = .ok (.aload_n 0, 1) := by decide +kernel
theorem dX4_add_46 : decode cX4_add 46 = .ok (.getfield 9, 3) := by decide +kernel
theorem dX4_add_49 : decode cX4_add 49 = .ok (.iload 4, 2) := by decide +kernel
theorem dX4_add_51 : decode cX4_add 51 = .ok (.iastore, 1) := by decide +kernel
theorem dX4_add_52 : decode cX4_add 52 = .ok (.aload_n 0, 1) := by decide +kernel
theorem dX4_add_53 : decode cX4_add 53 = .ok (.dup, 1) := by decide +kernel
theorem dX4_add_54 : decode cX4_add 54 = .ok (.getfield 9, 3) := by decide +kernel
theorem dX4_add_57 : decode cX4_add 57 = .ok (.iconst 1, 1) := by decide +kernel
theorem dX4_add_58 : decode cX4_add 58 = .ok (.iadd, 1) := by decide +kernel
theorem dX4_add_59 : decode cX4_add 59 = .ok (.putfield 9, 3) := by decide +kernel
theorem dX4_add_62 : decode cX4_add 62 = .ok (.aload_n 0, 1) := by decide +kernel
theorem dX4_add_63 : decode cX4_add 63 = .ok (.getfield 9, 3) := by decide +kernel
theorem dX4_add_66 : decode cX4_add 66 = .ok (.iconst 1, 1) := by decide +kernel
theorem dX4_add_67 : decode cX4_add 67 = .ok (.isub, 1) := by decide +kernel
theorem dX4_add_68 : decode cX4_add 68 = .ok (.ireturn, 1) := by decide +kernel
theorem dX4_regarded_0 : decode cX4_regarded 0 = .ok (.aload_n 0, 1) := by decide +kernel
theorem dX4_regarded_1 : decode cX4_regarded 1 = .ok (.getfield 15, 3) := by decide +kernel
theorem dX4_regarded_4 : decode cX4_regarded 4 = .ok (.ifCond .ge 10, 3) := by decide +kernel
theorem dX4_regarded_7 : decode cX4_regarded 7 = .ok (.aload_n 0, 1) := by decide +kernel
theorem dX4_regarded_8 : decode cX4_regarded 8 = .ok (.getfield 9, 3) := by decide +kernel
theorem dX4_regarded_11 : decode cX4_regarded 11 = .ok (.goto 7, 3) := by decide +kernel
theorem dX4_regarded_14 : decode cX4_regarded 14 = .ok (.aload_n 0, 1) := by decide +kernel
theorem dX4_regarded_15 : decode cX4_regarded 15 = .ok (.getfield 15, 3) := by decide +kernel
theorem dX4_regarded_18 : decode cX4_regarded 18 = .ok (.ireturn, 1) := by decide +kernel
theorem dX4_judge_0 : decode cX4_judge 0 = .ok (.aload_n 0, 1) := by decide +kernel
theorem dX4_judge_1 : decode cX4_judge 1 = .ok (.invokevirtual 35, 3) := by decide +kernel
theorem dX4_judge_4 : decode cX4_judge 4 = .ok (.istore_n 1, 1) := by decide +kernel
theorem dX4_judge_5 : decode cX4_judge 5 = .ok (.iconst 0, 1) := by decide +kernel
theorem dX4_judge_6 : decode cX4_judge 6 = .ok (.istore_n 2, 1) := by decide +kernel
theorem dX4_judge_7 : decode cX4_judge 7 = .ok (.iload_n 2, 1) := by decide +kernel
theorem dX4_judge_8 : decode cX4_judge 8 = .ok (.bipush 24, 2) := by decide +kernel
theorem dX4_judge_10 : decode cX4_judge 10 = .ok (.if_icmp .ge 25, 3) := by decide +kernel
theorem dX4_judge_13 : decode cX4_judge 13 = .ok (.aload_n 0, 1) := by decide +kernel
theorem dX4_judge_14 : decode cX4_judge 14 = .ok (.getfield 31, 3) := by decide +kernel
theorem dX4_judge_17 : decode cX4_judge 17 = .ok (.iload_n 2, 1) := by decide +kernel
theorem dX4_judge_18 : decode cX4_judge 18 = .ok (.iload_n 2, 1) := by decide +kernel
theorem dX4_judge_19 : decode cX4_judge 19 = .ok (.iload_n 1, 1) := by decide +kernel
theorem dX4_judge_20 : decode cX4_judge 20 = .ok (.if_icmp .ge 7, 3) := by decide +kernel
theorem dX4_judge_23 : decode cX4_judge 23 = .ok (.iconst 1, 1) := by decide +kernel
theorem dX4_judge_24 : decode cX4_judge 24 = .ok (.goto 4, 3) := by decide +kernel
theorem dX4_judge_27 : decode cX4_judge 27 = .ok (.iconst 0, 1) := by decide +kernel
theorem dX4_judge_28 : decode cX4_judge 28 = .ok (.bastore, 1) := by decide +kernel
theorem dX4_judge_29 : decode cX4_judge 29 = .ok (.iinc 2 1, 3) := by decide +kernel
theorem dX4_judge_32 : decode cX4_judge 32 = .ok (.goto (-25), 3) := by decide +kernel
theorem dX4_judge_35 : decode cX4_judge 35 = .ok (.iload_n 1, 1) := by decide +kernel
theorem dX4_judge_36 : decode cX4_judge 36 = .ok (.iconst 1, 1) := by decide +kernel
theorem dX4_judge_37 : decode cX4_judge 37 = .ok (.isub, 1) := by decide +kernel
theorem dX4_judge_38 : decode cX4_judge 38 = .ok (.istore_n 2, 1) := by decide +kernel
theorem dX4_judge_39 : decode cX4_judge 39 = .ok (.iload_n 2, 1) := by decide +kernel
theorem dX4_judge_40 : decode cX4_judge 40 = .ok (.ifCond .lt 40, 3) := by decide +kernel
theorem dX4_judge_43 : decode cX4_judge 43 = .ok (.aload_n 0, 1) := by decide +kernel
theorem dX4_judge_44 : decode cX4_judge 44 = .ok (.getfield 31, 3) := by decide +kernel
theorem dX4_judge_47 : decode cX4_judge 47 = .ok (.iload_n 2, 1) := by decide +kernel
theorem dX4_judge_48 : decode cX4_judge 48 = .ok (.baload, 1) := by decide +kernel
theorem dX4_judge_49 : decode cX4_judge 49 = .ok (.ifCond .eq 25, 3) := by decide +kernel
theorem dX4_judge_52 : decode cX4_judge 52 = .ok (.aload_n 0, 1) := by decide +kernel
theorem dX4_judge_53 : decode cX4_judge 53 = .ok (.getfield 18, 3) := by decide +kernel
theorem dX4_judge_56 : decode cX4_judge 56 = .ok (.iload_n 2, 1) := by decide +kernel
theorem dX4_judge_57 : decode cX4_judge 57 = .ok (.iaload, 1) := by decide +kernel
theorem dX4_judge_58 : decode cX4_judge 58 = .ok (.iconst (-1), 1) := by decide +kernel
theorem dX4_judge_59 : decode cX4_judge 59 = .ok (.if_icmp .ne 15, 3) := by decide +kernel
theorem dX4_judge_62 : decode cX4_judge 62 = .ok (.aload_n 0, 1) := by decide +kernel
theorem dX4_judge_63 : decode cX4_judge 63 = .ok (.getfield 31, 3) := by decide +kernel
theorem dX4_judge_66 : decode cX4_judge 66 = .ok (.aload_n 0, 1) := by decide +kernel
theorem dX4_judge_67 : decode cX4_judge 67 = .ok (.getfield 22, 3) := by decide +kernel
theorem dX4_judge_70 : decode cX4_judge 70 = .ok (.iload_n 2, 1) := by decide +kernel
theorem dX4_judge_71 : decode cX4_judge 71 = .ok (.iaload, 1) := by decide +kernel
theorem dX4_judge_72 : decode cX4_judge 72 = .ok (.iconst 0, 1) := by decide +kernel
theorem dX4_judge_73 : decode cX4_judge 73 = .ok (.bastore, 1) := by decide +kernel
theorem dX4_judge_74 : decode cX4_judge 74 = .ok (.iinc 2 (-1), 3) := by decide +kernel
theorem dX4_judge_77 : decode cX4_judge 77 = .ok (.goto (-38), 3) := by decide +kernel
theorem dX4_judge_80 : decode cX4_judge 80 = .ok (.return_, 1) := by decide +kernel
theorem dX4_agreeWith_0 : decode cX4_agreeWith 0 = .ok (.iconst 0, 1) := by decide +kernel
theorem dX4_agreeWith_1 : decode cX4_agreeWith 1 = .ok (.istore_n 2, 1) := by decide +kernel
theorem dX4_agreeWith_2 : decode cX4_agreeWith 2 = .ok (.iload_n 2, 1) := by decide +kernel
theorem dX4_agreeWith_3 : decode cX4_agreeWith 3 = .ok (.aload_n 0, 1) := by decide +kernel
theorem dX4_agreeWith_4 : decode cX4_agreeWith 4 = .ok (.getfield 9, 3) := by decide +kernel
theorem dX4_agreeWith_7 : decode cX4_agreeWith 7 = .ok (.if_icmp .ge 76, 3) := by decide +kernel
theorem dX4_agreeWith_10 : decode cX4_agreeWith 10 = .ok (.aload_n 0, 1) := by decide +kernel
theorem dX4_agreeWith_11 : decode cX4_agreeWith 11 = .ok (.getfield 31, 3) := by decide +kernel
theorem dX4_agreeWith_14 : decode cX4_agreeWith 14 = .ok (.iload_n 2, 1) := by decide +kernel
theorem dX4_agreeWith_15 : decode cX4_agreeWith 15 = .ok (.baload, 1) := by decide +kernel
theorem dX4_agreeWith_16 : decode cX4_agreeWith 16 = .ok (.ifCond .eq 61, 3) := by decide +kernel
theorem dX4_agreeWith_19 : decode cX4_agreeWith 19 = .ok (.aload_n 0, 1) := by decide +kernel
theorem dX4_agreeWith_20 : decode cX4_agreeWith 20 = .ok (.getfield 18, 3) := by decide +kernel
theorem dX4_agreeWith_23 : decode cX4_agreeWith 23 = .ok (.iload_n 2, 1) := by decide +kernel
theorem dX4_agreeWith_24 : decode cX4_agreeWith 24 = .ok (.iaload, 1) := by decide +kernel
theorem dX4_agreeWith_25 : decode cX4_agreeWith 25 = .ok (.aload_n 1, 1) := by decide +kernel
theorem dX4_agreeWith_26 : decode cX4_agreeWith 26 = .ok (.getfield 39, 3) := by decide +kernel
theorem dX4_agreeWith_29 : decode cX4_agreeWith 29 = .ok (.if_icmp .ne 48, 3) := by decide +kernel
theorem dX4_agreeWith_32 : decode cX4_agreeWith 32 = .ok (.aload_n 1, 1) := by decide +kernel
theorem dX4_agreeWith_33 : decode cX4_agreeWith 33 = .ok (.getfield 44, 3) := by decide +kernel
theorem dX4_agreeWith_36 : decode cX4_agreeWith 36 = .ok (.aload_n 0, 1) := by decide +kernel
theorem dX4_agreeWith_37 : decode cX4_agreeWith 37 = .ok (.getfield 22, 3) := by decide +kernel
theorem dX4_agreeWith_40 : decode cX4_agreeWith 40 = .ok (.iload_n 2, 1) := by decide +kernel
theorem dX4_agreeWith_41 : decode cX4_agreeWith 41 = .ok (.iaload, 1) := by decide +kernel
theorem dX4_agreeWith_42 : decode cX4_agreeWith 42 = .ok (.iaload, 1) := by decide +kernel
theorem dX4_agreeWith_43 : decode cX4_agreeWith 43 = .ok (.aload_n 0, 1) := by decide +kernel
theorem dX4_agreeWith_44 : decode cX4_agreeWith 44 = .ok (.getfield 25, 3) := by decide +kernel
theorem dX4_agreeWith_47 : decode cX4_agreeWith 47 = .ok (.iload_n 2, 1) := by decide +kernel
theorem dX4_agreeWith_48 : decode cX4_agreeWith 48 = .ok (.iaload, 1) := by decide +kernel
theorem dX4_agreeWith_49 : decode cX4_agreeWith 49 = .ok (.if_icmp .ne 7, 3) := by decide +kernel
theorem dX4_agreeWith_52 : decode cX4_agreeWith 52 = .ok (.iconst 1, 1) := by decide +kernel
theorem dX4_agreeWith_53 : decode cX4_agreeWith 53 = .ok (.goto 4, 3) := by decide +kernel
theorem dX4_agreeWith_56 : decode cX4_agreeWith 56 = .ok (.iconst 0, 1) := by decide +kernel
theorem dX4_agreeWith_57 : decode cX4_agreeWith 57 = .ok (.aload_n 0, 1) := by decide +kernel
theorem dX4_agreeWith_58 : decode cX4_agreeWith 58 = .ok (.getfield 28, 3) := by decide +kernel
theorem dX4_agreeWith_61 : decode cX4_agreeWith 61 = .ok (.iload_n 2, 1) := by decide +kernel
theorem dX4_agreeWith_62 : decode cX4_agreeWith 62 = .ok (.iaload, 1) := by decide +kernel
theorem dX4_agreeWith_63 : decode cX4_agreeWith 63 = .ok (.iconst 1, 1) := by decide +kernel
theorem dX4_agreeWith_64 : decode cX4_agreeWith 64 = .ok (.if_icmp .ne 7, 3) := by decide +kernel
theorem dX4_agreeWith_67 : decode cX4_agreeWith 67 = .ok (.iconst 1, 1) := by decide +kernel
theorem dX4_agreeWith_68 : decode cX4_agreeWith 68 = .ok (.goto 4, 3) := by decide +kernel
theorem dX4_agreeWith_71 : decode cX4_agreeWith 71 = .ok (.iconst 0, 1) := by decide +kernel
theorem dX4_agreeWith_72 : decode cX4_agreeWith 72 = .ok (.if_icmp .eq 5, 3) := by decide +kernel
theorem dX4_agreeWith_75 : decode cX4_agreeWith 75 = .ok (.iconst 0, 1) := by decide +kernel
theorem dX4_agreeWith_76 : decode cX4_agreeWith 76 = .ok (.ireturn, 1) := by decide +kernel
theorem dX4_agreeWith_77 : decode cX4_agreeWith 77 = .ok (.iinc 2 1, 3) := by decide +kernel
theorem dX4_agreeWith_80 : decode cX4_agreeWith 80 = .ok (.goto (-78), 3) := by decide +kernel
theorem dX4_agreeWith_83 : decode cX4_agreeWith 83 = .ok (.iconst 1, 1) := by decide +kernel
theorem dX4_agreeWith_84 : decode cX4_agreeWith 84 = .ok (.ireturn, 1) := by decide +kernel
theorem dX5_init_0 : decode cX5_init 0 = .ok (.aload_n 0, 1) := by decide +kernel
theorem dX5_init_1 : decode cX5_init 1 = .ok (.invokespecial 3, 3) := by decide +kernel
theorem dX5_init_4 : decode cX5_init 4 = .ok (.aload_n 0, 1) := by decide +kernel
theorem dX5_init_5 : decode cX5_init 5 = .ok (.sipush 700, 3) := by decide +kernel
theorem dX5_init_8 : decode cX5_init 8 = .ok (.newarray .byte, 2) := by decide +kernel
theorem dX5_init_10 : decode cX5_init 10 = .ok (.putfield 9, 3) := by decide +kernel
theorem dX5_init_13 : decode cX5_init 13 = .ok (.aload_n 0, 1) := by decide +kernel
theorem dX5_init_14 : decode cX5_init 14 = .ok (.bipush 29, 2) := by decide +kernel
theorem dX5_init_16 : decode cX5_init 16 = .ok (.newarray .int, 2) := by decide +kernel
theorem dX5_init_18 : decode cX5_init 18 = .ok (.putfield 15, 3) := by decide +kernel
theorem dX5_init_21 : decode cX5_init 21 = .ok (.iconst 0, 1) := by decide +kernel
theorem dX5_init_22 : decode cX5_init 22 = .ok (.istore_n 1, 1) := by decide +kernel
theorem dX5_init_23 : decode cX5_init 23 = .ok (.iconst 0, 1) := by decide +kernel
theorem dX5_init_24 : decode cX5_init 24 = .ok (.istore_n 2, 1) := by decide +kernel
theorem dX5_init_25 : decode cX5_init 25 = .ok (.iconst 0, 1) := by decide +kernel
theorem dX5_init_26 : decode cX5_init 26 = .ok (.istore_n 3, 1) := by decide +kernel
theorem dX5_init_27 : decode cX5_init 27 = .ok (.iconst 0, 1) := by decide +kernel
theorem dX5_init_28 : decode cX5_init 28 = .ok (.istore 4, 2) := by decide +kernel
theorem dX5_init_30 : decode cX5_init 30 = .ok (.iload 4, 2) := by decide +kernel
theorem dX5_init_32 : decode cX5_init 32 = .ok (.ldc 19, 2) := by decide +kernel
theorem dX5_init_34 : decode cX5_init 34 = .ok (.invokevirtual 21, 3) := by decide +kernel
theorem dX5_init_37 : decode cX5_init 37 = .ok (.if_icmp .ge 70, 3) := by decide +kernel
theorem dX5_init_40 : decode cX5_init 40 = .ok (.iload_n 1, 1) := by decide +kernel
theorem dX5_init_41 : decode cX5_init 41 = .ok (.bipush 29, 2) := by decide +kernel
theorem dX5_init_43 : decode cX5_init 43 = .ok (.if_icmp .ge 64, 3) := by decide +kernel
theorem dX5_init_46 : decode cX5_init 46 = .ok (.ldc 19, 2) := by decide +kernel
theorem dX5_init_48 : decode cX5_init 48 = .ok (.iload 4, 2) := by decide +kernel
theorem dX5_init_50 : decode cX5_init 50 = .ok (.invokevirtual 27, 3) := by decide +kernel
theorem dX5_init_53 : decode cX5_init 53 = .ok (.istore 5, 2) := by decide +kernel
theorem dX5_init_55 : decode cX5_init 55 = .ok (.iload 5, 2) := by decide +kernel
theorem dX5_init_57 : decode cX5_init 57 = .ok (.bipush 32, 2) := by decide +kernel
theorem dX5_init_59 : decode cX5_init 59 = .ok (.if_icmp .ne 27, 3) := by decide +kernel
theorem dX5_init_62 : decode cX5_init 62 = .ok (.aload_n 0, 1) := by decide +kernel
theorem dX5_init_63 : decode cX5_init 63 = .ok (.getfield 15, 3) := by decide +kernel
theorem dX5_init_66 : decode cX5_init 66 = .ok (.iload_n 1, 1) := by decide +kernel
theorem dX5_init_67 : decode cX5_init 67 = .ok (.iload_n 2, 1) := by decide +kernel
theorem dX5_init_68 : decode cX5_init 68 = .ok (.iconst 5, 1) := by decide +kernel
theorem dX5_init_69 : decode cX5_init 69 = .ok (.bipush 6, 2) := by decide +kernel
theorem dX5_init_71 : decode cX5_init 71 = .ok (.iload_n 3, 1) := by decide +kernel
theorem dX5_init_72 : decode cX5_init 72 = .ok (.isub, 1) := by decide +kernel
theorem dX5_init_73 : decode cX5_init 73 = .ok (.imul, 1) := by decide +kernel
theorem dX5_init_74 : decode cX5_init 74 = .ok (.ishl, 1) := by decide +kernel
theorem dX5_init_75 : decode cX5_init 75 = .ok (.iastore, 1) := by decide +kernel
theorem dX5_init_76 : decode cX5_init 76 = .ok (.iinc 1 1, 3) := by decide +kernel
theorem dX5_init_79 : decode cX5_init 79 = .ok (.iconst 0, 1) := by decide +kernel
theorem dX5_init_80 : decode cX5_init 80 = .ok (.istore_n 2, 1) := by decide +kernel
theorem dX5_init_81 : decode cX5_init 81 = .ok (.iconst 0, 1) := by decide +kernel
theorem dX5_init_82 : decode cX5_init 82 = .ok (.istore_n 3, 1) := by decide +kernel
theorem dX5_init_83 : decode cX5_init 83 = .ok (.goto 18, 3) := by decide +kernel
theorem dX5_init_86 : decode cX5_init 86 = .ok (.iload_n 2, 1) := by decide +kernel
theorem dX5_init_87 : decode cX5_init 87 = .ok (.iconst 5, 1) := by decide +kernel
theorem dX5_init_88 : decode cX5_init 88 = .ok (.ishl, 1) := by decide +kernel
theorem dX5_init_89 : decode cX5_init 89 = .ok (.iload 5, 2) := by decide +kernel
theorem dX5_init_91 : decode cX5_init 91 = .ok (.bipush 97, 2) := by decide +kernel
theorem dX5_init_93 : decode cX5_init 93 = .ok (.isub, 1) := by decide +kernel
theorem dX5_init_94 : decode cX5_init 94 = .ok (.iconst 1, 1) := by decide +kernel
theorem dX5_init_95 : decode cX5_init 95 = .ok (.iadd, 1) := by decide +kernel
theorem dX5_init_96 : decode cX5_init 96 = .ok (.ior, 1) := by decide +kernel
theorem dX5_init_97 : decode cX5_init 97 = .ok (.istore_n 2, 1) := by decide +kernel
theorem dX5_init_98 : decode cX5_init 98 = .ok (.iinc 3 1, 3) := by decide +kernel
theorem dX5_init_101 : decode cX5_init 101 = .ok (.iinc 4 1, 3) := by decide +kernel
theorem dX5_init_104 : decode cX5_init 104 = .ok (.goto (-74), 3) := by decide +kernel
theorem dX5_init_107 : decode cX5_init 107 = .ok (.return_, 1) := by decide +kernel
theorem dX5_append_0 : decode cX5_append 0 = .ok (.bipush 24, 2) := by decide +kernel
theorem dX5_append_2 : decode cX5_append 2 = .ok (.istore_n 2, 1) := by decide +kernel
theorem dX5_append_3 : decode cX5_append 3 = .ok (.iload_n 2, 1) := by decide +kernel
theorem dX5_append_4 : decode cX5_append 4 = .ok (.ifCond .lt 42, 3) := by decide +kernel
theorem dX5_append_7 : decode cX5_append 7 = .ok (.aload_n 0, 1) := by decide +kernel
theorem dX5_append_8 : decode cX5_append 8 = .ok (.getfield 31, 3) := by decide +kernel
theorem dX5_append_11 : decode cX5_append 11 = .ok (.sipush 700, 3) := by decide +kernel
theorem dX5_append_14 : decode cX5_append 14 = .ok (.if_icmp .ge 32, 3) := by decide +kernel
theorem dX5_append_17 : decode cX5_append 17 = .ok (.aload_n 0, 1) := by decide +kernel
theorem dX5_append_18 : decode cX5_append 18 = .ok (.getfield 9, 3) := by decide +kernel
theorem dX5_append_21 : decode cX5_append 21 = .ok (.aload_n 0, 1) := by decide +kernel
theorem dX5_append_22 : decode cX5_append 22 = .ok (.getfield 31, 3) := by decide +kernel
theorem dX5_append_25 : decode cX5_append 25 = .ok (.iload_n 1, 1) := by decide +kernel
theorem dX5_append_26 : decode cX5_append 26 = .ok (.iload_n 2, 1) := by decide +kernel
theorem dX5_append_27 : decode cX5_append 27 = .ok (.iushr, 1) := by decide +kernel
theorem dX5_append_28 : decode cX5_append 28 = .ok (.i2b, 1) := by decide +kernel
theorem dX5_append_29 : decode cX5_append 29 = .ok (.bastore, 1) := by decide +kernel
theorem dX5_append_30 : decode cX5_append 30 = .ok (.aload_n 0, 1) := by decide +kernel
theorem dX5_append_31 : decode cX5_append 31 = .ok (.dup, 1) := by decide +kernel
theorem dX5_append_32 : decode cX5_append 32 = .ok (.getfield 31, 3) := by decide +kernel
theorem dX5_append_35 : decode cX5_append 35 = .ok (.iconst 1, 1) := by decide +kernel
theorem dX5_append_36 : decode cX5_append 36 = .ok (.iadd, 1) := by decide +kernel
theorem dX5_append_37 : decode cX5_append 37 = .ok (.putfield 31, 3) := by decide +kernel
theorem dX5_append_40 : decode cX5_append 40 = .ok (.iinc 2 (-8), 3) := by decide +kernel
theorem dX5_append_43 : decode cX5_append 43 = .ok (.goto (-40), 3) := by decide +kernel
theorem dX5_append_46 : decode cX5_append 46 = .ok (.return_, 1) := by decide +kernel
theorem dX5_begin_0 : decode cX5_begin 0 = .ok (.aload_n 0, 1) := by decide +kernel
theorem dX5_begin_1 : decode cX5_begin 1 = .ok (.iload_n 1, 1) := by decide +kernel
theorem dX5_begin_2 : decode cX5_begin 2 = .ok (.putfield 34, 3) := by decide +kernel
theorem dX5_begin_5 : decode cX5_begin 5 = .ok (.aload_n 0, 1) := by decide +kernel
theorem dX5_begin_6 : decode cX5_begin 6 = .ok (.iconst 0, 1) := by decide +kernel
theorem dX5_begin_7 : decode cX5_begin 7 = .ok (.putfield 37, 3) := by decide +kernel
theorem dX5_begin_10 : decode cX5_begin 10 = .ok (.aload_n 0, 1) := by decide +kernel
theorem dX5_begin_11 : decode cX5_begin 11 = .ok (.invokevirtual 40, 3) := by decide +kernel
theorem dX5_begin_14 : decode cX5_begin 14 = .ok (.return_, 1) := by decide +kernel
theorem dX5_advance_0 : decode cX5_advance 0 = .ok (.aload_n 0, 1) := by decide +kernel
theorem dX5_advance_1 : decode cX5_advance 1 = .ok (.getfield 37, 3) := by decide +kernel
theorem dX5_advance_4 : decode cX5_advance 4 = .ok (.aload_n 0, 1) := by decide +kernel
theorem dX5_advance_5 : decode cX5_advance 5 = .ok (.getfield 34, 3) := by decide +kernel
theorem dX5_advance_8 : decode cX5_advance 8 = .ok (.if_icmp .ge 30, 3) := by decide +kernel
theorem dX5_advance_11 : decode cX5_advance 11 = .ok (.aload_n 0, 1) := by decide +kernel
theorem dX5_advance_12 : decode cX5_advance 12 = .ok (.aload_n 0, 1) := by decide +kernel
theorem dX5_advance_13 : decode cX5_advance 13 = .ok (.getfield 37, 3) := by decide +kernel
theorem dX5_advance_16 : decode cX5_advance 16 = .ok (.invokevirtual 43, 3) := by decide +kernel
theorem dX5_advance_19 : decode cX5_advance 19 = .ok (.invokestatic 47, 3) := by decide +kernel
theorem dX5_advance_22 : decode cX5_advance 22 = .ok (.ifCond .eq 16, 3) := by decide +kernel
theorem dX5_advance_25 : decode cX5_advance 25 = .ok (.aload_n 0, 1) := by decide +kernel
theorem dX5_advance_26 : decode cX5_advance 26 = .ok (.dup, 1) := by decide +kernel
theorem dX5_advance_27 : decode cX5_advance 27 = .ok (.getfield 37, 3) := by decide +kernel
theorem dX5_advance_30 : decode cX5_advance 30 = .ok (.iconst 1, 1) := by decide +kernel
theorem dX5_advance_31 : decode cX5_advance 31 = .ok (.iadd, 1) := by decide +kernel
theorem dX5_advance_32 : decode cX5_advance 32 = .ok (.putfield 37, 3) := by decide +kernel
theorem dX5_advance_35 : decode cX5_advance 35 = .ok (.goto (-35), 3) := by decide +kernel
theorem dX5_advance_38 : decode cX5_advance 38 = .ok (.aload_n 0, 1) := by decide +kernel
theorem dX5_advance_39 : decode cX5_advance 39 = .ok (.aload_n 0, 1) := by decide +kernel
theorem dX5_advance_40 : decode cX5_advance 40 = .ok (.getfield 37, 3) := by decide +kernel
theorem dX5_advance_43 : decode cX5_advance 43 = .ok (.putfield 51, 3) := by decide +kernel
theorem dX5_advance_46 : decode cX5_advance 46 = .ok (.aload_n 0, 1) := by decide +kernel
theorem dX5_advance_47 : decode cX5_advance 47 = .ok (.aload_n 0, 1) := by decide +kernel
theorem dX5_advance_48 : decode cX5_advance 48 = .ok (.getfield 37, 3) := by decide +kernel
theorem dX5_advance_51 : decode cX5_advance 51 = .ok (.invokevirtual 43, 3) := by decide +kernel
theorem dX5_advance_54 : decode cX5_advance 54 = .ok (.istore_n 1, 1) := by decide +kernel
theorem dX5_advance_55 : decode cX5_advance 55 = .ok (.iload_n 1, 1) := by decide +kernel
theorem dX5_advance_56 : decode cX5_advance 56 = .ok (.ifCond .ge 12, 3) := by decide +kernel
theorem dX5_advance_59 : decode cX5_advance 59 = .ok (.aload_n 0, 1) := by decide +kernel
theorem dX5_advance_60 : decode cX5_advance 60 = .ok (.bipush 45, 2) := by decide +kernel
theorem dX5_advance_62 : decode cX5_advance 62 = .ok (.putfield 54, 3) := by decide +kernel
theorem dX5_advance_65 : decode cX5_advance 65 = .ok (.goto 94, 3) := by decide +kernel
theorem dX5_advance_68 : decode cX5_advance 68 = .ok (.iload_n 1, 1) := by decide +kernel
theorem dX5_advance_69 : decode cX5_advance 69 = .ok (.invokestatic 57, 3) := by decide +kernel
theorem dX5_advance_72 : decode cX5_advance 72 = .ok (.ifCond .eq 10, 3) := by decide +kernel
theorem dX5_advance_75 : decode cX5_advance 75 = .ok (.aload_n 0, 1) := by decide +kernel
theorem dX5_advance_76 : decode cX5_advance 76 = .ok (.invokevirtual 60, 3) := by decide +kernel
theorem dX5_advance_79 : decode cX5_advance 79 = .ok (.goto 80, 3) := by decide +kernel
theorem dX5_advance_82 : decode cX5_advance 82 = .ok (.iload_n 1, 1) := by decide +kernel
theorem dX5_advance_83 : decode cX5_advance 83 = .ok (.invokestatic 63, 3) := by decide +kernel
theorem dX5_advance_86 : decode cX5_advance 86 = .ok (.ifCond .eq 10, 3) := by decide +kernel
theorem dX5_advance_89 : decode cX5_advance 89 = .ok (.aload_n 0, 1) := by decide +kernel
theorem dX5_advance_90 : decode cX5_advance 90 = .ok (.invokevirtual 66, 3) := by decide +kernel
theorem dX5_advance_93 : decode cX5_advance 93 = .ok (.goto 66, 3) := by decide +kernel
theorem dX5_advance_96 : decode cX5_advance 96 = .ok (.aload_n 0, 1) := by decide +kernel
theorem dX5_advance_97 : decode cX5_advance 97 = .ok (.dup, 1) := by decide +kernel
theorem dX5_advance_98 : decode cX5_advance 98 = .ok (.getfield 37, 3) := by decide +kernel
theorem dX5_advance_101 : decode cX5_advance 101 = .ok (.iconst 1, 1) := by decide +kernel
theorem dX5_advance_102 : decode cX5_advance 102 = .ok (.iadd, 1) := by decide +kernel
theorem dX5_advance_103 : decode cX5_advance 103 = .ok (.putfield 37, 3) := by decide +kernel
theorem dX5_advance_106 : decode cX5_advance 106 = .ok (.aload_n 0, 1) := by decide +kernel
theorem dX5_advance_107 : decode cX5_advance 107 = .ok (.iload_n 1, 1) := by decide +kernel
theorem dX5_advance_108 : decode cX5_advance 108 = .ok (.aload_n 0, 1) := by decide +kernel
theorem dX5_advance_109 : decode cX5_advance 109 = .ok (.aload_n 0, 1) := by decide +kernel
theorem dX5_advance_110 : decode cX5_advance 110 = .ok (.getfield 37, 3) := by decide +kernel
theorem dX5_advance_113 : decode cX5_advance 113 = .ok (.invokevirtual 43, 3) := by decide +kernel
theorem dX5_advance_116 : decode cX5_advance 116 = .ok (.invokestatic 69, 3) := by decide +kernel
theorem dX5_advance_119 : decode cX5_advance 119 = .ok (.putfield 54, 3) := by decide +kernel
theorem dX5_advance_122 : decode cX5_advance 122 = .ok (.aload_n 0, 1) := by decide +kernel
theorem dX5_advance_123 : decode cX5_advance 123 = .ok (.getfield 54, 3) := by decide +kernel
theorem dX5_advance_126 : decode cX5_advance 126 = .ok (.bipush 30, 2) := by decide +kernel
theorem dX5_advance_128 : decode cX5_advance 128 = .ok (.if_icmp .eq 21, 3) := by decide +kernel
theorem dX5_advance_131 : decode cX5_advance 131 = .ok (.aload_n 0, 1) := by decide +kernel
theorem dX5_advance_132 : decode cX5_advance 132 = .ok (.getfield 54, 3) := by decide +kernel
theorem dX5_advance_135 : decode cX5_advance 135 = .ok (.bipush 32, 2) := by decide +kernel
theorem dX5_advance_137 : decode cX5_advance 137 = .ok (.if_icmp .eq 12, 3) := by decide +kernel
theorem dX5_advance_140 : decode cX5_advance 140 = .ok (.aload_n 0, 1) := by decide +kernel
theorem dX5_advance_141 : decode cX5_advance 141 = .ok (.getfield 54, 3) := by decide +kernel
theorem dX5_advance_144 : decode cX5_advance 144 = .ok (.bipush 33, 2) := by decide +kernel
theorem dX5_advance_146 : decode cX5_advance 146 = .ok (.if_icmp .ne 13, 3) := by decide +kernel
theorem dX5_advance_149 : decode cX5_advance 149 = .ok (.aload_n 0, 1) := by decide +kernel
theorem dX5_advance_150 : decode cX5_advance 150 = .ok (.dup, 1) := by decide +kernel
theorem dX5_advance_151 : decode cX5_advance 151 = .ok (.getfield 37, 3) := by decide +kernel
theorem dX5_advance_154 : decode cX5_advance 154 = .ok (.iconst 1, 1) := by decide +kernel
theorem dX5_advance_155 : decode cX5_advance 155 = .ok (.iadd, 1) := by decide +kernel
theorem dX5_advance_156 : decode cX5_advance 156 = .ok (.putfield 37, 3) := by decide +kernel
theorem dX5_advance_159 : decode cX5_advance 159 = .ok (.return_, 1) := by decide +kernel
theorem dX5_at_0 : decode cX5_at 0 = .ok (.iload_n 1, 1) := by decide +kernel
theorem dX5_at_1 : decode cX5_at 1 = .ok (.ifCond .lt 31, 3) := by decide +kernel
theorem dX5_at_4 : decode cX5_at 4 = .ok (.iload_n 1, 1) := by decide +kernel
theorem dX5_at_5 : decode cX5_at 5 = .ok (.aload_n 0, 1) := by decide +kernel
theorem dX5_at_6 : decode cX5_at 6 = .ok (.getfield 34, 3) := by decide +kernel
theorem dX5_at_9 : decode cX5_at 9 = .ok (.if_icmp .ge 23, 3) := by decide +kernel
theorem dX5_at_12 : decode cX5_at 12 = .ok (.iload_n 1, 1) := by decide +kernel
theorem dX5_at_13 : decode cX5_at 13 = .ok (.sipush 700, 3) := by decide +kernel
theorem dX5_at_16 : decode cX5_at 16 = .ok (.if_icmp .ge 16, 3) := by decide +kernel
theorem dX5_at_19 : decode cX5_at 19 = .ok (.aload_n 0, 1) := by decide +kernel
theorem dX5_at_20 : decode cX5_at 20 = .ok (.getfield 9, 3) := by decide +kernel
theorem dX5_at_23 : decode cX5_at 23 = .ok (.iload_n 1, 1) := by decide +kernel
theorem dX5_at_24 : decode cX5_at 24 = .ok (.baload, 1) := by decide +kernel
theorem dX5_at_25 : decode cX5_at 25 = .ok (.sipush 255, 3) := by decide +kernel
theorem dX5_at_28 : decode cX5_at 28 = .ok (.iand, 1) := by decide +kernel
theorem dX5_at_29 : decode cX5_at 29 = .ok (.goto 4, 3) := by decide +kernel
theorem dX5_at_32 : decode cX5_at 32 = .ok (.iconst (-1), 1) := by decide +kernel
theorem dX5_at_33 : decode cX5_at 33 = .ok (.ireturn, 1) := by decide +kernel
theorem dX5_isBlank_0 : decode cX5_isBlank 0 = .ok (.iload_n 0, 1) := by decide +kernel
theorem dX5_isBlank_1 : decode cX5_isBlank 1 = .ok (.bipush 10, 2) := by decide +kernel
theorem dX5_isBlank_3 : decode cX5_isBlank 3 = .ok (.if_icmp .eq 9, 3) := by decide +kernel
theorem dX5_isBlank_6 : decode cX5_isBlank 6 = .ok (.iload_n 0, 1) := by decide +kernel
theorem dX5_isBlank_7 : decode cX5_isBlank 7 = .ok (.bipush 32, 2) := by decide +kernel
theorem dX5_isBlank_9 : decode cX5_isBlank 9 = .ok (.if_icmp .ne 7, 3) := by decide +kernel
theorem dX5_isBlank_12 : decode cX5_isBlank 12 = .ok (.iconst 1, 1) := by decide +kernel
theorem dX5_isBlank_13 : decode cX5_isBlank 13 = .ok (.goto 4, 3) := by decide +kernel
theorem dX5_isBlank_16 : decode cX5_isBlank 16 = .ok (.iconst 0, 1) := by decide +kernel
theorem dX5_isBlank_17 : decode cX5_isBlank 17 = .ok (.ireturn, 1) := by decide +kernel
theorem dX5_isLetter_0 : decode cX5_isLetter 0 = .ok (.iload_n 0, 1) := by decide +kernel
theorem dX5_isLetter_1 : decode cX5_isLetter 1 = .ok (.bipush 97, 2) := by decide +kernel
theorem dX5_isLetter_3 : decode cX5_isLetter 3 = .ok (.if_icmp .lt 13, 3) := by decide +kernel
theorem dX5_isLetter_6 : decode cX5_isLetter 6 = .ok (.iload_n 0, 1) := by decide +kernel
theorem dX5_isLetter_7 : decode cX5_isLetter 7 = .ok (.bipush 122, 2) := by decide +kernel
theorem dX5_isLetter_9 : decode cX5_isLetter 9 = .ok (.if_icmp .gt 7, 3) := by decide +kernel
theorem dX5_isLetter_12 : decode cX5_isLetter 12 = .ok (.iconst 1, 1) := by decide +kernel
theorem dX5_isLetter_13 : decode cX5_isLetter 13 = .ok (.goto 4, 3) := by decide +kernel
theorem dX5_isLetter_16 : decode cX5_isLetter 16 = .ok (.iconst 0, 1) := by decide +kernel
theorem dX5_isLetter_17 : decode cX5_isLetter 17 = .ok (.ireturn, 1) := by decide +kernel
theorem dX5_isDigit_0 : decode cX5_isDigit 0 = .ok (.iload_n 0, 1) := by decide +kernel
theorem dX5_isDigit_1 : decode cX5_isDigit 1 = .ok (.bipush 48, 2) := by decide +kernel
theorem dX5_isDigit_3 : decode cX5_isDigit 3 = .ok (.if_icmp .lt 13, 3) := by decide +kernel
theorem dX5_isDigit_6 : decode cX5_isDigit 6 = .ok (.iload_n 0, 1) := by decide +kernel
theorem dX5_isDigit_7 : decode cX5_isDigit 7 = .ok (.bipush 57, 2) := by decide +kernel
theorem dX5_isDigit_9 : decode cX5_isDigit 9 = .ok (.if_icmp .gt 7, 3) := by decide +kernel
theorem dX5_isDigit_12 : decode cX5_isDigit 12 = .ok (.iconst 1, 1) := by decide +kernel
theorem dX5_isDigit_13 : decode cX5_isDigit 13 = .ok (.goto 4, 3) := by decide +kernel
theorem dX5_isDigit_16 : decode cX5_isDigit 16 = .ok (.iconst 0, 1) := by decide +kernel
theorem dX5_isDigit_17 : decode cX5_isDigit 17 = .ok (.ireturn, 1) := by decide +kernel
theorem dX5_readWord_0 : decode cX5_readWord 0 = .ok (.iconst 0, 1) := by decide +kernel
theorem dX5_readWord_1 : decode cX5_readWord 1 = .ok (.istore_n 1, 1) := by decide +kernel
theorem dX5_readWord_2 : decode cX5_readWord 2 = .ok (.aload_n 0, 1) := by decide +kernel
theorem dX5_readWord_3 : decode cX5_readWord 3 = .ok (.getfield 37, 3) := by decide +kernel
theorem dX5_readWord_6 : decode cX5_readWord 6 = .ok (.aload_n 0, 1) := by decide +kernel
theorem dX5_readWord_7 : decode cX5_readWord 7 = .ok (.getfield 34, 3) := by decide +kernel
theorem dX5_readWord_10 : decode cX5_readWord 10 = .ok (.if_icmp .ge 62, 3) := by decide +kernel
theorem dX5_readWord_13 : decode cX5_readWord 13 = .ok (.aload_n 0, 1) := by decide +kernel
theorem dX5_readWord_14 : decode cX5_readWord 14 = .ok (.aload_n 0, 1) := by decide +kernel
theorem dX5_readWord_15 : decode cX5_readWord 15 = .ok (.getfield 37, 3) := by decide +kernel
theorem dX5_readWord_18 : decode cX5_readWord 18 = .ok (.invokevirtual 43, 3) := by decide +kernel
theorem dX5_readWord_21 : decode cX5_readWord 21 = .ok (.invokestatic 57, 3) := by decide +kernel
theorem dX5_readWord_24 : decode cX5_readWord 24 = .ok (.ifCond .eq 48, 3) := by decide +kernel
theorem dX5_readWord_27 : decode cX5_readWord 27 = .ok (.aload_n 0, 1) := by decide +kernel
theorem dX5_readWord_28 : decode cX5_readWord 28 = .ok (.getfield 37, 3) := by decide +kernel
theorem dX5_readWord_31 : decode cX5_readWord 31 = .ok (.aload_n 0, 1) := by decide +kernel
theorem dX5_readWord_32 : decode cX5_readWord 32 = .ok (.getfield 51, 3) := by decide +kernel
theorem dX5_readWord_35 : decode cX5_readWord 35 = .ok (.isub, 1) := by decide +kernel
theorem dX5_readWord_36 : decode cX5_readWord 36 = .ok (.bipush 6, 2) := by decide +kernel
theorem dX5_readWord_38 : decode cX5_readWord 38 = .ok (.if_icmp .ge 21, 3) := by decide +kernel
theorem dX5_readWord_41 : decode cX5_readWord 41 = .ok (.iload_n 1, 1) := by decide +kernel
theorem dX5_readWord_42 : decode cX5_readWord 42 = .ok (.iconst 5, 1) := by decide +kernel
theorem dX5_readWord_43 : decode cX5_readWord 43 = .ok (.ishl, 1) := by decide +kernel
theorem dX5_readWord_44 : decode cX5_readWord 44 = .ok (.aload_n 0, 1) := by decide +kernel
theorem dX5_readWord_45 : decode cX5_readWord 45 = .ok (.aload_n 0, 1) := by decide +kernel
theorem dX5_readWord_46 : decode cX5_readWord 46 = .ok (.getfield 37, 3) := by decide +kernel
theorem dX5_readWord_49 : decode cX5_readWord 49 = .ok (.invokevirtual 43, 3) := by decide +kernel
theorem dX5_readWord_52 : decode cX5_readWord 52 = .ok (.bipush 97, 2) := by decide +kernel
theorem dX5_readWord_54 : decode cX5_readWord 54 = .ok (.isub, 1) := by decide +kernel
theorem dX5_readWord_55 : decode cX5_readWord 55 = .ok (.iconst 1, 1) := by decide +kernel
theorem dX5_readWord_56 : decode cX5_readWord 56 = .ok (.iadd, 1) := by decide +kernel
theorem dX5_readWord_57 : decode cX5_readWord 57 = .ok (.ior, 1) := by decide +kernel
theorem dX5_readWord_58 : decode cX5_readWord 58 = .ok (.istore_n 1, 1) := by decide +kernel
theorem dX5_readWord_59 : decode cX5_readWord 59 = .ok (.aload_n 0, 1) := by decide +kernel
theorem dX5_readWord_60 : decode cX5_readWord 60 = .ok (.dup, 1) := by decide +kernel
theorem dX5_readWord_61 : decode cX5_readWord 61 = .ok (.getfield 37, 3) := by decide +kernel
theorem dX5_readWord_64 : decode cX5_readWord 64 = .ok (.iconst 1, 1) := by decide +kernel
theorem dX5_readWord_65 : decode cX5_readWord 65 = .ok (.iadd, 1) := by decide +kernel
theorem dX5_readWord_66 : decode cX5_readWord 66 = .ok (.putfield 37, 3) := by decide +kernel
theorem dX5_readWord_69 : decode cX5_readWord 69 = .ok (.goto (-67), 3) := by decide +kernel
theorem dX5_readWord_72 : decode cX5_readWord 72 = .ok (.aload_n 0, 1) := by decide +kernel
theorem dX5_readWord_73 : decode cX5_readWord 73 = .ok (.getfield 37, 3) := by decide +kernel
theorem dX5_readWord_76 : decode cX5_readWord 76 = .ok (.aload_n 0, 1) := by decide +kernel
theorem dX5_readWord_77 : decode cX5_readWord 77 = .ok (.getfield 51, 3) := by decide +kernel
theorem dX5_readWord_80 : decode cX5_readWord 80 = .ok (.isub, 1) := by decide +kernel
theorem dX5_readWord_81 : decode cX5_readWord 81 = .ok (.istore_n 2, 1) := by decide +kernel
theorem dX5_readWord_82 : decode cX5_readWord 82 = .ok (.iload_n 2, 1) := by decide +kernel
theorem dX5_readWord_83 : decode cX5_readWord 83 = .ok (.bipush 6, 2) := by decide +kernel
theorem dX5_readWord_85 : decode cX5_readWord 85 = .ok (.if_icmp .le 10, 3) := by decide +kernel
theorem dX5_readWord_88 : decode cX5_readWord 88 = .ok (.aload_n 0, 1) := by decide +kernel
theorem dX5_readWord_89 : decode cX5_readWord 89 = .ok (.bipush 44, 2) := by decide +kernel
theorem dX5_readWord_91 : decode cX5_readWord 91 = .ok (.putfield 54, 3) := by decide +kernel
theorem dX5_readWord_94 : decode cX5_readWord 94 = .ok (.return_, 1) := by decide +kernel
theorem dX5_readWord_95 : decode cX5_readWord 95 = .ok (.aload_n 0, 1) := by decide +kernel
theorem dX5_readWord_96 : decode cX5_readWord 96 = .ok (.iload_n 1, 1) := by decide +kernel
theorem dX5_readWord_97 : decode cX5_readWord 97 = .ok (.iconst 5, 1) := by decide +kernel
theorem dX5_readWord_98 : decode cX5_readWord 98 = .ok (.bipush 6, 2) := by decide +kernel
theorem dX5_readWord_100 : decode cX5_readWord 100 = .ok (.iload_n 2, 1) := by decide +kernel
theorem dX5_readWord_101 : decode cX5_readWord 101 = .ok (.isub, 1) := by decide +kernel
theorem dX5_readWord_102 : decode cX5_readWord 102 = .ok (.imul, 1) := by decide +kernel
theorem dX5_readWord_103 : decode cX5_readWord 103 = .ok (.ishl, 1) := by decide +kernel
theorem dX5_readWord_104 : decode cX5_readWord 104 = .ok (.putfield 73, 3) := by decide +kernel
theorem dX5_readWord_107 : decode cX5_readWord 107 = .ok (.aload_n 0, 1) := by decide +kernel
theorem dX5_readWord_108 : decode cX5_readWord 108 = .ok (.bipush 43, 2) := by decide +kernel
theorem dX5_readWord_110 : decode cX5_readWord 110 = .ok (.putfield 54, 3) := by decide +kernel
theorem dX5_readWord_113 : decode cX5_readWord 113 = .ok (.iconst 0, 1) := by decide +kernel
theorem dX5_readWord_114 : decode cX5_readWord 114 = .ok (.istore_n 3, 1) := by decide +kernel
theorem dX5_readWord_115 : decode cX5_readWord 115 = .ok (.iload_n 3, 1) := by decide +kernel
theorem dX5_readWord_116 : decode cX5_readWord 116 = .ok (.bipush 29, 2) := by decide +kernel
theorem dX5_readWord_118 : decode cX5_readWord 118 = .ok (.if_icmp .ge 27, 3) := by decide +kernel
theorem dX5_readWord_121 : decode cX5_readWord 121 = .ok (.aload_n 0, 1) := by decide +kernel
theorem dX5_readWord_122 : decode cX5_readWord 122 = .ok (.getfield 15, 3) := by decide +kernel
theorem dX5_readWord_125 : decode cX5_readWord 125 = .ok (.iload_n 3, 1) := by decide +kernel
theorem dX5_readWord_126 : decode cX5_readWord 126 = .ok (.iaload, 1) := by decide +kernel
theorem dX5_readWord_127 : decode cX5_readWord 127 = .ok (.aload_n 0, 1) := by decide +kernel
theorem dX5_readWord_128 : decode cX5_readWord 128 = .ok (.getfield 73, 3) := by decide +kernel
theorem dX5_readWord_131 : decode cX5_readWord 131 = .ok (.if_icmp .ne 8, 3) := by decide +kernel
theorem dX5_readWord_134 : decode cX5_readWord 134 = .ok (.aload_n 0, 1) := by decide +kernel
theorem dX5_readWord_135 : decode cX5_readWord 135 = .ok (.iload_n 3, 1) := by decide +kernel
theorem dX5_readWord_136 : decode cX5_readWord 136 = .ok (.putfield 54, 3) := by decide +kernel
theorem dX5_readWord_139 : decode cX5_readWord 139 = .ok (.iinc 3 1, 3) := by decide +kernel
theorem dX5_readWord_142 : decode cX5_readWord 142 = .ok (.goto (-27), 3) := by decide +kernel
theorem dX5_readWord_145 : decode cX5_readWord 145 = .ok (.return_, 1) := by decide +kernel
theorem dX5_readNumber_0 : decode cX5_readNumber 0 = .ok (.aload_n 0, 1) := by decide +kernel
theorem dX5_readNumber_1 : decode cX5_readNumber 1 = .ok (.iconst 0, 1) := by decide +kernel
theorem dX5_readNumber_2 : decode cX5_readNumber 2 = .ok (.putfield 73, 3) := by decide +kernel
theorem dX5_readNumber_5 : decode cX5_readNumber 5 = .ok (.aload_n 0, 1) := by decide +kernel
theorem dX5_readNumber_6 : decode cX5_readNumber 6 = .ok (.getfield 37, 3) := by decide +kernel
theorem dX5_readNumber_9 : decode cX5_readNumber 9 = .ok (.aload_n 0, 1) := by decide +kernel
theorem dX5_readNumber_10 : decode cX5_readNumber 10 = .ok (.getfield 34, 3) := by decide +kernel
theorem dX5_readNumber_13 : decode cX5_readNumber 13 = .ok (.if_icmp .ge 62, 3) := by decide +kernel
theorem dX5_readNumber_16 : decode cX5_readNumber 16 = .ok (.aload_n 0, 1) := by decide +kernel
theorem dX5_readNumber_17 : decode cX5_readNumber 17 = .ok (.aload_n 0, 1) := by decide +kernel
theorem dX5_readNumber_18 : decode cX5_readNumber 18 = .ok (.getfield 37, 3) := by decide +kernel
theorem dX5_readNumber_21 : decode cX5_readNumber 21 = .ok (.invokevirtual 43, 3) := by decide +kernel
theorem dX5_readNumber_24 : decode cX5_readNumber 24 = .ok (.invokestatic 63, 3) := by decide +kernel
theorem dX5_readNumber_27 : decode cX5_readNumber 27 = .ok (.ifCond .eq 48, 3) := by decide +kernel
theorem dX5_readNumber_30 : decode cX5_readNumber 30 = .ok (.aload_n 0, 1) := by decide +kernel
theorem dX5_readNumber_31 : decode cX5_readNumber 31 = .ok (.getfield 73, 3) := by decide +kernel
theorem dX5_readNumber_34 : decode cX5_readNumber 34 = .ok (.ldc 76, 2) := by decide +kernel
theorem dX5_readNumber_36 : decode cX5_readNumber 36 = .ok (.if_icmp .ge 26, 3) := by decide +kernel
theorem dX5_readNumber_39 : decode cX5_readNumber 39 = .ok (.aload_n 0, 1) := by decide +kernel
theorem dX5_readNumber_40 : decode cX5_readNumber 40 = .ok (.aload_n 0, 1) := by decide +kernel
theorem dX5_readNumber_41 : decode cX5_readNumber 41 = .ok (.getfield 73, 3) := by decide +kernel
theorem dX5_readNumber_44 : decode cX5_readNumber 44 = .ok (.bipush 10, 2) := by decide +kernel
theorem dX5_readNumber_46 : decode cX5_readNumber 46 = .ok (.imul, 1) := by decide +kernel
theorem dX5_readNumber_47 : decode cX5_readNumber 47 = .ok (.aload_n 0, 1) := by decide +kernel
theorem dX5_readNumber_48 : decode cX5_readNumber 48 = .ok (.aload_n 0, 1) := by decide +kernel
theorem dX5_readNumber_49 : decode cX5_readNumber 49 = .ok (.getfield 37, 3) := by decide +kernel
theorem dX5_readNumber_52 : decode cX5_readNumber 52 = .ok (.invokevirtual 43, 3) := by decide +kernel
theorem dX5_readNumber_55 : decode cX5_readNumber 55 = .ok (.iadd, 1) := by decide +kernel
theorem dX5_readNumber_56 : decode cX5_readNumber 56 = .ok (.bipush 48, 2) := by decide +kernel
theorem dX5_readNumber_58 : decode cX5_readNumber 58 = .ok (.isub, 1) := by decide +kernel
theorem dX5_readNumber_59 : decode cX5_readNumber 59 = .ok (.putfield 73, 3) := by decide +kernel
theorem dX5_readNumber_62 : decode cX5_readNumber 62 = .ok (.aload_n 0, 1) := by decide +kernel
theorem dX5_readNumber_63 : decode cX5_readNumber 63 = .ok (.dup, 1) := by decide +kernel
theorem dX5_readNumber_64 : decode cX5_readNumber 64 = .ok (.getfield 37, 3) := by decide +kernel
theorem dX5_readNumber_67 : decode cX5_readNumber 67 = .ok (.iconst 1, 1) := by decide +kernel
theorem dX5_readNumber_68 : decode cX5_readNumber 68 = .ok (.iadd, 1) := by decide +kernel
theorem dX5_readNumber_69 : decode cX5_readNumber 69 = .ok (.putfield 37, 3) := by decide +kernel
theorem dX5_readNumber_72 : decode cX5_readNumber 72 = .ok (.goto (-67), 3) := by decide +kernel
theorem dX5_readNumber_75 : decode cX5_readNumber 75 = .ok (.aload_n 0, 1) := by decide +kernel
theorem dX5_readNumber_76 : decode cX5_readNumber 76 = .ok (.bipush 42, 2) := by decide +kernel
theorem dX5_readNumber_78 : decode cX5_readNumber 78 = .ok (.putfield 54, 3) := by decide +kernel
theorem dX5_readNumber_81 : decode cX5_readNumber 81 = .ok (.return_, 1) := by decide +kernel
theorem dX5_sign_0 : decode cX5_sign 0 = .ok (.iload_n 0, 1) := by decide +kernel
theorem dX5_sign_1 : decode cX5_sign 1 = .ok (.tableswitch 170 40 62 #[161, 164, 155, 149, 170, 152, 170, 158, 170, 170, 170, 170, 170, 170, 170, 170, 170, 170, 170, 167, 107, 146, 132], 107) := by decide +kernel
theorem dX5_sign_108 : decode cX5_sign 108 = .ok (.iload_n 1, 1) := by decide +kernel
theorem dX5_sign_109 : decode cX5_sign 109 = .ok (.bipush 61, 2) := by decide +kernel
theorem dX5_sign_111 : decode cX5_sign 111 = .ok (.if_icmp .ne 8, 3) := by decide +kernel
theorem dX5_sign_114 : decode cX5_sign 114 = .ok (.bipush 30, 2) := by decide +kernel
theorem dX5_sign_116 : decode cX5_sign 116 = .ok (.goto 16, 3) := by decide +kernel
theorem dX5_sign_119 : decode cX5_sign 119 = .ok (.iload_n 1, 1) := by decide +kernel
theorem dX5_sign_120 : decode cX5_sign 120 = .ok (.bipush 62, 2) := by decide +kernel
theorem dX5_sign_122 : decode cX5_sign 122 = .ok (.if_icmp .ne 8, 3) := by decide +kernel
theorem dX5_sign_125 : decode cX5_sign 125 = .ok (.bipush 32, 2) := by decide +kernel
theorem dX5_sign_127 : decode cX5_sign 127 = .ok (.goto 5, 3) := by decide +kernel
theorem dX5_sign_130 : decode cX5_sign 130 = .ok (.bipush 29, 2) := by decide +kernel
theorem dX5_sign_132 : decode cX5_sign 132 = .ok (.ireturn, 1) := by decide +kernel
theorem dX5_sign_133 : decode cX5_sign 133 = .ok (.iload_n 1, 1) := by decide +kernel
theorem dX5_sign_134 : decode cX5_sign 134 = .ok (.bipush 61, 2) := by decide +kernel
theorem dX5_sign_136 : decode cX5_sign 136 = .ok (.if_icmp .ne 8, 3) := by decide +kernel
theorem dX5_sign_139 : decode cX5_sign 139 = .ok (.bipush 33, 2) := by decide +kernel
theorem dX5_sign_141 : decode cX5_sign 141 = .ok (.goto 5, 3) := by decide +kernel
theorem dX5_sign_144 : decode cX5_sign 144 = .ok (.bipush 34, 2) := by decide +kernel
theorem dX5_sign_146 : decode cX5_sign 146 = .ok (.ireturn, 1) := by decide +kernel
theorem dX5_sign_147 : decode cX5_sign 147 = .ok (.bipush 31, 2) := by decide +kernel
theorem dX5_sign_149 : decode cX5_sign 149 = .ok (.ireturn, 1) := by decide +kernel
theorem dX5_sign_150 : decode cX5_sign 150 = .ok (.bipush 35, 2) := by decide +kernel
theorem dX5_sign_152 : decode cX5_sign 152 = .ok (.ireturn, 1) := by decide +kernel
theorem dX5_sign_153 : decode cX5_sign 153 = .ok (.bipush 36, 2) := by decide +kernel
theorem dX5_sign_155 : decode cX5_sign 155 = .ok (.ireturn, 1) := by decide +kernel
theorem dX5_sign_156 : decode cX5_sign 156 = .ok (.bipush 37, 2) := by decide +kernel
theorem dX5_sign_158 : decode cX5_sign 158 = .ok (.ireturn, 1) := by decide +kernel
theorem dX5_sign_159 : decode cX5_sign 159 = .ok (.bipush 38, 2) := by decide +kernel
theorem dX5_sign_161 : decode cX5_sign 161 = .ok (.ireturn, 1) := by decide +kernel
theorem dX5_sign_162 : decode cX5_sign 162 = .ok (.bipush 39, 2) := by decide +kernel
theorem dX5_sign_164 : decode cX5_sign 164 = .ok (.ireturn, 1) := by decide +kernel
theorem dX5_sign_165 : decode cX5_sign 165 = .ok (.bipush 40, 2) := by decide +kernel
theorem dX5_sign_167 : decode cX5_sign 167 = .ok (.ireturn, 1) := by decide +kernel
theorem dX5_sign_168 : decode cX5_sign 168 = .ok (.bipush 41, 2) := by decide +kernel
theorem dX5_sign_170 : decode cX5_sign 170 = .ok (.ireturn, 1) := by decide +kernel
theorem dX5_sign_171 : decode cX5_sign 171 = .ok (.bipush 44, 2) := by decide +kernel
theorem dX5_sign_173 : decode cX5_sign 173 = .ok (.ireturn, 1) := by decide +kernel
theorem dJ6_bitCount_0f7a4_0 : decode cJ6_bitCount_0f7a4 0 = .ok (.iload_n 0, 1) := by decide +kernel
theorem dJ6_bitCount_0f7a4_1 : decode cJ6_bitCount_0f7a4 1 = .ok (.iload_n 0, 1) := by decide +kernel
theorem dJ6_bitCount_0f7a4_2 : decode cJ6_bitCount_0f7a4 2 = .ok (.iconst 1, 1) := by decide +kernel
theorem dJ6_bitCount_0f7a4_3 : decode cJ6_bitCount_0f7a4 3 = .ok (.iushr, 1) := by decide +kernel
theorem dJ6_bitCount_0f7a4_4 : decode cJ6_bitCount_0f7a4 4 = .ok (.ldc_w 265, 3) := by decide +kernel
theorem dJ6_bitCount_0f7a4_7 : decode cJ6_bitCount_0f7a4 7 = .ok (.iand, 1) := by decide +kernel
theorem dJ6_bitCount_0f7a4_8 : decode cJ6_bitCount_0f7a4 8 = .ok (.isub, 1) := by decide +kernel
theorem dJ6_bitCount_0f7a4_9 : decode cJ6_bitCount_0f7a4 9 = .ok (.istore_n 0, 1) := by decide +kernel
theorem dJ6_bitCount_0f7a4_10 : decode cJ6_bitCount_0f7a4 10 = .ok (.iload_n 0, 1) := by decide +kernel
theorem dJ6_bitCount_0f7a4_11 : decode cJ6_bitCount_0f7a4 11 = .ok (.ldc_w 266, 3) := by decide +kernel
theorem dJ6_bitCount_0f7a4_14 : decode cJ6_bitCount_0f7a4 14 = .ok (.iand, 1) := by decide +kernel
theorem dJ6_bitCount_0f7a4_15 : decode cJ6_bitCount_0f7a4 15 = .ok (.iload_n 0, 1) := by decide +kernel
theorem dJ6_bitCount_0f7a4_16 : decode cJ6_bitCount_0f7a4 16 = .ok (.iconst 2, 1) := by decide +kernel
theorem dJ6_bitCount_0f7a4_17 : decode cJ6_bitCount_0f7a4 17 = .ok (.iushr, 1) := by decide +kernel
theorem dJ6_bitCount_0f7a4_18 : decode cJ6_bitCount_0f7a4 18 = .ok (.ldc_w 266, 3) := by decide +kernel
theorem dJ6_bitCount_0f7a4_21 : decode cJ6_bitCount_0f7a4 21 = .ok (.iand, 1) := by decide +kernel
theorem dJ6_bitCount_0f7a4_22 : decode cJ6_bitCount_0f7a4 22 = .ok (.iadd, 1) := by decide +kernel
theorem dJ6_bitCount_0f7a4_23 : decode cJ6_bitCount_0f7a4 23 = .ok (.istore_n 0, 1) := by decide +kernel
theorem dJ6_bitCount_0f7a4_24 : decode cJ6_bitCount_0f7a4 24 = .ok (.iload_n 0, 1) := by decide +kernel
theorem dJ6_bitCount_0f7a4_25 : decode cJ6_bitCount_0f7a4 25 = .ok (.iload_n 0, 1) := by decide +kernel
theorem dJ6_bitCount_0f7a4_26 : decode cJ6_bitCount_0f7a4 26 = .ok (.iconst 4, 1) := by decide +kernel
theorem dJ6_bitCount_0f7a4_27 : decode cJ6_bitCount_0f7a4 27 = .ok (.iushr, 1) := by decide +kernel
theorem dJ6_bitCount_0f7a4_28 : decode cJ6_bitCount_0f7a4 28 = .ok (.iadd, 1) := by decide +kernel
theorem dJ6_bitCount_0f7a4_29 : decode cJ6_bitCount_0f7a4 29 = .ok (.ldc_w 267, 3) := by decide +kernel
theorem dJ6_bitCount_0f7a4_32 : decode cJ6_bitCount_0f7a4 32 = .ok (.iand, 1) := by decide +kernel
theorem dJ6_bitCount_0f7a4_33 : decode cJ6_bitCount_0f7a4 33 = .ok (.istore_n 0, 1) := by decide +kernel
theorem dJ6_bitCount_0f7a4_34 : decode cJ6_bitCount_0f7a4 34 = .ok (.iload_n 0, 1) := by decide +kernel
theorem dJ6_bitCount_0f7a4_35 : decode cJ6_bitCount_0f7a4 35 = .ok (.iload_n 0, 1) := by decide +kernel
theorem dJ6_bitCount_0f7a4_36 : decode cJ6_bitCount_0f7a4 36 = .ok (.bipush 8, 2) := by decide +kernel
theorem dJ6_bitCount_0f7a4_38 : decode cJ6_bitCount_0f7a4 38 = .ok (.iushr, 1) := by decide +kernel
theorem dJ6_bitCount_0f7a4_39 : decode cJ6_bitCount_0f7a4 39 = .ok (.iadd, 1) := by decide +kernel
theorem dJ6_bitCount_0f7a4_40 : decode cJ6_bitCount_0f7a4 40 = .ok (.istore_n 0, 1) := by decide +kernel
theorem dJ6_bitCount_0f7a4_41 : decode cJ6_bitCount_0f7a4 41 = .ok (.iload_n 0, 1) := by decide +kernel
theorem dJ6_bitCount_0f7a4_42 : decode cJ6_bitCount_0f7a4 42 = .ok (.iload_n 0, 1) := by decide +kernel
theorem dJ6_bitCount_0f7a4_43 : decode cJ6_bitCount_0f7a4 43 = .ok (.bipush 16, 2) := by decide +kernel
theorem dJ6_bitCount_0f7a4_45 : decode cJ6_bitCount_0f7a4 45 = .ok (.iushr, 1) := by decide +kernel
theorem dJ6_bitCount_0f7a4_46 : decode cJ6_bitCount_0f7a4 46 = .ok (.iadd, 1) := by decide +kernel
theorem dJ6_bitCount_0f7a4_47 : decode cJ6_bitCount_0f7a4 47 = .ok (.istore_n 0, 1) := by decide +kernel
theorem dJ6_bitCount_0f7a4_48 : decode cJ6_bitCount_0f7a4 48 = .ok (.iload_n 0, 1) := by decide +kernel
theorem dJ6_bitCount_0f7a4_49 : decode cJ6_bitCount_0f7a4 49 = .ok (.bipush 63, 2) := by decide +kernel
theorem dJ6_bitCount_0f7a4_51 : decode cJ6_bitCount_0f7a4 51 = .ok (.iand, 1) := by decide +kernel
theorem dJ6_bitCount_0f7a4_52 : decode cJ6_bitCount_0f7a4 52 = .ok (.ireturn, 1) := by decide +kernel
theorem dJ0_length_8abf5_0 : decode cJ0_length_8abf5 0 = .ok (.aload_n 0, 1) := by decide +kernel
theorem dJ0_length_8abf5_1 : decode cJ0_length_8abf5 1 = .ok (.getfield 9, 3) := by decide +kernel
theorem dJ0_length_8abf5_4 : decode cJ0_length_8abf5 4 = .ok (.arraylength, 1) := by decide +kernel
theorem dJ0_length_8abf5_5 : decode cJ0_length_8abf5 5 = .ok (.aload_n 0, 1) := by decide +kernel
theorem dJ0_length_8abf5_6 : decode cJ0_length_8abf5 6 = .ok (.invokevirtual 335, 3) := by decide +kernel
theorem dJ0_length_8abf5_9 : decode cJ0_length_8abf5 9 = .ok (.ishr, 1) := by decide +kernel
theorem dJ0_length_8abf5_10 : decode cJ0_length_8abf5 10 = .ok (.ireturn, 1) := by decide +kernel
theorem dJ0_charAt_5068e_0 : decode cJ0_charAt_5068e 0 = .ok (.aload_n 0, 1) := by decide +kernel
theorem dJ0_charAt_5068e_1 : decode cJ0_charAt_5068e 1 = .ok (.invokevirtual 492, 3) := by decide +kernel
theorem dJ0_charAt_5068e_4 : decode cJ0_charAt_5068e 4 = .ok (.ifCond .eq 12, 3) := by decide +kernel
theorem dJ0_charAt_5068e_7 : decode cJ0_charAt_5068e 7 = .ok (.aload_n 0, 1) := by decide +kernel
theorem dJ0_charAt_5068e_8 : decode cJ0_charAt_5068e 8 = .ok (.getfield 9, 3) := by decide +kernel
theorem dJ0_charAt_5068e_11 : decode cJ0_charAt_5068e 11 = .ok (.iload_n 1, 1) := by decide +kernel
theorem dJ0_charAt_5068e_12 : decode cJ0_charAt_5068e 12 = .ok (.invokestatic 495, 3) := by decide +kernel
theorem dJ0_charAt_5068e_15 : decode cJ0_charAt_5068e 15 = .ok (.ireturn, 1) := by decide +kernel
theorem dJ0_charAt_5068e_16 : decode cJ0_charAt_5068e 16 = .ok (.aload_n 0, 1) := by decide +kernel
theorem dJ0_charAt_5068e_17 : decode cJ0_charAt_5068e 17 = .ok (.getfield 9, 3) := by decide +kernel
theorem dJ0_charAt_5068e_20 : decode cJ0_charAt_5068e 20 = .ok (.iload_n 1, 1) := by decide +kernel
theorem dJ0_charAt_5068e_21 : decode cJ0_charAt_5068e 21 = .ok (.invokestatic 498, 3) := by decide +kernel
theorem dJ0_charAt_5068e_24 : decode cJ0_charAt_5068e 24 = .ok (.ireturn, 1) := by decide +kernel
theorem dJ0_coder_7d493_0 : decode cJ0_coder_7d493 0 = .ok (.getstatic 38, 3) := by decide +kernel
theorem dJ0_coder_7d493_3 : decode cJ0_coder_7d493 3 = .ok (.ifCond .eq 10, 3) := by decide +kernel
theorem dJ0_coder_7d493_6 : decode cJ0_coder_7d493 6 = .ok (.aload_n 0, 1) := by decide +kernel
theorem dJ0_coder_7d493_7 : decode cJ0_coder_7d493 7 = .ok (.getfield 15, 3) := by decide +kernel
theorem dJ0_coder_7d493_10 : decode cJ0_coder_7d493 10 = .ok (.goto 4, 3) := by decide +kernel
theorem dJ0_coder_7d493_13 : decode cJ0_coder_7d493 13 = .ok (.iconst 1, 1) := by decide +kernel
theorem dJ0_coder_7d493_14 : decode cJ0_coder_7d493 14 = .ok (.ireturn, 1) := by decide +kernel
theorem dJ0_isLatin1_aae02_0 : decode cJ0_isLatin1_aae02 0 = .ok (.getstatic 38, 3) := by decide +kernel
theorem dJ0_isLatin1_aae02_3 : decode cJ0_isLatin1_aae02 3 = .ok (.ifCond .eq 14, 3) := by decide +kernel
theorem dJ0_isLatin1_aae02_6 : decode cJ0_isLatin1_aae02 6 = .ok (.aload_n 0, 1) := by decide +kernel
theorem dJ0_isLatin1_aae02_7 : decode cJ0_isLatin1_aae02 7 = .ok (.getfield 15, 3) := by decide +kernel
theorem dJ0_isLatin1_aae02_10 : decode cJ0_isLatin1_aae02 10 = .ok (.ifCond .ne 7, 3) := by decide +kernel
theorem dJ0_isLatin1_aae02_13 : decode cJ0_isLatin1_aae02 13 = .ok (.iconst 1, 1) := by decide +kernel
theorem dJ0_isLatin1_aae02_14 : decode cJ0_isLatin1_aae02 14 = .ok (.goto 4, 3) := by decide +kernel
theorem dJ0_isLatin1_aae02_17 : decode cJ0_isLatin1_aae02 17 = .ok (.iconst 0, 1) := by decide +kernel
theorem dJ0_isLatin1_aae02_18 : decode cJ0_isLatin1_aae02 18 = .ok (.ireturn, 1) := by decide +kernel
theorem dJ0_checkIndex_df160_0 : decode cJ0_checkIndex_df160 0 = .ok (.iload_n 0, 1) := by decide +kernel
theorem dJ0_checkIndex_df160_1 : decode cJ0_checkIndex_df160 1 = .ok (.iload_n 1, 1) := by decide +kernel
theorem dJ0_checkIndex_df160_2 : decode cJ0_checkIndex_df160 2 = .ok (.getstatic 1053, 3) := by decide +kernel
theorem dJ0_checkIndex_df160_5 : decode cJ0_checkIndex_df160 5 = .ok (.invokestatic 1059, 3) := by decide +kernel
theorem dJ0_checkIndex_df160_8 : decode cJ0_checkIndex_df160 8 = .ok (.pop, 1) := by decide +kernel
theorem dJ0_checkIndex_df160_9 : decode cJ0_checkIndex_df160 9 = .ok (.return_, 1) := by decide +kernel
theorem dJ1_charAt_3b067_0 : decode cJ1_charAt_3b067 0 = .ok (.iload_n 1, 1) := by decide +kernel
theorem dJ1_charAt_3b067_1 : decode cJ1_charAt_3b067 1 = .ok (.aload_n 0, 1) := by decide +kernel
theorem dJ1_charAt_3b067_2 : decode cJ1_charAt_3b067 2 = .ok (.arraylength, 1) := by decide +kernel
theorem dJ1_charAt_3b067_3 : decode cJ1_charAt_3b067 3 = .ok (.invokestatic 9, 3) := by decide +kernel
theorem dJ1_charAt_3b067_6 : decode cJ1_charAt_3b067 6 = .ok (.aload_n 0, 1) := by decide +kernel
theorem dJ1_charAt_3b067_7 : decode cJ1_charAt_3b067 7 = .ok (.iload_n 1, 1) := by decide +kernel
theorem dJ1_charAt_3b067_8 : decode cJ1_charAt_3b067 8 = .ok (.baload, 1) := by decide +kernel
theorem dJ1_charAt_3b067_9 : decode cJ1_charAt_3b067 9 = .ok (.sipush 255, 3) := by decide +kernel
theorem dJ1_charAt_3b067_12 : decode cJ1_charAt_3b067 12 = .ok (.iand, 1) := by decide +kernel
theorem dJ1_charAt_3b067_13 : decode cJ1_charAt_3b067 13 = .ok (.i2c, 1) := by decide +kernel
theorem dJ1_charAt_3b067_14 : decode cJ1_charAt_3b067 14 = .ok (.ireturn, 1) := by decide +kernel
theorem dJ2_getChar_3b067_0 : decode cJ2_getChar_3b067 0 = .ok (.getstatic 44, 3) := by decide +kernel
theorem dJ2_getChar_3b067_3 : decode cJ2_getChar_3b067 3 = .ok (.ifCond .ne 25, 3) := by decide +kernel
theorem dJ2_getChar_3b067_6 : decode cJ2_getChar_3b067 6 = .ok (.iload_n 1, 1) := by decide +kernel
theorem dJ2_getChar_3b067_7 : decode cJ2_getChar_3b067 7 = .ok (.ifCond .lt 11, 3) := by decide +kernel
theorem dJ2_getChar_3b067_10 : decode cJ2_getChar_3b067 10 = .ok (.iload_n 1, 1) := by decide +kernel
theorem dJ2_getChar_3b067_11 : decode cJ2_getChar_3b067 11 = .ok (.aload_n 0, 1) := by decide +kernel
theorem dJ2_getChar_3b067_12 : decode cJ2_getChar_3b067 12 = .ok (.invokestatic 48, 3) := by decide +kernel
theorem dJ2_getChar_3b067_15 : decode cJ2_getChar_3b067 15 = .ok (.if_icmp .lt 13, 3) := by decide +kernel
theorem dJ2_getChar_3b067_18 : decode cJ2_getChar_3b067 18 = .ok (.new 52, 3) := by decide +kernel
theorem dJ2_getChar_3b067_21 : decode cJ2_getChar_3b067 21 = .ok (.dup, 1) := by decide +kernel
theorem dJ2_getChar_3b067_22 : decode cJ2_getChar_3b067 22 = .ok (.ldc 54, 2) := by decide +kernel
theorem dJ2_getChar_3b067_24 : decode cJ2_getChar_3b067 24 = .ok (.invokespecial 56, 3) := by decide +kernel
theorem dJ2_getChar_3b067_27 : decode cJ2_getChar_3b067 27 = .ok (.athrow, 1) := by decide +kernel
theorem dJ2_getChar_3b067_28 : decode cJ2_getChar_3b067 28 = .ok (.iload_n 1, 1) := by decide +kernel
theorem dJ2_getChar_3b067_29 : decode cJ2_getChar_3b067 29 = .ok (.iconst 1, 1) := by decide +kernel
theorem dJ2_getChar_3b067_30 : decode cJ2_getChar_3b067 30 = .ok (.ishl, 1) := by decide +kernel
theorem dJ2_getChar_3b067_31 : decode cJ2_getChar_3b067 31 = .ok (.istore_n 1, 1) := by decide +kernel
theorem dJ2_getChar_3b067_32 : decode cJ2_getChar_3b067 32 = .ok (.aload_n 0, 1) := by decide +kernel
theorem dJ2_getChar_3b067_33 : decode cJ2_getChar_3b067 33 = .ok (.iload_n 1, 1) := by decide +kernel
theorem dJ2_getChar_3b067_34 : decode cJ2_getChar_3b067 34 = .ok (.iinc 1 1, 3) := by decide +kernel
theorem dJ2_getChar_3b067_37 : decode cJ2_getChar_3b067 37 = .ok (.baload, 1) := by decide +kernel
theorem dJ2_getChar_3b067_38 : decode cJ2_getChar_3b067 38 = .ok (.sipush 255, 3) := by decide +kernel
theorem dJ2_getChar_3b067_41 : decode cJ2_getChar_3b067 41 = .ok (.iand, 1) := by decide +kernel
theorem dJ2_getChar_3b067_42 : decode cJ2_getChar_3b067 42 = .ok (.getstatic 59, 3) := by decide +kernel
theorem dJ2_getChar_3b067_45 : decode cJ2_getChar_3b067 45 = .ok (.ishl, 1) := by decide +kernel
theorem dJ2_getChar_3b067_46 : decode cJ2_getChar_3b067 46 = .ok (.aload_n 0, 1) := by decide +kernel
theorem dJ2_getChar_3b067_47 : decode cJ2_getChar_3b067 47 = .ok (.iload_n 1, 1) := by decide +kernel
theorem dJ2_getChar_3b067_48 : decode cJ2_getChar_3b067 48 = .ok (.baload, 1) := by decide +kernel
theorem dJ2_getChar_3b067_49 : decode cJ2_getChar_3b067 49 = .ok (.sipush 255, 3) := by decide +kernel
theorem dJ2_getChar_3b067_52 : decode cJ2_getChar_3b067 52 = .ok (.iand, 1) := by decide +kernel
theorem dJ2_getChar_3b067_53 : decode cJ2_getChar_3b067 53 = .ok (.getstatic 63, 3) := by decide +kernel
theorem dJ2_getChar_3b067_56 : decode cJ2_getChar_3b067 56 = .ok (.ishl, 1) := by decide +kernel
theorem dJ2_getChar_3b067_57 : decode cJ2_getChar_3b067 57 = .ok (.ior, 1) := by decide +kernel
theorem dJ2_getChar_3b067_58 : decode cJ2_getChar_3b067 58 = .ok (.i2c, 1) := by decide +kernel
theorem dJ2_getChar_3b067_59 : decode cJ2_getChar_3b067 59 = .ok (.ireturn, 1) := by decide +kernel
theorem dJ2_length_9d52b_0 : decode cJ2_length_9d52b 0 = .ok (.aload_n 0, 1) := by decide +kernel
theorem dJ2_length_9d52b_1 : decode cJ2_length_9d52b 1 = .ok (.arraylength, 1) := by decide +kernel
theorem dJ2_length_9d52b_2 : decode cJ2_length_9d52b 2 = .ok (.iconst 1, 1) := by decide +kernel
theorem dJ2_length_9d52b_3 : decode cJ2_length_9d52b 3 = .ok (.ishr, 1) := by decide +kernel
theorem dJ2_length_9d52b_4 : decode cJ2_length_9d52b 4 = .ok (.ireturn, 1) := by decide +kernel
theorem dJ2_charAt_3b067_0 : decode cJ2_charAt_3b067 0 = .ok (.iload_n 1, 1) := by decide +kernel
theorem dJ2_charAt_3b067_1 : decode cJ2_charAt_3b067 1 = .ok (.aload_n 0, 1) := by decide +kernel
theorem dJ2_charAt_3b067_2 : decode cJ2_charAt_3b067 2 = .ok (.invokestatic 67, 3) := by decide +kernel
theorem dJ2_charAt_3b067_5 : decode cJ2_charAt_3b067 5 = .ok (.aload_n 0, 1) := by decide +kernel
theorem dJ2_charAt_3b067_6 : decode cJ2_charAt_3b067 6 = .ok (.iload_n 1, 1) := by decide +kernel
theorem dJ2_charAt_3b067_7 : decode cJ2_charAt_3b067 7 = .ok (.invokestatic 71, 3) := by decide +kernel
theorem dJ2_charAt_3b067_10 : decode cJ2_charAt_3b067 10 = .ok (.ireturn, 1) := by decide +kernel
theorem dJ2_checkIndex_2214a_0 : decode cJ2_checkIndex_2214a 0 = .ok (.iload_n 0, 1) := by decide +kernel
theorem dJ2_checkIndex_2214a_1 : decode cJ2_checkIndex_2214a 1 = .ok (.aload_n 1, 1) := by decide +kernel
theorem dJ2_checkIndex_2214a_2 : decode cJ2_checkIndex_2214a 2 = .ok (.invokestatic 48, 3) := by decide +kernel
theorem dJ2_checkIndex_2214a_5 : decode cJ2_checkIndex_2214a 5 = .ok (.invokestatic 414, 3) := by decide +kernel
theorem dJ2_checkIndex_2214a_8 : decode cJ2_checkIndex_2214a 8 = .ok (.return_, 1) := by decide +kernel
theorem dJ3_checkIndex_8e157_0 : decode cJ3_checkIndex_8e157 0 = .ok (.iload_n 0, 1) := by decide +kernel
theorem dJ3_checkIndex_8e157_1 : decode cJ3_checkIndex_8e157 1 = .ok (.ifCond .lt 8, 3) := by decide +kernel
theorem dJ3_checkIndex_8e157_4 : decode cJ3_checkIndex_8e157 4 = .ok (.iload_n 0, 1) := by decide +kernel
theorem dJ3_checkIndex_8e157_5 : decode cJ3_checkIndex_8e157 5 = .ok (.iload_n 1, 1) := by decide +kernel
theorem dJ3_checkIndex_8e157_6 : decode cJ3_checkIndex_8e157 6 = .ok (.if_icmp .lt 10, 3) := by decide +kernel
theorem dJ3_checkIndex_8e157_9 : decode cJ3_checkIndex_8e157 9 = .ok (.aload_n 2, 1) := by decide +kernel
theorem dJ3_checkIndex_8e157_10 : decode cJ3_checkIndex_8e157 10 = .ok (.iload_n 0, 1) := by decide +kernel
theorem dJ3_checkIndex_8e157_11 : decode cJ3_checkIndex_8e157 11 = .ok (.iload_n 1, 1) := by decide +kernel
theorem dJ3_checkIndex_8e157_12 : decode cJ3_checkIndex_8e157 12 = .ok (.invokestatic 95, 3) := by decide +kernel
theorem dJ3_checkIndex_8e157_15 : decode cJ3_checkIndex_8e157 15 = .ok (.athrow, 1) := by decide +kernel
theorem dJ3_checkIndex_8e157_16 : decode cJ3_checkIndex_8e157 16 = .ok (.iload_n 0, 1) := by decide +kernel
theorem dJ3_checkIndex_8e157_17 : decode cJ3_checkIndex_8e157 17 = .ok (.ireturn, 1) := by decide +kernel
theorem dL_person_0 : decode cL_person 0 = .ok (.aload_n 3, 1) := by decide +kernel
theorem dL_person_1 : decode cL_person 1 = .ok (.iconst 0, 1) := by decide +kernel
theorem dL_person_2 : decode cL_person 2 = .ok (.aload_n 0, 1) := by decide +kernel
theorem dL_person_3 : decode cL_person 3 = .ok (.iload_n 1, 1) := by decide +kernel
theorem dL_person_4 : decode cL_person 4 = .ok (.iload_n 2, 1) := by decide +kernel
theorem dL_person_5 : decode cL_person 5 = .ok (.invokevirtual 7, 3) := by decide +kernel
theorem dL_person_8 : decode cL_person 8 = .ok (.i2l, 1) := by decide +kernel
theorem dL_person_9 : decode cL_person 9 = .ok (.lastore, 1) := by decide +kernel
theorem dL_person_10 : decode cL_person 10 = .ok (.goto 11, 3) := by decide +kernel
theorem dL_person_13 : decode cL_person 13 = .ok (.astore 4, 2) := by decide +kernel
theorem dL_person_15 : decode cL_person 15 = .ok (.iconst 1, 1) := by decide +kernel
theorem dL_person_16 : decode cL_person 16 = .ok (.ireturn, 1) := by decide +kernel
theorem dL_person_17 : decode cL_person 17 = .ok (.astore 4, 2) := by decide +kernel
theorem dL_person_19 : decode cL_person 19 = .ok (.iconst 2, 1) := by decide +kernel
theorem dL_person_20 : decode cL_person 20 = .ok (.ireturn, 1) := by decide +kernel
theorem dL_person_21 : decode cL_person 21 = .ok (.iconst 0, 1) := by decide +kernel
theorem dL_person_22 : decode cL_person 22 = .ok (.ireturn, 1) := by decide +kernel

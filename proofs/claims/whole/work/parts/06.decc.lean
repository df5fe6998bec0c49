theorem dX10_init_0 : decode cX10_init 0 = .ok (.aload_n 0, 1) := by decide +kernel
theorem dX10_init_1 : decode cX10_init 1 = .ok (.invokespecial 3, 3) := by decide +kernel
theorem dX10_init_4 : decode cX10_init 4 = .ok (.aload_n 0, 1) := by decide +kernel
theorem dX10_init_5 : decode cX10_init 5 = .ok (.sipush 700, 3) := by decide +kernel
theorem dX10_init_8 : decode cX10_init 8 = .ok (.newarray .int, 2) := by decide +kernel
theorem dX10_init_10 : decode cX10_init 10 = .ok (.putfield 9, 3) := by decide +kernel
theorem dX10_init_13 : decode cX10_init 13 = .ok (.aload_n 0, 1) := by decide +kernel
theorem dX10_init_14 : decode cX10_init 14 = .ok (.iconst (-1), 1) := by decide +kernel
theorem dX10_init_15 : decode cX10_init 15 = .ok (.putfield 13, 3) := by decide +kernel
theorem dX10_init_18 : decode cX10_init 18 = .ok (.aload_n 0, 1) := by decide +kernel
theorem dX10_init_19 : decode cX10_init 19 = .ok (.sipush 729, 3) := by decide +kernel
theorem dX10_init_22 : decode cX10_init 22 = .ok (.newarray .int, 2) := by decide +kernel
theorem dX10_init_24 : decode cX10_init 24 = .ok (.putfield 17, 3) := by decide +kernel
theorem dX10_init_27 : decode cX10_init 27 = .ok (.aload_n 0, 1) := by decide +kernel
theorem dX10_init_28 : decode cX10_init 28 = .ok (.sipush 729, 3) := by decide +kernel
theorem dX10_init_31 : decode cX10_init 31 = .ok (.newarray .int, 2) := by decide +kernel
theorem dX10_init_33 : decode cX10_init 33 = .ok (.putfield 20, 3) := by decide +kernel
theorem dX10_init_36 : decode cX10_init 36 = .ok (.aload_n 0, 1) := by decide +kernel
theorem dX10_init_37 : decode cX10_init 37 = .ok (.sipush 729, 3) := by decide +kernel
theorem dX10_init_40 : decode cX10_init 40 = .ok (.newarray .int, 2) := by decide +kernel
theorem dX10_init_42 : decode cX10_init 42 = .ok (.putfield 23, 3) := by decide +kernel
theorem dX10_init_45 : decode cX10_init 45 = .ok (.aload_n 0, 1) := by decide +kernel
theorem dX10_init_46 : decode cX10_init 46 = .ok (.bipush 8, 2) := by decide +kernel
theorem dX10_init_48 : decode cX10_init 48 = .ok (.sipush 729, 3) := by decide +kernel
theorem dX10_init_51 : decode cX10_init 51 = .ok (.multianewarray 26 2, 4) := by decide +kernel
theorem dX10_init_55 : decode cX10_init 55 = .ok (.putfield 28, 3) := by decide +kernel
theorem dX10_init_58 : decode cX10_init 58 = .ok (.aload_n 0, 1) := by decide +kernel
theorem dX10_init_59 : decode cX10_init 59 = .ok (.getfield 17, 3) := by decide +kernel
theorem dX10_init_62 : decode cX10_init 62 = .ok (.iconst 1, 1) := by decide +kernel
theorem dX10_init_63 : decode cX10_init 63 = .ok (.iconst 1, 1) := by decide +kernel
theorem dX10_init_64 : decode cX10_init 64 = .ok (.invokestatic 31, 3) := by decide +kernel
theorem dX10_init_67 : decode cX10_init 67 = .ok (.return_, 1) := by decide +kernel
theorem dX10_thrown_0 : decode cX10_thrown 0 = .ok (.aload_n 0, 1) := by decide +kernel
theorem dX10_thrown_1 : decode cX10_thrown 1 = .ok (.getfield 35, 3) := by decide +kernel
theorem dX10_thrown_4 : decode cX10_thrown 4 = .ok (.ireturn, 1) := by decide +kernel
theorem dX10_fails_0 : decode cX10_fails 0 = .ok (.iload_n 1, 1) := by decide +kernel
theorem dX10_fails_1 : decode cX10_fails 1 = .ok (.ifCond .eq 15, 3) := by decide +kernel
theorem dX10_fails_4 : decode cX10_fails 4 = .ok (.aload_n 0, 1) := by decide +kernel
theorem dX10_fails_5 : decode cX10_fails 5 = .ok (.getfield 35, 3) := by decide +kernel
theorem dX10_fails_8 : decode cX10_fails 8 = .ok (.ifCond .ne 8, 3) := by decide +kernel
theorem dX10_fails_11 : decode cX10_fails 11 = .ok (.aload_n 0, 1) := by decide +kernel
theorem dX10_fails_12 : decode cX10_fails 12 = .ok (.iload_n 2, 1) := by decide +kernel
theorem dX10_fails_13 : decode cX10_fails 13 = .ok (.putfield 35, 3) := by decide +kernel
theorem dX10_fails_16 : decode cX10_fails 16 = .ok (.aload_n 0, 1) := by decide +kernel
theorem dX10_fails_17 : decode cX10_fails 17 = .ok (.getfield 35, 3) := by decide +kernel
theorem dX10_fails_20 : decode cX10_fails 20 = .ok (.ifCond .eq 7, 3) := by decide +kernel
theorem dX10_fails_23 : decode cX10_fails 23 = .ok (.iconst 1, 1) := by decide +kernel
theorem dX10_fails_24 : decode cX10_fails 24 = .ok (.goto 4, 3) := by decide +kernel
theorem dX10_fails_27 : decode cX10_fails 27 = .ok (.iconst 0, 1) := by decide +kernel
theorem dX10_fails_28 : decode cX10_fails 28 = .ok (.ireturn, 1) := by decide +kernel
theorem dX10_in_0 : decode cX10_in 0 = .ok (.iload_n 0, 1) := by decide +kernel
theorem dX10_in_1 : decode cX10_in 1 = .ok (.iload_n 1, 1) := by decide +kernel
theorem dX10_in_2 : decode cX10_in 2 = .ok (.if_icmp .lt 12, 3) := by decide +kernel
theorem dX10_in_5 : decode cX10_in 5 = .ok (.iload_n 0, 1) := by decide +kernel
theorem dX10_in_6 : decode cX10_in 6 = .ok (.iload_n 2, 1) := by decide +kernel
theorem dX10_in_7 : decode cX10_in 7 = .ok (.if_icmp .gt 7, 3) := by decide +kernel
theorem dX10_in_10 : decode cX10_in 10 = .ok (.iconst 1, 1) := by decide +kernel
theorem dX10_in_11 : decode cX10_in 11 = .ok (.goto 4, 3) := by decide +kernel
theorem dX10_in_14 : decode cX10_in 14 = .ok (.iconst 0, 1) := by decide +kernel
theorem dX10_in_15 : decode cX10_in 15 = .ok (.ireturn, 1) := by decide +kernel
theorem dX10_min_0 : decode cX10_min 0 = .ok (.iload_n 0, 1) := by decide +kernel
theorem dX10_min_1 : decode cX10_min 1 = .ok (.iload_n 1, 1) := by decide +kernel
theorem dX10_min_2 : decode cX10_min 2 = .ok (.if_icmp .ge 7, 3) := by decide +kernel
theorem dX10_min_5 : decode cX10_min 5 = .ok (.iload_n 0, 1) := by decide +kernel
theorem dX10_min_6 : decode cX10_min 6 = .ok (.goto 4, 3) := by decide +kernel
theorem dX10_min_9 : decode cX10_min 9 = .ok (.iload_n 1, 1) := by decide +kernel
theorem dX10_min_10 : decode cX10_min 10 = .ok (.ireturn, 1) := by decide +kernel
theorem dX10_max_0 : decode cX10_max 0 = .ok (.iload_n 0, 1) := by decide +kernel
theorem dX10_max_1 : decode cX10_max 1 = .ok (.iload_n 1, 1) := by decide +kernel
theorem dX10_max_2 : decode cX10_max 2 = .ok (.if_icmp .le 7, 3) := by decide +kernel
theorem dX10_max_5 : decode cX10_max 5 = .ok (.iload_n 0, 1) := by decide +kernel
theorem dX10_max_6 : decode cX10_max 6 = .ok (.goto 4, 3) := by decide +kernel
theorem dX10_max_9 : decode cX10_max 9 = .ok (.iload_n 1, 1) := by decide +kernel
theorem dX10_max_10 : decode cX10_max 10 = .ok (.ireturn, 1) := by decide +kernel
theorem dX10_copy_0 : decode cX10_copy 0 = .ok (.iconst 0, 1) := by decide +kernel
theorem dX10_copy_1 : decode cX10_copy 1 = .ok (.istore_n 2, 1) := by decide +kernel
theorem dX10_copy_2 : decode cX10_copy 2 = .ok (.iload_n 2, 1) := by decide +kernel
theorem dX10_copy_3 : decode cX10_copy 3 = .ok (.sipush 729, 3) := by decide +kernel
theorem dX10_copy_6 : decode cX10_copy 6 = .ok (.if_icmp .ge 15, 3) := by decide +kernel
theorem dX10_copy_9 : decode cX10_copy 9 = .ok (.aload_n 1, 1) := by decide +kernel
theorem dX10_copy_10 : decode cX10_copy 10 = .ok (.iload_n 2, 1) := by decide +kernel
theorem dX10_copy_11 : decode cX10_copy 11 = .ok (.aload_n 0, 1) := by decide +kernel
theorem dX10_copy_12 : decode cX10_copy 12 = .ok (.iload_n 2, 1) := by decide +kernel
theorem dX10_copy_13 : decode cX10_copy 13 = .ok (.iaload, 1) := by decide +kernel
theorem dX10_copy_14 : decode cX10_copy 14 = .ok (.iastore, 1) := by decide +kernel
theorem dX10_copy_15 : decode cX10_copy 15 = .ok (.iinc 2 1, 3) := by decide +kernel
theorem dX10_copy_18 : decode cX10_copy 18 = .ok (.goto (-16), 3) := by decide +kernel
theorem dX10_copy_21 : decode cX10_copy 21 = .ok (.return_, 1) := by decide +kernel
theorem dX10_layExchange_0 : decode cX10_layExchange 0 = .ok (.iconst 0, 1) := by decide +kernel
theorem dX10_layExchange_1 : decode cX10_layExchange 1 = .ok (.istore_n 3, 1) := by decide +kernel
theorem dX10_layExchange_2 : decode cX10_layExchange 2 = .ok (.iload_n 3, 1) := by decide +kernel
theorem dX10_layExchange_3 : decode cX10_layExchange 3 = .ok (.sipush 729, 3) := by decide +kernel
theorem dX10_layExchange_6 : decode cX10_layExchange 6 = .ok (.if_icmp .ge 13, 3) := by decide +kernel
theorem dX10_layExchange_9 : decode cX10_layExchange 9 = .ok (.aload_n 0, 1) := by decide +kernel
theorem dX10_layExchange_10 : decode cX10_layExchange 10 = .ok (.iload_n 3, 1) := by decide +kernel
theorem dX10_layExchange_11 : decode cX10_layExchange 11 = .ok (.iconst 0, 1) := by decide +kernel
theorem dX10_layExchange_12 : decode cX10_layExchange 12 = .ok (.iastore, 1) := by decide +kernel
theorem dX10_layExchange_13 : decode cX10_layExchange 13 = .ok (.iinc 3 1, 3) := by decide +kernel
theorem dX10_layExchange_16 : decode cX10_layExchange 16 = .ok (.goto (-14), 3) := by decide +kernel
theorem dX10_layExchange_19 : decode cX10_layExchange 19 = .ok (.aload_n 0, 1) := by decide +kernel
theorem dX10_layExchange_20 : decode cX10_layExchange 20 = .ok (.iconst 0, 1) := by decide +kernel
theorem dX10_layExchange_21 : decode cX10_layExchange 21 = .ok (.iload_n 1, 1) := by decide +kernel
theorem dX10_layExchange_22 : decode cX10_layExchange 22 = .ok (.iastore, 1) := by decide +kernel
theorem dX10_layExchange_23 : decode cX10_layExchange 23 = .ok (.aload_n 0, 1) := by decide +kernel
theorem dX10_layExchange_24 : decode cX10_layExchange 24 = .ok (.iconst 1, 1) := by decide +kernel
theorem dX10_layExchange_25 : decode cX10_layExchange 25 = .ok (.iload_n 2, 1) := by decide +kernel
theorem dX10_layExchange_26 : decode cX10_layExchange 26 = .ok (.iastore, 1) := by decide +kernel
theorem dX10_layExchange_27 : decode cX10_layExchange 27 = .ok (.aload_n 0, 1) := by decide +kernel
theorem dX10_layExchange_28 : decode cX10_layExchange 28 = .ok (.bipush 19, 2) := by decide +kernel
theorem dX10_layExchange_30 : decode cX10_layExchange 30 = .ok (.bipush 40, 2) := by decide +kernel
theorem dX10_layExchange_32 : decode cX10_layExchange 32 = .ok (.iastore, 1) := by decide +kernel
theorem dX10_layExchange_33 : decode cX10_layExchange 33 = .ok (.aload_n 0, 1) := by decide +kernel
theorem dX10_layExchange_34 : decode cX10_layExchange 34 = .ok (.bipush 20, 2) := by decide +kernel
theorem dX10_layExchange_36 : decode cX10_layExchange 36 = .ok (.iconst 5, 1) := by decide +kernel
theorem dX10_layExchange_37 : decode cX10_layExchange 37 = .ok (.iastore, 1) := by decide +kernel
theorem dX10_layExchange_38 : decode cX10_layExchange 38 = .ok (.aload_n 0, 1) := by decide +kernel
theorem dX10_layExchange_39 : decode cX10_layExchange 39 = .ok (.bipush 21, 2) := by decide +kernel
theorem dX10_layExchange_41 : decode cX10_layExchange 41 = .ok (.iconst 2, 1) := by decide +kernel
theorem dX10_layExchange_42 : decode cX10_layExchange 42 = .ok (.iastore, 1) := by decide +kernel
theorem dX10_layExchange_43 : decode cX10_layExchange 43 = .ok (.iconst 0, 1) := by decide +kernel
theorem dX10_layExchange_44 : decode cX10_layExchange 44 = .ok (.istore_n 3, 1) := by decide +kernel
theorem dX10_layExchange_45 : decode cX10_layExchange 45 = .ok (.iload_n 3, 1) := by decide +kernel
theorem dX10_layExchange_46 : decode cX10_layExchange 46 = .ok (.iconst 4, 1) := by decide +kernel
theorem dX10_layExchange_47 : decode cX10_layExchange 47 = .ok (.if_icmp .ge 21, 3) := by decide +kernel
theorem dX10_layExchange_50 : decode cX10_layExchange 50 = .ok (.aload_n 0, 1) := by decide +kernel
theorem dX10_layExchange_51 : decode cX10_layExchange 51 = .ok (.sipush 151, 3) := by decide +kernel
theorem dX10_layExchange_54 : decode cX10_layExchange 54 = .ok (.iconst 3, 1) := by decide +kernel
theorem dX10_layExchange_55 : decode cX10_layExchange 55 = .ok (.iload_n 3, 1) := by decide +kernel
theorem dX10_layExchange_56 : decode cX10_layExchange 56 = .ok (.imul, 1) := by decide +kernel
theorem dX10_layExchange_57 : decode cX10_layExchange 57 = .ok (.iadd, 1) := by decide +kernel
theorem dX10_layExchange_58 : decode cX10_layExchange 58 = .ok (.iconst 0, 1) := by decide +kernel
theorem dX10_layExchange_59 : decode cX10_layExchange 59 = .ok (.iadd, 1) := by decide +kernel
theorem dX10_layExchange_60 : decode cX10_layExchange 60 = .ok (.iconst (-1), 1) := by decide +kernel
theorem dX10_layExchange_61 : decode cX10_layExchange 61 = .ok (.iastore, 1) := by decide +kernel
theorem dX10_layExchange_62 : decode cX10_layExchange 62 = .ok (.iinc 3 1, 3) := by decide +kernel
theorem dX10_layExchange_65 : decode cX10_layExchange 65 = .ok (.goto (-20), 3) := by decide +kernel
theorem dX10_layExchange_68 : decode cX10_layExchange 68 = .ok (.iconst 0, 1) := by decide +kernel
theorem dX10_layExchange_69 : decode cX10_layExchange 69 = .ok (.istore_n 3, 1) := by decide +kernel
theorem dX10_layExchange_70 : decode cX10_layExchange 70 = .ok (.iload_n 3, 1) := by decide +kernel
theorem dX10_layExchange_71 : decode cX10_layExchange 71 = .ok (.iconst 3, 1) := by decide +kernel
theorem dX10_layExchange_72 : decode cX10_layExchange 72 = .ok (.if_icmp .ge 21, 3) := by decide +kernel
theorem dX10_layExchange_75 : decode cX10_layExchange 75 = .ok (.aload_n 0, 1) := by decide +kernel
theorem dX10_layExchange_76 : decode cX10_layExchange 76 = .ok (.sipush 163, 3) := by decide +kernel
theorem dX10_layExchange_79 : decode cX10_layExchange 79 = .ok (.iconst 2, 1) := by decide +kernel
theorem dX10_layExchange_80 : decode cX10_layExchange 80 = .ok (.iload_n 3, 1) := by decide +kernel
theorem dX10_layExchange_81 : decode cX10_layExchange 81 = .ok (.imul, 1) := by decide +kernel
theorem dX10_layExchange_82 : decode cX10_layExchange 82 = .ok (.iadd, 1) := by decide +kernel
theorem dX10_layExchange_83 : decode cX10_layExchange 83 = .ok (.iconst 0, 1) := by decide +kernel
theorem dX10_layExchange_84 : decode cX10_layExchange 84 = .ok (.iadd, 1) := by decide +kernel
theorem dX10_layExchange_85 : decode cX10_layExchange 85 = .ok (.iconst (-1), 1) := by decide +kernel
theorem dX10_layExchange_86 : decode cX10_layExchange 86 = .ok (.iastore, 1) := by decide +kernel
theorem dX10_layExchange_87 : decode cX10_layExchange 87 = .ok (.iinc 3 1, 3) := by decide +kernel
theorem dX10_layExchange_90 : decode cX10_layExchange 90 = .ok (.goto (-20), 3) := by decide +kernel
theorem dX10_layExchange_93 : decode cX10_layExchange 93 = .ok (.return_, 1) := by decide +kernel
theorem dX10_append_0 : decode cX10_append 0 = .ok (.aload_n 0, 1) := by decide +kernel
theorem dX10_append_1 : decode cX10_append 1 = .ok (.iconst 0, 1) := by decide +kernel
theorem dX10_append_2 : decode cX10_append 2 = .ok (.putfield 35, 3) := by decide +kernel
theorem dX10_append_5 : decode cX10_append 5 = .ok (.aload_n 0, 1) := by decide +kernel
theorem dX10_append_6 : decode cX10_append 6 = .ok (.getfield 38, 3) := by decide +kernel
theorem dX10_append_9 : decode cX10_append 9 = .ok (.bipush 20, 2) := by decide +kernel
theorem dX10_append_11 : decode cX10_append 11 = .ok (.iadd, 1) := by decide +kernel
theorem dX10_append_12 : decode cX10_append 12 = .ok (.sipush 700, 3) := by decide +kernel
theorem dX10_append_15 : decode cX10_append 15 = .ok (.if_icmp .le 5, 3) := by decide +kernel
theorem dX10_append_18 : decode cX10_append 18 = .ok (.iconst (-1), 1) := by decide +kernel
theorem dX10_append_19 : decode cX10_append 19 = .ok (.ireturn, 1) := by decide +kernel
theorem dX10_append_20 : decode cX10_append 20 = .ok (.iconst 0, 1) := by decide +kernel
theorem dX10_append_21 : decode cX10_append 21 = .ok (.istore 6, 2) := by decide +kernel
theorem dX10_append_23 : decode cX10_append 23 = .ok (.iload 6, 2) := by decide +kernel
theorem dX10_append_25 : decode cX10_append 25 = .ok (.bipush 20, 2) := by decide +kernel
theorem dX10_append_27 : decode cX10_append 27 = .ok (.if_icmp .ge 93, 3) := by decide +kernel
theorem dX10_append_30 : decode cX10_append 30 = .ok (.iload 6, 2) := by decide +kernel
theorem dX10_append_32 : decode cX10_append 32 = .ok (.iconst 4, 1) := by decide +kernel
theorem dX10_append_33 : decode cX10_append 33 = .ok (.if_icmp .ge 7, 3) := by decide +kernel
theorem dX10_append_36 : decode cX10_append 36 = .ok (.iload_n 1, 1) := by decide +kernel
theorem dX10_append_37 : decode cX10_append 37 = .ok (.goto 39, 3) := by decide +kernel
theorem dX10_append_40 : decode cX10_append 40 = .ok (.iload 6, 2) := by decide +kernel
theorem dX10_append_42 : decode cX10_append 42 = .ok (.bipush 8, 2) := by decide +kernel
theorem dX10_append_44 : decode cX10_append 44 = .ok (.if_icmp .ge 7, 3) := by decide +kernel
theorem dX10_append_47 : decode cX10_append 47 = .ok (.iload_n 2, 1) := by decide +kernel
theorem dX10_append_48 : decode cX10_append 48 = .ok (.goto 28, 3) := by decide +kernel
theorem dX10_append_51 : decode cX10_append 51 = .ok (.iload 6, 2) := by decide +kernel
theorem dX10_append_53 : decode cX10_append 53 = .ok (.bipush 12, 2) := by decide +kernel
theorem dX10_append_55 : decode cX10_append 55 = .ok (.if_icmp .ge 7, 3) := by decide +kernel
theorem dX10_append_58 : decode cX10_append 58 = .ok (.iload_n 3, 1) := by decide +kernel
theorem dX10_append_59 : decode cX10_append 59 = .ok (.goto 17, 3) := by decide +kernel
theorem dX10_append_62 : decode cX10_append 62 = .ok (.iload 6, 2) := by decide +kernel
theorem dX10_append_64 : decode cX10_append 64 = .ok (.bipush 16, 2) := by decide +kernel
theorem dX10_append_66 : decode cX10_append 66 = .ok (.if_icmp .ge 8, 3) := by decide +kernel
theorem dX10_append_69 : decode cX10_append 69 = .ok (.iload 4, 2) := by decide +kernel
theorem dX10_append_71 : decode cX10_append 71 = .ok (.goto 5, 3) := by decide +kernel
theorem dX10_append_74 : decode cX10_append 74 = .ok (.iload 5, 2) := by decide +kernel
theorem dX10_append_76 : decode cX10_append 76 = .ok (.istore 7, 2) := by decide +kernel
theorem dX10_append_78 : decode cX10_append 78 = .ok (.aload_n 0, 1) := by decide +kernel
theorem dX10_append_79 : decode cX10_append 79 = .ok (.getfield 9, 3) := by decide +kernel
theorem dX10_append_82 : decode cX10_append 82 = .ok (.aload_n 0, 1) := by decide +kernel
theorem dX10_append_83 : decode cX10_append 83 = .ok (.getfield 38, 3) := by decide +kernel
theorem dX10_append_86 : decode cX10_append 86 = .ok (.iload 7, 2) := by decide +kernel
theorem dX10_append_88 : decode cX10_append 88 = .ok (.bipush 24, 2) := by decide +kernel
theorem dX10_append_90 : decode cX10_append 90 = .ok (.bipush 8, 2) := by decide +kernel
theorem dX10_append_92 : decode cX10_append 92 = .ok (.iload 6, 2) := by decide +kernel
theorem dX10_append_94 : decode cX10_append 94 = .ok (.iconst 4, 1) := by decide +kernel
theorem dX10_append_95 : decode cX10_append 95 = .ok (.irem, 1) := by decide +kernel
theorem dX10_append_96 : decode cX10_append 96 = .ok (.imul, 1) := by decide +kernel
theorem dX10_append_97 : decode cX10_append 97 = .ok (.isub, 1) := by decide +kernel
theorem dX10_append_98 : decode cX10_append 98 = .ok (.ishr, 1) := by decide +kernel
theorem dX10_append_99 : decode cX10_append 99 = .ok (.sipush 255, 3) := by decide +kernel
theorem dX10_append_102 : decode cX10_append 102 = .ok (.iand, 1) := by decide +kernel
theorem dX10_append_103 : decode cX10_append 103 = .ok (.iastore, 1) := by decide +kernel
theorem dX10_append_104 : decode cX10_append 104 = .ok (.aload_n 0, 1) := by decide +kernel
theorem dX10_append_105 : decode cX10_append 105 = .ok (.dup, 1) := by decide +kernel
theorem dX10_append_106 : decode cX10_append 106 = .ok (.getfield 38, 3) := by decide +kernel
theorem dX10_append_109 : decode cX10_append 109 = .ok (.iconst 1, 1) := by decide +kernel
theorem dX10_append_110 : decode cX10_append 110 = .ok (.iadd, 1) := by decide +kernel
theorem dX10_append_111 : decode cX10_append 111 = .ok (.putfield 38, 3) := by decide +kernel
theorem dX10_append_114 : decode cX10_append 114 = .ok (.iinc 6 1, 3) := by decide +kernel
theorem dX10_append_117 : decode cX10_append 117 = .ok (.goto (-94), 3) := by decide +kernel
theorem dX10_append_120 : decode cX10_append 120 = .ok (.aload_n 0, 1) := by decide +kernel
theorem dX10_append_121 : decode cX10_append 121 = .ok (.getfield 38, 3) := by decide +kernel
theorem dX10_append_124 : decode cX10_append 124 = .ok (.ireturn, 1) := by decide +kernel
theorem dX10_byteAt_0 : decode cX10_byteAt 0 = .ok (.iload_n 1, 1) := by decide +kernel
theorem dX10_byteAt_1 : decode cX10_byteAt 1 = .ok (.aload_n 0, 1) := by decide +kernel
theorem dX10_byteAt_2 : decode cX10_byteAt 2 = .ok (.getfield 41, 3) := by decide +kernel
theorem dX10_byteAt_5 : decode cX10_byteAt 5 = .ok (.if_icmp .ge 12, 3) := by decide +kernel
theorem dX10_byteAt_8 : decode cX10_byteAt 8 = .ok (.aload_n 0, 1) := by decide +kernel
theorem dX10_byteAt_9 : decode cX10_byteAt 9 = .ok (.getfield 9, 3) := by decide +kernel
theorem dX10_byteAt_12 : decode cX10_byteAt 12 = .ok (.iload_n 1, 1) := by decide +kernel
theorem dX10_byteAt_13 : decode cX10_byteAt 13 = .ok (.iaload, 1) := by decide +kernel
theorem dX10_byteAt_14 : decode cX10_byteAt 14 = .ok (.goto 4, 3) := by decide +kernel
theorem dX10_byteAt_17 : decode cX10_byteAt 17 = .ok (.iconst (-1), 1) := by decide +kernel
theorem dX10_byteAt_18 : decode cX10_byteAt 18 = .ok (.ireturn, 1) := by decide +kernel
theorem dX10_ahead_0 : decode cX10_ahead 0 = .ok (.aload_n 0, 1) := by decide +kernel
theorem dX10_ahead_1 : decode cX10_ahead 1 = .ok (.aload_n 0, 1) := by decide +kernel
theorem dX10_ahead_2 : decode cX10_ahead 2 = .ok (.getfield 44, 3) := by decide +kernel
theorem dX10_ahead_5 : decode cX10_ahead 5 = .ok (.invokevirtual 47, 3) := by decide +kernel
theorem dX10_ahead_8 : decode cX10_ahead 8 = .ok (.bipush 32, 2) := by decide +kernel
theorem dX10_ahead_10 : decode cX10_ahead 10 = .ok (.if_icmp .ne 16, 3) := by decide +kernel
theorem dX10_ahead_13 : decode cX10_ahead 13 = .ok (.aload_n 0, 1) := by decide +kernel
theorem dX10_ahead_14 : decode cX10_ahead 14 = .ok (.dup, 1) := by decide +kernel
theorem dX10_ahead_15 : decode cX10_ahead 15 = .ok (.getfield 44, 3) := by decide +kernel
theorem dX10_ahead_18 : decode cX10_ahead 18 = .ok (.iconst 1, 1) := by decide +kernel
theorem dX10_ahead_19 : decode cX10_ahead 19 = .ok (.iadd, 1) := by decide +kernel
theorem dX10_ahead_20 : decode cX10_ahead 20 = .ok (.putfield 44, 3) := by decide +kernel
theorem dX10_ahead_23 : decode cX10_ahead 23 = .ok (.goto (-23), 3) := by decide +kernel
theorem dX10_ahead_26 : decode cX10_ahead 26 = .ok (.aload_n 0, 1) := by decide +kernel
theorem dX10_ahead_27 : decode cX10_ahead 27 = .ok (.aload_n 0, 1) := by decide +kernel
theorem dX10_ahead_28 : decode cX10_ahead 28 = .ok (.getfield 44, 3) := by decide +kernel
theorem dX10_ahead_31 : decode cX10_ahead 31 = .ok (.invokevirtual 47, 3) := by decide +kernel
theorem dX10_ahead_34 : decode cX10_ahead 34 = .ok (.ireturn, 1) := by decide +kernel
theorem dX10_isGood_0 : decode cX10_isGood 0 = .ok (.aload_n 0, 1) := by decide +kernel
theorem dX10_isGood_1 : decode cX10_isGood 1 = .ok (.getfield 51, 3) := by decide +kernel
theorem dX10_isGood_4 : decode cX10_isGood 4 = .ok (.ifCond .ne 7, 3) := by decide +kernel
theorem dX10_isGood_7 : decode cX10_isGood 7 = .ok (.iconst 1, 1) := by decide +kernel
theorem dX10_isGood_8 : decode cX10_isGood 8 = .ok (.goto 4, 3) := by decide +kernel
theorem dX10_isGood_11 : decode cX10_isGood 11 = .ok (.iconst 0, 1) := by decide +kernel
theorem dX10_isGood_12 : decode cX10_isGood 12 = .ok (.ireturn, 1) := by decide +kernel
theorem dX10_report_0 : decode cX10_report 0 = .ok (.aload_n 0, 1) := by decide +kernel
theorem dX10_report_1 : decode cX10_report 1 = .ok (.getfield 51, 3) := by decide +kernel
theorem dX10_report_4 : decode cX10_report 4 = .ok (.ifCond .eq 4, 3) := by decide +kernel
theorem dX10_report_7 : decode cX10_report 7 = .ok (.return_, 1) := by decide +kernel
theorem dX10_report_8 : decode cX10_report 8 = .ok (.aload_n 0, 1) := by decide +kernel
theorem dX10_report_9 : decode cX10_report 9 = .ok (.iload_n 1, 1) := by decide +kernel
theorem dX10_report_10 : decode cX10_report 10 = .ok (.putfield 51, 3) := by decide +kernel
theorem dX10_report_13 : decode cX10_report 13 = .ok (.aload_n 0, 1) := by decide +kernel
theorem dX10_report_14 : decode cX10_report 14 = .ok (.iload_n 2, 1) := by decide +kernel
theorem dX10_report_15 : decode cX10_report 15 = .ok (.putfield 54, 3) := by decide +kernel
theorem dX10_report_18 : decode cX10_report 18 = .ok (.return_, 1) := by decide +kernel
theorem dX10_isDigit_0 : decode cX10_isDigit 0 = .ok (.iload_n 0, 1) := by decide +kernel
theorem dX10_isDigit_1 : decode cX10_isDigit 1 = .ok (.bipush 48, 2) := by decide +kernel
theorem dX10_isDigit_3 : decode cX10_isDigit 3 = .ok (.bipush 57, 2) := by decide +kernel
theorem dX10_isDigit_5 : decode cX10_isDigit 5 = .ok (.invokestatic 57, 3) := by decide +kernel
theorem dX10_isDigit_8 : decode cX10_isDigit 8 = .ok (.ireturn, 1) := by decide +kernel
theorem dX10_takeWord_0 : decode cX10_takeWord 0 = .ok (.aload_n 0, 1) := by decide +kernel
theorem dX10_takeWord_1 : decode cX10_takeWord 1 = .ok (.invokevirtual 61, 3) := by decide +kernel
theorem dX10_takeWord_4 : decode cX10_takeWord 4 = .ok (.ifCond .ne 5, 3) := by decide +kernel
theorem dX10_takeWord_7 : decode cX10_takeWord 7 = .ok (.iconst 0, 1) := by decide +kernel
theorem dX10_takeWord_8 : decode cX10_takeWord 8 = .ok (.ireturn, 1) := by decide +kernel
theorem dX10_takeWord_9 : decode cX10_takeWord 9 = .ok (.aload_n 0, 1) := by decide +kernel
theorem dX10_takeWord_10 : decode cX10_takeWord 10 = .ok (.invokevirtual 65, 3) := by decide +kernel
theorem dX10_takeWord_13 : decode cX10_takeWord 13 = .ok (.pop, 1) := by decide +kernel
theorem dX10_takeWord_14 : decode cX10_takeWord 14 = .ok (.iconst 0, 1) := by decide +kernel
theorem dX10_takeWord_15 : decode cX10_takeWord 15 = .ok (.istore_n 2, 1) := by decide +kernel
theorem dX10_takeWord_16 : decode cX10_takeWord 16 = .ok (.iload_n 2, 1) := by decide +kernel
theorem dX10_takeWord_17 : decode cX10_takeWord 17 = .ok (.aload_n 1, 1) := by decide +kernel
theorem dX10_takeWord_18 : decode cX10_takeWord 18 = .ok (.invokevirtual 69, 3) := by decide +kernel
theorem dX10_takeWord_21 : decode cX10_takeWord 21 = .ok (.if_icmp .ge 27, 3) := by decide +kernel
theorem dX10_takeWord_24 : decode cX10_takeWord 24 = .ok (.aload_n 0, 1) := by decide +kernel
theorem dX10_takeWord_25 : decode cX10_takeWord 25 = .ok (.aload_n 0, 1) := by decide +kernel
theorem dX10_takeWord_26 : decode cX10_takeWord 26 = .ok (.getfield 44, 3) := by decide +kernel
theorem dX10_takeWord_29 : decode cX10_takeWord 29 = .ok (.iload_n 2, 1) := by decide +kernel
theorem dX10_takeWord_30 : decode cX10_takeWord 30 = .ok (.iadd, 1) := by decide +kernel
theorem dX10_takeWord_31 : decode cX10_takeWord 31 = .ok (.invokevirtual 47, 3) := by decide +kernel
theorem dX10_takeWord_34 : decode cX10_takeWord 34 = .ok (.aload_n 1, 1) := by decide +kernel
theorem dX10_takeWord_35 : decode cX10_takeWord 35 = .ok (.iload_n 2, 1) := by decide +kernel
theorem dX10_takeWord_36 : decode cX10_takeWord 36 = .ok (.invokevirtual 74, 3) := by decide +kernel
theorem dX10_takeWord_39 : decode cX10_takeWord 39 = .ok (.if_icmp .ne 9, 3) := by decide +kernel
theorem dX10_takeWord_42 : decode cX10_takeWord 42 = .ok (.iinc 2 1, 3) := by decide +kernel
theorem dX10_takeWord_45 : decode cX10_takeWord 45 = .ok (.goto (-29), 3) := by decide +kernel
theorem dX10_takeWord_48 : decode cX10_takeWord 48 = .ok (.iload_n 2, 1) := by decide +kernel
theorem dX10_takeWord_49 : decode cX10_takeWord 49 = .ok (.aload_n 1, 1) := by decide +kernel
theorem dX10_takeWord_50 : decode cX10_takeWord 50 = .ok (.invokevirtual 69, 3) := by decide +kernel
theorem dX10_takeWord_53 : decode cX10_takeWord 53 = .ok (.if_icmp .lt 23, 3) := by decide +kernel
theorem dX10_takeWord_56 : decode cX10_takeWord 56 = .ok (.aload_n 0, 1) := by decide +kernel
theorem dX10_takeWord_57 : decode cX10_takeWord 57 = .ok (.aload_n 0, 1) := by decide +kernel
theorem dX10_takeWord_58 : decode cX10_takeWord 58 = .ok (.getfield 44, 3) := by decide +kernel
theorem dX10_takeWord_61 : decode cX10_takeWord 61 = .ok (.iload_n 2, 1) := by decide +kernel
theorem dX10_takeWord_62 : decode cX10_takeWord 62 = .ok (.iadd, 1) := by decide +kernel
theorem dX10_takeWord_63 : decode cX10_takeWord 63 = .ok (.invokevirtual 47, 3) := by decide +kernel
theorem dX10_takeWord_66 : decode cX10_takeWord 66 = .ok (.bipush 97, 2) := by decide +kernel
theorem dX10_takeWord_68 : decode cX10_takeWord 68 = .ok (.bipush 122, 2) := by decide +kernel
theorem dX10_takeWord_70 : decode cX10_takeWord 70 = .ok (.invokestatic 57, 3) := by decide +kernel
theorem dX10_takeWord_73 : decode cX10_takeWord 73 = .ok (.ifCond .eq 5, 3) := by decide +kernel
theorem dX10_takeWord_76 : decode cX10_takeWord 76 = .ok (.iconst 0, 1) := by decide +kernel
theorem dX10_takeWord_77 : decode cX10_takeWord 77 = .ok (.ireturn, 1) := by decide +kernel
theorem dX10_takeWord_78 : decode cX10_takeWord 78 = .ok (.aload_n 0, 1) := by decide +kernel
theorem dX10_takeWord_79 : decode cX10_takeWord 79 = .ok (.dup, 1) := by decide +kernel
theorem dX10_takeWord_80 : decode cX10_takeWord 80 = .ok (.getfield 44, 3) := by decide +kernel
theorem dX10_takeWord_83 : decode cX10_takeWord 83 = .ok (.iload_n 2, 1) := by decide +kernel
theorem dX10_takeWord_84 : decode cX10_takeWord 84 = .ok (.iadd, 1) := by decide +kernel
theorem dX10_takeWord_85 : decode cX10_takeWord 85 = .ok (.putfield 44, 3) := by decide +kernel
theorem dX10_takeWord_88 : decode cX10_takeWord 88 = .ok (.iconst 1, 1) := by decide +kernel
theorem dX10_takeWord_89 : decode cX10_takeWord 89 = .ok (.ireturn, 1) := by decide +kernel
theorem dX10_expect_0 : decode cX10_expect 0 = .ok (.aload_n 0, 1) := by decide +kernel
theorem dX10_expect_1 : decode cX10_expect 1 = .ok (.invokevirtual 61, 3) := by decide +kernel
theorem dX10_expect_4 : decode cX10_expect 4 = .ok (.ifCond .ne 4, 3) := by decide +kernel
theorem dX10_expect_7 : decode cX10_expect 7 = .ok (.return_, 1) := by decide +kernel
theorem dX10_expect_8 : decode cX10_expect 8 = .ok (.aload_n 0, 1) := by decide +kernel
theorem dX10_expect_9 : decode cX10_expect 9 = .ok (.invokevirtual 65, 3) := by decide +kernel
theorem dX10_expect_12 : decode cX10_expect 12 = .ok (.iload_n 1, 1) := by decide +kernel
theorem dX10_expect_13 : decode cX10_expect 13 = .ok (.if_icmp .ne 16, 3) := by decide +kernel
theorem dX10_expect_16 : decode cX10_expect 16 = .ok (.aload_n 0, 1) := by decide +kernel
theorem dX10_expect_17 : decode cX10_expect 17 = .ok (.dup, 1) := by decide +kernel
theorem dX10_expect_18 : decode cX10_expect 18 = .ok (.getfield 44, 3) := by decide +kernel
theorem dX10_expect_21 : decode cX10_expect 21 = .ok (.iconst 1, 1) := by decide +kernel
theorem dX10_expect_22 : decode cX10_expect 22 = .ok (.iadd, 1) := by decide +kernel
theorem dX10_expect_23 : decode cX10_expect 23 = .ok (.putfield 44, 3) := by decide +kernel
theorem dX10_expect_26 : decode cX10_expect 26 = .ok (.goto 13, 3) := by decide +kernel
theorem dX10_expect_29 : decode cX10_expect 29 = .ok (.aload_n 0, 1) := by decide +kernel
theorem dX10_expect_30 : decode cX10_expect 30 = .ok (.bipush (-2), 2) := by decide +kernel
theorem dX10_expect_32 : decode cX10_expect 32 = .ok (.aload_n 0, 1) := by decide +kernel
theorem dX10_expect_33 : decode cX10_expect 33 = .ok (.getfield 44, 3) := by decide +kernel
theorem dX10_expect_36 : decode cX10_expect 36 = .ok (.invokevirtual 78, 3) := by decide +kernel
theorem dX10_expect_39 : decode cX10_expect 39 = .ok (.return_, 1) := by decide +kernel
theorem dX10_number_0 : decode cX10_number 0 = .ok (.aload_n 0, 1) := by decide +kernel
theorem dX10_number_1 : decode cX10_number 1 = .ok (.invokevirtual 61, 3) := by decide +kernel
theorem dX10_number_4 : decode cX10_number 4 = .ok (.ifCond .ne 5, 3) := by decide +kernel
theorem dX10_number_7 : decode cX10_number 7 = .ok (.iconst 0, 1) := by decide +kernel
theorem dX10_number_8 : decode cX10_number 8 = .ok (.ireturn, 1) := by decide +kernel
theorem dX10_number_9 : decode cX10_number 9 = .ok (.aload_n 0, 1) := by decide +kernel
theorem dX10_number_10 : decode cX10_number 10 = .ok (.invokevirtual 65, 3) := by decide +kernel
theorem dX10_number_13 : decode cX10_number 13 = .ok (.invokestatic 82, 3) := by decide +kernel
theorem dX10_number_16 : decode cX10_number 16 = .ok (.ifCond .ne 15, 3) := by decide +kernel
theorem dX10_number_19 : decode cX10_number 19 = .ok (.aload_n 0, 1) := by decide +kernel
theorem dX10_number_20 : decode cX10_number 20 = .ok (.bipush (-2), 2) := by decide +kernel
theorem dX10_number_22 : decode cX10_number 22 = .ok (.aload_n 0, 1) := by decide +kernel
theorem dX10_number_23 : decode cX10_number 23 = .ok (.getfield 44, 3) := by decide +kernel
theorem dX10_number_26 : decode cX10_number 26 = .ok (.invokevirtual 78, 3) := by decide +kernel
theorem dX10_number_29 : decode cX10_number 29 = .ok (.iconst 0, 1) := by decide +kernel
theorem dX10_number_30 : decode cX10_number 30 = .ok (.ireturn, 1) := by decide +kernel
theorem dX10_number_31 : decode cX10_number 31 = .ok (.aload_n 0, 1) := by decide +kernel
theorem dX10_number_32 : decode cX10_number 32 = .ok (.aload_n 0, 1) := by decide +kernel
theorem dX10_number_33 : decode cX10_number 33 = .ok (.getfield 44, 3) := by decide +kernel
theorem dX10_number_36 : decode cX10_number 36 = .ok (.putfield 86, 3) := by decide +kernel
theorem dX10_number_39 : decode cX10_number 39 = .ok (.iconst 0, 1) := by decide +kernel
theorem dX10_number_40 : decode cX10_number 40 = .ok (.istore_n 3, 1) := by decide +kernel
theorem dX10_number_41 : decode cX10_number 41 = .ok (.aload_n 0, 1) := by decide +kernel
theorem dX10_number_42 : decode cX10_number 42 = .ok (.aload_n 0, 1) := by decide +kernel
theorem dX10_number_43 : decode cX10_number 43 = .ok (.getfield 44, 3) := by decide +kernel
theorem dX10_number_46 : decode cX10_number 46 = .ok (.invokevirtual 47, 3) := by decide +kernel
theorem dX10_number_49 : decode cX10_number 49 = .ok (.invokestatic 82, 3) := by decide +kernel
theorem dX10_number_52 : decode cX10_number 52 = .ok (.ifCond .eq 38, 3) := by decide +kernel
theorem dX10_number_55 : decode cX10_number 55 = .ok (.ldc 89, 2) := by decide +kernel
theorem dX10_number_57 : decode cX10_number 57 = .ok (.bipush 10, 2) := by decide +kernel
theorem dX10_number_59 : decode cX10_number 59 = .ok (.iload_n 3, 1) := by decide +kernel
theorem dX10_number_60 : decode cX10_number 60 = .ok (.imul, 1) := by decide +kernel
theorem dX10_number_61 : decode cX10_number 61 = .ok (.aload_n 0, 1) := by decide +kernel
theorem dX10_number_62 : decode cX10_number 62 = .ok (.aload_n 0, 1) := by decide +kernel
theorem dX10_number_63 : decode cX10_number 63 = .ok (.getfield 44, 3) := by decide +kernel
theorem dX10_number_66 : decode cX10_number 66 = .ok (.invokevirtual 47, 3) := by decide +kernel
theorem dX10_number_69 : decode cX10_number 69 = .ok (.iadd, 1) := by decide +kernel
theorem dX10_number_70 : decode cX10_number 70 = .ok (.bipush 48, 2) := by decide +kernel
theorem dX10_number_72 : decode cX10_number 72 = .ok (.isub, 1) := by decide +kernel
theorem dX10_number_73 : decode cX10_number 73 = .ok (.invokestatic 90, 3) := by decide +kernel
theorem dX10_number_76 : decode cX10_number 76 = .ok (.istore_n 3, 1) := by decide +kernel
theorem dX10_number_77 : decode cX10_number 77 = .ok (.aload_n 0, 1) := by decide +kernel
theorem dX10_number_78 : decode cX10_number 78 = .ok (.dup, 1) := by decide +kernel
theorem dX10_number_79 : decode cX10_number 79 = .ok (.getfield 44, 3) := by decide +kernel
theorem dX10_number_82 : decode cX10_number 82 = .ok (.iconst 1, 1) := by decide +kernel
theorem dX10_number_83 : decode cX10_number 83 = .ok (.iadd, 1) := by decide +kernel
theorem dX10_number_84 : decode cX10_number 84 = .ok (.putfield 44, 3) := by decide +kernel
theorem dX10_number_87 : decode cX10_number 87 = .ok (.goto (-46), 3) := by decide +kernel
theorem dX10_number_90 : decode cX10_number 90 = .ok (.iload_n 3, 1) := by decide +kernel
theorem dX10_number_91 : decode cX10_number 91 = .ok (.iload_n 1, 1) := by decide +kernel
theorem dX10_number_92 : decode cX10_number 92 = .ok (.iload_n 2, 1) := by decide +kernel
theorem dX10_number_93 : decode cX10_number 93 = .ok (.invokestatic 57, 3) := by decide +kernel
theorem dX10_number_96 : decode cX10_number 96 = .ok (.ifCond .ne 13, 3) := by decide +kernel
theorem dX10_number_99 : decode cX10_number 99 = .ok (.aload_n 0, 1) := by decide +kernel
theorem dX10_number_100 : decode cX10_number 100 = .ok (.bipush (-3), 2) := by decide +kernel
theorem dX10_number_102 : decode cX10_number 102 = .ok (.aload_n 0, 1) := by decide +kernel
theorem dX10_number_103 : decode cX10_number 103 = .ok (.getfield 86, 3) := by decide +kernel
theorem dX10_number_106 : decode cX10_number 106 = .ok (.invokevirtual 78, 3) := by decide +kernel
theorem dX10_number_109 : decode cX10_number 109 = .ok (.aload_n 0, 1) := by decide +kernel
theorem dX10_number_110 : decode cX10_number 110 = .ok (.invokevirtual 61, 3) := by decide +kernel
theorem dX10_number_113 : decode cX10_number 113 = .ok (.ifCond .eq 7, 3) := by decide +kernel
theorem dX10_number_116 : decode cX10_number 116 = .ok (.iload_n 3, 1) := by decide +kernel
theorem dX10_number_117 : decode cX10_number 117 = .ok (.goto 4, 3) := by decide +kernel
theorem dX10_number_120 : decode cX10_number 120 = .ok (.iconst 0, 1) := by decide +kernel
theorem dX10_number_121 : decode cX10_number 121 = .ok (.ireturn, 1) := by decide +kernel
theorem dX10_readDigits_0 : decode cX10_readDigits 0 = .ok (.aload_n 0, 1) := by decide +kernel
theorem dX10_readDigits_1 : decode cX10_readDigits 1 = .ok (.invokevirtual 65, 3) := by decide +kernel
theorem dX10_readDigits_4 : decode cX10_readDigits 4 = .ok (.istore_n 2, 1) := by decide +kernel
theorem dX10_readDigits_5 : decode cX10_readDigits 5 = .ok (.aload_n 0, 1) := by decide +kernel
theorem dX10_readDigits_6 : decode cX10_readDigits 6 = .ok (.aload_n 0, 1) := by decide +kernel
theorem dX10_readDigits_7 : decode cX10_readDigits 7 = .ok (.getfield 44, 3) := by decide +kernel
theorem dX10_readDigits_10 : decode cX10_readDigits 10 = .ok (.putfield 94, 3) := by decide +kernel
theorem dX10_readDigits_13 : decode cX10_readDigits 13 = .ok (.aload_n 0, 1) := by decide +kernel
theorem dX10_readDigits_14 : decode cX10_readDigits 14 = .ok (.iconst 0, 1) := by decide +kernel
theorem dX10_readDigits_15 : decode cX10_readDigits 15 = .ok (.putfield 97, 3) := by decide +kernel
theorem dX10_readDigits_18 : decode cX10_readDigits 18 = .ok (.aload_n 0, 1) := by decide +kernel
theorem dX10_readDigits_19 : decode cX10_readDigits 19 = .ok (.iconst 0, 1) := by decide +kernel
theorem dX10_readDigits_20 : decode cX10_readDigits 20 = .ok (.putfield 100, 3) := by decide +kernel
theorem dX10_readDigits_23 : decode cX10_readDigits 23 = .ok (.aload_n 0, 1) := by decide +kernel
theorem dX10_readDigits_24 : decode cX10_readDigits 24 = .ok (.aload_n 0, 1) := by decide +kernel
theorem dX10_readDigits_25 : decode cX10_readDigits 25 = .ok (.getfield 44, 3) := by decide +kernel
theorem dX10_readDigits_28 : decode cX10_readDigits 28 = .ok (.invokevirtual 47, 3) := by decide +kernel
theorem dX10_readDigits_31 : decode cX10_readDigits 31 = .ok (.bipush 48, 2) := by decide +kernel
theorem dX10_readDigits_33 : decode cX10_readDigits 33 = .ok (.bipush 57, 2) := by decide +kernel
theorem dX10_readDigits_35 : decode cX10_readDigits 35 = .ok (.invokestatic 57, 3) := by decide +kernel
theorem dX10_readDigits_38 : decode cX10_readDigits 38 = .ok (.ifCond .eq 58, 3) := by decide +kernel
theorem dX10_readDigits_41 : decode cX10_readDigits 41 = .ok (.aload_n 0, 1) := by decide +kernel
theorem dX10_readDigits_42 : decode cX10_readDigits 42 = .ok (.getfield 97, 3) := by decide +kernel
theorem dX10_readDigits_45 : decode cX10_readDigits 45 = .ok (.bipush 6, 2) := by decide +kernel
theorem dX10_readDigits_47 : decode cX10_readDigits 47 = .ok (.if_icmp .ge 26, 3) := by decide +kernel
theorem dX10_readDigits_50 : decode cX10_readDigits 50 = .ok (.aload_n 0, 1) := by decide +kernel
theorem dX10_readDigits_51 : decode cX10_readDigits 51 = .ok (.bipush 10, 2) := by decide +kernel
theorem dX10_readDigits_53 : decode cX10_readDigits 53 = .ok (.aload_n 0, 1) := by decide +kernel
theorem dX10_readDigits_54 : decode cX10_readDigits 54 = .ok (.getfield 100, 3) := by decide +kernel
theorem dX10_readDigits_57 : decode cX10_readDigits 57 = .ok (.imul, 1) := by decide +kernel
theorem dX10_readDigits_58 : decode cX10_readDigits 58 = .ok (.aload_n 0, 1) := by decide +kernel
theorem dX10_readDigits_59 : decode cX10_readDigits 59 = .ok (.aload_n 0, 1) := by decide +kernel
theorem dX10_readDigits_60 : decode cX10_readDigits 60 = .ok (.getfield 44, 3) := by decide +kernel
theorem dX10_readDigits_63 : decode cX10_readDigits 63 = .ok (.invokevirtual 47, 3) := by decide +kernel
theorem dX10_readDigits_66 : decode cX10_readDigits 66 = .ok (.iadd, 1) := by decide +kernel
theorem dX10_readDigits_67 : decode cX10_readDigits 67 = .ok (.bipush 48, 2) := by decide +kernel
theorem dX10_readDigits_69 : decode cX10_readDigits 69 = .ok (.isub, 1) := by decide +kernel
theorem dX10_readDigits_70 : decode cX10_readDigits 70 = .ok (.putfield 100, 3) := by decide +kernel
theorem dX10_readDigits_73 : decode cX10_readDigits 73 = .ok (.aload_n 0, 1) := by decide +kernel
theorem dX10_readDigits_74 : decode cX10_readDigits 74 = .ok (.dup, 1) := by decide +kernel
theorem dX10_readDigits_75 : decode cX10_readDigits 75 = .ok (.getfield 97, 3) := by decide +kernel
theorem dX10_readDigits_78 : decode cX10_readDigits 78 = .ok (.iconst 1, 1) := by decide +kernel
theorem dX10_readDigits_79 : decode cX10_readDigits 79 = .ok (.iadd, 1) := by decide +kernel
theorem dX10_readDigits_80 : decode cX10_readDigits 80 = .ok (.putfield 97, 3) := by decide +kernel
theorem dX10_readDigits_83 : decode cX10_readDigits 83 = .ok (.aload_n 0, 1) := by decide +kernel
theorem dX10_readDigits_84 : decode cX10_readDigits 84 = .ok (.dup, 1) := by decide +kernel
theorem dX10_readDigits_85 : decode cX10_readDigits 85 = .ok (.getfield 44, 3) := by decide +kernel
theorem dX10_readDigits_88 : decode cX10_readDigits 88 = .ok (.iconst 1, 1) := by decide +kernel
theorem dX10_readDigits_89 : decode cX10_readDigits 89 = .ok (.iadd, 1) := by decide +kernel
theorem dX10_readDigits_90 : decode cX10_readDigits 90 = .ok (.putfield 44, 3) := by decide +kernel
theorem dX10_readDigits_93 : decode cX10_readDigits 93 = .ok (.goto (-70), 3) := by decide +kernel
theorem dX10_readDigits_96 : decode cX10_readDigits 96 = .ok (.aload_n 0, 1) := by decide +kernel
theorem dX10_readDigits_97 : decode cX10_readDigits 97 = .ok (.getfield 97, 3) := by decide +kernel
theorem dX10_readDigits_100 : decode cX10_readDigits 100 = .ok (.ifCond .ne 13, 3) := by decide +kernel
theorem dX10_readDigits_103 : decode cX10_readDigits 103 = .ok (.aload_n 0, 1) := by decide +kernel
theorem dX10_readDigits_104 : decode cX10_readDigits 104 = .ok (.bipush (-2), 2) := by decide +kernel
theorem dX10_readDigits_106 : decode cX10_readDigits 106 = .ok (.aload_n 0, 1) := by decide +kernel
theorem dX10_readDigits_107 : decode cX10_readDigits 107 = .ok (.getfield 94, 3) := by decide +kernel
theorem dX10_readDigits_110 : decode cX10_readDigits 110 = .ok (.invokevirtual 78, 3) := by decide +kernel
theorem dX10_readDigits_113 : decode cX10_readDigits 113 = .ok (.aload_n 0, 1) := by decide +kernel
theorem dX10_readDigits_114 : decode cX10_readDigits 114 = .ok (.invokevirtual 61, 3) := by decide +kernel
theorem dX10_readDigits_117 : decode cX10_readDigits 117 = .ok (.ifCond .eq 21, 3) := by decide +kernel
theorem dX10_readDigits_120 : decode cX10_readDigits 120 = .ok (.aload_n 0, 1) := by decide +kernel
theorem dX10_readDigits_121 : decode cX10_readDigits 121 = .ok (.getfield 97, 3) := by decide +kernel
theorem dX10_readDigits_124 : decode cX10_readDigits 124 = .ok (.iload_n 1, 1) := by decide +kernel
theorem dX10_readDigits_125 : decode cX10_readDigits 125 = .ok (.if_icmp .le 13, 3) := by decide +kernel
theorem dX10_readDigits_128 : decode cX10_readDigits 128 = .ok (.aload_n 0, 1) := by decide +kernel
theorem dX10_readDigits_129 : decode cX10_readDigits 129 = .ok (.bipush (-3), 2) := by decide +kernel
theorem dX10_readDigits_131 : decode cX10_readDigits 131 = .ok (.aload_n 0, 1) := by decide +kernel
theorem dX10_readDigits_132 : decode cX10_readDigits 132 = .ok (.getfield 94, 3) := by decide +kernel
theorem dX10_readDigits_135 : decode cX10_readDigits 135 = .ok (.invokevirtual 78, 3) := by decide +kernel
theorem dX10_readDigits_138 : decode cX10_readDigits 138 = .ok (.return_, 1) := by decide +kernel
theorem dX10_readName_0 : decode cX10_readName 0 = .ok (.aload_n 0, 1) := by decide +kernel
theorem dX10_readName_1 : decode cX10_readName 1 = .ok (.invokevirtual 65, 3) := by decide +kernel
theorem dX10_readName_4 : decode cX10_readName 4 = .ok (.istore_n 1, 1) := by decide +kernel
theorem dX10_readName_5 : decode cX10_readName 5 = .ok (.iconst 0, 1) := by decide +kernel
theorem dX10_readName_6 : decode cX10_readName 6 = .ok (.istore_n 2, 1) := by decide +kernel
theorem dX10_readName_7 : decode cX10_readName 7 = .ok (.aload_n 0, 1) := by decide +kernel
theorem dX10_readName_8 : decode cX10_readName 8 = .ok (.aload_n 0, 1) := by decide +kernel
theorem dX10_readName_9 : decode cX10_readName 9 = .ok (.getfield 44, 3) := by decide +kernel
theorem dX10_readName_12 : decode cX10_readName 12 = .ok (.putfield 103, 3) := by decide +kernel
theorem dX10_readName_15 : decode cX10_readName 15 = .ok (.aload_n 0, 1) := by decide +kernel
theorem dX10_readName_16 : decode cX10_readName 16 = .ok (.iconst 0, 1) := by decide +kernel
theorem dX10_readName_17 : decode cX10_readName 17 = .ok (.putfield 106, 3) := by decide +kernel
theorem dX10_readName_20 : decode cX10_readName 20 = .ok (.aload_n 0, 1) := by decide +kernel
theorem dX10_readName_21 : decode cX10_readName 21 = .ok (.iconst 0, 1) := by decide +kernel
theorem dX10_readName_22 : decode cX10_readName 22 = .ok (.putfield 109, 3) := by decide +kernel
theorem dX10_readName_25 : decode cX10_readName 25 = .ok (.aload_n 0, 1) := by decide +kernel
theorem dX10_readName_26 : decode cX10_readName 26 = .ok (.aload_n 0, 1) := by decide +kernel
theorem dX10_readName_27 : decode cX10_readName 27 = .ok (.getfield 103, 3) := by decide +kernel
theorem dX10_readName_30 : decode cX10_readName 30 = .ok (.iload_n 2, 1) := by decide +kernel
theorem dX10_readName_31 : decode cX10_readName 31 = .ok (.iadd, 1) := by decide +kernel
theorem dX10_readName_32 : decode cX10_readName 32 = .ok (.invokevirtual 47, 3) := by decide +kernel
theorem dX10_readName_35 : decode cX10_readName 35 = .ok (.bipush 97, 2) := by decide +kernel
theorem dX10_readName_37 : decode cX10_readName 37 = .ok (.bipush 122, 2) := by decide +kernel
theorem dX10_readName_39 : decode cX10_readName 39 = .ok (.invokestatic 57, 3) := by decide +kernel
theorem dX10_readName_42 : decode cX10_readName 42 = .ok (.ifCond .eq 65, 3) := by decide +kernel
theorem dX10_readName_45 : decode cX10_readName 45 = .ok (.aload_n 0, 1) := by decide +kernel
theorem dX10_readName_46 : decode cX10_readName 46 = .ok (.aload_n 0, 1) := by decide +kernel
theorem dX10_readName_47 : decode cX10_readName 47 = .ok (.getfield 103, 3) := by decide +kernel
theorem dX10_readName_50 : decode cX10_readName 50 = .ok (.iload_n 2, 1) := by decide +kernel
theorem dX10_readName_51 : decode cX10_readName 51 = .ok (.iadd, 1) := by decide +kernel
theorem dX10_readName_52 : decode cX10_readName 52 = .ok (.invokevirtual 47, 3) := by decide +kernel
theorem dX10_readName_55 : decode cX10_readName 55 = .ok (.bipush 97, 2) := by decide +kernel
theorem dX10_readName_57 : decode cX10_readName 57 = .ok (.isub, 1) := by decide +kernel
theorem dX10_readName_58 : decode cX10_readName 58 = .ok (.iconst 1, 1) := by decide +kernel
theorem dX10_readName_59 : decode cX10_readName 59 = .ok (.iadd, 1) := by decide +kernel
theorem dX10_readName_60 : decode cX10_readName 60 = .ok (.istore_n 3, 1) := by decide +kernel
theorem dX10_readName_61 : decode cX10_readName 61 = .ok (.iload_n 2, 1) := by decide +kernel
theorem dX10_readName_62 : decode cX10_readName 62 = .ok (.iconst 4, 1) := by decide +kernel
theorem dX10_readName_63 : decode cX10_readName 63 = .ok (.if_icmp .ge 19, 3) := by decide +kernel
theorem dX10_readName_66 : decode cX10_readName 66 = .ok (.aload_n 0, 1) := by decide +kernel
theorem dX10_readName_67 : decode cX10_readName 67 = .ok (.bipush 27, 2) := by decide +kernel
theorem dX10_readName_69 : decode cX10_readName 69 = .ok (.aload_n 0, 1) := by decide +kernel
theorem dX10_readName_70 : decode cX10_readName 70 = .ok (.getfield 106, 3) := by decide +kernel
theorem dX10_readName_73 : decode cX10_readName 73 = .ok (.imul, 1) := by decide +kernel
theorem dX10_readName_74 : decode cX10_readName 74 = .ok (.iload_n 3, 1) := by decide +kernel
theorem dX10_readName_75 : decode cX10_readName 75 = .ok (.iadd, 1) := by decide +kernel
theorem dX10_readName_76 : decode cX10_readName 76 = .ok (.putfield 106, 3) := by decide +kernel
theorem dX10_readName_79 : decode cX10_readName 79 = .ok (.goto 22, 3) := by decide +kernel
theorem dX10_readName_82 : decode cX10_readName 82 = .ok (.iload_n 2, 1) := by decide +kernel
theorem dX10_readName_83 : decode cX10_readName 83 = .ok (.bipush 8, 2) := by decide +kernel
theorem dX10_readName_85 : decode cX10_readName 85 = .ok (.if_icmp .ge 16, 3) := by decide +kernel
theorem dX10_readName_88 : decode cX10_readName 88 = .ok (.aload_n 0, 1) := by decide +kernel
theorem dX10_readName_89 : decode cX10_readName 89 = .ok (.bipush 27, 2) := by decide +kernel
theorem dX10_readName_91 : decode cX10_readName 91 = .ok (.aload_n 0, 1) := by decide +kernel
theorem dX10_readName_92 : decode cX10_readName 92 = .ok (.getfield 109, 3) := by decide +kernel
theorem dX10_readName_95 : decode cX10_readName 95 = .ok (.imul, 1) := by decide +kernel
theorem dX10_readName_96 : decode cX10_readName 96 = .ok (.iload_n 3, 1) := by decide +kernel
theorem dX10_readName_97 : decode cX10_readName 97 = .ok (.iadd, 1) := by decide +kernel
theorem dX10_readName_98 : decode cX10_readName 98 = .ok (.putfield 109, 3) := by decide +kernel
theorem dX10_readName_101 : decode cX10_readName 101 = .ok (.iinc 2 1, 3) := by decide +kernel
theorem dX10_readName_104 : decode cX10_readName 104 = .ok (.goto (-79), 3) := by decide +kernel
theorem dX10_readName_107 : decode cX10_readName 107 = .ok (.iload_n 1, 1) := by decide +kernel
theorem dX10_readName_108 : decode cX10_readName 108 = .ok (.bipush 97, 2) := by decide +kernel
theorem dX10_readName_110 : decode cX10_readName 110 = .ok (.bipush 122, 2) := by decide +kernel
theorem dX10_readName_112 : decode cX10_readName 112 = .ok (.invokestatic 57, 3) := by decide +kernel
theorem dX10_readName_115 : decode cX10_readName 115 = .ok (.ifCond .ne 13, 3) := by decide +kernel
theorem dX10_readName_118 : decode cX10_readName 118 = .ok (.aload_n 0, 1) := by decide +kernel
theorem dX10_readName_119 : decode cX10_readName 119 = .ok (.bipush (-2), 2) := by decide +kernel
theorem dX10_readName_121 : decode cX10_readName 121 = .ok (.aload_n 0, 1) := by decide +kernel
theorem dX10_readName_122 : decode cX10_readName 122 = .ok (.getfield 103, 3) := by decide +kernel
theorem dX10_readName_125 : decode cX10_readName 125 = .ok (.invokevirtual 78, 3) := by decide +kernel
theorem dX10_readName_128 : decode cX10_readName 128 = .ok (.aload_n 0, 1) := by decide +kernel
theorem dX10_readName_129 : decode cX10_readName 129 = .ok (.invokevirtual 61, 3) := by decide +kernel
theorem dX10_readName_132 : decode cX10_readName 132 = .ok (.ifCond .eq 19, 3) := by decide +kernel
theorem dX10_readName_135 : decode cX10_readName 135 = .ok (.iload_n 2, 1) := by decide +kernel
theorem dX10_readName_136 : decode cX10_readName 136 = .ok (.bipush 8, 2) := by decide +kernel
theorem dX10_readName_138 : decode cX10_readName 138 = .ok (.if_icmp .le 13, 3) := by decide +kernel
theorem dX10_readName_141 : decode cX10_readName 141 = .ok (.aload_n 0, 1) := by decide +kernel
theorem dX10_readName_142 : decode cX10_readName 142 = .ok (.bipush (-3), 2) := by decide +kernel
theorem dX10_readName_144 : decode cX10_readName 144 = .ok (.aload_n 0, 1) := by decide +kernel
theorem dX10_readName_145 : decode cX10_readName 145 = .ok (.getfield 103, 3) := by decide +kernel
theorem dX10_readName_148 : decode cX10_readName 148 = .ok (.invokevirtual 78, 3) := by decide +kernel
theorem dX10_readName_151 : decode cX10_readName 151 = .ok (.aload_n 0, 1) := by decide +kernel
theorem dX10_readName_152 : decode cX10_readName 152 = .ok (.invokevirtual 61, 3) := by decide +kernel
theorem dX10_readName_155 : decode cX10_readName 155 = .ok (.ifCond .eq 13, 3) := by decide +kernel
theorem dX10_readName_158 : decode cX10_readName 158 = .ok (.aload_n 0, 1) := by decide +kernel
theorem dX10_readName_159 : decode cX10_readName 159 = .ok (.aload_n 0, 1) := by decide +kernel
theorem dX10_readName_160 : decode cX10_readName 160 = .ok (.getfield 103, 3) := by decide +kernel
theorem dX10_readName_163 : decode cX10_readName 163 = .ok (.iload_n 2, 1) := by decide +kernel
theorem dX10_readName_164 : decode cX10_readName 164 = .ok (.iadd, 1) := by decide +kernel
theorem dX10_readName_165 : decode cX10_readName 165 = .ok (.putfield 44, 3) := by decide +kernel
theorem dX10_readName_168 : decode cX10_readName 168 = .ok (.return_, 1) := by decide +kernel
theorem dX10_lineOf_0 : decode cX10_lineOf 0 = .ok (.iconst 0, 1) := by decide +kernel
theorem dX10_lineOf_1 : decode cX10_lineOf 1 = .ok (.istore_n 3, 1) := by decide +kernel
theorem dX10_lineOf_2 : decode cX10_lineOf 2 = .ok (.iload_n 3, 1) := by decide +kernel
theorem dX10_lineOf_3 : decode cX10_lineOf 3 = .ok (.aload_n 0, 1) := by decide +kernel
theorem dX10_lineOf_4 : decode cX10_lineOf 4 = .ok (.iconst 2, 1) := by decide +kernel
theorem dX10_lineOf_5 : decode cX10_lineOf 5 = .ok (.iaload, 1) := by decide +kernel
theorem dX10_lineOf_6 : decode cX10_lineOf 6 = .ok (.if_icmp .ge 39, 3) := by decide +kernel
theorem dX10_lineOf_9 : decode cX10_lineOf 9 = .ok (.aload_n 0, 1) := by decide +kernel
theorem dX10_lineOf_10 : decode cX10_lineOf 10 = .ok (.bipush 26, 2) := by decide +kernel
theorem dX10_lineOf_12 : decode cX10_lineOf 12 = .ok (.iconst 2, 1) := by decide +kernel
theorem dX10_lineOf_13 : decode cX10_lineOf 13 = .ok (.iload_n 3, 1) := by decide +kernel
theorem dX10_lineOf_14 : decode cX10_lineOf 14 = .ok (.imul, 1) := by decide +kernel
theorem dX10_lineOf_15 : decode cX10_lineOf 15 = .ok (.iadd, 1) := by decide +kernel
theorem dX10_lineOf_16 : decode cX10_lineOf 16 = .ok (.iconst 0, 1) := by decide +kernel
theorem dX10_lineOf_17 : decode cX10_lineOf 17 = .ok (.iadd, 1) := by decide +kernel
theorem dX10_lineOf_18 : decode cX10_lineOf 18 = .ok (.iaload, 1) := by decide +kernel
theorem dX10_lineOf_19 : decode cX10_lineOf 19 = .ok (.iload_n 1, 1) := by decide +kernel
theorem dX10_lineOf_20 : decode cX10_lineOf 20 = .ok (.if_icmp .ne 19, 3) := by decide +kernel
theorem dX10_lineOf_23 : decode cX10_lineOf 23 = .ok (.aload_n 0, 1) := by decide +kernel
theorem dX10_lineOf_24 : decode cX10_lineOf 24 = .ok (.bipush 26, 2) := by decide +kernel
theorem dX10_lineOf_26 : decode cX10_lineOf 26 = .ok (.iconst 2, 1) := by decide +kernel
theorem dX10_lineOf_27 : decode cX10_lineOf 27 = .ok (.iload_n 3, 1) := by decide +kernel
theorem dX10_lineOf_28 : decode cX10_lineOf 28 = .ok (.imul, 1) := by decide +kernel
theorem dX10_lineOf_29 : decode cX10_lineOf 29 = .ok (.iadd, 1) := by decide +kernel
theorem dX10_lineOf_30 : decode cX10_lineOf 30 = .ok (.iconst 1, 1) := by decide +kernel
theorem dX10_lineOf_31 : decode cX10_lineOf 31 = .ok (.iadd, 1) := by decide +kernel
theorem dX10_lineOf_32 : decode cX10_lineOf 32 = .ok (.iaload, 1) := by decide +kernel
theorem dX10_lineOf_33 : decode cX10_lineOf 33 = .ok (.iload_n 2, 1) := by decide +kernel
theorem dX10_lineOf_34 : decode cX10_lineOf 34 = .ok (.if_icmp .ne 5, 3) := by decide +kernel
theorem dX10_lineOf_37 : decode cX10_lineOf 37 = .ok (.iload_n 3, 1) := by decide +kernel
theorem dX10_lineOf_38 : decode cX10_lineOf 38 = .ok (.ireturn, 1) := by decide +kernel
theorem dX10_lineOf_39 : decode cX10_lineOf 39 = .ok (.iinc 3 1, 3) := by decide +kernel
theorem dX10_lineOf_42 : decode cX10_lineOf 42 = .ok (.goto (-40), 3) := by decide +kernel
theorem dX10_lineOf_45 : decode cX10_lineOf 45 = .ok (.iconst (-1), 1) := by decide +kernel
theorem dX10_lineOf_46 : decode cX10_lineOf 46 = .ok (.ireturn, 1) := by decide +kernel
theorem dX10_groupOf_0 : decode cX10_groupOf 0 = .ok (.iconst 0, 1) := by decide +kernel
theorem dX10_groupOf_1 : decode cX10_groupOf 1 = .ok (.istore_n 3, 1) := by decide +kernel
theorem dX10_groupOf_2 : decode cX10_groupOf 2 = .ok (.iload_n 3, 1) := by decide +kernel
theorem dX10_groupOf_3 : decode cX10_groupOf 3 = .ok (.aload_n 0, 1) := by decide +kernel
theorem dX10_groupOf_4 : decode cX10_groupOf 4 = .ok (.iconst 3, 1) := by decide +kernel
theorem dX10_groupOf_5 : decode cX10_groupOf 5 = .ok (.iaload, 1) := by decide +kernel
theorem dX10_groupOf_6 : decode cX10_groupOf 6 = .ok (.if_icmp .ge 43, 3) := by decide +kernel
theorem dX10_groupOf_9 : decode cX10_groupOf 9 = .ok (.aload_n 0, 1) := by decide +kernel
theorem dX10_groupOf_10 : decode cX10_groupOf 10 = .ok (.bipush 50, 2) := by decide +kernel
theorem dX10_groupOf_12 : decode cX10_groupOf 12 = .ok (.bipush 9, 2) := by decide +kernel
theorem dX10_groupOf_14 : decode cX10_groupOf 14 = .ok (.iload_n 3, 1) := by decide +kernel
theorem dX10_groupOf_15 : decode cX10_groupOf 15 = .ok (.imul, 1) := by decide +kernel
theorem dX10_groupOf_16 : decode cX10_groupOf 16 = .ok (.iadd, 1) := by decide +kernel
theorem dX10_groupOf_17 : decode cX10_groupOf 17 = .ok (.bipush 7, 2) := by decide +kernel
theorem dX10_groupOf_19 : decode cX10_groupOf 19 = .ok (.iadd, 1) := by decide +kernel
theorem dX10_groupOf_20 : decode cX10_groupOf 20 = .ok (.iaload, 1) := by decide +kernel
theorem dX10_groupOf_21 : decode cX10_groupOf 21 = .ok (.iload_n 1, 1) := by decide +kernel
theorem dX10_groupOf_22 : decode cX10_groupOf 22 = .ok (.if_icmp .ne 21, 3) := by decide +kernel
theorem dX10_groupOf_25 : decode cX10_groupOf 25 = .ok (.aload_n 0, 1) := by decide +kernel
theorem dX10_groupOf_26 : decode cX10_groupOf 26 = .ok (.bipush 50, 2) := by decide +kernel
theorem dX10_groupOf_28 : decode cX10_groupOf 28 = .ok (.bipush 9, 2) := by decide +kernel
theorem dX10_groupOf_30 : decode cX10_groupOf 30 = .ok (.iload_n 3, 1) := by decide +kernel
theorem dX10_groupOf_31 : decode cX10_groupOf 31 = .ok (.imul, 1) := by decide +kernel
theorem dX10_groupOf_32 : decode cX10_groupOf 32 = .ok (.iadd, 1) := by decide +kernel
theorem dX10_groupOf_33 : decode cX10_groupOf 33 = .ok (.bipush 8, 2) := by decide +kernel
theorem dX10_groupOf_35 : decode cX10_groupOf 35 = .ok (.iadd, 1) := by decide +kernel
theorem dX10_groupOf_36 : decode cX10_groupOf 36 = .ok (.iaload, 1) := by decide +kernel
theorem dX10_groupOf_37 : decode cX10_groupOf 37 = .ok (.iload_n 2, 1) := by decide +kernel
theorem dX10_groupOf_38 : decode cX10_groupOf 38 = .ok (.if_icmp .ne 5, 3) := by decide +kernel
theorem dX10_groupOf_41 : decode cX10_groupOf 41 = .ok (.iload_n 3, 1) := by decide +kernel
theorem dX10_groupOf_42 : decode cX10_groupOf 42 = .ok (.ireturn, 1) := by decide +kernel
theorem dX10_groupOf_43 : decode cX10_groupOf 43 = .ok (.iinc 3 1, 3) := by decide +kernel
theorem dX10_groupOf_46 : decode cX10_groupOf 46 = .ok (.goto (-44), 3) := by decide +kernel
theorem dX10_groupOf_49 : decode cX10_groupOf 49 = .ok (.iconst (-1), 1) := by decide +kernel
theorem dX10_groupOf_50 : decode cX10_groupOf 50 = .ok (.ireturn, 1) := by decide +kernel
theorem dX10_readLine_0 : decode cX10_readLine 0 = .ok (.aload_n 0, 1) := by decide +kernel
theorem dX10_readLine_1 : decode cX10_readLine 1 = .ok (.getfield 20, 3) := by decide +kernel
theorem dX10_readLine_4 : decode cX10_readLine 4 = .ok (.iconst 2, 1) := by decide +kernel
theorem dX10_readLine_5 : decode cX10_readLine 5 = .ok (.iaload, 1) := by decide +kernel
theorem dX10_readLine_6 : decode cX10_readLine 6 = .ok (.bipush 12, 2) := by decide +kernel
theorem dX10_readLine_8 : decode cX10_readLine 8 = .ok (.if_icmp .ne 10, 3) := by decide +kernel
theorem dX10_readLine_11 : decode cX10_readLine 11 = .ok (.aload_n 0, 1) := by decide +kernel
theorem dX10_readLine_12 : decode cX10_readLine 12 = .ok (.bipush (-5), 2) := by decide +kernel
theorem dX10_readLine_14 : decode cX10_readLine 14 = .ok (.iload_n 1, 1) := by decide +kernel
theorem dX10_readLine_15 : decode cX10_readLine 15 = .ok (.invokevirtual 78, 3) := by decide +kernel
theorem dX10_readLine_18 : decode cX10_readLine 18 = .ok (.aload_n 0, 1) := by decide +kernel
theorem dX10_readLine_19 : decode cX10_readLine 19 = .ok (.bipush 6, 2) := by decide +kernel
theorem dX10_readLine_21 : decode cX10_readLine 21 = .ok (.invokevirtual 112, 3) := by decide +kernel
theorem dX10_readLine_24 : decode cX10_readLine 24 = .ok (.aload_n 0, 1) := by decide +kernel
theorem dX10_readLine_25 : decode cX10_readLine 25 = .ok (.invokevirtual 61, 3) := by decide +kernel
theorem dX10_readLine_28 : decode cX10_readLine 28 = .ok (.ifCond .eq 32, 3) := by decide +kernel
theorem dX10_readLine_31 : decode cX10_readLine 31 = .ok (.aload_n 0, 1) := by decide +kernel
theorem dX10_readLine_32 : decode cX10_readLine 32 = .ok (.getfield 20, 3) := by decide +kernel
theorem dX10_readLine_35 : decode cX10_readLine 35 = .ok (.aload_n 0, 1) := by decide +kernel
theorem dX10_readLine_36 : decode cX10_readLine 36 = .ok (.getfield 97, 3) := by decide +kernel
theorem dX10_readLine_39 : decode cX10_readLine 39 = .ok (.aload_n 0, 1) := by decide +kernel
theorem dX10_readLine_40 : decode cX10_readLine 40 = .ok (.getfield 100, 3) := by decide +kernel
theorem dX10_readLine_43 : decode cX10_readLine 43 = .ok (.invokestatic 116, 3) := by decide +kernel
theorem dX10_readLine_46 : decode cX10_readLine 46 = .ok (.iconst (-1), 1) := by decide +kernel
theorem dX10_readLine_47 : decode cX10_readLine 47 = .ok (.if_icmp .eq 13, 3) := by decide +kernel
theorem dX10_readLine_50 : decode cX10_readLine 50 = .ok (.aload_n 0, 1) := by decide +kernel
theorem dX10_readLine_51 : decode cX10_readLine 51 = .ok (.bipush (-4), 2) := by decide +kernel
theorem dX10_readLine_53 : decode cX10_readLine 53 = .ok (.aload_n 0, 1) := by decide +kernel
theorem dX10_readLine_54 : decode cX10_readLine 54 = .ok (.getfield 94, 3) := by decide +kernel
theorem dX10_readLine_57 : decode cX10_readLine 57 = .ok (.invokevirtual 78, 3) := by decide +kernel
theorem dX10_readLine_60 : decode cX10_readLine 60 = .ok (.aload_n 0, 1) := by decide +kernel
theorem dX10_readLine_61 : decode cX10_readLine 61 = .ok (.invokevirtual 61, 3) := by decide +kernel
theorem dX10_readLine_64 : decode cX10_readLine 64 = .ok (.ifCond .ne 4, 3) := by decide +kernel
theorem dX10_readLine_67 : decode cX10_readLine 67 = .ok (.return_, 1) := by decide +kernel
theorem dX10_readLine_68 : decode cX10_readLine 68 = .ok (.aload_n 0, 1) := by decide +kernel
theorem dX10_readLine_69 : decode cX10_readLine 69 = .ok (.getfield 20, 3) := by decide +kernel
theorem dX10_readLine_72 : decode cX10_readLine 72 = .ok (.bipush 26, 2) := by decide +kernel
theorem dX10_readLine_74 : decode cX10_readLine 74 = .ok (.iconst 2, 1) := by decide +kernel
theorem dX10_readLine_75 : decode cX10_readLine 75 = .ok (.aload_n 0, 1) := by decide +kernel
theorem dX10_readLine_76 : decode cX10_readLine 76 = .ok (.getfield 20, 3) := by decide +kernel
theorem dX10_readLine_79 : decode cX10_readLine 79 = .ok (.iconst 2, 1) := by decide +kernel
theorem dX10_readLine_80 : decode cX10_readLine 80 = .ok (.iaload, 1) := by decide +kernel
theorem dX10_readLine_81 : decode cX10_readLine 81 = .ok (.imul, 1) := by decide +kernel
theorem dX10_readLine_82 : decode cX10_readLine 82 = .ok (.iadd, 1) := by decide +kernel
theorem dX10_readLine_83 : decode cX10_readLine 83 = .ok (.iconst 0, 1) := by decide +kernel
theorem dX10_readLine_84 : decode cX10_readLine 84 = .ok (.iadd, 1) := by decide +kernel
theorem dX10_readLine_85 : decode cX10_readLine 85 = .ok (.aload_n 0, 1) := by decide +kernel
theorem dX10_readLine_86 : decode cX10_readLine 86 = .ok (.getfield 97, 3) := by decide +kernel
theorem dX10_readLine_89 : decode cX10_readLine 89 = .ok (.iastore, 1) := by decide +kernel
theorem dX10_readLine_90 : decode cX10_readLine 90 = .ok (.aload_n 0, 1) := by decide +kernel
theorem dX10_readLine_91 : decode cX10_readLine 91 = .ok (.getfield 20, 3) := by decide +kernel
theorem dX10_readLine_94 : decode cX10_readLine 94 = .ok (.bipush 26, 2) := by decide +kernel
theorem dX10_readLine_96 : decode cX10_readLine 96 = .ok (.iconst 2, 1) := by decide +kernel
theorem dX10_readLine_97 : decode cX10_readLine 97 = .ok (.aload_n 0, 1) := by decide +kernel
theorem dX10_readLine_98 : decode cX10_readLine 98 = .ok (.getfield 20, 3) := by decide +kernel
theorem dX10_readLine_101 : decode cX10_readLine 101 = .ok (.iconst 2, 1) := by decide +kernel
theorem dX10_readLine_102 : decode cX10_readLine 102 = .ok (.iaload, 1) := by decide +kernel
theorem dX10_readLine_103 : decode cX10_readLine 103 = .ok (.imul, 1) := by decide +kernel
theorem dX10_readLine_104 : decode cX10_readLine 104 = .ok (.iadd, 1) := by decide +kernel
theorem dX10_readLine_105 : decode cX10_readLine 105 = .ok (.iconst 1, 1) := by decide +kernel
theorem dX10_readLine_106 : decode cX10_readLine 106 = .ok (.iadd, 1) := by decide +kernel
theorem dX10_readLine_107 : decode cX10_readLine 107 = .ok (.aload_n 0, 1) := by decide +kernel
theorem dX10_readLine_108 : decode cX10_readLine 108 = .ok (.getfield 100, 3) := by decide +kernel
theorem dX10_readLine_111 : decode cX10_readLine 111 = .ok (.iastore, 1) := by decide +kernel
theorem dX10_readLine_112 : decode cX10_readLine 112 = .ok (.aload_n 0, 1) := by decide +kernel
theorem dX10_readLine_113 : decode cX10_readLine 113 = .ok (.getfield 20, 3) := by decide +kernel
theorem dX10_readLine_116 : decode cX10_readLine 116 = .ok (.iconst 2, 1) := by decide +kernel
theorem dX10_readLine_117 : decode cX10_readLine 117 = .ok (.dup2, 1) := by decide +kernel
theorem dX10_readLine_118 : decode cX10_readLine 118 = .ok (.iaload, 1) := by decide +kernel
theorem dX10_readLine_119 : decode cX10_readLine 119 = .ok (.iconst 1, 1) := by decide +kernel
theorem dX10_readLine_120 : decode cX10_readLine 120 = .ok (.iadd, 1) := by decide +kernel
theorem dX10_readLine_121 : decode cX10_readLine 121 = .ok (.iastore, 1) := by decide +kernel
theorem dX10_readLine_122 : decode cX10_readLine 122 = .ok (.return_, 1) := by decide +kernel
theorem dX10_readGroup_0 : decode cX10_readGroup 0 = .ok (.aload_n 0, 1) := by decide +kernel
theorem dX10_readGroup_1 : decode cX10_readGroup 1 = .ok (.getfield 20, 3) := by decide +kernel
theorem dX10_readGroup_4 : decode cX10_readGroup 4 = .ok (.iconst 3, 1) := by decide +kernel
theorem dX10_readGroup_5 : decode cX10_readGroup 5 = .ok (.iaload, 1) := by decide +kernel
theorem dX10_readGroup_6 : decode cX10_readGroup 6 = .ok (.iconst 5, 1) := by decide +kernel
theorem dX10_readGroup_7 : decode cX10_readGroup 7 = .ok (.if_icmp .ne 10, 3) := by decide +kernel
theorem dX10_readGroup_10 : decode cX10_readGroup 10 = .ok (.aload_n 0, 1) := by decide +kernel
theorem dX10_readGroup_11 : decode cX10_readGroup 11 = .ok (.bipush (-5), 2) := by decide +kernel
theorem dX10_readGroup_13 : decode cX10_readGroup 13 = .ok (.iload_n 1, 1) := by decide +kernel
theorem dX10_readGroup_14 : decode cX10_readGroup 14 = .ok (.invokevirtual 78, 3) := by decide +kernel
theorem dX10_readGroup_17 : decode cX10_readGroup 17 = .ok (.aload_n 0, 1) := by decide +kernel
theorem dX10_readGroup_18 : decode cX10_readGroup 18 = .ok (.invokevirtual 120, 3) := by decide +kernel
theorem dX10_readGroup_21 : decode cX10_readGroup 21 = .ok (.aload_n 0, 1) := by decide +kernel
theorem dX10_readGroup_22 : decode cX10_readGroup 22 = .ok (.invokevirtual 61, 3) := by decide +kernel
theorem dX10_readGroup_25 : decode cX10_readGroup 25 = .ok (.ifCond .eq 32, 3) := by decide +kernel
theorem dX10_readGroup_28 : decode cX10_readGroup 28 = .ok (.aload_n 0, 1) := by decide +kernel
theorem dX10_readGroup_29 : decode cX10_readGroup 29 = .ok (.getfield 20, 3) := by decide +kernel
theorem dX10_readGroup_32 : decode cX10_readGroup 32 = .ok (.aload_n 0, 1) := by decide +kernel
theorem dX10_readGroup_33 : decode cX10_readGroup 33 = .ok (.getfield 106, 3) := by decide +kernel
theorem dX10_readGroup_36 : decode cX10_readGroup 36 = .ok (.aload_n 0, 1) := by decide +kernel
theorem dX10_readGroup_37 : decode cX10_readGroup 37 = .ok (.getfield 109, 3) := by decide +kernel
theorem dX10_readGroup_40 : decode cX10_readGroup 40 = .ok (.invokestatic 123, 3) := by decide +kernel
theorem dX10_readGroup_43 : decode cX10_readGroup 43 = .ok (.iconst (-1), 1) := by decide +kernel
theorem dX10_readGroup_44 : decode cX10_readGroup 44 = .ok (.if_icmp .eq 13, 3) := by decide +kernel
theorem dX10_readGroup_47 : decode cX10_readGroup 47 = .ok (.aload_n 0, 1) := by decide +kernel
theorem dX10_readGroup_48 : decode cX10_readGroup 48 = .ok (.bipush (-4), 2) := by decide +kernel
theorem dX10_readGroup_50 : decode cX10_readGroup 50 = .ok (.aload_n 0, 1) := by decide +kernel
theorem dX10_readGroup_51 : decode cX10_readGroup 51 = .ok (.getfield 103, 3) := by decide +kernel
theorem dX10_readGroup_54 : decode cX10_readGroup 54 = .ok (.invokevirtual 78, 3) := by decide +kernel
theorem dX10_readGroup_57 : decode cX10_readGroup 57 = .ok (.aload_n 0, 1) := by decide +kernel
theorem dX10_readGroup_58 : decode cX10_readGroup 58 = .ok (.getfield 106, 3) := by decide +kernel
theorem dX10_readGroup_61 : decode cX10_readGroup 61 = .ok (.istore_n 2, 1) := by decide +kernel
theorem dX10_readGroup_62 : decode cX10_readGroup 62 = .ok (.aload_n 0, 1) := by decide +kernel
theorem dX10_readGroup_63 : decode cX10_readGroup 63 = .ok (.getfield 109, 3) := by decide +kernel
theorem dX10_readGroup_66 : decode cX10_readGroup 66 = .ok (.istore_n 3, 1) := by decide +kernel
theorem dX10_readGroup_67 : decode cX10_readGroup 67 = .ok (.aload_n 0, 1) := by decide +kernel
theorem dX10_readGroup_68 : decode cX10_readGroup 68 = .ok (.iconst 1, 1) := by decide +kernel
theorem dX10_readGroup_69 : decode cX10_readGroup 69 = .ok (.bipush 8, 2) := by decide +kernel
theorem dX10_readGroup_71 : decode cX10_readGroup 71 = .ok (.invokevirtual 126, 3) := by decide +kernel
theorem dX10_readGroup_74 : decode cX10_readGroup 74 = .ok (.istore 4, 2) := by decide +kernel
theorem dX10_readGroup_76 : decode cX10_readGroup 76 = .ok (.aload_n 0, 1) := by decide +kernel
theorem dX10_readGroup_77 : decode cX10_readGroup 77 = .ok (.iconst 0, 1) := by decide +kernel
theorem dX10_readGroup_78 : decode cX10_readGroup 78 = .ok (.iload 4, 2) := by decide +kernel
theorem dX10_readGroup_80 : decode cX10_readGroup 80 = .ok (.iconst 1, 1) := by decide +kernel
theorem dX10_readGroup_81 : decode cX10_readGroup 81 = .ok (.isub, 1) := by decide +kernel
theorem dX10_readGroup_82 : decode cX10_readGroup 82 = .ok (.invokevirtual 126, 3) := by decide +kernel
theorem dX10_readGroup_85 : decode cX10_readGroup 85 = .ok (.istore 5, 2) := by decide +kernel
theorem dX10_readGroup_87 : decode cX10_readGroup 87 = .ok (.aload_n 0, 1) := by decide +kernel
theorem dX10_readGroup_88 : decode cX10_readGroup 88 = .ok (.invokevirtual 61, 3) := by decide +kernel
theorem dX10_readGroup_91 : decode cX10_readGroup 91 = .ok (.ifCond .ne 4, 3) := by decide +kernel
theorem dX10_readGroup_94 : decode cX10_readGroup 94 = .ok (.return_, 1) := by decide +kernel
theorem dX10_readGroup_95 : decode cX10_readGroup 95 = .ok (.bipush 50, 2) := by decide +kernel
theorem dX10_readGroup_97 : decode cX10_readGroup 97 = .ok (.bipush 9, 2) := by decide +kernel
theorem dX10_readGroup_99 : decode cX10_readGroup 99 = .ok (.aload_n 0, 1) := by decide +kernel
theorem dX10_readGroup_100 : decode cX10_readGroup 100 = .ok (.getfield 20, 3) := by decide +kernel
theorem dX10_readGroup_103 : decode cX10_readGroup 103 = .ok (.iconst 3, 1) := by decide +kernel
theorem dX10_readGroup_104 : decode cX10_readGroup 104 = .ok (.iaload, 1) := by decide +kernel
theorem dX10_readGroup_105 : decode cX10_readGroup 105 = .ok (.imul, 1) := by decide +kernel
theorem dX10_readGroup_106 : decode cX10_readGroup 106 = .ok (.iadd, 1) := by decide +kernel
theorem dX10_readGroup_107 : decode cX10_readGroup 107 = .ok (.istore 6, 2) := by decide +kernel
theorem dX10_readGroup_109 : decode cX10_readGroup 109 = .ok (.aload_n 0, 1) := by decide +kernel
theorem dX10_readGroup_110 : decode cX10_readGroup 110 = .ok (.getfield 20, 3) := by decide +kernel
theorem dX10_readGroup_113 : decode cX10_readGroup 113 = .ok (.iload 6, 2) := by decide +kernel
theorem dX10_readGroup_115 : decode cX10_readGroup 115 = .ok (.iconst 0, 1) := by decide +kernel
theorem dX10_readGroup_116 : decode cX10_readGroup 116 = .ok (.iadd, 1) := by decide +kernel
theorem dX10_readGroup_117 : decode cX10_readGroup 117 = .ok (.iload 4, 2) := by decide +kernel
theorem dX10_readGroup_119 : decode cX10_readGroup 119 = .ok (.iastore, 1) := by decide +kernel
theorem dX10_readGroup_120 : decode cX10_readGroup 120 = .ok (.aload_n 0, 1) := by decide +kernel
theorem dX10_readGroup_121 : decode cX10_readGroup 121 = .ok (.getfield 20, 3) := by decide +kernel
theorem dX10_readGroup_124 : decode cX10_readGroup 124 = .ok (.iload 6, 2) := by decide +kernel
theorem dX10_readGroup_126 : decode cX10_readGroup 126 = .ok (.iconst 1, 1) := by decide +kernel
theorem dX10_readGroup_127 : decode cX10_readGroup 127 = .ok (.iadd, 1) := by decide +kernel
theorem dX10_readGroup_128 : decode cX10_readGroup 128 = .ok (.iload 5, 2) := by decide +kernel
theorem dX10_readGroup_130 : decode cX10_readGroup 130 = .ok (.iastore, 1) := by decide +kernel
theorem dX10_readGroup_131 : decode cX10_readGroup 131 = .ok (.aload_n 0, 1) := by decide +kernel
theorem dX10_readGroup_132 : decode cX10_readGroup 132 = .ok (.getfield 20, 3) := by decide +kernel
theorem dX10_readGroup_135 : decode cX10_readGroup 135 = .ok (.iload 6, 2) := by decide +kernel
theorem dX10_readGroup_137 : decode cX10_readGroup 137 = .ok (.bipush 7, 2) := by decide +kernel
theorem dX10_readGroup_139 : decode cX10_readGroup 139 = .ok (.iadd, 1) := by decide +kernel
theorem dX10_readGroup_140 : decode cX10_readGroup 140 = .ok (.iload_n 2, 1) := by decide +kernel
theorem dX10_readGroup_141 : decode cX10_readGroup 141 = .ok (.iastore, 1) := by decide +kernel
theorem dX10_readGroup_142 : decode cX10_readGroup 142 = .ok (.aload_n 0, 1) := by decide +kernel
theorem dX10_readGroup_143 : decode cX10_readGroup 143 = .ok (.getfield 20, 3) := by decide +kernel
theorem dX10_readGroup_146 : decode cX10_readGroup 146 = .ok (.iload 6, 2) := by decide +kernel
theorem dX10_readGroup_148 : decode cX10_readGroup 148 = .ok (.bipush 8, 2) := by decide +kernel
theorem dX10_readGroup_150 : decode cX10_readGroup 150 = .ok (.iadd, 1) := by decide +kernel
theorem dX10_readGroup_151 : decode cX10_readGroup 151 = .ok (.iload_n 3, 1) := by decide +kernel
theorem dX10_readGroup_152 : decode cX10_readGroup 152 = .ok (.iastore, 1) := by decide +kernel
theorem dX10_readGroup_153 : decode cX10_readGroup 153 = .ok (.aload_n 0, 1) := by decide +kernel
theorem dX10_readGroup_154 : decode cX10_readGroup 154 = .ok (.getfield 20, 3) := by decide +kernel
theorem dX10_readGroup_157 : decode cX10_readGroup 157 = .ok (.iconst 3, 1) := by decide +kernel
theorem dX10_readGroup_158 : decode cX10_readGroup 158 = .ok (.dup2, 1) := by decide +kernel
theorem dX10_readGroup_159 : decode cX10_readGroup 159 = .ok (.iaload, 1) := by decide +kernel
theorem dX10_readGroup_160 : decode cX10_readGroup 160 = .ok (.iconst 1, 1) := by decide +kernel
theorem dX10_readGroup_161 : decode cX10_readGroup 161 = .ok (.iadd, 1) := by decide +kernel
theorem dX10_readGroup_162 : decode cX10_readGroup 162 = .ok (.iastore, 1) := by decide +kernel
theorem dX10_readGroup_163 : decode cX10_readGroup 163 = .ok (.return_, 1) := by decide +kernel
theorem dX10_readRoute_0 : decode cX10_readRoute 0 = .ok (.aload_n 0, 1) := by decide +kernel
theorem dX10_readRoute_1 : decode cX10_readRoute 1 = .ok (.getfield 20, 3) := by decide +kernel
theorem dX10_readRoute_4 : decode cX10_readRoute 4 = .ok (.iconst 4, 1) := by decide +kernel
theorem dX10_readRoute_5 : decode cX10_readRoute 5 = .ok (.iaload, 1) := by decide +kernel
theorem dX10_readRoute_6 : decode cX10_readRoute 6 = .ok (.bipush 8, 2) := by decide +kernel
theorem dX10_readRoute_8 : decode cX10_readRoute 8 = .ok (.if_icmp .ne 10, 3) := by decide +kernel
theorem dX10_readRoute_11 : decode cX10_readRoute 11 = .ok (.aload_n 0, 1) := by decide +kernel
theorem dX10_readRoute_12 : decode cX10_readRoute 12 = .ok (.bipush (-5), 2) := by decide +kernel
theorem dX10_readRoute_14 : decode cX10_readRoute 14 = .ok (.iload_n 1, 1) := by decide +kernel
theorem dX10_readRoute_15 : decode cX10_readRoute 15 = .ok (.invokevirtual 78, 3) := by decide +kernel
theorem dX10_readRoute_18 : decode cX10_readRoute 18 = .ok (.aload_n 0, 1) := by decide +kernel
theorem dX10_readRoute_19 : decode cX10_readRoute 19 = .ok (.iconst 5, 1) := by decide +kernel
theorem dX10_readRoute_20 : decode cX10_readRoute 20 = .ok (.invokevirtual 112, 3) := by decide +kernel
theorem dX10_readRoute_23 : decode cX10_readRoute 23 = .ok (.iconst 0, 1) := by decide +kernel
theorem dX10_readRoute_24 : decode cX10_readRoute 24 = .ok (.istore_n 2, 1) := by decide +kernel
theorem dX10_readRoute_25 : decode cX10_readRoute 25 = .ok (.iload_n 2, 1) := by decide +kernel
theorem dX10_readRoute_26 : decode cX10_readRoute 26 = .ok (.aload_n 0, 1) := by decide +kernel
theorem dX10_readRoute_27 : decode cX10_readRoute 27 = .ok (.getfield 20, 3) := by decide +kernel
theorem dX10_readRoute_30 : decode cX10_readRoute 30 = .ok (.iconst 4, 1) := by decide +kernel
theorem dX10_readRoute_31 : decode cX10_readRoute 31 = .ok (.iaload, 1) := by decide +kernel
theorem dX10_readRoute_32 : decode cX10_readRoute 32 = .ok (.if_icmp .ge 68, 3) := by decide +kernel
theorem dX10_readRoute_35 : decode cX10_readRoute 35 = .ok (.aload_n 0, 1) := by decide +kernel
theorem dX10_readRoute_36 : decode cX10_readRoute 36 = .ok (.invokevirtual 61, 3) := by decide +kernel
theorem dX10_readRoute_39 : decode cX10_readRoute 39 = .ok (.ifCond .eq 61, 3) := by decide +kernel
theorem dX10_readRoute_42 : decode cX10_readRoute 42 = .ok (.aload_n 0, 1) := by decide +kernel
theorem dX10_readRoute_43 : decode cX10_readRoute 43 = .ok (.getfield 20, 3) := by decide +kernel
theorem dX10_readRoute_46 : decode cX10_readRoute 46 = .ok (.bipush 95, 2) := by decide +kernel
theorem dX10_readRoute_48 : decode cX10_readRoute 48 = .ok (.bipush 7, 2) := by decide +kernel
theorem dX10_readRoute_50 : decode cX10_readRoute 50 = .ok (.iload_n 2, 1) := by decide +kernel
theorem dX10_readRoute_51 : decode cX10_readRoute 51 = .ok (.imul, 1) := by decide +kernel
theorem dX10_readRoute_52 : decode cX10_readRoute 52 = .ok (.iadd, 1) := by decide +kernel
theorem dX10_readRoute_53 : decode cX10_readRoute 53 = .ok (.iconst 0, 1) := by decide +kernel
theorem dX10_readRoute_54 : decode cX10_readRoute 54 = .ok (.iadd, 1) := by decide +kernel
theorem dX10_readRoute_55 : decode cX10_readRoute 55 = .ok (.iaload, 1) := by decide +kernel
theorem dX10_readRoute_56 : decode cX10_readRoute 56 = .ok (.aload_n 0, 1) := by decide +kernel
theorem dX10_readRoute_57 : decode cX10_readRoute 57 = .ok (.getfield 97, 3) := by decide +kernel
theorem dX10_readRoute_60 : decode cX10_readRoute 60 = .ok (.if_icmp .ne 34, 3) := by decide +kernel
theorem dX10_readRoute_63 : decode cX10_readRoute 63 = .ok (.aload_n 0, 1) := by decide +kernel
theorem dX10_readRoute_64 : decode cX10_readRoute 64 = .ok (.getfield 20, 3) := by decide +kernel
theorem dX10_readRoute_67 : decode cX10_readRoute 67 = .ok (.bipush 95, 2) := by decide +kernel
theorem dX10_readRoute_69 : decode cX10_readRoute 69 = .ok (.bipush 7, 2) := by decide +kernel
theorem dX10_readRoute_71 : decode cX10_readRoute 71 = .ok (.iload_n 2, 1) := by decide +kernel
theorem dX10_readRoute_72 : decode cX10_readRoute 72 = .ok (.imul, 1) := by decide +kernel
theorem dX10_readRoute_73 : decode cX10_readRoute 73 = .ok (.iadd, 1) := by decide +kernel
theorem dX10_readRoute_74 : decode cX10_readRoute 74 = .ok (.iconst 1, 1) := by decide +kernel
theorem dX10_readRoute_75 : decode cX10_readRoute 75 = .ok (.iadd, 1) := by decide +kernel
theorem dX10_readRoute_76 : decode cX10_readRoute 76 = .ok (.iaload, 1) := by decide +kernel
theorem dX10_readRoute_77 : decode cX10_readRoute 77 = .ok (.aload_n 0, 1) := by decide +kernel
theorem dX10_readRoute_78 : decode cX10_readRoute 78 = .ok (.getfield 100, 3) := by decide +kernel
theorem dX10_readRoute_81 : decode cX10_readRoute 81 = .ok (.if_icmp .ne 13, 3) := by decide +kernel
theorem dX10_readRoute_84 : decode cX10_readRoute 84 = .ok (.aload_n 0, 1) := by decide +kernel
theorem dX10_readRoute_85 : decode cX10_readRoute 85 = .ok (.bipush (-4), 2) := by decide +kernel
theorem dX10_readRoute_87 : decode cX10_readRoute 87 = .ok (.aload_n 0, 1) := by decide +kernel
theorem dX10_readRoute_88 : decode cX10_readRoute 88 = .ok (.getfield 94, 3) := by decide +kernel
theorem dX10_readRoute_91 : decode cX10_readRoute 91 = .ok (.invokevirtual 78, 3) := by decide +kernel
theorem dX10_readRoute_94 : decode cX10_readRoute 94 = .ok (.iinc 2 1, 3) := by decide +kernel
theorem dX10_readRoute_97 : decode cX10_readRoute 97 = .ok (.goto (-72), 3) := by decide +kernel
theorem dX10_readRoute_100 : decode cX10_readRoute 100 = .ok (.aload_n 0, 1) := by decide +kernel
theorem dX10_readRoute_101 : decode cX10_readRoute 101 = .ok (.getfield 97, 3) := by decide +kernel
theorem dX10_readRoute_104 : decode cX10_readRoute 104 = .ok (.istore_n 2, 1) := by decide +kernel
theorem dX10_readRoute_105 : decode cX10_readRoute 105 = .ok (.aload_n 0, 1) := by decide +kernel
theorem dX10_readRoute_106 : decode cX10_readRoute 106 = .ok (.getfield 100, 3) := by decide +kernel
theorem dX10_readRoute_109 : decode cX10_readRoute 109 = .ok (.istore_n 3, 1) := by decide +kernel
theorem dX10_readRoute_110 : decode cX10_readRoute 110 = .ok (.aload_n 0, 1) := by decide +kernel
theorem dX10_readRoute_111 : decode cX10_readRoute 111 = .ok (.iconst 1, 1) := by decide +kernel
theorem dX10_readRoute_112 : decode cX10_readRoute 112 = .ok (.iload_n 2, 1) := by decide +kernel
theorem dX10_readRoute_113 : decode cX10_readRoute 113 = .ok (.invokestatic 129, 3) := by decide +kernel
theorem dX10_readRoute_116 : decode cX10_readRoute 116 = .ok (.bipush 6, 2) := by decide +kernel
theorem dX10_readRoute_118 : decode cX10_readRoute 118 = .ok (.invokevirtual 126, 3) := by decide +kernel
theorem dX10_readRoute_121 : decode cX10_readRoute 121 = .ok (.istore 4, 2) := by decide +kernel
theorem dX10_readRoute_123 : decode cX10_readRoute 123 = .ok (.iconst 0, 1) := by decide +kernel
theorem dX10_readRoute_124 : decode cX10_readRoute 124 = .ok (.istore 5, 2) := by decide +kernel
theorem dX10_readRoute_126 : decode cX10_readRoute 126 = .ok (.aload_n 0, 1) := by decide +kernel
theorem dX10_readRoute_127 : decode cX10_readRoute 127 = .ok (.invokevirtual 61, 3) := by decide +kernel
theorem dX10_readRoute_130 : decode cX10_readRoute 130 = .ok (.ifCond .ne 4, 3) := by decide +kernel
theorem dX10_readRoute_133 : decode cX10_readRoute 133 = .ok (.return_, 1) := by decide +kernel
theorem dX10_readRoute_134 : decode cX10_readRoute 134 = .ok (.bipush 95, 2) := by decide +kernel
theorem dX10_readRoute_136 : decode cX10_readRoute 136 = .ok (.bipush 7, 2) := by decide +kernel
theorem dX10_readRoute_138 : decode cX10_readRoute 138 = .ok (.aload_n 0, 1) := by decide +kernel
theorem dX10_readRoute_139 : decode cX10_readRoute 139 = .ok (.getfield 20, 3) := by decide +kernel
theorem dX10_readRoute_142 : decode cX10_readRoute 142 = .ok (.iconst 4, 1) := by decide +kernel
theorem dX10_readRoute_143 : decode cX10_readRoute 143 = .ok (.iaload, 1) := by decide +kernel
theorem dX10_readRoute_144 : decode cX10_readRoute 144 = .ok (.imul, 1) := by decide +kernel
theorem dX10_readRoute_145 : decode cX10_readRoute 145 = .ok (.iadd, 1) := by decide +kernel
theorem dX10_readRoute_146 : decode cX10_readRoute 146 = .ok (.istore 6, 2) := by decide +kernel
theorem dX10_readRoute_148 : decode cX10_readRoute 148 = .ok (.aload_n 0, 1) := by decide +kernel
theorem dX10_readRoute_149 : decode cX10_readRoute 149 = .ok (.invokevirtual 65, 3) := by decide +kernel
theorem dX10_readRoute_152 : decode cX10_readRoute 152 = .ok (.istore 7, 2) := by decide +kernel
theorem dX10_readRoute_154 : decode cX10_readRoute 154 = .ok (.iload 5, 2) := by decide +kernel
theorem dX10_readRoute_156 : decode cX10_readRoute 156 = .ok (.iconst 3, 1) := by decide +kernel
theorem dX10_readRoute_157 : decode cX10_readRoute 157 = .ok (.if_icmp .ne 13, 3) := by decide +kernel
theorem dX10_readRoute_160 : decode cX10_readRoute 160 = .ok (.aload_n 0, 1) := by decide +kernel
theorem dX10_readRoute_161 : decode cX10_readRoute 161 = .ok (.bipush (-2), 2) := by decide +kernel
theorem dX10_readRoute_163 : decode cX10_readRoute 163 = .ok (.aload_n 0, 1) := by decide +kernel
theorem dX10_readRoute_164 : decode cX10_readRoute 164 = .ok (.getfield 44, 3) := by decide +kernel
theorem dX10_readRoute_167 : decode cX10_readRoute 167 = .ok (.invokevirtual 78, 3) := by decide +kernel
theorem dX10_readRoute_170 : decode cX10_readRoute 170 = .ok (.aload_n 0, 1) := by decide +kernel
theorem dX10_readRoute_171 : decode cX10_readRoute 171 = .ok (.invokevirtual 120, 3) := by decide +kernel
theorem dX10_readRoute_174 : decode cX10_readRoute 174 = .ok (.aload_n 0, 1) := by decide +kernel
theorem dX10_readRoute_175 : decode cX10_readRoute 175 = .ok (.getfield 20, 3) := by decide +kernel
theorem dX10_readRoute_178 : decode cX10_readRoute 178 = .ok (.aload_n 0, 1) := by decide +kernel
theorem dX10_readRoute_179 : decode cX10_readRoute 179 = .ok (.getfield 106, 3) := by decide +kernel
theorem dX10_readRoute_182 : decode cX10_readRoute 182 = .ok (.aload_n 0, 1) := by decide +kernel
theorem dX10_readRoute_183 : decode cX10_readRoute 183 = .ok (.getfield 109, 3) := by decide +kernel
theorem dX10_readRoute_186 : decode cX10_readRoute 186 = .ok (.invokestatic 123, 3) := by decide +kernel
theorem dX10_readRoute_189 : decode cX10_readRoute 189 = .ok (.istore 8, 2) := by decide +kernel
theorem dX10_readRoute_191 : decode cX10_readRoute 191 = .ok (.iload 8, 2) := by decide +kernel
theorem dX10_readRoute_193 : decode cX10_readRoute 193 = .ok (.iconst (-1), 1) := by decide +kernel
theorem dX10_readRoute_194 : decode cX10_readRoute 194 = .ok (.if_icmp .eq 7, 3) := by decide +kernel
theorem dX10_readRoute_197 : decode cX10_readRoute 197 = .ok (.iconst 1, 1) := by decide +kernel
theorem dX10_readRoute_198 : decode cX10_readRoute 198 = .ok (.goto 4, 3) := by decide +kernel
theorem dX10_readRoute_201 : decode cX10_readRoute 201 = .ok (.iconst 0, 1) := by decide +kernel
theorem dX10_readRoute_202 : decode cX10_readRoute 202 = .ok (.istore 9, 2) := by decide +kernel
theorem dX10_readRoute_204 : decode cX10_readRoute 204 = .ok (.iconst 0, 1) := by decide +kernel
theorem dX10_readRoute_205 : decode cX10_readRoute 205 = .ok (.istore 10, 2) := by decide +kernel
theorem dX10_readRoute_207 : decode cX10_readRoute 207 = .ok (.iload 10, 2) := by decide +kernel
theorem dX10_readRoute_209 : decode cX10_readRoute 209 = .ok (.iload 5, 2) := by decide +kernel
theorem dX10_readRoute_211 : decode cX10_readRoute 211 = .ok (.if_icmp .ge 38, 3) := by decide +kernel
theorem dX10_readRoute_214 : decode cX10_readRoute 214 = .ok (.iload 9, 2) := by decide +kernel
theorem dX10_readRoute_216 : decode cX10_readRoute 216 = .ok (.ifCond .eq 24, 3) := by decide +kernel
theorem dX10_readRoute_219 : decode cX10_readRoute 219 = .ok (.aload_n 0, 1) := by decide +kernel
theorem dX10_readRoute_220 : decode cX10_readRoute 220 = .ok (.getfield 20, 3) := by decide +kernel
theorem dX10_readRoute_223 : decode cX10_readRoute 223 = .ok (.iload 6, 2) := by decide +kernel
theorem dX10_readRoute_225 : decode cX10_readRoute 225 = .ok (.iconst 4, 1) := by decide +kernel
theorem dX10_readRoute_226 : decode cX10_readRoute 226 = .ok (.iadd, 1) := by decide +kernel
theorem dX10_readRoute_227 : decode cX10_readRoute 227 = .ok (.iload 10, 2) := by decide +kernel
theorem dX10_readRoute_229 : decode cX10_readRoute 229 = .ok (.iadd, 1) := by decide +kernel
theorem dX10_readRoute_230 : decode cX10_readRoute 230 = .ok (.iaload, 1) := by decide +kernel
theorem dX10_readRoute_231 : decode cX10_readRoute 231 = .ok (.iload 8, 2) := by decide +kernel
theorem dX10_readRoute_233 : decode cX10_readRoute 233 = .ok (.if_icmp .eq 7, 3) := by decide +kernel
theorem dX10_readRoute_236 : decode cX10_readRoute 236 = .ok (.iconst 1, 1) := by decide +kernel
theorem dX10_readRoute_237 : decode cX10_readRoute 237 = .ok (.goto 4, 3) := by decide +kernel
theorem dX10_readRoute_240 : decode cX10_readRoute 240 = .ok (.iconst 0, 1) := by decide +kernel
theorem dX10_readRoute_241 : decode cX10_readRoute 241 = .ok (.istore 9, 2) := by decide +kernel
theorem dX10_readRoute_243 : decode cX10_readRoute 243 = .ok (.iinc 10 1, 3) := by decide +kernel
theorem dX10_readRoute_246 : decode cX10_readRoute 246 = .ok (.goto (-39), 3) := by decide +kernel
theorem dX10_readRoute_249 : decode cX10_readRoute 249 = .ok (.aload_n 0, 1) := by decide +kernel
theorem dX10_readRoute_250 : decode cX10_readRoute 250 = .ok (.invokevirtual 61, 3) := by decide +kernel
theorem dX10_readRoute_253 : decode cX10_readRoute 253 = .ok (.ifCond .eq 18, 3) := by decide +kernel
theorem dX10_readRoute_256 : decode cX10_readRoute 256 = .ok (.iload 9, 2) := by decide +kernel
theorem dX10_readRoute_258 : decode cX10_readRoute 258 = .ok (.ifCond .ne 13, 3) := by decide +kernel
theorem dX10_readRoute_261 : decode cX10_readRoute 261 = .ok (.aload_n 0, 1) := by decide +kernel
theorem dX10_readRoute_262 : decode cX10_readRoute 262 = .ok (.bipush (-4), 2) := by decide +kernel
theorem dX10_readRoute_264 : decode cX10_readRoute 264 = .ok (.aload_n 0, 1) := by decide +kernel
theorem dX10_readRoute_265 : decode cX10_readRoute 265 = .ok (.getfield 103, 3) := by decide +kernel
theorem dX10_readRoute_268 : decode cX10_readRoute 268 = .ok (.invokevirtual 78, 3) := by decide +kernel
theorem dX10_readRoute_271 : decode cX10_readRoute 271 = .ok (.aload_n 0, 1) := by decide +kernel
theorem dX10_readRoute_272 : decode cX10_readRoute 272 = .ok (.invokevirtual 61, 3) := by decide +kernel
theorem dX10_readRoute_275 : decode cX10_readRoute 275 = .ok (.ifCond .ne 4, 3) := by decide +kernel
theorem dX10_readRoute_278 : decode cX10_readRoute 278 = .ok (.return_, 1) := by decide +kernel
theorem dX10_readRoute_279 : decode cX10_readRoute 279 = .ok (.aload_n 0, 1) := by decide +kernel
theorem dX10_readRoute_280 : decode cX10_readRoute 280 = .ok (.getfield 20, 3) := by decide +kernel
theorem dX10_readRoute_283 : decode cX10_readRoute 283 = .ok (.iload 6, 2) := by decide +kernel
theorem dX10_readRoute_285 : decode cX10_readRoute 285 = .ok (.iconst 4, 1) := by decide +kernel
theorem dX10_readRoute_286 : decode cX10_readRoute 286 = .ok (.iadd, 1) := by decide +kernel
theorem dX10_readRoute_287 : decode cX10_readRoute 287 = .ok (.iload 5, 2) := by decide +kernel
theorem dX10_readRoute_289 : decode cX10_readRoute 289 = .ok (.iadd, 1) := by decide +kernel
theorem dX10_readRoute_290 : decode cX10_readRoute 290 = .ok (.iload 8, 2) := by decide +kernel
theorem dX10_readRoute_292 : decode cX10_readRoute 292 = .ok (.iastore, 1) := by decide +kernel
theorem dX10_readRoute_293 : decode cX10_readRoute 293 = .ok (.iinc 5 1, 3) := by decide +kernel
theorem dX10_readRoute_296 : decode cX10_readRoute 296 = .ok (.aload_n 0, 1) := by decide +kernel
theorem dX10_readRoute_297 : decode cX10_readRoute 297 = .ok (.invokevirtual 65, 3) := by decide +kernel
theorem dX10_readRoute_300 : decode cX10_readRoute 300 = .ok (.bipush 97, 2) := by decide +kernel
theorem dX10_readRoute_302 : decode cX10_readRoute 302 = .ok (.bipush 122, 2) := by decide +kernel
theorem dX10_readRoute_304 : decode cX10_readRoute 304 = .ok (.invokestatic 57, 3) := by decide +kernel
theorem dX10_readRoute_307 : decode cX10_readRoute 307 = .ok (.ifCond .ne (-159), 3) := by decide +kernel
theorem dX10_readRoute_310 : decode cX10_readRoute 310 = .ok (.aload_n 0, 1) := by decide +kernel
theorem dX10_readRoute_311 : decode cX10_readRoute 311 = .ok (.getfield 20, 3) := by decide +kernel
theorem dX10_readRoute_314 : decode cX10_readRoute 314 = .ok (.iload 6, 2) := by decide +kernel
theorem dX10_readRoute_316 : decode cX10_readRoute 316 = .ok (.iconst 0, 1) := by decide +kernel
theorem dX10_readRoute_317 : decode cX10_readRoute 317 = .ok (.iadd, 1) := by decide +kernel
theorem dX10_readRoute_318 : decode cX10_readRoute 318 = .ok (.iload_n 2, 1) := by decide +kernel
theorem dX10_readRoute_319 : decode cX10_readRoute 319 = .ok (.iastore, 1) := by decide +kernel
theorem dX10_readRoute_320 : decode cX10_readRoute 320 = .ok (.aload_n 0, 1) := by decide +kernel
theorem dX10_readRoute_321 : decode cX10_readRoute 321 = .ok (.getfield 20, 3) := by decide +kernel
theorem dX10_readRoute_324 : decode cX10_readRoute 324 = .ok (.iload 6, 2) := by decide +kernel
theorem dX10_readRoute_326 : decode cX10_readRoute 326 = .ok (.iconst 1, 1) := by decide +kernel
theorem dX10_readRoute_327 : decode cX10_readRoute 327 = .ok (.iadd, 1) := by decide +kernel
theorem dX10_readRoute_328 : decode cX10_readRoute 328 = .ok (.iload_n 3, 1) := by decide +kernel
theorem dX10_readRoute_329 : decode cX10_readRoute 329 = .ok (.iastore, 1) := by decide +kernel
theorem dX10_readRoute_330 : decode cX10_readRoute 330 = .ok (.aload_n 0, 1) := by decide +kernel
theorem dX10_readRoute_331 : decode cX10_readRoute 331 = .ok (.getfield 20, 3) := by decide +kernel
theorem dX10_readRoute_334 : decode cX10_readRoute 334 = .ok (.iload 6, 2) := by decide +kernel
theorem dX10_readRoute_336 : decode cX10_readRoute 336 = .ok (.iconst 2, 1) := by decide +kernel
theorem dX10_readRoute_337 : decode cX10_readRoute 337 = .ok (.iadd, 1) := by decide +kernel
theorem dX10_readRoute_338 : decode cX10_readRoute 338 = .ok (.iload 4, 2) := by decide +kernel
theorem dX10_readRoute_340 : decode cX10_readRoute 340 = .ok (.iastore, 1) := by decide +kernel
theorem dX10_readRoute_341 : decode cX10_readRoute 341 = .ok (.aload_n 0, 1) := by decide +kernel
theorem dX10_readRoute_342 : decode cX10_readRoute 342 = .ok (.getfield 20, 3) := by decide +kernel
theorem dX10_readRoute_345 : decode cX10_readRoute 345 = .ok (.iload 6, 2) := by decide +kernel
theorem dX10_readRoute_347 : decode cX10_readRoute 347 = .ok (.iconst 3, 1) := by decide +kernel
theorem dX10_readRoute_348 : decode cX10_readRoute 348 = .ok (.iadd, 1) := by decide +kernel
theorem dX10_readRoute_349 : decode cX10_readRoute 349 = .ok (.iload 5, 2) := by decide +kernel
theorem dX10_readRoute_351 : decode cX10_readRoute 351 = .ok (.iastore, 1) := by decide +kernel
theorem dX10_readRoute_352 : decode cX10_readRoute 352 = .ok (.aload_n 0, 1) := by decide +kernel
theorem dX10_readRoute_353 : decode cX10_readRoute 353 = .ok (.getfield 20, 3) := by decide +kernel
theorem dX10_readRoute_356 : decode cX10_readRoute 356 = .ok (.iconst 4, 1) := by decide +kernel
theorem dX10_readRoute_357 : decode cX10_readRoute 357 = .ok (.dup2, 1) := by decide +kernel
theorem dX10_readRoute_358 : decode cX10_readRoute 358 = .ok (.iaload, 1) := by decide +kernel
theorem dX10_readRoute_359 : decode cX10_readRoute 359 = .ok (.iconst 1, 1) := by decide +kernel
theorem dX10_readRoute_360 : decode cX10_readRoute 360 = .ok (.iadd, 1) := by decide +kernel
theorem dX10_readRoute_361 : decode cX10_readRoute 361 = .ok (.iastore, 1) := by decide +kernel
theorem dX10_readRoute_362 : decode cX10_readRoute 362 = .ok (.return_, 1) := by decide +kernel
theorem dX10_layCall_0 : decode cX10_layCall 0 = .ok (.sipush 169, 3) := by decide +kernel
theorem dX10_layCall_3 : decode cX10_layCall 3 = .ok (.bipush 14, 2) := by decide +kernel
theorem dX10_layCall_5 : decode cX10_layCall 5 = .ok (.aload_n 0, 1) := by decide +kernel
theorem dX10_layCall_6 : decode cX10_layCall 6 = .ok (.iconst 5, 1) := by decide +kernel
theorem dX10_layCall_7 : decode cX10_layCall 7 = .ok (.iaload, 1) := by decide +kernel
theorem dX10_layCall_8 : decode cX10_layCall 8 = .ok (.imul, 1) := by decide +kernel
theorem dX10_layCall_9 : decode cX10_layCall 9 = .ok (.iadd, 1) := by decide +kernel
theorem dX10_layCall_10 : decode cX10_layCall 10 = .ok (.istore 6, 2) := by decide +kernel
theorem dX10_layCall_12 : decode cX10_layCall 12 = .ok (.iconst 0, 1) := by decide +kernel
theorem dX10_layCall_13 : decode cX10_layCall 13 = .ok (.istore 7, 2) := by decide +kernel
theorem dX10_layCall_15 : decode cX10_layCall 15 = .ok (.iload 7, 2) := by decide +kernel
theorem dX10_layCall_17 : decode cX10_layCall 17 = .ok (.bipush 14, 2) := by decide +kernel
theorem dX10_layCall_19 : decode cX10_layCall 19 = .ok (.if_icmp .ge 17, 3) := by decide +kernel
theorem dX10_layCall_22 : decode cX10_layCall 22 = .ok (.aload_n 0, 1) := by decide +kernel
theorem dX10_layCall_23 : decode cX10_layCall 23 = .ok (.iload 6, 2) := by decide +kernel
theorem dX10_layCall_25 : decode cX10_layCall 25 = .ok (.iload 7, 2) := by decide +kernel
theorem dX10_layCall_27 : decode cX10_layCall 27 = .ok (.iadd, 1) := by decide +kernel
theorem dX10_layCall_28 : decode cX10_layCall 28 = .ok (.iconst 0, 1) := by decide +kernel
theorem dX10_layCall_29 : decode cX10_layCall 29 = .ok (.iastore, 1) := by decide +kernel
theorem dX10_layCall_30 : decode cX10_layCall 30 = .ok (.iinc 7 1, 3) := by decide +kernel
theorem dX10_layCall_33 : decode cX10_layCall 33 = .ok (.goto (-18), 3) := by decide +kernel
theorem dX10_layCall_36 : decode cX10_layCall 36 = .ok (.aload_n 0, 1) := by decide +kernel
theorem dX10_layCall_37 : decode cX10_layCall 37 = .ok (.iload 6, 2) := by decide +kernel
theorem dX10_layCall_39 : decode cX10_layCall 39 = .ok (.iconst 0, 1) := by decide +kernel
theorem dX10_layCall_40 : decode cX10_layCall 40 = .ok (.iadd, 1) := by decide +kernel
theorem dX10_layCall_41 : decode cX10_layCall 41 = .ok (.iload_n 1, 1) := by decide +kernel
theorem dX10_layCall_42 : decode cX10_layCall 42 = .ok (.iastore, 1) := by decide +kernel
theorem dX10_layCall_43 : decode cX10_layCall 43 = .ok (.aload_n 0, 1) := by decide +kernel
theorem dX10_layCall_44 : decode cX10_layCall 44 = .ok (.iload 6, 2) := by decide +kernel
theorem dX10_layCall_46 : decode cX10_layCall 46 = .ok (.iconst 1, 1) := by decide +kernel
theorem dX10_layCall_47 : decode cX10_layCall 47 = .ok (.iadd, 1) := by decide +kernel
theorem dX10_layCall_48 : decode cX10_layCall 48 = .ok (.iload_n 2, 1) := by decide +kernel
theorem dX10_layCall_49 : decode cX10_layCall 49 = .ok (.iastore, 1) := by decide +kernel
theorem dX10_layCall_50 : decode cX10_layCall 50 = .ok (.aload_n 0, 1) := by decide +kernel
theorem dX10_layCall_51 : decode cX10_layCall 51 = .ok (.iload 6, 2) := by decide +kernel
theorem dX10_layCall_53 : decode cX10_layCall 53 = .ok (.bipush 11, 2) := by decide +kernel
theorem dX10_layCall_55 : decode cX10_layCall 55 = .ok (.iadd, 1) := by decide +kernel
theorem dX10_layCall_56 : decode cX10_layCall 56 = .ok (.iload_n 3, 1) := by decide +kernel
theorem dX10_layCall_57 : decode cX10_layCall 57 = .ok (.iastore, 1) := by decide +kernel
theorem dX10_layCall_58 : decode cX10_layCall 58 = .ok (.aload_n 0, 1) := by decide +kernel
theorem dX10_layCall_59 : decode cX10_layCall 59 = .ok (.iload 6, 2) := by decide +kernel
theorem dX10_layCall_61 : decode cX10_layCall 61 = .ok (.iconst 2, 1) := by decide +kernel
theorem dX10_layCall_62 : decode cX10_layCall 62 = .ok (.iadd, 1) := by decide +kernel
theorem dX10_layCall_63 : decode cX10_layCall 63 = .ok (.iload 4, 2) := by decide +kernel
theorem dX10_layCall_65 : decode cX10_layCall 65 = .ok (.iastore, 1) := by decide +kernel
theorem dX10_layCall_66 : decode cX10_layCall 66 = .ok (.aload_n 0, 1) := by decide +kernel
theorem dX10_layCall_67 : decode cX10_layCall 67 = .ok (.iload 6, 2) := by decide +kernel
theorem dX10_layCall_69 : decode cX10_layCall 69 = .ok (.iconst 3, 1) := by decide +kernel
theorem dX10_layCall_70 : decode cX10_layCall 70 = .ok (.iadd, 1) := by decide +kernel
theorem dX10_layCall_71 : decode cX10_layCall 71 = .ok (.iload 5, 2) := by decide +kernel
theorem dX10_layCall_73 : decode cX10_layCall 73 = .ok (.iastore, 1) := by decide +kernel
theorem dX10_layCall_74 : decode cX10_layCall 74 = .ok (.aload_n 0, 1) := by decide +kernel
theorem dX10_layCall_75 : decode cX10_layCall 75 = .ok (.iload 6, 2) := by decide +kernel
theorem dX10_layCall_77 : decode cX10_layCall 77 = .ok (.iconst 5, 1) := by decide +kernel
theorem dX10_layCall_78 : decode cX10_layCall 78 = .ok (.iadd, 1) := by decide +kernel
theorem dX10_layCall_79 : decode cX10_layCall 79 = .ok (.iconst (-1), 1) := by decide +kernel
theorem dX10_layCall_80 : decode cX10_layCall 80 = .ok (.iastore, 1) := by decide +kernel
theorem dX10_layCall_81 : decode cX10_layCall 81 = .ok (.aload_n 0, 1) := by decide +kernel
theorem dX10_layCall_82 : decode cX10_layCall 82 = .ok (.iload 6, 2) := by decide +kernel
theorem dX10_layCall_84 : decode cX10_layCall 84 = .ok (.bipush 6, 2) := by decide +kernel
theorem dX10_layCall_86 : decode cX10_layCall 86 = .ok (.iadd, 1) := by decide +kernel
theorem dX10_layCall_87 : decode cX10_layCall 87 = .ok (.iconst (-1), 1) := by decide +kernel
theorem dX10_layCall_88 : decode cX10_layCall 88 = .ok (.iastore, 1) := by decide +kernel
theorem dX10_layCall_89 : decode cX10_layCall 89 = .ok (.aload_n 0, 1) := by decide +kernel
theorem dX10_layCall_90 : decode cX10_layCall 90 = .ok (.iload 6, 2) := by decide +kernel
theorem dX10_layCall_92 : decode cX10_layCall 92 = .ok (.bipush 7, 2) := by decide +kernel
theorem dX10_layCall_94 : decode cX10_layCall 94 = .ok (.iadd, 1) := by decide +kernel
theorem dX10_layCall_95 : decode cX10_layCall 95 = .ok (.iconst (-1), 1) := by decide +kernel
theorem dX10_layCall_96 : decode cX10_layCall 96 = .ok (.iastore, 1) := by decide +kernel
theorem dX10_layCall_97 : decode cX10_layCall 97 = .ok (.aload_n 0, 1) := by decide +kernel
theorem dX10_layCall_98 : decode cX10_layCall 98 = .ok (.iload 6, 2) := by decide +kernel
theorem dX10_layCall_100 : decode cX10_layCall 100 = .ok (.bipush 8, 2) := by decide +kernel
theorem dX10_layCall_102 : decode cX10_layCall 102 = .ok (.iadd, 1) := by decide +kernel
theorem dX10_layCall_103 : decode cX10_layCall 103 = .ok (.iconst (-1), 1) := by decide +kernel
theorem dX10_layCall_104 : decode cX10_layCall 104 = .ok (.iastore, 1) := by decide +kernel
theorem dX10_layCall_105 : decode cX10_layCall 105 = .ok (.aload_n 0, 1) := by decide +kernel
theorem dX10_layCall_106 : decode cX10_layCall 106 = .ok (.iload 6, 2) := by decide +kernel
theorem dX10_layCall_108 : decode cX10_layCall 108 = .ok (.bipush 10, 2) := by decide +kernel
theorem dX10_layCall_110 : decode cX10_layCall 110 = .ok (.iadd, 1) := by decide +kernel
theorem dX10_layCall_111 : decode cX10_layCall 111 = .ok (.iconst (-1), 1) := by decide +kernel
theorem dX10_layCall_112 : decode cX10_layCall 112 = .ok (.iastore, 1) := by decide +kernel
theorem dX10_layCall_113 : decode cX10_layCall 113 = .ok (.aload_n 0, 1) := by decide +kernel
theorem dX10_layCall_114 : decode cX10_layCall 114 = .ok (.iconst 5, 1) := by decide +kernel
theorem dX10_layCall_115 : decode cX10_layCall 115 = .ok (.dup2, 1) := by decide +kernel
theorem dX10_layCall_116 : decode cX10_layCall 116 = .ok (.iaload, 1) := by decide +kernel
theorem dX10_layCall_117 : decode cX10_layCall 117 = .ok (.iconst 1, 1) := by decide +kernel
theorem dX10_layCall_118 : decode cX10_layCall 118 = .ok (.iadd, 1) := by decide +kernel
theorem dX10_layCall_119 : decode cX10_layCall 119 = .ok (.iastore, 1) := by decide +kernel
theorem dX10_layCall_120 : decode cX10_layCall 120 = .ok (.return_, 1) := by decide +kernel
theorem dX10_readCall_0 : decode cX10_readCall 0 = .ok (.aload_n 0, 1) := by decide +kernel
theorem dX10_readCall_1 : decode cX10_readCall 1 = .ok (.getfield 20, 3) := by decide +kernel
theorem dX10_readCall_4 : decode cX10_readCall 4 = .ok (.iconst 5, 1) := by decide +kernel
theorem dX10_readCall_5 : decode cX10_readCall 5 = .ok (.iaload, 1) := by decide +kernel
theorem dX10_readCall_6 : decode cX10_readCall 6 = .ok (.bipush 40, 2) := by decide +kernel
theorem dX10_readCall_8 : decode cX10_readCall 8 = .ok (.if_icmp .ne 10, 3) := by decide +kernel
theorem dX10_readCall_11 : decode cX10_readCall 11 = .ok (.aload_n 0, 1) := by decide +kernel
theorem dX10_readCall_12 : decode cX10_readCall 12 = .ok (.bipush (-5), 2) := by decide +kernel
theorem dX10_readCall_14 : decode cX10_readCall 14 = .ok (.iload_n 1, 1) := by decide +kernel
theorem dX10_readCall_15 : decode cX10_readCall 15 = .ok (.invokevirtual 78, 3) := by decide +kernel
theorem dX10_readCall_18 : decode cX10_readCall 18 = .ok (.aload_n 0, 1) := by decide +kernel
theorem dX10_readCall_19 : decode cX10_readCall 19 = .ok (.sipush 700, 3) := by decide +kernel
theorem dX10_readCall_22 : decode cX10_readCall 22 = .ok (.invokevirtual 112, 3) := by decide +kernel
theorem dX10_readCall_25 : decode cX10_readCall 25 = .ok (.aload_n 0, 1) := by decide +kernel
theorem dX10_readCall_26 : decode cX10_readCall 26 = .ok (.getfield 97, 3) := by decide +kernel
theorem dX10_readCall_29 : decode cX10_readCall 29 = .ok (.bipush 6, 2) := by decide +kernel
theorem dX10_readCall_31 : decode cX10_readCall 31 = .ok (.if_icmp .le 7, 3) := by decide +kernel
theorem dX10_readCall_34 : decode cX10_readCall 34 = .ok (.iconst (-1), 1) := by decide +kernel
theorem dX10_readCall_35 : decode cX10_readCall 35 = .ok (.goto 18, 3) := by decide +kernel
theorem dX10_readCall_38 : decode cX10_readCall 38 = .ok (.aload_n 0, 1) := by decide +kernel
theorem dX10_readCall_39 : decode cX10_readCall 39 = .ok (.getfield 20, 3) := by decide +kernel
theorem dX10_readCall_42 : decode cX10_readCall 42 = .ok (.aload_n 0, 1) := by decide +kernel
theorem dX10_readCall_43 : decode cX10_readCall 43 = .ok (.getfield 97, 3) := by decide +kernel
theorem dX10_readCall_46 : decode cX10_readCall 46 = .ok (.aload_n 0, 1) := by decide +kernel
theorem dX10_readCall_47 : decode cX10_readCall 47 = .ok (.getfield 100, 3) := by decide +kernel
theorem dX10_readCall_50 : decode cX10_readCall 50 = .ok (.invokestatic 116, 3) := by decide +kernel
theorem dX10_readCall_53 : decode cX10_readCall 53 = .ok (.istore_n 2, 1) := by decide +kernel
theorem dX10_readCall_54 : decode cX10_readCall 54 = .ok (.aload_n 0, 1) := by decide +kernel
theorem dX10_readCall_55 : decode cX10_readCall 55 = .ok (.invokevirtual 61, 3) := by decide +kernel
theorem dX10_readCall_58 : decode cX10_readCall 58 = .ok (.ifCond .eq 18, 3) := by decide +kernel
theorem dX10_readCall_61 : decode cX10_readCall 61 = .ok (.iload_n 2, 1) := by decide +kernel
theorem dX10_readCall_62 : decode cX10_readCall 62 = .ok (.iconst (-1), 1) := by decide +kernel
theorem dX10_readCall_63 : decode cX10_readCall 63 = .ok (.if_icmp .ne 13, 3) := by decide +kernel
theorem dX10_readCall_66 : decode cX10_readCall 66 = .ok (.aload_n 0, 1) := by decide +kernel
theorem dX10_readCall_67 : decode cX10_readCall 67 = .ok (.bipush (-4), 2) := by decide +kernel
theorem dX10_readCall_69 : decode cX10_readCall 69 = .ok (.aload_n 0, 1) := by decide +kernel
theorem dX10_readCall_70 : decode cX10_readCall 70 = .ok (.getfield 94, 3) := by decide +kernel
theorem dX10_readCall_73 : decode cX10_readCall 73 = .ok (.invokevirtual 78, 3) := by decide +kernel
theorem dX10_readCall_76 : decode cX10_readCall 76 = .ok (.aload_n 0, 1) := by decide +kernel
theorem dX10_readCall_77 : decode cX10_readCall 77 = .ok (.invokevirtual 61, 3) := by decide +kernel
theorem dX10_readCall_80 : decode cX10_readCall 80 = .ok (.ifCond .ne 4, 3) := by decide +kernel
theorem dX10_readCall_83 : decode cX10_readCall 83 = .ok (.return_, 1) := by decide +kernel
theorem dX10_readCall_84 : decode cX10_readCall 84 = .ok (.aload_n 0, 1) := by decide +kernel
theorem dX10_readCall_85 : decode cX10_readCall 85 = .ok (.bipush 6, 2) := by decide +kernel
theorem dX10_readCall_87 : decode cX10_readCall 87 = .ok (.invokevirtual 112, 3) := by decide +kernel
theorem dX10_readCall_90 : decode cX10_readCall 90 = .ok (.aload_n 0, 1) := by decide +kernel
theorem dX10_readCall_91 : decode cX10_readCall 91 = .ok (.getfield 97, 3) := by decide +kernel
theorem dX10_readCall_94 : decode cX10_readCall 94 = .ok (.istore_n 3, 1) := by decide +kernel
theorem dX10_readCall_95 : decode cX10_readCall 95 = .ok (.aload_n 0, 1) := by decide +kernel
theorem dX10_readCall_96 : decode cX10_readCall 96 = .ok (.getfield 100, 3) := by decide +kernel
theorem dX10_readCall_99 : decode cX10_readCall 99 = .ok (.istore 4, 2) := by decide +kernel
theorem dX10_readCall_101 : decode cX10_readCall 101 = .ok (.aload_n 0, 1) := by decide +kernel
theorem dX10_readCall_102 : decode cX10_readCall 102 = .ok (.iconst 1, 1) := by decide +kernel
theorem dX10_readCall_103 : decode cX10_readCall 103 = .ok (.bipush 99, 2) := by decide +kernel
theorem dX10_readCall_105 : decode cX10_readCall 105 = .ok (.invokevirtual 126, 3) := by decide +kernel
theorem dX10_readCall_108 : decode cX10_readCall 108 = .ok (.istore 5, 2) := by decide +kernel
theorem dX10_readCall_110 : decode cX10_readCall 110 = .ok (.aload_n 0, 1) := by decide +kernel
theorem dX10_readCall_111 : decode cX10_readCall 111 = .ok (.iconst 1, 1) := by decide +kernel
theorem dX10_readCall_112 : decode cX10_readCall 112 = .ok (.sipush 999, 3) := by decide +kernel
theorem dX10_readCall_115 : decode cX10_readCall 115 = .ok (.invokevirtual 126, 3) := by decide +kernel
theorem dX10_readCall_118 : decode cX10_readCall 118 = .ok (.istore 6, 2) := by decide +kernel
theorem dX10_readCall_120 : decode cX10_readCall 120 = .ok (.aload_n 0, 1) := by decide +kernel
theorem dX10_readCall_121 : decode cX10_readCall 121 = .ok (.invokevirtual 61, 3) := by decide +kernel
theorem dX10_readCall_124 : decode cX10_readCall 124 = .ok (.ifCond .eq 18, 3) := by decide +kernel
theorem dX10_readCall_127 : decode cX10_readCall 127 = .ok (.aload_n 0, 1) := by decide +kernel
theorem dX10_readCall_128 : decode cX10_readCall 128 = .ok (.getfield 20, 3) := by decide +kernel
theorem dX10_readCall_131 : decode cX10_readCall 131 = .ok (.iload_n 2, 1) := by decide +kernel
theorem dX10_readCall_132 : decode cX10_readCall 132 = .ok (.iload_n 3, 1) := by decide +kernel
theorem dX10_readCall_133 : decode cX10_readCall 133 = .ok (.iload 4, 2) := by decide +kernel
theorem dX10_readCall_135 : decode cX10_readCall 135 = .ok (.iload 5, 2) := by decide +kernel
theorem dX10_readCall_137 : decode cX10_readCall 137 = .ok (.iload 6, 2) := by decide +kernel
theorem dX10_readCall_139 : decode cX10_readCall 139 = .ok (.invokestatic 132, 3) := by decide +kernel
theorem dX10_readCall_142 : decode cX10_readCall 142 = .ok (.return_, 1) := by decide +kernel
theorem dX10_readOne_0 : decode cX10_readOne 0 = .ok (.aload_n 0, 1) := by decide +kernel
theorem dX10_readOne_1 : decode cX10_readOne 1 = .ok (.getfield 136, 3) := by decide +kernel
theorem dX10_readOne_4 : decode cX10_readOne 4 = .ok (.iload_n 1, 1) := by decide +kernel
theorem dX10_readOne_5 : decode cX10_readOne 5 = .ok (.ishr, 1) := by decide +kernel
theorem dX10_readOne_6 : decode cX10_readOne 6 = .ok (.iconst 1, 1) := by decide +kernel
theorem dX10_readOne_7 : decode cX10_readOne 7 = .ok (.iand, 1) := by decide +kernel
theorem dX10_readOne_8 : decode cX10_readOne 8 = .ok (.iconst 1, 1) := by decide +kernel
theorem dX10_readOne_9 : decode cX10_readOne 9 = .ok (.if_icmp .ne 10, 3) := by decide +kernel
theorem dX10_readOne_12 : decode cX10_readOne 12 = .ok (.aload_n 0, 1) := by decide +kernel
theorem dX10_readOne_13 : decode cX10_readOne 13 = .ok (.bipush (-2), 2) := by decide +kernel
theorem dX10_readOne_15 : decode cX10_readOne 15 = .ok (.iload_n 2, 1) := by decide +kernel
theorem dX10_readOne_16 : decode cX10_readOne 16 = .ok (.invokevirtual 78, 3) := by decide +kernel
theorem dX10_readOne_19 : decode cX10_readOne 19 = .ok (.aload_n 0, 1) := by decide +kernel
theorem dX10_readOne_20 : decode cX10_readOne 20 = .ok (.dup, 1) := by decide +kernel
theorem dX10_readOne_21 : decode cX10_readOne 21 = .ok (.getfield 136, 3) := by decide +kernel
theorem dX10_readOne_24 : decode cX10_readOne 24 = .ok (.iconst 1, 1) := by decide +kernel
theorem dX10_readOne_25 : decode cX10_readOne 25 = .ok (.iload_n 1, 1) := by decide +kernel
theorem dX10_readOne_26 : decode cX10_readOne 26 = .ok (.ishl, 1) := by decide +kernel
theorem dX10_readOne_27 : decode cX10_readOne 27 = .ok (.ior, 1) := by decide +kernel
theorem dX10_readOne_28 : decode cX10_readOne 28 = .ok (.putfield 136, 3) := by decide +kernel
theorem dX10_readOne_31 : decode cX10_readOne 31 = .ok (.aload_n 0, 1) := by decide +kernel
theorem dX10_readOne_32 : decode cX10_readOne 32 = .ok (.getfield 20, 3) := by decide +kernel
theorem dX10_readOne_35 : decode cX10_readOne 35 = .ok (.iload_n 3, 1) := by decide +kernel
theorem dX10_readOne_36 : decode cX10_readOne 36 = .ok (.aload_n 0, 1) := by decide +kernel
theorem dX10_readOne_37 : decode cX10_readOne 37 = .ok (.iconst 1, 1) := by decide +kernel
theorem dX10_readOne_38 : decode cX10_readOne 38 = .ok (.iload 4, 2) := by decide +kernel
theorem dX10_readOne_40 : decode cX10_readOne 40 = .ok (.invokevirtual 126, 3) := by decide +kernel
theorem dX10_readOne_43 : decode cX10_readOne 43 = .ok (.iastore, 1) := by decide +kernel
theorem dX10_readOne_44 : decode cX10_readOne 44 = .ok (.return_, 1) := by decide +kernel
theorem dX10_statement_0 : decode cX10_statement 0 = .ok (.aload_n 0, 1) := by decide +kernel
theorem dX10_statement_1 : decode cX10_statement 1 = .ok (.invokevirtual 65, 3) := by decide +kernel
theorem dX10_statement_4 : decode cX10_statement 4 = .ok (.pop, 1) := by decide +kernel
theorem dX10_statement_5 : decode cX10_statement 5 = .ok (.aload_n 0, 1) := by decide +kernel
theorem dX10_statement_6 : decode cX10_statement 6 = .ok (.getfield 44, 3) := by decide +kernel
theorem dX10_statement_9 : decode cX10_statement 9 = .ok (.istore_n 1, 1) := by decide +kernel
theorem dX10_statement_10 : decode cX10_statement 10 = .ok (.aload_n 0, 1) := by decide +kernel
theorem dX10_statement_11 : decode cX10_statement 11 = .ok (.ldc 139, 2) := by decide +kernel
theorem dX10_statement_13 : decode cX10_statement 13 = .ok (.invokevirtual 141, 3) := by decide +kernel
theorem dX10_statement_16 : decode cX10_statement 16 = .ok (.ifCond .eq 11, 3) := by decide +kernel
theorem dX10_statement_19 : decode cX10_statement 19 = .ok (.aload_n 0, 1) := by decide +kernel
theorem dX10_statement_20 : decode cX10_statement 20 = .ok (.iload_n 1, 1) := by decide +kernel
theorem dX10_statement_21 : decode cX10_statement 21 = .ok (.invokevirtual 145, 3) := by decide +kernel
theorem dX10_statement_24 : decode cX10_statement 24 = .ok (.goto 127, 3) := by decide +kernel
theorem dX10_statement_27 : decode cX10_statement 27 = .ok (.aload_n 0, 1) := by decide +kernel
theorem dX10_statement_28 : decode cX10_statement 28 = .ok (.ldc 148, 2) := by decide +kernel
theorem dX10_statement_30 : decode cX10_statement 30 = .ok (.invokevirtual 141, 3) := by decide +kernel
theorem dX10_statement_33 : decode cX10_statement 33 = .ok (.ifCond .eq 11, 3) := by decide +kernel
theorem dX10_statement_36 : decode cX10_statement 36 = .ok (.aload_n 0, 1) := by decide +kernel
theorem dX10_statement_37 : decode cX10_statement 37 = .ok (.iload_n 1, 1) := by decide +kernel
theorem dX10_statement_38 : decode cX10_statement 38 = .ok (.invokevirtual 150, 3) := by decide +kernel
theorem dX10_statement_41 : decode cX10_statement 41 = .ok (.goto 110, 3) := by decide +kernel
theorem dX10_statement_44 : decode cX10_statement 44 = .ok (.aload_n 0, 1) := by decide +kernel
theorem dX10_statement_45 : decode cX10_statement 45 = .ok (.ldc 153, 2) := by decide +kernel
theorem dX10_statement_47 : decode cX10_statement 47 = .ok (.invokevirtual 141, 3) := by decide +kernel
theorem dX10_statement_50 : decode cX10_statement 50 = .ok (.ifCond .eq 11, 3) := by decide +kernel
theorem dX10_statement_53 : decode cX10_statement 53 = .ok (.aload_n 0, 1) := by decide +kernel
theorem dX10_statement_54 : decode cX10_statement 54 = .ok (.iload_n 1, 1) := by decide +kernel
theorem dX10_statement_55 : decode cX10_statement 55 = .ok (.invokevirtual 155, 3) := by decide +kernel
theorem dX10_statement_58 : decode cX10_statement 58 = .ok (.goto 93, 3) := by decide +kernel
theorem dX10_statement_61 : decode cX10_statement 61 = .ok (.aload_n 0, 1) := by decide +kernel
theorem dX10_statement_62 : decode cX10_statement 62 = .ok (.ldc 158, 2) := by decide +kernel
theorem dX10_statement_64 : decode cX10_statement 64 = .ok (.invokevirtual 141, 3) := by decide +kernel
theorem dX10_statement_67 : decode cX10_statement 67 = .ok (.ifCond .eq 11, 3) := by decide +kernel
theorem dX10_statement_70 : decode cX10_statement 70 = .ok (.aload_n 0, 1) := by decide +kernel
theorem dX10_statement_71 : decode cX10_statement 71 = .ok (.iload_n 1, 1) := by decide +kernel
theorem dX10_statement_72 : decode cX10_statement 72 = .ok (.invokevirtual 160, 3) := by decide +kernel
theorem dX10_statement_75 : decode cX10_statement 75 = .ok (.goto 76, 3) := by decide +kernel
theorem dX10_statement_78 : decode cX10_statement 78 = .ok (.aload_n 0, 1) := by decide +kernel
theorem dX10_statement_79 : decode cX10_statement 79 = .ok (.ldc 163, 2) := by decide +kernel
theorem dX10_statement_81 : decode cX10_statement 81 = .ok (.invokevirtual 141, 3) := by decide +kernel
theorem dX10_statement_84 : decode cX10_statement 84 = .ok (.ifCond .eq 16, 3) := by decide +kernel
theorem dX10_statement_87 : decode cX10_statement 87 = .ok (.aload_n 0, 1) := by decide +kernel
theorem dX10_statement_88 : decode cX10_statement 88 = .ok (.iconst 0, 1) := by decide +kernel
theorem dX10_statement_89 : decode cX10_statement 89 = .ok (.iload_n 1, 1) := by decide +kernel
theorem dX10_statement_90 : decode cX10_statement 90 = .ok (.bipush 19, 2) := by decide +kernel
theorem dX10_statement_92 : decode cX10_statement 92 = .ok (.bipush 40, 2) := by decide +kernel
theorem dX10_statement_94 : decode cX10_statement 94 = .ok (.invokevirtual 165, 3) := by decide +kernel
theorem dX10_statement_97 : decode cX10_statement 97 = .ok (.goto 54, 3) := by decide +kernel
theorem dX10_statement_100 : decode cX10_statement 100 = .ok (.aload_n 0, 1) := by decide +kernel
theorem dX10_statement_101 : decode cX10_statement 101 = .ok (.ldc 169, 2) := by decide +kernel
theorem dX10_statement_103 : decode cX10_statement 103 = .ok (.invokevirtual 141, 3) := by decide +kernel
theorem dX10_statement_106 : decode cX10_statement 106 = .ok (.ifCond .eq 16, 3) := by decide +kernel
theorem dX10_statement_109 : decode cX10_statement 109 = .ok (.aload_n 0, 1) := by decide +kernel
theorem dX10_statement_110 : decode cX10_statement 110 = .ok (.iconst 1, 1) := by decide +kernel
theorem dX10_statement_111 : decode cX10_statement 111 = .ok (.iload_n 1, 1) := by decide +kernel
theorem dX10_statement_112 : decode cX10_statement 112 = .ok (.bipush 20, 2) := by decide +kernel
theorem dX10_statement_114 : decode cX10_statement 114 = .ok (.bipush 20, 2) := by decide +kernel
theorem dX10_statement_116 : decode cX10_statement 116 = .ok (.invokevirtual 165, 3) := by decide +kernel
theorem dX10_statement_119 : decode cX10_statement 119 = .ok (.goto 32, 3) := by decide +kernel
theorem dX10_statement_122 : decode cX10_statement 122 = .ok (.aload_n 0, 1) := by decide +kernel
theorem dX10_statement_123 : decode cX10_statement 123 = .ok (.ldc 171, 2) := by decide +kernel
theorem dX10_statement_125 : decode cX10_statement 125 = .ok (.invokevirtual 141, 3) := by decide +kernel
theorem dX10_statement_128 : decode cX10_statement 128 = .ok (.ifCond .eq 16, 3) := by decide +kernel
theorem dX10_statement_131 : decode cX10_statement 131 = .ok (.aload_n 0, 1) := by decide +kernel
theorem dX10_statement_132 : decode cX10_statement 132 = .ok (.iconst 2, 1) := by decide +kernel
theorem dX10_statement_133 : decode cX10_statement 133 = .ok (.iload_n 1, 1) := by decide +kernel
theorem dX10_statement_134 : decode cX10_statement 134 = .ok (.bipush 21, 2) := by decide +kernel
theorem dX10_statement_136 : decode cX10_statement 136 = .ok (.bipush 9, 2) := by decide +kernel
theorem dX10_statement_138 : decode cX10_statement 138 = .ok (.invokevirtual 165, 3) := by decide +kernel
theorem dX10_statement_141 : decode cX10_statement 141 = .ok (.goto 10, 3) := by decide +kernel
theorem dX10_statement_144 : decode cX10_statement 144 = .ok (.aload_n 0, 1) := by decide +kernel
theorem dX10_statement_145 : decode cX10_statement 145 = .ok (.bipush (-2), 2) := by decide +kernel
theorem dX10_statement_147 : decode cX10_statement 147 = .ok (.iload_n 1, 1) := by decide +kernel
theorem dX10_statement_148 : decode cX10_statement 148 = .ok (.invokevirtual 78, 3) := by decide +kernel
theorem dX10_statement_151 : decode cX10_statement 151 = .ok (.aload_n 0, 1) := by decide +kernel
theorem dX10_statement_152 : decode cX10_statement 152 = .ok (.bipush 59, 2) := by decide +kernel
theorem dX10_statement_154 : decode cX10_statement 154 = .ok (.invokevirtual 173, 3) := by decide +kernel
theorem dX10_statement_157 : decode cX10_statement 157 = .ok (.return_, 1) := by decide +kernel
theorem dX10_load_0 : decode cX10_load 0 = .ok (.aload_n 0, 1) := by decide +kernel
theorem dX10_load_1 : decode cX10_load 1 = .ok (.iconst 0, 1) := by decide +kernel
theorem dX10_load_2 : decode cX10_load 2 = .ok (.putfield 35, 3) := by decide +kernel
theorem dX10_load_5 : decode cX10_load 5 = .ok (.aload_n 0, 1) := by decide +kernel
theorem dX10_load_6 : decode cX10_load 6 = .ok (.iload_n 1, 1) := by decide +kernel
theorem dX10_load_7 : decode cX10_load 7 = .ok (.iconst 0, 1) := by decide +kernel
theorem dX10_load_8 : decode cX10_load 8 = .ok (.aload_n 0, 1) := by decide +kernel
theorem dX10_load_9 : decode cX10_load 9 = .ok (.getfield 38, 3) := by decide +kernel
theorem dX10_load_12 : decode cX10_load 12 = .ok (.invokestatic 57, 3) := by decide +kernel
theorem dX10_load_15 : decode cX10_load 15 = .ok (.ifCond .ne 7, 3) := by decide +kernel
theorem dX10_load_18 : decode cX10_load 18 = .ok (.iconst 1, 1) := by decide +kernel
theorem dX10_load_19 : decode cX10_load 19 = .ok (.goto 4, 3) := by decide +kernel
theorem dX10_load_22 : decode cX10_load 22 = .ok (.iconst 0, 1) := by decide +kernel
theorem dX10_load_23 : decode cX10_load 23 = .ok (.iconst 1, 1) := by decide +kernel
theorem dX10_load_24 : decode cX10_load 24 = .ok (.invokevirtual 176, 3) := by decide +kernel
theorem dX10_load_27 : decode cX10_load 27 = .ok (.ifCond .eq 5, 3) := by decide +kernel
theorem dX10_load_30 : decode cX10_load 30 = .ok (.iconst 0, 1) := by decide +kernel
theorem dX10_load_31 : decode cX10_load 31 = .ok (.ireturn, 1) := by decide +kernel
theorem dX10_load_32 : decode cX10_load 32 = .ok (.aload_n 0, 1) := by decide +kernel
theorem dX10_load_33 : decode cX10_load 33 = .ok (.iconst 0, 1) := by decide +kernel
theorem dX10_load_34 : decode cX10_load 34 = .ok (.putfield 38, 3) := by decide +kernel
theorem dX10_load_37 : decode cX10_load 37 = .ok (.aload_n 0, 1) := by decide +kernel
theorem dX10_load_38 : decode cX10_load 38 = .ok (.iload_n 1, 1) := by decide +kernel
theorem dX10_load_39 : decode cX10_load 39 = .ok (.putfield 41, 3) := by decide +kernel
theorem dX10_load_42 : decode cX10_load 42 = .ok (.aload_n 0, 1) := by decide +kernel
theorem dX10_load_43 : decode cX10_load 43 = .ok (.iconst 0, 1) := by decide +kernel
theorem dX10_load_44 : decode cX10_load 44 = .ok (.putfield 44, 3) := by decide +kernel
theorem dX10_load_47 : decode cX10_load 47 = .ok (.aload_n 0, 1) := by decide +kernel
theorem dX10_load_48 : decode cX10_load 48 = .ok (.iconst 0, 1) := by decide +kernel
theorem dX10_load_49 : decode cX10_load 49 = .ok (.putfield 51, 3) := by decide +kernel
theorem dX10_load_52 : decode cX10_load 52 = .ok (.aload_n 0, 1) := by decide +kernel
theorem dX10_load_53 : decode cX10_load 53 = .ok (.iconst (-1), 1) := by decide +kernel
theorem dX10_load_54 : decode cX10_load 54 = .ok (.putfield 54, 3) := by decide +kernel
theorem dX10_load_57 : decode cX10_load 57 = .ok (.aload_n 0, 1) := by decide +kernel
theorem dX10_load_58 : decode cX10_load 58 = .ok (.iconst 0, 1) := by decide +kernel
theorem dX10_load_59 : decode cX10_load 59 = .ok (.putfield 136, 3) := by decide +kernel
theorem dX10_load_62 : decode cX10_load 62 = .ok (.aload_n 0, 1) := by decide +kernel
theorem dX10_load_63 : decode cX10_load 63 = .ok (.ldc 180, 2) := by decide +kernel
theorem dX10_load_65 : decode cX10_load 65 = .ok (.invokevirtual 141, 3) := by decide +kernel
theorem dX10_load_68 : decode cX10_load 68 = .ok (.ifCond .ne 13, 3) := by decide +kernel
theorem dX10_load_71 : decode cX10_load 71 = .ok (.aload_n 0, 1) := by decide +kernel
theorem dX10_load_72 : decode cX10_load 72 = .ok (.bipush (-2), 2) := by decide +kernel
theorem dX10_load_74 : decode cX10_load 74 = .ok (.aload_n 0, 1) := by decide +kernel
theorem dX10_load_75 : decode cX10_load 75 = .ok (.getfield 44, 3) := by decide +kernel
theorem dX10_load_78 : decode cX10_load 78 = .ok (.invokevirtual 78, 3) := by decide +kernel
theorem dX10_load_81 : decode cX10_load 81 = .ok (.aload_n 0, 1) := by decide +kernel
theorem dX10_load_82 : decode cX10_load 82 = .ok (.iconst 1, 1) := by decide +kernel
theorem dX10_load_83 : decode cX10_load 83 = .ok (.iconst 4, 1) := by decide +kernel
theorem dX10_load_84 : decode cX10_load 84 = .ok (.invokevirtual 126, 3) := by decide +kernel
theorem dX10_load_87 : decode cX10_load 87 = .ok (.istore_n 2, 1) := by decide +kernel
theorem dX10_load_88 : decode cX10_load 88 = .ok (.aload_n 0, 1) := by decide +kernel
theorem dX10_load_89 : decode cX10_load 89 = .ok (.iconst 1, 1) := by decide +kernel
theorem dX10_load_90 : decode cX10_load 90 = .ok (.iconst 3, 1) := by decide +kernel
theorem dX10_load_91 : decode cX10_load 91 = .ok (.invokevirtual 126, 3) := by decide +kernel
theorem dX10_load_94 : decode cX10_load 94 = .ok (.istore_n 3, 1) := by decide +kernel
theorem dX10_load_95 : decode cX10_load 95 = .ok (.aload_n 0, 1) := by decide +kernel
theorem dX10_load_96 : decode cX10_load 96 = .ok (.getfield 20, 3) := by decide +kernel
theorem dX10_load_99 : decode cX10_load 99 = .ok (.iload_n 2, 1) := by decide +kernel
theorem dX10_load_100 : decode cX10_load 100 = .ok (.iload_n 3, 1) := by decide +kernel
theorem dX10_load_101 : decode cX10_load 101 = .ok (.invokestatic 31, 3) := by decide +kernel
theorem dX10_load_104 : decode cX10_load 104 = .ok (.aload_n 0, 1) := by decide +kernel
theorem dX10_load_105 : decode cX10_load 105 = .ok (.bipush 59, 2) := by decide +kernel
theorem dX10_load_107 : decode cX10_load 107 = .ok (.invokevirtual 173, 3) := by decide +kernel
theorem dX10_load_110 : decode cX10_load 110 = .ok (.aload_n 0, 1) := by decide +kernel
theorem dX10_load_111 : decode cX10_load 111 = .ok (.invokevirtual 61, 3) := by decide +kernel
theorem dX10_load_114 : decode cX10_load 114 = .ok (.ifCond .eq 18, 3) := by decide +kernel
theorem dX10_load_117 : decode cX10_load 117 = .ok (.aload_n 0, 1) := by decide +kernel
theorem dX10_load_118 : decode cX10_load 118 = .ok (.invokevirtual 65, 3) := by decide +kernel
theorem dX10_load_121 : decode cX10_load 121 = .ok (.iconst (-1), 1) := by decide +kernel
theorem dX10_load_122 : decode cX10_load 122 = .ok (.if_icmp .eq 10, 3) := by decide +kernel
theorem dX10_load_125 : decode cX10_load 125 = .ok (.aload_n 0, 1) := by decide +kernel
theorem dX10_load_126 : decode cX10_load 126 = .ok (.invokevirtual 182, 3) := by decide +kernel
theorem dX10_load_129 : decode cX10_load 129 = .ok (.goto (-19), 3) := by decide +kernel
theorem dX10_load_132 : decode cX10_load 132 = .ok (.aload_n 0, 1) := by decide +kernel
theorem dX10_load_133 : decode cX10_load 133 = .ok (.aload_n 0, 1) := by decide +kernel
theorem dX10_load_134 : decode cX10_load 134 = .ok (.getfield 54, 3) := by decide +kernel
theorem dX10_load_137 : decode cX10_load 137 = .ok (.putfield 13, 3) := by decide +kernel
theorem dX10_load_140 : decode cX10_load 140 = .ok (.aload_n 0, 1) := by decide +kernel
theorem dX10_load_141 : decode cX10_load 141 = .ok (.invokevirtual 61, 3) := by decide +kernel
theorem dX10_load_144 : decode cX10_load 144 = .ok (.ifCond .ne 8, 3) := by decide +kernel
theorem dX10_load_147 : decode cX10_load 147 = .ok (.aload_n 0, 1) := by decide +kernel
theorem dX10_load_148 : decode cX10_load 148 = .ok (.getfield 51, 3) := by decide +kernel
theorem dX10_load_151 : decode cX10_load 151 = .ok (.ireturn, 1) := by decide +kernel
theorem dX10_load_152 : decode cX10_load 152 = .ok (.aload_n 0, 1) := by decide +kernel
theorem dX10_load_153 : decode cX10_load 153 = .ok (.invokevirtual 185, 3) := by decide +kernel
theorem dX10_load_156 : decode cX10_load 156 = .ok (.aload_n 0, 1) := by decide +kernel
theorem dX10_load_157 : decode cX10_load 157 = .ok (.getfield 20, 3) := by decide +kernel
theorem dX10_load_160 : decode cX10_load 160 = .ok (.aload_n 0, 1) := by decide +kernel
theorem dX10_load_161 : decode cX10_load 161 = .ok (.getfield 17, 3) := by decide +kernel
theorem dX10_load_164 : decode cX10_load 164 = .ok (.invokestatic 188, 3) := by decide +kernel
theorem dX10_load_167 : decode cX10_load 167 = .ok (.aload_n 0, 1) := by decide +kernel
theorem dX10_load_168 : decode cX10_load 168 = .ok (.getfield 17, 3) := by decide +kernel
theorem dX10_load_171 : decode cX10_load 171 = .ok (.iconst 5, 1) := by decide +kernel
theorem dX10_load_172 : decode cX10_load 172 = .ok (.iaload, 1) := by decide +kernel
theorem dX10_load_173 : decode cX10_load 173 = .ok (.ireturn, 1) := by decide +kernel
theorem dX10_errorOffset_0 : decode cX10_errorOffset 0 = .ok (.aload_n 0, 1) := by decide +kernel
theorem dX10_errorOffset_1 : decode cX10_errorOffset 1 = .ok (.iconst 0, 1) := by decide +kernel
theorem dX10_errorOffset_2 : decode cX10_errorOffset 2 = .ok (.putfield 35, 3) := by decide +kernel
theorem dX10_errorOffset_5 : decode cX10_errorOffset 5 = .ok (.aload_n 0, 1) := by decide +kernel
theorem dX10_errorOffset_6 : decode cX10_errorOffset 6 = .ok (.getfield 13, 3) := by decide +kernel
theorem dX10_errorOffset_9 : decode cX10_errorOffset 9 = .ok (.ireturn, 1) := by decide +kernel
theorem dX10_of_0 : decode cX10_of 0 = .ok (.aload_n 0, 1) := by decide +kernel
theorem dX10_of_1 : decode cX10_of 1 = .ok (.getfield 17, 3) := by decide +kernel
theorem dX10_of_4 : decode cX10_of 4 = .ok (.sipush 169, 3) := by decide +kernel
theorem dX10_of_7 : decode cX10_of 7 = .ok (.bipush 14, 2) := by decide +kernel
theorem dX10_of_9 : decode cX10_of 9 = .ok (.iload_n 1, 1) := by decide +kernel
theorem dX10_of_10 : decode cX10_of 10 = .ok (.imul, 1) := by decide +kernel
theorem dX10_of_11 : decode cX10_of 11 = .ok (.iadd, 1) := by decide +kernel
theorem dX10_of_12 : decode cX10_of 12 = .ok (.iload_n 2, 1) := by decide +kernel
theorem dX10_of_13 : decode cX10_of 13 = .ok (.iadd, 1) := by decide +kernel
theorem dX10_of_14 : decode cX10_of 14 = .ok (.iaload, 1) := by decide +kernel
theorem dX10_of_15 : decode cX10_of 15 = .ok (.ireturn, 1) := by decide +kernel
theorem dX10_set_0 : decode cX10_set 0 = .ok (.aload_n 0, 1) := by decide +kernel
theorem dX10_set_1 : decode cX10_set 1 = .ok (.getfield 17, 3) := by decide +kernel
theorem dX10_set_4 : decode cX10_set 4 = .ok (.sipush 169, 3) := by decide +kernel
theorem dX10_set_7 : decode cX10_set 7 = .ok (.bipush 14, 2) := by decide +kernel
theorem dX10_set_9 : decode cX10_set 9 = .ok (.iload_n 1, 1) := by decide +kernel
theorem dX10_set_10 : decode cX10_set 10 = .ok (.imul, 1) := by decide +kernel
theorem dX10_set_11 : decode cX10_set 11 = .ok (.iadd, 1) := by decide +kernel
theorem dX10_set_12 : decode cX10_set 12 = .ok (.iload_n 2, 1) := by decide +kernel
theorem dX10_set_13 : decode cX10_set 13 = .ok (.iadd, 1) := by decide +kernel
theorem dX10_set_14 : decode cX10_set 14 = .ok (.iload_n 3, 1) := by decide +kernel
theorem dX10_set_15 : decode cX10_set 15 = .ok (.iastore, 1) := by decide +kernel
theorem dX10_set_16 : decode cX10_set 16 = .ok (.return_, 1) := by decide +kernel
theorem dX10_isState_0 : decode cX10_isState 0 = .ok (.aload_n 0, 1) := by decide +kernel
theorem dX10_isState_1 : decode cX10_isState 1 = .ok (.iload_n 1, 1) := by decide +kernel
theorem dX10_isState_2 : decode cX10_isState 2 = .ok (.iconst 4, 1) := by decide +kernel
theorem dX10_isState_3 : decode cX10_isState 3 = .ok (.invokevirtual 192, 3) := by decide +kernel
theorem dX10_isState_6 : decode cX10_isState 6 = .ok (.iload_n 2, 1) := by decide +kernel
theorem dX10_isState_7 : decode cX10_isState 7 = .ok (.iload_n 3, 1) := by decide +kernel
theorem dX10_isState_8 : decode cX10_isState 8 = .ok (.invokestatic 57, 3) := by decide +kernel
theorem dX10_isState_11 : decode cX10_isState 11 = .ok (.ireturn, 1) := by decide +kernel
theorem dX10_ofGroup_0 : decode cX10_ofGroup 0 = .ok (.aload_n 0, 1) := by decide +kernel
theorem dX10_ofGroup_1 : decode cX10_ofGroup 1 = .ok (.getfield 17, 3) := by decide +kernel
theorem dX10_ofGroup_4 : decode cX10_ofGroup 4 = .ok (.bipush 50, 2) := by decide +kernel
theorem dX10_ofGroup_6 : decode cX10_ofGroup 6 = .ok (.bipush 9, 2) := by decide +kernel
theorem dX10_ofGroup_8 : decode cX10_ofGroup 8 = .ok (.iload_n 1, 1) := by decide +kernel
theorem dX10_ofGroup_9 : decode cX10_ofGroup 9 = .ok (.imul, 1) := by decide +kernel
theorem dX10_ofGroup_10 : decode cX10_ofGroup 10 = .ok (.iadd, 1) := by decide +kernel
theorem dX10_ofGroup_11 : decode cX10_ofGroup 11 = .ok (.iload_n 2, 1) := by decide +kernel
theorem dX10_ofGroup_12 : decode cX10_ofGroup 12 = .ok (.iadd, 1) := by decide +kernel
theorem dX10_ofGroup_13 : decode cX10_ofGroup 13 = .ok (.iaload, 1) := by decide +kernel
theorem dX10_ofGroup_14 : decode cX10_ofGroup 14 = .ok (.ireturn, 1) := by decide +kernel
theorem dX10_addGroup_0 : decode cX10_addGroup 0 = .ok (.aload_n 0, 1) := by decide +kernel
theorem dX10_addGroup_1 : decode cX10_addGroup 1 = .ok (.getfield 17, 3) := by decide +kernel
theorem dX10_addGroup_4 : decode cX10_addGroup 4 = .ok (.bipush 50, 2) := by decide +kernel
theorem dX10_addGroup_6 : decode cX10_addGroup 6 = .ok (.bipush 9, 2) := by decide +kernel
theorem dX10_addGroup_8 : decode cX10_addGroup 8 = .ok (.iload_n 1, 1) := by decide +kernel
theorem dX10_addGroup_9 : decode cX10_addGroup 9 = .ok (.imul, 1) := by decide +kernel
theorem dX10_addGroup_10 : decode cX10_addGroup 10 = .ok (.iadd, 1) := by decide +kernel
theorem dX10_addGroup_11 : decode cX10_addGroup 11 = .ok (.iload_n 2, 1) := by decide +kernel
theorem dX10_addGroup_12 : decode cX10_addGroup 12 = .ok (.iadd, 1) := by decide +kernel
theorem dX10_addGroup_13 : decode cX10_addGroup 13 = .ok (.dup2, 1) := by decide +kernel
theorem dX10_addGroup_14 : decode cX10_addGroup 14 = .ok (.iaload, 1) := by decide +kernel
theorem dX10_addGroup_15 : decode cX10_addGroup 15 = .ok (.iload_n 3, 1) := by decide +kernel
theorem dX10_addGroup_16 : decode cX10_addGroup 16 = .ok (.iadd, 1) := by decide +kernel
theorem dX10_addGroup_17 : decode cX10_addGroup 17 = .ok (.iastore, 1) := by decide +kernel
theorem dX10_addGroup_18 : decode cX10_addGroup 18 = .ok (.return_, 1) := by decide +kernel
theorem dX10_power_0 : decode cX10_power 0 = .ok (.iconst 1, 1) := by decide +kernel
theorem dX10_power_1 : decode cX10_power 1 = .ok (.istore_n 1, 1) := by decide +kernel
theorem dX10_power_2 : decode cX10_power 2 = .ok (.iconst 0, 1) := by decide +kernel
theorem dX10_power_3 : decode cX10_power 3 = .ok (.istore_n 2, 1) := by decide +kernel
theorem dX10_power_4 : decode cX10_power 4 = .ok (.iload_n 2, 1) := by decide +kernel
theorem dX10_power_5 : decode cX10_power 5 = .ok (.iload_n 0, 1) := by decide +kernel
theorem dX10_power_6 : decode cX10_power 6 = .ok (.if_icmp .ge 14, 3) := by decide +kernel
theorem dX10_power_9 : decode cX10_power 9 = .ok (.iload_n 1, 1) := by decide +kernel
theorem dX10_power_10 : decode cX10_power 10 = .ok (.bipush 10, 2) := by decide +kernel
theorem dX10_power_12 : decode cX10_power 12 = .ok (.imul, 1) := by decide +kernel
theorem dX10_power_13 : decode cX10_power 13 = .ok (.istore_n 1, 1) := by decide +kernel
theorem dX10_power_14 : decode cX10_power 14 = .ok (.iinc 2 1, 3) := by decide +kernel
theorem dX10_power_17 : decode cX10_power 17 = .ok (.goto (-13), 3) := by decide +kernel
theorem dX10_power_20 : decode cX10_power 20 = .ok (.iload_n 1, 1) := by decide +kernel
theorem dX10_power_21 : decode cX10_power 21 = .ok (.ireturn, 1) := by decide +kernel
theorem dX10_routeFor_0 : decode cX10_routeFor 0 = .ok (.iconst (-1), 1) := by decide +kernel
theorem dX10_routeFor_1 : decode cX10_routeFor 1 = .ok (.istore_n 3, 1) := by decide +kernel
theorem dX10_routeFor_2 : decode cX10_routeFor 2 = .ok (.iconst 0, 1) := by decide +kernel
theorem dX10_routeFor_3 : decode cX10_routeFor 3 = .ok (.istore 4, 2) := by decide +kernel
theorem dX10_routeFor_5 : decode cX10_routeFor 5 = .ok (.iload 4, 2) := by decide +kernel
theorem dX10_routeFor_7 : decode cX10_routeFor 7 = .ok (.aload_n 0, 1) := by decide +kernel
theorem dX10_routeFor_8 : decode cX10_routeFor 8 = .ok (.getfield 17, 3) := by decide +kernel
theorem dX10_routeFor_11 : decode cX10_routeFor 11 = .ok (.iconst 4, 1) := by decide +kernel
theorem dX10_routeFor_12 : decode cX10_routeFor 12 = .ok (.iaload, 1) := by decide +kernel
theorem dX10_routeFor_13 : decode cX10_routeFor 13 = .ok (.if_icmp .ge 84, 3) := by decide +kernel
theorem dX10_routeFor_16 : decode cX10_routeFor 16 = .ok (.bipush 95, 2) := by decide +kernel
theorem dX10_routeFor_18 : decode cX10_routeFor 18 = .ok (.bipush 7, 2) := by decide +kernel
theorem dX10_routeFor_20 : decode cX10_routeFor 20 = .ok (.iload 4, 2) := by decide +kernel
theorem dX10_routeFor_22 : decode cX10_routeFor 22 = .ok (.imul, 1) := by decide +kernel
theorem dX10_routeFor_23 : decode cX10_routeFor 23 = .ok (.iadd, 1) := by decide +kernel
theorem dX10_routeFor_24 : decode cX10_routeFor 24 = .ok (.istore 5, 2) := by decide +kernel
theorem dX10_routeFor_26 : decode cX10_routeFor 26 = .ok (.aload_n 0, 1) := by decide +kernel
theorem dX10_routeFor_27 : decode cX10_routeFor 27 = .ok (.getfield 17, 3) := by decide +kernel
theorem dX10_routeFor_30 : decode cX10_routeFor 30 = .ok (.iload 5, 2) := by decide +kernel
theorem dX10_routeFor_32 : decode cX10_routeFor 32 = .ok (.iconst 0, 1) := by decide +kernel
theorem dX10_routeFor_33 : decode cX10_routeFor 33 = .ok (.iadd, 1) := by decide +kernel
theorem dX10_routeFor_34 : decode cX10_routeFor 34 = .ok (.iaload, 1) := by decide +kernel
theorem dX10_routeFor_35 : decode cX10_routeFor 35 = .ok (.istore 6, 2) := by decide +kernel
theorem dX10_routeFor_37 : decode cX10_routeFor 37 = .ok (.iload 6, 2) := by decide +kernel
theorem dX10_routeFor_39 : decode cX10_routeFor 39 = .ok (.iload_n 1, 1) := by decide +kernel
theorem dX10_routeFor_40 : decode cX10_routeFor 40 = .ok (.if_icmp .gt 51, 3) := by decide +kernel
theorem dX10_routeFor_43 : decode cX10_routeFor 43 = .ok (.iload_n 2, 1) := by decide +kernel
theorem dX10_routeFor_44 : decode cX10_routeFor 44 = .ok (.iload_n 1, 1) := by decide +kernel
theorem dX10_routeFor_45 : decode cX10_routeFor 45 = .ok (.iload 6, 2) := by decide +kernel
theorem dX10_routeFor_47 : decode cX10_routeFor 47 = .ok (.isub, 1) := by decide +kernel
theorem dX10_routeFor_48 : decode cX10_routeFor 48 = .ok (.invokestatic 195, 3) := by decide +kernel
theorem dX10_routeFor_51 : decode cX10_routeFor 51 = .ok (.idiv, 1) := by decide +kernel
theorem dX10_routeFor_52 : decode cX10_routeFor 52 = .ok (.aload_n 0, 1) := by decide +kernel
theorem dX10_routeFor_53 : decode cX10_routeFor 53 = .ok (.getfield 17, 3) := by decide +kernel
theorem dX10_routeFor_56 : decode cX10_routeFor 56 = .ok (.iload 5, 2) := by decide +kernel
theorem dX10_routeFor_58 : decode cX10_routeFor 58 = .ok (.iconst 1, 1) := by decide +kernel
theorem dX10_routeFor_59 : decode cX10_routeFor 59 = .ok (.iadd, 1) := by decide +kernel
theorem dX10_routeFor_60 : decode cX10_routeFor 60 = .ok (.iaload, 1) := by decide +kernel
theorem dX10_routeFor_61 : decode cX10_routeFor 61 = .ok (.if_icmp .ne 30, 3) := by decide +kernel
theorem dX10_routeFor_64 : decode cX10_routeFor 64 = .ok (.iload_n 3, 1) := by decide +kernel
theorem dX10_routeFor_65 : decode cX10_routeFor 65 = .ok (.iconst (-1), 1) := by decide +kernel
theorem dX10_routeFor_66 : decode cX10_routeFor 66 = .ok (.if_icmp .eq 22, 3) := by decide +kernel
theorem dX10_routeFor_69 : decode cX10_routeFor 69 = .ok (.iload 6, 2) := by decide +kernel
theorem dX10_routeFor_71 : decode cX10_routeFor 71 = .ok (.aload_n 0, 1) := by decide +kernel
theorem dX10_routeFor_72 : decode cX10_routeFor 72 = .ok (.getfield 17, 3) := by decide +kernel
theorem dX10_routeFor_75 : decode cX10_routeFor 75 = .ok (.bipush 95, 2) := by decide +kernel
theorem dX10_routeFor_77 : decode cX10_routeFor 77 = .ok (.bipush 7, 2) := by decide +kernel
theorem dX10_routeFor_79 : decode cX10_routeFor 79 = .ok (.iload_n 3, 1) := by decide +kernel
theorem dX10_routeFor_80 : decode cX10_routeFor 80 = .ok (.imul, 1) := by decide +kernel
theorem dX10_routeFor_81 : decode cX10_routeFor 81 = .ok (.iadd, 1) := by decide +kernel
theorem dX10_routeFor_82 : decode cX10_routeFor 82 = .ok (.iconst 0, 1) := by decide +kernel
theorem dX10_routeFor_83 : decode cX10_routeFor 83 = .ok (.iadd, 1) := by decide +kernel
theorem dX10_routeFor_84 : decode cX10_routeFor 84 = .ok (.iaload, 1) := by decide +kernel
theorem dX10_routeFor_85 : decode cX10_routeFor 85 = .ok (.if_icmp .le 6, 3) := by decide +kernel
theorem dX10_routeFor_88 : decode cX10_routeFor 88 = .ok (.iload 4, 2) := by decide +kernel
theorem dX10_routeFor_90 : decode cX10_routeFor 90 = .ok (.istore_n 3, 1) := by decide +kernel
theorem dX10_routeFor_91 : decode cX10_routeFor 91 = .ok (.iinc 4 1, 3) := by decide +kernel
theorem dX10_routeFor_94 : decode cX10_routeFor 94 = .ok (.goto (-89), 3) := by decide +kernel
theorem dX10_routeFor_97 : decode cX10_routeFor 97 = .ok (.iload_n 3, 1) := by decide +kernel
theorem dX10_routeFor_98 : decode cX10_routeFor 98 = .ok (.ireturn, 1) := by decide +kernel
theorem dX10_isComplete_0 : decode cX10_isComplete 0 = .ok (.aload_n 0, 1) := by decide +kernel
theorem dX10_isComplete_1 : decode cX10_isComplete 1 = .ok (.iload_n 1, 1) := by decide +kernel
theorem dX10_isComplete_2 : decode cX10_isComplete 2 = .ok (.iload_n 2, 1) := by decide +kernel
theorem dX10_isComplete_3 : decode cX10_isComplete 3 = .ok (.invokevirtual 198, 3) := by decide +kernel
theorem dX10_isComplete_6 : decode cX10_isComplete 6 = .ok (.istore_n 3, 1) := by decide +kernel
theorem dX10_isComplete_7 : decode cX10_isComplete 7 = .ok (.aload_n 0, 1) := by decide +kernel
theorem dX10_isComplete_8 : decode cX10_isComplete 8 = .ok (.getfield 17, 3) := by decide +kernel
theorem dX10_isComplete_11 : decode cX10_isComplete 11 = .ok (.iload_n 1, 1) := by decide +kernel
theorem dX10_isComplete_12 : decode cX10_isComplete 12 = .ok (.iload_n 2, 1) := by decide +kernel
theorem dX10_isComplete_13 : decode cX10_isComplete 13 = .ok (.invokestatic 116, 3) := by decide +kernel
theorem dX10_isComplete_16 : decode cX10_isComplete 16 = .ok (.iconst (-1), 1) := by decide +kernel
theorem dX10_isComplete_17 : decode cX10_isComplete 17 = .ok (.if_icmp .ne 26, 3) := by decide +kernel
theorem dX10_isComplete_20 : decode cX10_isComplete 20 = .ok (.iload_n 3, 1) := by decide +kernel
theorem dX10_isComplete_21 : decode cX10_isComplete 21 = .ok (.iconst (-1), 1) := by decide +kernel
theorem dX10_isComplete_22 : decode cX10_isComplete 22 = .ok (.if_icmp .eq 25, 3) := by decide +kernel
theorem dX10_isComplete_25 : decode cX10_isComplete 25 = .ok (.aload_n 0, 1) := by decide +kernel
theorem dX10_isComplete_26 : decode cX10_isComplete 26 = .ok (.getfield 17, 3) := by decide +kernel
theorem dX10_isComplete_29 : decode cX10_isComplete 29 = .ok (.bipush 95, 2) := by decide +kernel
theorem dX10_isComplete_31 : decode cX10_isComplete 31 = .ok (.bipush 7, 2) := by decide +kernel
theorem dX10_isComplete_33 : decode cX10_isComplete 33 = .ok (.iload_n 3, 1) := by decide +kernel
theorem dX10_isComplete_34 : decode cX10_isComplete 34 = .ok (.imul, 1) := by decide +kernel
theorem dX10_isComplete_35 : decode cX10_isComplete 35 = .ok (.iadd, 1) := by decide +kernel
theorem dX10_isComplete_36 : decode cX10_isComplete 36 = .ok (.iconst 2, 1) := by decide +kernel
theorem dX10_isComplete_37 : decode cX10_isComplete 37 = .ok (.iadd, 1) := by decide +kernel
theorem dX10_isComplete_38 : decode cX10_isComplete 38 = .ok (.iaload, 1) := by decide +kernel
theorem dX10_isComplete_39 : decode cX10_isComplete 39 = .ok (.iload_n 1, 1) := by decide +kernel
theorem dX10_isComplete_40 : decode cX10_isComplete 40 = .ok (.if_icmp .ne 7, 3) := by decide +kernel
theorem dX10_isComplete_43 : decode cX10_isComplete 43 = .ok (.iconst 1, 1) := by decide +kernel
theorem dX10_isComplete_44 : decode cX10_isComplete 44 = .ok (.goto 4, 3) := by decide +kernel
theorem dX10_isComplete_47 : decode cX10_isComplete 47 = .ok (.iconst 0, 1) := by decide +kernel
theorem dX10_isComplete_48 : decode cX10_isComplete 48 = .ok (.ireturn, 1) := by decide +kernel
theorem dX10_busyTrunks_0 : decode cX10_busyTrunks 0 = .ok (.iconst 0, 1) := by decide +kernel
theorem dX10_busyTrunks_1 : decode cX10_busyTrunks 1 = .ok (.istore_n 2, 1) := by decide +kernel
theorem dX10_busyTrunks_2 : decode cX10_busyTrunks 2 = .ok (.iconst 0, 1) := by decide +kernel
theorem dX10_busyTrunks_3 : decode cX10_busyTrunks 3 = .ok (.istore_n 3, 1) := by decide +kernel
theorem dX10_busyTrunks_4 : decode cX10_busyTrunks 4 = .ok (.iload_n 3, 1) := by decide +kernel
theorem dX10_busyTrunks_5 : decode cX10_busyTrunks 5 = .ok (.aload_n 0, 1) := by decide +kernel
theorem dX10_busyTrunks_6 : decode cX10_busyTrunks 6 = .ok (.getfield 17, 3) := by decide +kernel
theorem dX10_busyTrunks_9 : decode cX10_busyTrunks 9 = .ok (.iconst 5, 1) := by decide +kernel
theorem dX10_busyTrunks_10 : decode cX10_busyTrunks 10 = .ok (.iaload, 1) := by decide +kernel
theorem dX10_busyTrunks_11 : decode cX10_busyTrunks 11 = .ok (.if_icmp .ge 38, 3) := by decide +kernel
theorem dX10_busyTrunks_14 : decode cX10_busyTrunks 14 = .ok (.iload_n 2, 1) := by decide +kernel
theorem dX10_busyTrunks_15 : decode cX10_busyTrunks 15 = .ok (.aload_n 0, 1) := by decide +kernel
theorem dX10_busyTrunks_16 : decode cX10_busyTrunks 16 = .ok (.iload_n 3, 1) := by decide +kernel
theorem dX10_busyTrunks_17 : decode cX10_busyTrunks 17 = .ok (.iconst 4, 1) := by decide +kernel
theorem dX10_busyTrunks_18 : decode cX10_busyTrunks 18 = .ok (.invokevirtual 192, 3) := by decide +kernel
theorem dX10_busyTrunks_21 : decode cX10_busyTrunks 21 = .ok (.iconst 5, 1) := by decide +kernel
theorem dX10_busyTrunks_22 : decode cX10_busyTrunks 22 = .ok (.if_icmp .ne 18, 3) := by decide +kernel
theorem dX10_busyTrunks_25 : decode cX10_busyTrunks 25 = .ok (.aload_n 0, 1) := by decide +kernel
theorem dX10_busyTrunks_26 : decode cX10_busyTrunks 26 = .ok (.iload_n 3, 1) := by decide +kernel
theorem dX10_busyTrunks_27 : decode cX10_busyTrunks 27 = .ok (.bipush 6, 2) := by decide +kernel
theorem dX10_busyTrunks_29 : decode cX10_busyTrunks 29 = .ok (.invokevirtual 192, 3) := by decide +kernel
theorem dX10_busyTrunks_32 : decode cX10_busyTrunks 32 = .ok (.iload_n 1, 1) := by decide +kernel
theorem dX10_busyTrunks_33 : decode cX10_busyTrunks 33 = .ok (.if_icmp .ne 7, 3) := by decide +kernel
theorem dX10_busyTrunks_36 : decode cX10_busyTrunks 36 = .ok (.iconst 1, 1) := by decide +kernel
theorem dX10_busyTrunks_37 : decode cX10_busyTrunks 37 = .ok (.goto 4, 3) := by decide +kernel
theorem dX10_busyTrunks_40 : decode cX10_busyTrunks 40 = .ok (.iconst 0, 1) := by decide +kernel
theorem dX10_busyTrunks_41 : decode cX10_busyTrunks 41 = .ok (.iadd, 1) := by decide +kernel
theorem dX10_busyTrunks_42 : decode cX10_busyTrunks 42 = .ok (.istore_n 2, 1) := by decide +kernel
theorem dX10_busyTrunks_43 : decode cX10_busyTrunks 43 = .ok (.iinc 3 1, 3) := by decide +kernel
theorem dX10_busyTrunks_46 : decode cX10_busyTrunks 46 = .ok (.goto (-42), 3) := by decide +kernel
theorem dX10_busyTrunks_49 : decode cX10_busyTrunks 49 = .ok (.iload_n 2, 1) := by decide +kernel
theorem dX10_busyTrunks_50 : decode cX10_busyTrunks 50 = .ok (.ireturn, 1) := by decide +kernel
theorem dX10_callBy_0 : decode cX10_callBy 0 = .ok (.iconst 0, 1) := by decide +kernel
theorem dX10_callBy_1 : decode cX10_callBy 1 = .ok (.istore_n 2, 1) := by decide +kernel
theorem dX10_callBy_2 : decode cX10_callBy 2 = .ok (.iload_n 2, 1) := by decide +kernel
theorem dX10_callBy_3 : decode cX10_callBy 3 = .ok (.aload_n 0, 1) := by decide +kernel
theorem dX10_callBy_4 : decode cX10_callBy 4 = .ok (.getfield 17, 3) := by decide +kernel
theorem dX10_callBy_7 : decode cX10_callBy 7 = .ok (.iconst 5, 1) := by decide +kernel
theorem dX10_callBy_8 : decode cX10_callBy 8 = .ok (.iaload, 1) := by decide +kernel
theorem dX10_callBy_9 : decode cX10_callBy 9 = .ok (.if_icmp .ge 31, 3) := by decide +kernel
theorem dX10_callBy_12 : decode cX10_callBy 12 = .ok (.aload_n 0, 1) := by decide +kernel
theorem dX10_callBy_13 : decode cX10_callBy 13 = .ok (.iload_n 2, 1) := by decide +kernel
theorem dX10_callBy_14 : decode cX10_callBy 14 = .ok (.iconst 0, 1) := by decide +kernel
theorem dX10_callBy_15 : decode cX10_callBy 15 = .ok (.invokevirtual 192, 3) := by decide +kernel
theorem dX10_callBy_18 : decode cX10_callBy 18 = .ok (.iload_n 1, 1) := by decide +kernel
theorem dX10_callBy_19 : decode cX10_callBy 19 = .ok (.if_icmp .ne 15, 3) := by decide +kernel
theorem dX10_callBy_22 : decode cX10_callBy 22 = .ok (.aload_n 0, 1) := by decide +kernel
theorem dX10_callBy_23 : decode cX10_callBy 23 = .ok (.iload_n 2, 1) := by decide +kernel
theorem dX10_callBy_24 : decode cX10_callBy 24 = .ok (.iconst 1, 1) := by decide +kernel
theorem dX10_callBy_25 : decode cX10_callBy 25 = .ok (.iconst 5, 1) := by decide +kernel
theorem dX10_callBy_26 : decode cX10_callBy 26 = .ok (.invokevirtual 201, 3) := by decide +kernel
theorem dX10_callBy_29 : decode cX10_callBy 29 = .ok (.ifCond .eq 5, 3) := by decide +kernel
theorem dX10_callBy_32 : decode cX10_callBy 32 = .ok (.iload_n 2, 1) := by decide +kernel
theorem dX10_callBy_33 : decode cX10_callBy 33 = .ok (.ireturn, 1) := by decide +kernel
theorem dX10_callBy_34 : decode cX10_callBy 34 = .ok (.iinc 2 1, 3) := by decide +kernel
theorem dX10_callBy_37 : decode cX10_callBy 37 = .ok (.goto (-35), 3) := by decide +kernel
theorem dX10_callBy_40 : decode cX10_callBy 40 = .ok (.iconst (-1), 1) := by decide +kernel
theorem dX10_callBy_41 : decode cX10_callBy 41 = .ok (.ireturn, 1) := by decide +kernel
theorem dX10_callTo_0 : decode cX10_callTo 0 = .ok (.iconst 0, 1) := by decide +kernel
theorem dX10_callTo_1 : decode cX10_callTo 1 = .ok (.istore_n 2, 1) := by decide +kernel
theorem dX10_callTo_2 : decode cX10_callTo 2 = .ok (.iload_n 2, 1) := by decide +kernel
theorem dX10_callTo_3 : decode cX10_callTo 3 = .ok (.aload_n 0, 1) := by decide +kernel
theorem dX10_callTo_4 : decode cX10_callTo 4 = .ok (.getfield 17, 3) := by decide +kernel
theorem dX10_callTo_7 : decode cX10_callTo 7 = .ok (.iconst 5, 1) := by decide +kernel
theorem dX10_callTo_8 : decode cX10_callTo 8 = .ok (.iaload, 1) := by decide +kernel
theorem dX10_callTo_9 : decode cX10_callTo 9 = .ok (.if_icmp .ge 31, 3) := by decide +kernel
theorem dX10_callTo_12 : decode cX10_callTo 12 = .ok (.aload_n 0, 1) := by decide +kernel
theorem dX10_callTo_13 : decode cX10_callTo 13 = .ok (.iload_n 2, 1) := by decide +kernel
theorem dX10_callTo_14 : decode cX10_callTo 14 = .ok (.iconst 5, 1) := by decide +kernel
theorem dX10_callTo_15 : decode cX10_callTo 15 = .ok (.invokevirtual 192, 3) := by decide +kernel
theorem dX10_callTo_18 : decode cX10_callTo 18 = .ok (.iload_n 1, 1) := by decide +kernel
theorem dX10_callTo_19 : decode cX10_callTo 19 = .ok (.if_icmp .ne 15, 3) := by decide +kernel
theorem dX10_callTo_22 : decode cX10_callTo 22 = .ok (.aload_n 0, 1) := by decide +kernel
theorem dX10_callTo_23 : decode cX10_callTo 23 = .ok (.iload_n 2, 1) := by decide +kernel
theorem dX10_callTo_24 : decode cX10_callTo 24 = .ok (.iconst 4, 1) := by decide +kernel
theorem dX10_callTo_25 : decode cX10_callTo 25 = .ok (.invokevirtual 192, 3) := by decide +kernel
theorem dX10_callTo_28 : decode cX10_callTo 28 = .ok (.iconst 5, 1) := by decide +kernel
theorem dX10_callTo_29 : decode cX10_callTo 29 = .ok (.if_icmp .ne 5, 3) := by decide +kernel
theorem dX10_callTo_32 : decode cX10_callTo 32 = .ok (.iload_n 2, 1) := by decide +kernel
theorem dX10_callTo_33 : decode cX10_callTo 33 = .ok (.ireturn, 1) := by decide +kernel
theorem dX10_callTo_34 : decode cX10_callTo 34 = .ok (.iinc 2 1, 3) := by decide +kernel
theorem dX10_callTo_37 : decode cX10_callTo 37 = .ok (.goto (-35), 3) := by decide +kernel
theorem dX10_callTo_40 : decode cX10_callTo 40 = .ok (.iconst (-1), 1) := by decide +kernel
theorem dX10_callTo_41 : decode cX10_callTo 41 = .ok (.ireturn, 1) := by decide +kernel
theorem dX10_isBusy_0 : decode cX10_isBusy 0 = .ok (.aload_n 0, 1) := by decide +kernel
theorem dX10_isBusy_1 : decode cX10_isBusy 1 = .ok (.iload_n 1, 1) := by decide +kernel
theorem dX10_isBusy_2 : decode cX10_isBusy 2 = .ok (.invokevirtual 204, 3) := by decide +kernel
theorem dX10_isBusy_5 : decode cX10_isBusy 5 = .ok (.iconst (-1), 1) := by decide +kernel
theorem dX10_isBusy_6 : decode cX10_isBusy 6 = .ok (.if_icmp .ne 12, 3) := by decide +kernel
theorem dX10_isBusy_9 : decode cX10_isBusy 9 = .ok (.aload_n 0, 1) := by decide +kernel
theorem dX10_isBusy_10 : decode cX10_isBusy 10 = .ok (.iload_n 1, 1) := by decide +kernel
theorem dX10_isBusy_11 : decode cX10_isBusy 11 = .ok (.invokevirtual 207, 3) := by decide +kernel
theorem dX10_isBusy_14 : decode cX10_isBusy 14 = .ok (.iconst (-1), 1) := by decide +kernel
theorem dX10_isBusy_15 : decode cX10_isBusy 15 = .ok (.if_icmp .eq 7, 3) := by decide +kernel
theorem dX10_isBusy_18 : decode cX10_isBusy 18 = .ok (.iconst 1, 1) := by decide +kernel
theorem dX10_isBusy_19 : decode cX10_isBusy 19 = .ok (.goto 4, 3) := by decide +kernel
theorem dX10_isBusy_22 : decode cX10_isBusy 22 = .ok (.iconst 0, 1) := by decide +kernel
theorem dX10_isBusy_23 : decode cX10_isBusy 23 = .ok (.ireturn, 1) := by decide +kernel
theorem dX10_isFree_0 : decode cX10_isFree 0 = .ok (.aload_n 0, 1) := by decide +kernel
theorem dX10_isFree_1 : decode cX10_isFree 1 = .ok (.iload_n 1, 1) := by decide +kernel
theorem dX10_isFree_2 : decode cX10_isFree 2 = .ok (.iconst 0, 1) := by decide +kernel
theorem dX10_isFree_3 : decode cX10_isFree 3 = .ok (.invokevirtual 210, 3) := by decide +kernel
theorem dX10_isFree_6 : decode cX10_isFree 6 = .ok (.aload_n 0, 1) := by decide +kernel
theorem dX10_isFree_7 : decode cX10_isFree 7 = .ok (.iload_n 1, 1) := by decide +kernel
theorem dX10_isFree_8 : decode cX10_isFree 8 = .ok (.invokevirtual 213, 3) := by decide +kernel
theorem dX10_isFree_11 : decode cX10_isFree 11 = .ok (.isub, 1) := by decide +kernel
theorem dX10_isFree_12 : decode cX10_isFree 12 = .ok (.istore_n 3, 1) := by decide +kernel
theorem dX10_isFree_13 : decode cX10_isFree 13 = .ok (.iload_n 2, 1) := by decide +kernel
theorem dX10_isFree_14 : decode cX10_isFree 14 = .ok (.ifCond .eq 15, 3) := by decide +kernel
theorem dX10_isFree_17 : decode cX10_isFree 17 = .ok (.iload_n 3, 1) := by decide +kernel
theorem dX10_isFree_18 : decode cX10_isFree 18 = .ok (.ifCond .le 7, 3) := by decide +kernel
theorem dX10_isFree_21 : decode cX10_isFree 21 = .ok (.iconst 1, 1) := by decide +kernel
theorem dX10_isFree_22 : decode cX10_isFree 22 = .ok (.goto 22, 3) := by decide +kernel
theorem dX10_isFree_25 : decode cX10_isFree 25 = .ok (.iconst 0, 1) := by decide +kernel
theorem dX10_isFree_26 : decode cX10_isFree 26 = .ok (.goto 18, 3) := by decide +kernel
theorem dX10_isFree_29 : decode cX10_isFree 29 = .ok (.iload_n 3, 1) := by decide +kernel
theorem dX10_isFree_30 : decode cX10_isFree 30 = .ok (.aload_n 0, 1) := by decide +kernel
theorem dX10_isFree_31 : decode cX10_isFree 31 = .ok (.iload_n 1, 1) := by decide +kernel
theorem dX10_isFree_32 : decode cX10_isFree 32 = .ok (.iconst 1, 1) := by decide +kernel
theorem dX10_isFree_33 : decode cX10_isFree 33 = .ok (.invokevirtual 210, 3) := by decide +kernel
theorem dX10_isFree_36 : decode cX10_isFree 36 = .ok (.if_icmp .le 7, 3) := by decide +kernel
theorem dX10_isFree_39 : decode cX10_isFree 39 = .ok (.iconst 1, 1) := by decide +kernel
theorem dX10_isFree_40 : decode cX10_isFree 40 = .ok (.goto 4, 3) := by decide +kernel
theorem dX10_isFree_43 : decode cX10_isFree 43 = .ok (.iconst 0, 1) := by decide +kernel
theorem dX10_isFree_44 : decode cX10_isFree 44 = .ok (.ireturn, 1) := by decide +kernel
theorem dX10_choiceOf_0 : decode cX10_choiceOf 0 = .ok (.bipush 95, 2) := by decide +kernel
theorem dX10_choiceOf_2 : decode cX10_choiceOf 2 = .ok (.bipush 7, 2) := by decide +kernel
theorem dX10_choiceOf_4 : decode cX10_choiceOf 4 = .ok (.iload_n 1, 1) := by decide +kernel
theorem dX10_choiceOf_5 : decode cX10_choiceOf 5 = .ok (.imul, 1) := by decide +kernel
theorem dX10_choiceOf_6 : decode cX10_choiceOf 6 = .ok (.iadd, 1) := by decide +kernel
theorem dX10_choiceOf_7 : decode cX10_choiceOf 7 = .ok (.istore_n 2, 1) := by decide +kernel
theorem dX10_choiceOf_8 : decode cX10_choiceOf 8 = .ok (.aload_n 0, 1) := by decide +kernel
theorem dX10_choiceOf_9 : decode cX10_choiceOf 9 = .ok (.getfield 17, 3) := by decide +kernel
theorem dX10_choiceOf_12 : decode cX10_choiceOf 12 = .ok (.iload_n 2, 1) := by decide +kernel
theorem dX10_choiceOf_13 : decode cX10_choiceOf 13 = .ok (.iconst 3, 1) := by decide +kernel
theorem dX10_choiceOf_14 : decode cX10_choiceOf 14 = .ok (.iadd, 1) := by decide +kernel
theorem dX10_choiceOf_15 : decode cX10_choiceOf 15 = .ok (.iaload, 1) := by decide +kernel
theorem dX10_choiceOf_16 : decode cX10_choiceOf 16 = .ok (.istore_n 3, 1) := by decide +kernel
theorem dX10_choiceOf_17 : decode cX10_choiceOf 17 = .ok (.iconst 0, 1) := by decide +kernel
theorem dX10_choiceOf_18 : decode cX10_choiceOf 18 = .ok (.istore 4, 2) := by decide +kernel
theorem dX10_choiceOf_20 : decode cX10_choiceOf 20 = .ok (.iload 4, 2) := by decide +kernel
theorem dX10_choiceOf_22 : decode cX10_choiceOf 22 = .ok (.iload_n 3, 1) := by decide +kernel
theorem dX10_choiceOf_23 : decode cX10_choiceOf 23 = .ok (.if_icmp .ge 37, 3) := by decide +kernel
theorem dX10_choiceOf_26 : decode cX10_choiceOf 26 = .ok (.aload_n 0, 1) := by decide +kernel
theorem dX10_choiceOf_27 : decode cX10_choiceOf 27 = .ok (.aload_n 0, 1) := by decide +kernel
theorem dX10_choiceOf_28 : decode cX10_choiceOf 28 = .ok (.getfield 17, 3) := by decide +kernel
theorem dX10_choiceOf_31 : decode cX10_choiceOf 31 = .ok (.iload_n 2, 1) := by decide +kernel
theorem dX10_choiceOf_32 : decode cX10_choiceOf 32 = .ok (.iconst 4, 1) := by decide +kernel
theorem dX10_choiceOf_33 : decode cX10_choiceOf 33 = .ok (.iadd, 1) := by decide +kernel
theorem dX10_choiceOf_34 : decode cX10_choiceOf 34 = .ok (.iload 4, 2) := by decide +kernel
theorem dX10_choiceOf_36 : decode cX10_choiceOf 36 = .ok (.iadd, 1) := by decide +kernel
theorem dX10_choiceOf_37 : decode cX10_choiceOf 37 = .ok (.iaload, 1) := by decide +kernel
theorem dX10_choiceOf_38 : decode cX10_choiceOf 38 = .ok (.iload 4, 2) := by decide +kernel
theorem dX10_choiceOf_40 : decode cX10_choiceOf 40 = .ok (.ifCond .ne 7, 3) := by decide +kernel
theorem dX10_choiceOf_43 : decode cX10_choiceOf 43 = .ok (.iconst 1, 1) := by decide +kernel
theorem dX10_choiceOf_44 : decode cX10_choiceOf 44 = .ok (.goto 4, 3) := by decide +kernel
theorem dX10_choiceOf_47 : decode cX10_choiceOf 47 = .ok (.iconst 0, 1) := by decide +kernel
theorem dX10_choiceOf_48 : decode cX10_choiceOf 48 = .ok (.invokevirtual 216, 3) := by decide +kernel
theorem dX10_choiceOf_51 : decode cX10_choiceOf 51 = .ok (.ifCond .ne 9, 3) := by decide +kernel
theorem dX10_choiceOf_54 : decode cX10_choiceOf 54 = .ok (.iinc 4 1, 3) := by decide +kernel
theorem dX10_choiceOf_57 : decode cX10_choiceOf 57 = .ok (.goto (-37), 3) := by decide +kernel
theorem dX10_choiceOf_60 : decode cX10_choiceOf 60 = .ok (.iload 4, 2) := by decide +kernel
theorem dX10_choiceOf_62 : decode cX10_choiceOf 62 = .ok (.ireturn, 1) := by decide +kernel
theorem dX10_callsThat_0 : decode cX10_callsThat 0 = .ok (.iconst 0, 1) := by decide +kernel
theorem dX10_callsThat_1 : decode cX10_callsThat 1 = .ok (.istore_n 2, 1) := by decide +kernel
theorem dX10_callsThat_2 : decode cX10_callsThat 2 = .ok (.iconst 0, 1) := by decide +kernel
theorem dX10_callsThat_3 : decode cX10_callsThat 3 = .ok (.istore_n 3, 1) := by decide +kernel
theorem dX10_callsThat_4 : decode cX10_callsThat 4 = .ok (.iload_n 3, 1) := by decide +kernel
theorem dX10_callsThat_5 : decode cX10_callsThat 5 = .ok (.aload_n 0, 1) := by decide +kernel
theorem dX10_callsThat_6 : decode cX10_callsThat 6 = .ok (.getfield 17, 3) := by decide +kernel
theorem dX10_callsThat_9 : decode cX10_callsThat 9 = .ok (.iconst 5, 1) := by decide +kernel
theorem dX10_callsThat_10 : decode cX10_callsThat 10 = .ok (.iaload, 1) := by decide +kernel
theorem dX10_callsThat_11 : decode cX10_callsThat 11 = .ok (.if_icmp .ge 27, 3) := by decide +kernel
theorem dX10_callsThat_14 : decode cX10_callsThat 14 = .ok (.iload_n 2, 1) := by decide +kernel
theorem dX10_callsThat_15 : decode cX10_callsThat 15 = .ok (.aload_n 0, 1) := by decide +kernel
theorem dX10_callsThat_16 : decode cX10_callsThat 16 = .ok (.iload_n 3, 1) := by decide +kernel
theorem dX10_callsThat_17 : decode cX10_callsThat 17 = .ok (.iconst 4, 1) := by decide +kernel
theorem dX10_callsThat_18 : decode cX10_callsThat 18 = .ok (.invokevirtual 192, 3) := by decide +kernel
theorem dX10_callsThat_21 : decode cX10_callsThat 21 = .ok (.iload_n 1, 1) := by decide +kernel
theorem dX10_callsThat_22 : decode cX10_callsThat 22 = .ok (.if_icmp .ne 7, 3) := by decide +kernel
theorem dX10_callsThat_25 : decode cX10_callsThat 25 = .ok (.iconst 1, 1) := by decide +kernel
theorem dX10_callsThat_26 : decode cX10_callsThat 26 = .ok (.goto 4, 3) := by decide +kernel
theorem dX10_callsThat_29 : decode cX10_callsThat 29 = .ok (.iconst 0, 1) := by decide +kernel
theorem dX10_callsThat_30 : decode cX10_callsThat 30 = .ok (.iadd, 1) := by decide +kernel
theorem dX10_callsThat_31 : decode cX10_callsThat 31 = .ok (.istore_n 2, 1) := by decide +kernel
theorem dX10_callsThat_32 : decode cX10_callsThat 32 = .ok (.iinc 3 1, 3) := by decide +kernel
theorem dX10_callsThat_35 : decode cX10_callsThat 35 = .ok (.goto (-31), 3) := by decide +kernel
theorem dX10_callsThat_38 : decode cX10_callsThat 38 = .ok (.iload_n 2, 1) := by decide +kernel
theorem dX10_callsThat_39 : decode cX10_callsThat 39 = .ok (.ireturn, 1) := by decide +kernel
theorem dX10_isOver_0 : decode cX10_isOver 0 = .ok (.aload_n 0, 1) := by decide +kernel
theorem dX10_isOver_1 : decode cX10_isOver 1 = .ok (.iload_n 1, 1) := by decide +kernel
theorem dX10_isOver_2 : decode cX10_isOver 2 = .ok (.iconst 4, 1) := by decide +kernel
theorem dX10_isOver_3 : decode cX10_isOver 3 = .ok (.iload_n 2, 1) := by decide +kernel
theorem dX10_isOver_4 : decode cX10_isOver 4 = .ok (.invokevirtual 220, 3) := by decide +kernel
theorem dX10_isOver_7 : decode cX10_isOver 7 = .ok (.aload_n 0, 1) := by decide +kernel
theorem dX10_isOver_8 : decode cX10_isOver 8 = .ok (.iload_n 1, 1) := by decide +kernel
theorem dX10_isOver_9 : decode cX10_isOver 9 = .ok (.bipush 8, 2) := by decide +kernel
theorem dX10_isOver_11 : decode cX10_isOver 11 = .ok (.aload_n 0, 1) := by decide +kernel
theorem dX10_isOver_12 : decode cX10_isOver 12 = .ok (.getfield 17, 3) := by decide +kernel
theorem dX10_isOver_15 : decode cX10_isOver 15 = .ok (.bipush 6, 2) := by decide +kernel
theorem dX10_isOver_17 : decode cX10_isOver 17 = .ok (.iaload, 1) := by decide +kernel
theorem dX10_isOver_18 : decode cX10_isOver 18 = .ok (.invokevirtual 220, 3) := by decide +kernel
theorem dX10_isOver_21 : decode cX10_isOver 21 = .ok (.aload_n 0, 1) := by decide +kernel
theorem dX10_isOver_22 : decode cX10_isOver 22 = .ok (.iload_n 1, 1) := by decide +kernel
theorem dX10_isOver_23 : decode cX10_isOver 23 = .ok (.bipush 9, 2) := by decide +kernel
theorem dX10_isOver_25 : decode cX10_isOver 25 = .ok (.iconst 0, 1) := by decide +kernel
theorem dX10_isOver_26 : decode cX10_isOver 26 = .ok (.invokevirtual 220, 3) := by decide +kernel
theorem dX10_isOver_29 : decode cX10_isOver 29 = .ok (.return_, 1) := by decide +kernel
theorem dX10_waits_0 : decode cX10_waits 0 = .ok (.aload_n 0, 1) := by decide +kernel
theorem dX10_waits_1 : decode cX10_waits 1 = .ok (.iload_n 1, 1) := by decide +kernel
theorem dX10_waits_2 : decode cX10_waits 2 = .ok (.iconst 4, 1) := by decide +kernel
theorem dX10_waits_3 : decode cX10_waits 3 = .ok (.iload_n 2, 1) := by decide +kernel
theorem dX10_waits_4 : decode cX10_waits 4 = .ok (.invokevirtual 220, 3) := by decide +kernel
theorem dX10_waits_7 : decode cX10_waits 7 = .ok (.aload_n 0, 1) := by decide +kernel
theorem dX10_waits_8 : decode cX10_waits 8 = .ok (.getfield 17, 3) := by decide +kernel
theorem dX10_waits_11 : decode cX10_waits 11 = .ok (.bipush 25, 2) := by decide +kernel
theorem dX10_waits_13 : decode cX10_waits 13 = .ok (.dup2, 1) := by decide +kernel
theorem dX10_waits_14 : decode cX10_waits 14 = .ok (.iaload, 1) := by decide +kernel
theorem dX10_waits_15 : decode cX10_waits 15 = .ok (.iconst 1, 1) := by decide +kernel
theorem dX10_waits_16 : decode cX10_waits 16 = .ok (.iadd, 1) := by decide +kernel
theorem dX10_waits_17 : decode cX10_waits 17 = .ok (.iastore, 1) := by decide +kernel
theorem dX10_waits_18 : decode cX10_waits 18 = .ok (.aload_n 0, 1) := by decide +kernel
theorem dX10_waits_19 : decode cX10_waits 19 = .ok (.iload_n 1, 1) := by decide +kernel
theorem dX10_waits_20 : decode cX10_waits 20 = .ok (.bipush 12, 2) := by decide +kernel
theorem dX10_waits_22 : decode cX10_waits 22 = .ok (.aload_n 0, 1) := by decide +kernel
theorem dX10_waits_23 : decode cX10_waits 23 = .ok (.getfield 17, 3) := by decide +kernel
theorem dX10_waits_26 : decode cX10_waits 26 = .ok (.bipush 25, 2) := by decide +kernel
theorem dX10_waits_28 : decode cX10_waits 28 = .ok (.iaload, 1) := by decide +kernel
theorem dX10_waits_29 : decode cX10_waits 29 = .ok (.invokevirtual 220, 3) := by decide +kernel
theorem dX10_waits_32 : decode cX10_waits 32 = .ok (.return_, 1) := by decide +kernel
theorem dX10_comes_0 : decode cX10_comes 0 = .ok (.aload_n 0, 1) := by decide +kernel
theorem dX10_comes_1 : decode cX10_comes 1 = .ok (.aload_n 0, 1) := by decide +kernel
theorem dX10_comes_2 : decode cX10_comes 2 = .ok (.iload_n 1, 1) := by decide +kernel
theorem dX10_comes_3 : decode cX10_comes 3 = .ok (.iconst 0, 1) := by decide +kernel
theorem dX10_comes_4 : decode cX10_comes 4 = .ok (.invokevirtual 192, 3) := by decide +kernel
theorem dX10_comes_7 : decode cX10_comes 7 = .ok (.invokevirtual 224, 3) := by decide +kernel
theorem dX10_comes_10 : decode cX10_comes 10 = .ok (.ifCond .ne 18, 3) := by decide +kernel
theorem dX10_comes_13 : decode cX10_comes 13 = .ok (.aload_n 0, 1) := by decide +kernel
theorem dX10_comes_14 : decode cX10_comes 14 = .ok (.iconst 1, 1) := by decide +kernel
theorem dX10_comes_15 : decode cX10_comes 15 = .ok (.invokevirtual 227, 3) := by decide +kernel
theorem dX10_comes_18 : decode cX10_comes 18 = .ok (.aload_n 0, 1) := by decide +kernel
theorem dX10_comes_19 : decode cX10_comes 19 = .ok (.getfield 17, 3) := by decide +kernel
theorem dX10_comes_22 : decode cX10_comes 22 = .ok (.bipush 19, 2) := by decide +kernel
theorem dX10_comes_24 : decode cX10_comes 24 = .ok (.iaload, 1) := by decide +kernel
theorem dX10_comes_25 : decode cX10_comes 25 = .ok (.if_icmp .lt 7, 3) := by decide +kernel
theorem dX10_comes_28 : decode cX10_comes 28 = .ok (.iconst 1, 1) := by decide +kernel
theorem dX10_comes_29 : decode cX10_comes 29 = .ok (.goto 4, 3) := by decide +kernel
theorem dX10_comes_32 : decode cX10_comes 32 = .ok (.iconst 0, 1) := by decide +kernel
theorem dX10_comes_33 : decode cX10_comes 33 = .ok (.istore_n 2, 1) := by decide +kernel
theorem dX10_comes_34 : decode cX10_comes 34 = .ok (.aload_n 0, 1) := by decide +kernel
theorem dX10_comes_35 : decode cX10_comes 35 = .ok (.iload_n 1, 1) := by decide +kernel
theorem dX10_comes_36 : decode cX10_comes 36 = .ok (.bipush 13, 2) := by decide +kernel
theorem dX10_comes_38 : decode cX10_comes 38 = .ok (.iconst 1, 1) := by decide +kernel
theorem dX10_comes_39 : decode cX10_comes 39 = .ok (.invokevirtual 220, 3) := by decide +kernel
theorem dX10_comes_42 : decode cX10_comes 42 = .ok (.iload_n 2, 1) := by decide +kernel
theorem dX10_comes_43 : decode cX10_comes 43 = .ok (.ifCond .eq 13, 3) := by decide +kernel
theorem dX10_comes_46 : decode cX10_comes 46 = .ok (.aload_n 0, 1) := by decide +kernel
theorem dX10_comes_47 : decode cX10_comes 47 = .ok (.iload_n 1, 1) := by decide +kernel
theorem dX10_comes_48 : decode cX10_comes 48 = .ok (.bipush 10, 2) := by decide +kernel
theorem dX10_comes_50 : decode cX10_comes 50 = .ok (.invokevirtual 230, 3) := by decide +kernel
theorem dX10_comes_53 : decode cX10_comes 53 = .ok (.goto 9, 3) := by decide +kernel
theorem dX10_comes_56 : decode cX10_comes 56 = .ok (.aload_n 0, 1) := by decide +kernel
theorem dX10_comes_57 : decode cX10_comes 57 = .ok (.iload_n 1, 1) := by decide +kernel
theorem dX10_comes_58 : decode cX10_comes 58 = .ok (.iconst 1, 1) := by decide +kernel
theorem dX10_comes_59 : decode cX10_comes 59 = .ok (.invokevirtual 233, 3) := by decide +kernel
theorem dX10_comes_62 : decode cX10_comes 62 = .ok (.return_, 1) := by decide +kernel
theorem dX10_freeRegister_0 : decode cX10_freeRegister 0 = .ok (.aload_n 0, 1) := by decide +kernel
theorem dX10_freeRegister_1 : decode cX10_freeRegister 1 = .ok (.iload_n 1, 1) := by decide +kernel
theorem dX10_freeRegister_2 : decode cX10_freeRegister 2 = .ok (.bipush 10, 2) := by decide +kernel
theorem dX10_freeRegister_4 : decode cX10_freeRegister 4 = .ok (.invokevirtual 192, 3) := by decide +kernel
theorem dX10_freeRegister_7 : decode cX10_freeRegister 7 = .ok (.istore_n 2, 1) := by decide +kernel
theorem dX10_freeRegister_8 : decode cX10_freeRegister 8 = .ok (.iload_n 2, 1) := by decide +kernel
theorem dX10_freeRegister_9 : decode cX10_freeRegister 9 = .ok (.iconst (-1), 1) := by decide +kernel
theorem dX10_freeRegister_10 : decode cX10_freeRegister 10 = .ok (.if_icmp .ne 4, 3) := by decide +kernel
theorem dX10_freeRegister_13 : decode cX10_freeRegister 13 = .ok (.return_, 1) := by decide +kernel
theorem dX10_freeRegister_14 : decode cX10_freeRegister 14 = .ok (.aload_n 0, 1) := by decide +kernel
theorem dX10_freeRegister_15 : decode cX10_freeRegister 15 = .ok (.getfield 17, 3) := by decide +kernel
theorem dX10_freeRegister_18 : decode cX10_freeRegister 18 = .ok (.sipush 151, 3) := by decide +kernel
theorem dX10_freeRegister_21 : decode cX10_freeRegister 21 = .ok (.iconst 3, 1) := by decide +kernel
theorem dX10_freeRegister_22 : decode cX10_freeRegister 22 = .ok (.iload_n 2, 1) := by decide +kernel
theorem dX10_freeRegister_23 : decode cX10_freeRegister 23 = .ok (.imul, 1) := by decide +kernel
theorem dX10_freeRegister_24 : decode cX10_freeRegister 24 = .ok (.iadd, 1) := by decide +kernel
theorem dX10_freeRegister_25 : decode cX10_freeRegister 25 = .ok (.iconst 0, 1) := by decide +kernel
theorem dX10_freeRegister_26 : decode cX10_freeRegister 26 = .ok (.iadd, 1) := by decide +kernel
theorem dX10_freeRegister_27 : decode cX10_freeRegister 27 = .ok (.iconst (-1), 1) := by decide +kernel
theorem dX10_freeRegister_28 : decode cX10_freeRegister 28 = .ok (.iastore, 1) := by decide +kernel
theorem dX10_freeRegister_29 : decode cX10_freeRegister 29 = .ok (.aload_n 0, 1) := by decide +kernel
theorem dX10_freeRegister_30 : decode cX10_freeRegister 30 = .ok (.getfield 17, 3) := by decide +kernel
theorem dX10_freeRegister_33 : decode cX10_freeRegister 33 = .ok (.sipush 151, 3) := by decide +kernel
theorem dX10_freeRegister_36 : decode cX10_freeRegister 36 = .ok (.iconst 3, 1) := by decide +kernel
theorem dX10_freeRegister_37 : decode cX10_freeRegister 37 = .ok (.iload_n 2, 1) := by decide +kernel
theorem dX10_freeRegister_38 : decode cX10_freeRegister 38 = .ok (.imul, 1) := by decide +kernel
theorem dX10_freeRegister_39 : decode cX10_freeRegister 39 = .ok (.iadd, 1) := by decide +kernel
theorem dX10_freeRegister_40 : decode cX10_freeRegister 40 = .ok (.iconst 1, 1) := by decide +kernel
theorem dX10_freeRegister_41 : decode cX10_freeRegister 41 = .ok (.iadd, 1) := by decide +kernel
theorem dX10_freeRegister_42 : decode cX10_freeRegister 42 = .ok (.iconst 0, 1) := by decide +kernel
theorem dX10_freeRegister_43 : decode cX10_freeRegister 43 = .ok (.iastore, 1) := by decide +kernel
theorem dX10_freeRegister_44 : decode cX10_freeRegister 44 = .ok (.aload_n 0, 1) := by decide +kernel
theorem dX10_freeRegister_45 : decode cX10_freeRegister 45 = .ok (.getfield 17, 3) := by decide +kernel
theorem dX10_freeRegister_48 : decode cX10_freeRegister 48 = .ok (.sipush 151, 3) := by decide +kernel
theorem dX10_freeRegister_51 : decode cX10_freeRegister 51 = .ok (.iconst 3, 1) := by decide +kernel
theorem dX10_freeRegister_52 : decode cX10_freeRegister 52 = .ok (.iload_n 2, 1) := by decide +kernel
theorem dX10_freeRegister_53 : decode cX10_freeRegister 53 = .ok (.imul, 1) := by decide +kernel
theorem dX10_freeRegister_54 : decode cX10_freeRegister 54 = .ok (.iadd, 1) := by decide +kernel
theorem dX10_freeRegister_55 : decode cX10_freeRegister 55 = .ok (.iconst 2, 1) := by decide +kernel
theorem dX10_freeRegister_56 : decode cX10_freeRegister 56 = .ok (.iadd, 1) := by decide +kernel
theorem dX10_freeRegister_57 : decode cX10_freeRegister 57 = .ok (.iconst 0, 1) := by decide +kernel
theorem dX10_freeRegister_58 : decode cX10_freeRegister 58 = .ok (.iastore, 1) := by decide +kernel
theorem dX10_freeRegister_59 : decode cX10_freeRegister 59 = .ok (.aload_n 0, 1) := by decide +kernel
theorem dX10_freeRegister_60 : decode cX10_freeRegister 60 = .ok (.iload_n 1, 1) := by decide +kernel
theorem dX10_freeRegister_61 : decode cX10_freeRegister 61 = .ok (.bipush 10, 2) := by decide +kernel
theorem dX10_freeRegister_63 : decode cX10_freeRegister 63 = .ok (.iconst (-1), 1) := by decide +kernel
theorem dX10_freeRegister_64 : decode cX10_freeRegister 64 = .ok (.invokevirtual 220, 3) := by decide +kernel
theorem dX10_freeRegister_67 : decode cX10_freeRegister 67 = .ok (.return_, 1) := by decide +kernel
theorem dX10_talks_0 : decode cX10_talks 0 = .ok (.aload_n 0, 1) := by decide +kernel
theorem dX10_talks_1 : decode cX10_talks 1 = .ok (.iload_n 1, 1) := by decide +kernel
theorem dX10_talks_2 : decode cX10_talks 2 = .ok (.iconst 4, 1) := by decide +kernel
theorem dX10_talks_3 : decode cX10_talks 3 = .ok (.iconst 5, 1) := by decide +kernel
theorem dX10_talks_4 : decode cX10_talks 4 = .ok (.invokevirtual 220, 3) := by decide +kernel
theorem dX10_talks_7 : decode cX10_talks 7 = .ok (.aload_n 0, 1) := by decide +kernel
theorem dX10_talks_8 : decode cX10_talks 8 = .ok (.iload_n 1, 1) := by decide +kernel
theorem dX10_talks_9 : decode cX10_talks 9 = .ok (.iconst 5, 1) := by decide +kernel
theorem dX10_talks_10 : decode cX10_talks 10 = .ok (.iload_n 2, 1) := by decide +kernel
theorem dX10_talks_11 : decode cX10_talks 11 = .ok (.invokevirtual 220, 3) := by decide +kernel
theorem dX10_talks_14 : decode cX10_talks 14 = .ok (.aload_n 0, 1) := by decide +kernel
theorem dX10_talks_15 : decode cX10_talks 15 = .ok (.iload_n 1, 1) := by decide +kernel
theorem dX10_talks_16 : decode cX10_talks 16 = .ok (.bipush 6, 2) := by decide +kernel
theorem dX10_talks_18 : decode cX10_talks 18 = .ok (.iload_n 3, 1) := by decide +kernel
theorem dX10_talks_19 : decode cX10_talks 19 = .ok (.invokevirtual 220, 3) := by decide +kernel
theorem dX10_talks_22 : decode cX10_talks 22 = .ok (.aload_n 0, 1) := by decide +kernel
theorem dX10_talks_23 : decode cX10_talks 23 = .ok (.iload_n 1, 1) := by decide +kernel
theorem dX10_talks_24 : decode cX10_talks 24 = .ok (.bipush 7, 2) := by decide +kernel
theorem dX10_talks_26 : decode cX10_talks 26 = .ok (.aload_n 0, 1) := by decide +kernel
theorem dX10_talks_27 : decode cX10_talks 27 = .ok (.getfield 17, 3) := by decide +kernel
theorem dX10_talks_30 : decode cX10_talks 30 = .ok (.bipush 6, 2) := by decide +kernel
theorem dX10_talks_32 : decode cX10_talks 32 = .ok (.iaload, 1) := by decide +kernel
theorem dX10_talks_33 : decode cX10_talks 33 = .ok (.invokevirtual 220, 3) := by decide +kernel
theorem dX10_talks_36 : decode cX10_talks 36 = .ok (.aload_n 0, 1) := by decide +kernel
theorem dX10_talks_37 : decode cX10_talks 37 = .ok (.iload_n 1, 1) := by decide +kernel
theorem dX10_talks_38 : decode cX10_talks 38 = .ok (.bipush 9, 2) := by decide +kernel
theorem dX10_talks_40 : decode cX10_talks 40 = .ok (.aload_n 0, 1) := by decide +kernel
theorem dX10_talks_41 : decode cX10_talks 41 = .ok (.iload_n 1, 1) := by decide +kernel
theorem dX10_talks_42 : decode cX10_talks 42 = .ok (.iconst 2, 1) := by decide +kernel
theorem dX10_talks_43 : decode cX10_talks 43 = .ok (.invokevirtual 192, 3) := by decide +kernel
theorem dX10_talks_46 : decode cX10_talks 46 = .ok (.invokevirtual 220, 3) := by decide +kernel
theorem dX10_talks_49 : decode cX10_talks 49 = .ok (.return_, 1) := by decide +kernel
theorem dX10_looks_0 : decode cX10_looks 0 = .ok (.aload_n 0, 1) := by decide +kernel
theorem dX10_looks_1 : decode cX10_looks 1 = .ok (.getfield 17, 3) := by decide +kernel
theorem dX10_looks_4 : decode cX10_looks 4 = .ok (.iload_n 2, 1) := by decide +kernel
theorem dX10_looks_5 : decode cX10_looks 5 = .ok (.iload_n 3, 1) := by decide +kernel
theorem dX10_looks_6 : decode cX10_looks 6 = .ok (.invokestatic 116, 3) := by decide +kernel
theorem dX10_looks_9 : decode cX10_looks 9 = .ok (.istore 4, 2) := by decide +kernel
theorem dX10_looks_11 : decode cX10_looks 11 = .ok (.iload 4, 2) := by decide +kernel
theorem dX10_looks_13 : decode cX10_looks 13 = .ok (.iconst (-1), 1) := by decide +kernel
theorem dX10_looks_14 : decode cX10_looks 14 = .ok (.if_icmp .eq 31, 3) := by decide +kernel
theorem dX10_looks_17 : decode cX10_looks 17 = .ok (.aload_n 0, 1) := by decide +kernel
theorem dX10_looks_18 : decode cX10_looks 18 = .ok (.iload 4, 2) := by decide +kernel
theorem dX10_looks_20 : decode cX10_looks 20 = .ok (.invokevirtual 224, 3) := by decide +kernel
theorem dX10_looks_23 : decode cX10_looks 23 = .ok (.ifCond .eq 13, 3) := by decide +kernel
theorem dX10_looks_26 : decode cX10_looks 26 = .ok (.aload_n 0, 1) := by decide +kernel
theorem dX10_looks_27 : decode cX10_looks 27 = .ok (.iload_n 1, 1) := by decide +kernel
theorem dX10_looks_28 : decode cX10_looks 28 = .ok (.bipush 7, 2) := by decide +kernel
theorem dX10_looks_30 : decode cX10_looks 30 = .ok (.invokevirtual 230, 3) := by decide +kernel
theorem dX10_looks_33 : decode cX10_looks 33 = .ok (.goto 11, 3) := by decide +kernel
theorem dX10_looks_36 : decode cX10_looks 36 = .ok (.aload_n 0, 1) := by decide +kernel
theorem dX10_looks_37 : decode cX10_looks 37 = .ok (.iload_n 1, 1) := by decide +kernel
theorem dX10_looks_38 : decode cX10_looks 38 = .ok (.iload 4, 2) := by decide +kernel
theorem dX10_looks_40 : decode cX10_looks 40 = .ok (.iconst (-1), 1) := by decide +kernel
theorem dX10_looks_41 : decode cX10_looks 41 = .ok (.invokevirtual 236, 3) := by decide +kernel
theorem dX10_looks_44 : decode cX10_looks 44 = .ok (.return_, 1) := by decide +kernel
theorem dX10_looks_45 : decode cX10_looks 45 = .ok (.aload_n 0, 1) := by decide +kernel
theorem dX10_looks_46 : decode cX10_looks 46 = .ok (.iload_n 2, 1) := by decide +kernel
theorem dX10_looks_47 : decode cX10_looks 47 = .ok (.iload_n 3, 1) := by decide +kernel
theorem dX10_looks_48 : decode cX10_looks 48 = .ok (.invokevirtual 198, 3) := by decide +kernel
theorem dX10_looks_51 : decode cX10_looks 51 = .ok (.istore 5, 2) := by decide +kernel
theorem dX10_looks_53 : decode cX10_looks 53 = .ok (.bipush 95, 2) := by decide +kernel
theorem dX10_looks_55 : decode cX10_looks 55 = .ok (.bipush 7, 2) := by decide +kernel
theorem dX10_looks_57 : decode cX10_looks 57 = .ok (.iload 5, 2) := by decide +kernel
theorem dX10_looks_59 : decode cX10_looks 59 = .ok (.imul, 1) := by decide +kernel
theorem dX10_looks_60 : decode cX10_looks 60 = .ok (.iadd, 1) := by decide +kernel
theorem dX10_looks_61 : decode cX10_looks 61 = .ok (.istore 6, 2) := by decide +kernel
theorem dX10_looks_63 : decode cX10_looks 63 = .ok (.aload_n 0, 1) := by decide +kernel
theorem dX10_looks_64 : decode cX10_looks 64 = .ok (.iload 5, 2) := by decide +kernel
theorem dX10_looks_66 : decode cX10_looks 66 = .ok (.invokevirtual 239, 3) := by decide +kernel
theorem dX10_looks_69 : decode cX10_looks 69 = .ok (.istore 7, 2) := by decide +kernel
theorem dX10_looks_71 : decode cX10_looks 71 = .ok (.iconst 0, 1) := by decide +kernel
theorem dX10_looks_72 : decode cX10_looks 72 = .ok (.istore 8, 2) := by decide +kernel
theorem dX10_looks_74 : decode cX10_looks 74 = .ok (.iload 8, 2) := by decide +kernel
theorem dX10_looks_76 : decode cX10_looks 76 = .ok (.iload 7, 2) := by decide +kernel
theorem dX10_looks_78 : decode cX10_looks 78 = .ok (.if_icmp .ge 38, 3) := by decide +kernel
theorem dX10_looks_81 : decode cX10_looks 81 = .ok (.aload_n 0, 1) := by decide +kernel
theorem dX10_looks_82 : decode cX10_looks 82 = .ok (.aload_n 0, 1) := by decide +kernel
theorem dX10_looks_83 : decode cX10_looks 83 = .ok (.getfield 17, 3) := by decide +kernel
theorem dX10_looks_86 : decode cX10_looks 86 = .ok (.iload 6, 2) := by decide +kernel
theorem dX10_looks_88 : decode cX10_looks 88 = .ok (.iconst 4, 1) := by decide +kernel
theorem dX10_looks_89 : decode cX10_looks 89 = .ok (.iadd, 1) := by decide +kernel
theorem dX10_looks_90 : decode cX10_looks 90 = .ok (.iload 8, 2) := by decide +kernel
theorem dX10_looks_92 : decode cX10_looks 92 = .ok (.iadd, 1) := by decide +kernel
theorem dX10_looks_93 : decode cX10_looks 93 = .ok (.iaload, 1) := by decide +kernel
theorem dX10_looks_94 : decode cX10_looks 94 = .ok (.iconst 3, 1) := by decide +kernel
theorem dX10_looks_95 : decode cX10_looks 95 = .ok (.iconst 1, 1) := by decide +kernel
theorem dX10_looks_96 : decode cX10_looks 96 = .ok (.invokevirtual 242, 3) := by decide +kernel
theorem dX10_looks_99 : decode cX10_looks 99 = .ok (.aload_n 0, 1) := by decide +kernel
theorem dX10_looks_100 : decode cX10_looks 100 = .ok (.getfield 17, 3) := by decide +kernel
theorem dX10_looks_103 : decode cX10_looks 103 = .ok (.bipush 23, 2) := by decide +kernel
theorem dX10_looks_105 : decode cX10_looks 105 = .ok (.dup2, 1) := by decide +kernel
theorem dX10_looks_106 : decode cX10_looks 106 = .ok (.iaload, 1) := by decide +kernel
theorem dX10_looks_107 : decode cX10_looks 107 = .ok (.iconst 1, 1) := by decide +kernel
theorem dX10_looks_108 : decode cX10_looks 108 = .ok (.iadd, 1) := by decide +kernel
theorem dX10_looks_109 : decode cX10_looks 109 = .ok (.iastore, 1) := by decide +kernel
theorem dX10_looks_110 : decode cX10_looks 110 = .ok (.iinc 8 1, 3) := by decide +kernel
theorem dX10_looks_113 : decode cX10_looks 113 = .ok (.goto (-39), 3) := by decide +kernel
theorem dX10_looks_116 : decode cX10_looks 116 = .ok (.iload 7, 2) := by decide +kernel
theorem dX10_looks_118 : decode cX10_looks 118 = .ok (.aload_n 0, 1) := by decide +kernel
theorem dX10_looks_119 : decode cX10_looks 119 = .ok (.getfield 17, 3) := by decide +kernel
theorem dX10_looks_122 : decode cX10_looks 122 = .ok (.iload 6, 2) := by decide +kernel
theorem dX10_looks_124 : decode cX10_looks 124 = .ok (.iconst 3, 1) := by decide +kernel
theorem dX10_looks_125 : decode cX10_looks 125 = .ok (.iadd, 1) := by decide +kernel
theorem dX10_looks_126 : decode cX10_looks 126 = .ok (.iaload, 1) := by decide +kernel
theorem dX10_looks_127 : decode cX10_looks 127 = .ok (.if_icmp .ne 11, 3) := by decide +kernel
theorem dX10_looks_130 : decode cX10_looks 130 = .ok (.aload_n 0, 1) := by decide +kernel
theorem dX10_looks_131 : decode cX10_looks 131 = .ok (.iload_n 1, 1) := by decide +kernel
theorem dX10_looks_132 : decode cX10_looks 132 = .ok (.bipush 8, 2) := by decide +kernel
theorem dX10_looks_134 : decode cX10_looks 134 = .ok (.invokevirtual 230, 3) := by decide +kernel
theorem dX10_looks_137 : decode cX10_looks 137 = .ok (.return_, 1) := by decide +kernel
theorem dX10_looks_138 : decode cX10_looks 138 = .ok (.aload_n 0, 1) := by decide +kernel
theorem dX10_looks_139 : decode cX10_looks 139 = .ok (.getfield 17, 3) := by decide +kernel
theorem dX10_looks_142 : decode cX10_looks 142 = .ok (.iload 6, 2) := by decide +kernel
theorem dX10_looks_144 : decode cX10_looks 144 = .ok (.iconst 4, 1) := by decide +kernel
theorem dX10_looks_145 : decode cX10_looks 145 = .ok (.iadd, 1) := by decide +kernel
theorem dX10_looks_146 : decode cX10_looks 146 = .ok (.iload 7, 2) := by decide +kernel
theorem dX10_looks_148 : decode cX10_looks 148 = .ok (.iadd, 1) := by decide +kernel
theorem dX10_looks_149 : decode cX10_looks 149 = .ok (.iaload, 1) := by decide +kernel
theorem dX10_looks_150 : decode cX10_looks 150 = .ok (.istore 8, 2) := by decide +kernel
theorem dX10_looks_152 : decode cX10_looks 152 = .ok (.aload_n 0, 1) := by decide +kernel
theorem dX10_looks_153 : decode cX10_looks 153 = .ok (.iload_n 1, 1) := by decide +kernel
theorem dX10_looks_154 : decode cX10_looks 154 = .ok (.iconst (-1), 1) := by decide +kernel
theorem dX10_looks_155 : decode cX10_looks 155 = .ok (.iload 8, 2) := by decide +kernel
theorem dX10_looks_157 : decode cX10_looks 157 = .ok (.invokevirtual 236, 3) := by decide +kernel
theorem dX10_looks_160 : decode cX10_looks 160 = .ok (.aload_n 0, 1) := by decide +kernel
theorem dX10_looks_161 : decode cX10_looks 161 = .ok (.iload 8, 2) := by decide +kernel
theorem dX10_looks_163 : decode cX10_looks 163 = .ok (.iconst 4, 1) := by decide +kernel
theorem dX10_looks_164 : decode cX10_looks 164 = .ok (.iconst 1, 1) := by decide +kernel
theorem dX10_looks_165 : decode cX10_looks 165 = .ok (.invokevirtual 242, 3) := by decide +kernel
theorem dX10_looks_168 : decode cX10_looks 168 = .ok (.aload_n 0, 1) := by decide +kernel
theorem dX10_looks_169 : decode cX10_looks 169 = .ok (.iload 8, 2) := by decide +kernel
theorem dX10_looks_171 : decode cX10_looks 171 = .ok (.iconst 5, 1) := by decide +kernel
theorem dX10_looks_172 : decode cX10_looks 172 = .ok (.iload 7, 2) := by decide +kernel
theorem dX10_looks_174 : decode cX10_looks 174 = .ok (.ifCond .le 7, 3) := by decide +kernel
theorem dX10_looks_177 : decode cX10_looks 177 = .ok (.iconst 1, 1) := by decide +kernel
theorem dX10_looks_178 : decode cX10_looks 178 = .ok (.goto 4, 3) := by decide +kernel
theorem dX10_looks_181 : decode cX10_looks 181 = .ok (.iconst 0, 1) := by decide +kernel
theorem dX10_looks_182 : decode cX10_looks 182 = .ok (.invokevirtual 242, 3) := by decide +kernel
theorem dX10_looks_185 : decode cX10_looks 185 = .ok (.return_, 1) := by decide +kernel
theorem dX10_dialledValue_0 : decode cX10_dialledValue 0 = .ok (.aload_n 0, 1) := by decide +kernel
theorem dX10_dialledValue_1 : decode cX10_dialledValue 1 = .ok (.iload_n 1, 1) := by decide +kernel
theorem dX10_dialledValue_2 : decode cX10_dialledValue 2 = .ok (.bipush 11, 2) := by decide +kernel
theorem dX10_dialledValue_4 : decode cX10_dialledValue 4 = .ok (.invokevirtual 192, 3) := by decide +kernel
theorem dX10_dialledValue_7 : decode cX10_dialledValue 7 = .ok (.aload_n 0, 1) := by decide +kernel
theorem dX10_dialledValue_8 : decode cX10_dialledValue 8 = .ok (.iload_n 1, 1) := by decide +kernel
theorem dX10_dialledValue_9 : decode cX10_dialledValue 9 = .ok (.iconst 1, 1) := by decide +kernel
theorem dX10_dialledValue_10 : decode cX10_dialledValue 10 = .ok (.invokevirtual 192, 3) := by decide +kernel
theorem dX10_dialledValue_13 : decode cX10_dialledValue 13 = .ok (.iload_n 2, 1) := by decide +kernel
theorem dX10_dialledValue_14 : decode cX10_dialledValue 14 = .ok (.isub, 1) := by decide +kernel
theorem dX10_dialledValue_15 : decode cX10_dialledValue 15 = .ok (.invokestatic 195, 3) := by decide +kernel
theorem dX10_dialledValue_18 : decode cX10_dialledValue 18 = .ok (.idiv, 1) := by decide +kernel
theorem dX10_dialledValue_19 : decode cX10_dialledValue 19 = .ok (.ireturn, 1) := by decide +kernel
theorem dX10_marks_0 : decode cX10_marks 0 = .ok (.sipush 163, 3) := by decide +kernel
theorem dX10_marks_3 : decode cX10_marks 3 = .ok (.iconst 2, 1) := by decide +kernel
theorem dX10_marks_4 : decode cX10_marks 4 = .ok (.iload_n 1, 1) := by decide +kernel
theorem dX10_marks_5 : decode cX10_marks 5 = .ok (.imul, 1) := by decide +kernel
theorem dX10_marks_6 : decode cX10_marks 6 = .ok (.iadd, 1) := by decide +kernel
theorem dX10_marks_7 : decode cX10_marks 7 = .ok (.istore_n 2, 1) := by decide +kernel
theorem dX10_marks_8 : decode cX10_marks 8 = .ok (.aload_n 0, 1) := by decide +kernel
theorem dX10_marks_9 : decode cX10_marks 9 = .ok (.getfield 17, 3) := by decide +kernel
theorem dX10_marks_12 : decode cX10_marks 12 = .ok (.iload_n 2, 1) := by decide +kernel
theorem dX10_marks_13 : decode cX10_marks 13 = .ok (.iconst 0, 1) := by decide +kernel
theorem dX10_marks_14 : decode cX10_marks 14 = .ok (.iadd, 1) := by decide +kernel
theorem dX10_marks_15 : decode cX10_marks 15 = .ok (.iaload, 1) := by decide +kernel
theorem dX10_marks_16 : decode cX10_marks 16 = .ok (.istore_n 3, 1) := by decide +kernel
theorem dX10_marks_17 : decode cX10_marks 17 = .ok (.iload_n 3, 1) := by decide +kernel
theorem dX10_marks_18 : decode cX10_marks 18 = .ok (.iconst (-1), 1) := by decide +kernel
theorem dX10_marks_19 : decode cX10_marks 19 = .ok (.if_icmp .ne 4, 3) := by decide +kernel
theorem dX10_marks_22 : decode cX10_marks 22 = .ok (.return_, 1) := by decide +kernel
theorem dX10_marks_23 : decode cX10_marks 23 = .ok (.aload_n 0, 1) := by decide +kernel
theorem dX10_marks_24 : decode cX10_marks 24 = .ok (.getfield 17, 3) := by decide +kernel
theorem dX10_marks_27 : decode cX10_marks 27 = .ok (.iload_n 2, 1) := by decide +kernel
theorem dX10_marks_28 : decode cX10_marks 28 = .ok (.iconst 1, 1) := by decide +kernel
theorem dX10_marks_29 : decode cX10_marks 29 = .ok (.iadd, 1) := by decide +kernel
theorem dX10_marks_30 : decode cX10_marks 30 = .ok (.dup2, 1) := by decide +kernel
theorem dX10_marks_31 : decode cX10_marks 31 = .ok (.iaload, 1) := by decide +kernel
theorem dX10_marks_32 : decode cX10_marks 32 = .ok (.iconst 1, 1) := by decide +kernel
theorem dX10_marks_33 : decode cX10_marks 33 = .ok (.isub, 1) := by decide +kernel
theorem dX10_marks_34 : decode cX10_marks 34 = .ok (.iastore, 1) := by decide +kernel
theorem dX10_marks_35 : decode cX10_marks 35 = .ok (.aload_n 0, 1) := by decide +kernel
theorem dX10_marks_36 : decode cX10_marks 36 = .ok (.getfield 17, 3) := by decide +kernel
theorem dX10_marks_39 : decode cX10_marks 39 = .ok (.iload_n 2, 1) := by decide +kernel
theorem dX10_marks_40 : decode cX10_marks 40 = .ok (.iconst 1, 1) := by decide +kernel
theorem dX10_marks_41 : decode cX10_marks 41 = .ok (.iadd, 1) := by decide +kernel
theorem dX10_marks_42 : decode cX10_marks 42 = .ok (.iaload, 1) := by decide +kernel
theorem dX10_marks_43 : decode cX10_marks 43 = .ok (.ifCond .le 4, 3) := by decide +kernel
theorem dX10_marks_46 : decode cX10_marks 46 = .ok (.return_, 1) := by decide +kernel
theorem dX10_marks_47 : decode cX10_marks 47 = .ok (.aload_n 0, 1) := by decide +kernel
theorem dX10_marks_48 : decode cX10_marks 48 = .ok (.getfield 17, 3) := by decide +kernel
theorem dX10_marks_51 : decode cX10_marks 51 = .ok (.iload_n 2, 1) := by decide +kernel
theorem dX10_marks_52 : decode cX10_marks 52 = .ok (.iconst 0, 1) := by decide +kernel
theorem dX10_marks_53 : decode cX10_marks 53 = .ok (.iadd, 1) := by decide +kernel
theorem dX10_marks_54 : decode cX10_marks 54 = .ok (.iconst (-1), 1) := by decide +kernel
theorem dX10_marks_55 : decode cX10_marks 55 = .ok (.iastore, 1) := by decide +kernel
theorem dX10_marks_56 : decode cX10_marks 56 = .ok (.aload_n 0, 1) := by decide +kernel
theorem dX10_marks_57 : decode cX10_marks 57 = .ok (.getfield 17, 3) := by decide +kernel
theorem dX10_marks_60 : decode cX10_marks 60 = .ok (.sipush 151, 3) := by decide +kernel
theorem dX10_marks_63 : decode cX10_marks 63 = .ok (.iconst 3, 1) := by decide +kernel
theorem dX10_marks_64 : decode cX10_marks 64 = .ok (.aload_n 0, 1) := by decide +kernel
theorem dX10_marks_65 : decode cX10_marks 65 = .ok (.iload_n 3, 1) := by decide +kernel
theorem dX10_marks_66 : decode cX10_marks 66 = .ok (.bipush 10, 2) := by decide +kernel
theorem dX10_marks_68 : decode cX10_marks 68 = .ok (.invokevirtual 192, 3) := by decide +kernel
theorem dX10_marks_71 : decode cX10_marks 71 = .ok (.imul, 1) := by decide +kernel
theorem dX10_marks_72 : decode cX10_marks 72 = .ok (.iadd, 1) := by decide +kernel
theorem dX10_marks_73 : decode cX10_marks 73 = .ok (.iconst 1, 1) := by decide +kernel
theorem dX10_marks_74 : decode cX10_marks 74 = .ok (.iadd, 1) := by decide +kernel
theorem dX10_marks_75 : decode cX10_marks 75 = .ok (.iaload, 1) := by decide +kernel
theorem dX10_marks_76 : decode cX10_marks 76 = .ok (.istore 4, 2) := by decide +kernel
theorem dX10_marks_78 : decode cX10_marks 78 = .ok (.aload_n 0, 1) := by decide +kernel
theorem dX10_marks_79 : decode cX10_marks 79 = .ok (.iload_n 3, 1) := by decide +kernel
theorem dX10_marks_80 : decode cX10_marks 80 = .ok (.invokevirtual 245, 3) := by decide +kernel
theorem dX10_marks_83 : decode cX10_marks 83 = .ok (.aload_n 0, 1) := by decide +kernel
theorem dX10_marks_84 : decode cX10_marks 84 = .ok (.iload_n 3, 1) := by decide +kernel
theorem dX10_marks_85 : decode cX10_marks 85 = .ok (.iload 4, 2) := by decide +kernel
theorem dX10_marks_87 : decode cX10_marks 87 = .ok (.aload_n 0, 1) := by decide +kernel
theorem dX10_marks_88 : decode cX10_marks 88 = .ok (.iload_n 3, 1) := by decide +kernel
theorem dX10_marks_89 : decode cX10_marks 89 = .ok (.iload 4, 2) := by decide +kernel
theorem dX10_marks_91 : decode cX10_marks 91 = .ok (.invokevirtual 248, 3) := by decide +kernel
theorem dX10_marks_94 : decode cX10_marks 94 = .ok (.invokevirtual 251, 3) := by decide +kernel
theorem dX10_marks_97 : decode cX10_marks 97 = .ok (.return_, 1) := by decide +kernel
theorem dX10_dials_0 : decode cX10_dials 0 = .ok (.sipush 151, 3) := by decide +kernel
theorem dX10_dials_3 : decode cX10_dials 3 = .ok (.iconst 3, 1) := by decide +kernel
theorem dX10_dials_4 : decode cX10_dials 4 = .ok (.iload_n 1, 1) := by decide +kernel
theorem dX10_dials_5 : decode cX10_dials 5 = .ok (.imul, 1) := by decide +kernel
theorem dX10_dials_6 : decode cX10_dials 6 = .ok (.iadd, 1) := by decide +kernel
theorem dX10_dials_7 : decode cX10_dials 7 = .ok (.istore_n 2, 1) := by decide +kernel
theorem dX10_dials_8 : decode cX10_dials 8 = .ok (.aload_n 0, 1) := by decide +kernel
theorem dX10_dials_9 : decode cX10_dials 9 = .ok (.getfield 17, 3) := by decide +kernel
theorem dX10_dials_12 : decode cX10_dials 12 = .ok (.iload_n 2, 1) := by decide +kernel
theorem dX10_dials_13 : decode cX10_dials 13 = .ok (.iconst 0, 1) := by decide +kernel
theorem dX10_dials_14 : decode cX10_dials 14 = .ok (.iadd, 1) := by decide +kernel
theorem dX10_dials_15 : decode cX10_dials 15 = .ok (.iaload, 1) := by decide +kernel
theorem dX10_dials_16 : decode cX10_dials 16 = .ok (.istore_n 3, 1) := by decide +kernel
theorem dX10_dials_17 : decode cX10_dials 17 = .ok (.iload_n 3, 1) := by decide +kernel
theorem dX10_dials_18 : decode cX10_dials 18 = .ok (.iconst (-1), 1) := by decide +kernel
theorem dX10_dials_19 : decode cX10_dials 19 = .ok (.if_icmp .eq 13, 3) := by decide +kernel
theorem dX10_dials_22 : decode cX10_dials 22 = .ok (.aload_n 0, 1) := by decide +kernel
theorem dX10_dials_23 : decode cX10_dials 23 = .ok (.iload_n 3, 1) := by decide +kernel
theorem dX10_dials_24 : decode cX10_dials 24 = .ok (.iconst 4, 1) := by decide +kernel
theorem dX10_dials_25 : decode cX10_dials 25 = .ok (.invokevirtual 192, 3) := by decide +kernel
theorem dX10_dials_28 : decode cX10_dials 28 = .ok (.iconst 2, 1) := by decide +kernel
theorem dX10_dials_29 : decode cX10_dials 29 = .ok (.if_icmp .eq 4, 3) := by decide +kernel
theorem dX10_dials_32 : decode cX10_dials 32 = .ok (.return_, 1) := by decide +kernel
theorem dX10_dials_33 : decode cX10_dials 33 = .ok (.aload_n 0, 1) := by decide +kernel
theorem dX10_dials_34 : decode cX10_dials 34 = .ok (.getfield 17, 3) := by decide +kernel
theorem dX10_dials_37 : decode cX10_dials 37 = .ok (.iload_n 2, 1) := by decide +kernel
theorem dX10_dials_38 : decode cX10_dials 38 = .ok (.iconst 1, 1) := by decide +kernel
theorem dX10_dials_39 : decode cX10_dials 39 = .ok (.iadd, 1) := by decide +kernel
theorem dX10_dials_40 : decode cX10_dials 40 = .ok (.iaload, 1) := by decide +kernel
theorem dX10_dials_41 : decode cX10_dials 41 = .ok (.aload_n 0, 1) := by decide +kernel
theorem dX10_dials_42 : decode cX10_dials 42 = .ok (.iload_n 3, 1) := by decide +kernel
theorem dX10_dials_43 : decode cX10_dials 43 = .ok (.iconst 1, 1) := by decide +kernel
theorem dX10_dials_44 : decode cX10_dials 44 = .ok (.invokevirtual 192, 3) := by decide +kernel
theorem dX10_dials_47 : decode cX10_dials 47 = .ok (.if_icmp .ge 15, 3) := by decide +kernel
theorem dX10_dials_50 : decode cX10_dials 50 = .ok (.aload_n 0, 1) := by decide +kernel
theorem dX10_dials_51 : decode cX10_dials 51 = .ok (.getfield 17, 3) := by decide +kernel
theorem dX10_dials_54 : decode cX10_dials 54 = .ok (.iload_n 2, 1) := by decide +kernel
theorem dX10_dials_55 : decode cX10_dials 55 = .ok (.iconst 1, 1) := by decide +kernel
theorem dX10_dials_56 : decode cX10_dials 56 = .ok (.iadd, 1) := by decide +kernel
theorem dX10_dials_57 : decode cX10_dials 57 = .ok (.dup2, 1) := by decide +kernel
theorem dX10_dials_58 : decode cX10_dials 58 = .ok (.iaload, 1) := by decide +kernel
theorem dX10_dials_59 : decode cX10_dials 59 = .ok (.iconst 1, 1) := by decide +kernel
theorem dX10_dials_60 : decode cX10_dials 60 = .ok (.iadd, 1) := by decide +kernel
theorem dX10_dials_61 : decode cX10_dials 61 = .ok (.iastore, 1) := by decide +kernel
theorem dX10_dials_62 : decode cX10_dials 62 = .ok (.aload_n 0, 1) := by decide +kernel
theorem dX10_dials_63 : decode cX10_dials 63 = .ok (.aload_n 0, 1) := by decide +kernel
theorem dX10_dials_64 : decode cX10_dials 64 = .ok (.getfield 17, 3) := by decide +kernel
theorem dX10_dials_67 : decode cX10_dials 67 = .ok (.iload_n 2, 1) := by decide +kernel
theorem dX10_dials_68 : decode cX10_dials 68 = .ok (.iconst 1, 1) := by decide +kernel
theorem dX10_dials_69 : decode cX10_dials 69 = .ok (.iadd, 1) := by decide +kernel
theorem dX10_dials_70 : decode cX10_dials 70 = .ok (.iaload, 1) := by decide +kernel
theorem dX10_dials_71 : decode cX10_dials 71 = .ok (.aload_n 0, 1) := by decide +kernel
theorem dX10_dials_72 : decode cX10_dials 72 = .ok (.iload_n 3, 1) := by decide +kernel
theorem dX10_dials_73 : decode cX10_dials 73 = .ok (.aload_n 0, 1) := by decide +kernel
theorem dX10_dials_74 : decode cX10_dials 74 = .ok (.getfield 17, 3) := by decide +kernel
theorem dX10_dials_77 : decode cX10_dials 77 = .ok (.iload_n 2, 1) := by decide +kernel
theorem dX10_dials_78 : decode cX10_dials 78 = .ok (.iconst 1, 1) := by decide +kernel
theorem dX10_dials_79 : decode cX10_dials 79 = .ok (.iadd, 1) := by decide +kernel
theorem dX10_dials_80 : decode cX10_dials 80 = .ok (.iaload, 1) := by decide +kernel
theorem dX10_dials_81 : decode cX10_dials 81 = .ok (.invokevirtual 248, 3) := by decide +kernel
theorem dX10_dials_84 : decode cX10_dials 84 = .ok (.invokevirtual 254, 3) := by decide +kernel
theorem dX10_dials_87 : decode cX10_dials 87 = .ok (.ifCond .eq 10, 3) := by decide +kernel
theorem dX10_dials_90 : decode cX10_dials 90 = .ok (.aload_n 0, 1) := by decide +kernel
theorem dX10_dials_91 : decode cX10_dials 91 = .ok (.iload_n 3, 1) := by decide +kernel
theorem dX10_dials_92 : decode cX10_dials 92 = .ok (.iconst 3, 1) := by decide +kernel
theorem dX10_dials_93 : decode cX10_dials 93 = .ok (.invokevirtual 233, 3) := by decide +kernel
theorem dX10_dials_96 : decode cX10_dials 96 = .ok (.return_, 1) := by decide +kernel
theorem dX10_dials_97 : decode cX10_dials 97 = .ok (.aload_n 0, 1) := by decide +kernel
theorem dX10_dials_98 : decode cX10_dials 98 = .ok (.getfield 17, 3) := by decide +kernel
theorem dX10_dials_101 : decode cX10_dials 101 = .ok (.iload_n 2, 1) := by decide +kernel
theorem dX10_dials_102 : decode cX10_dials 102 = .ok (.iconst 1, 1) := by decide +kernel
theorem dX10_dials_103 : decode cX10_dials 103 = .ok (.iadd, 1) := by decide +kernel
theorem dX10_dials_104 : decode cX10_dials 104 = .ok (.iaload, 1) := by decide +kernel
theorem dX10_dials_105 : decode cX10_dials 105 = .ok (.aload_n 0, 1) := by decide +kernel
theorem dX10_dials_106 : decode cX10_dials 106 = .ok (.iload_n 3, 1) := by decide +kernel
theorem dX10_dials_107 : decode cX10_dials 107 = .ok (.iconst 1, 1) := by decide +kernel
theorem dX10_dials_108 : decode cX10_dials 108 = .ok (.invokevirtual 192, 3) := by decide +kernel
theorem dX10_dials_111 : decode cX10_dials 111 = .ok (.if_icmp .ge 4, 3) := by decide +kernel
theorem dX10_dials_114 : decode cX10_dials 114 = .ok (.return_, 1) := by decide +kernel
theorem dX10_dials_115 : decode cX10_dials 115 = .ok (.aload_n 0, 1) := by decide +kernel
theorem dX10_dials_116 : decode cX10_dials 116 = .ok (.getfield 17, 3) := by decide +kernel
theorem dX10_dials_119 : decode cX10_dials 119 = .ok (.iload_n 2, 1) := by decide +kernel
theorem dX10_dials_120 : decode cX10_dials 120 = .ok (.iconst 2, 1) := by decide +kernel
theorem dX10_dials_121 : decode cX10_dials 121 = .ok (.iadd, 1) := by decide +kernel
theorem dX10_dials_122 : decode cX10_dials 122 = .ok (.dup2, 1) := by decide +kernel
theorem dX10_dials_123 : decode cX10_dials 123 = .ok (.iaload, 1) := by decide +kernel
theorem dX10_dials_124 : decode cX10_dials 124 = .ok (.iconst 1, 1) := by decide +kernel
theorem dX10_dials_125 : decode cX10_dials 125 = .ok (.iadd, 1) := by decide +kernel
theorem dX10_dials_126 : decode cX10_dials 126 = .ok (.iastore, 1) := by decide +kernel
theorem dX10_dials_127 : decode cX10_dials 127 = .ok (.aload_n 0, 1) := by decide +kernel
theorem dX10_dials_128 : decode cX10_dials 128 = .ok (.getfield 17, 3) := by decide +kernel
theorem dX10_dials_131 : decode cX10_dials 131 = .ok (.iload_n 2, 1) := by decide +kernel
theorem dX10_dials_132 : decode cX10_dials 132 = .ok (.iconst 2, 1) := by decide +kernel
theorem dX10_dials_133 : decode cX10_dials 133 = .ok (.iadd, 1) := by decide +kernel
theorem dX10_dials_134 : decode cX10_dials 134 = .ok (.iaload, 1) := by decide +kernel
theorem dX10_dials_135 : decode cX10_dials 135 = .ok (.aload_n 0, 1) := by decide +kernel
theorem dX10_dials_136 : decode cX10_dials 136 = .ok (.getfield 17, 3) := by decide +kernel
theorem dX10_dials_139 : decode cX10_dials 139 = .ok (.bipush 20, 2) := by decide +kernel
theorem dX10_dials_141 : decode cX10_dials 141 = .ok (.iaload, 1) := by decide +kernel
theorem dX10_dials_142 : decode cX10_dials 142 = .ok (.if_icmp .ge 4, 3) := by decide +kernel
theorem dX10_dials_145 : decode cX10_dials 145 = .ok (.return_, 1) := by decide +kernel
theorem dX10_dials_146 : decode cX10_dials 146 = .ok (.aload_n 0, 1) := by decide +kernel
theorem dX10_dials_147 : decode cX10_dials 147 = .ok (.iload_n 3, 1) := by decide +kernel
theorem dX10_dials_148 : decode cX10_dials 148 = .ok (.invokevirtual 245, 3) := by decide +kernel
theorem dX10_dials_151 : decode cX10_dials 151 = .ok (.aload_n 0, 1) := by decide +kernel
theorem dX10_dials_152 : decode cX10_dials 152 = .ok (.iload_n 3, 1) := by decide +kernel
theorem dX10_dials_153 : decode cX10_dials 153 = .ok (.bipush 9, 2) := by decide +kernel
theorem dX10_dials_155 : decode cX10_dials 155 = .ok (.invokevirtual 230, 3) := by decide +kernel
theorem dX10_dials_158 : decode cX10_dials 158 = .ok (.return_, 1) := by decide +kernel
theorem dX10_foremostOf_0 : decode cX10_foremostOf 0 = .ok (.iconst (-1), 1) := by decide +kernel
theorem dX10_foremostOf_1 : decode cX10_foremostOf 1 = .ok (.istore_n 2, 1) := by decide +kernel
theorem dX10_foremostOf_2 : decode cX10_foremostOf 2 = .ok (.iconst 0, 1) := by decide +kernel
theorem dX10_foremostOf_3 : decode cX10_foremostOf 3 = .ok (.istore_n 3, 1) := by decide +kernel
theorem dX10_foremostOf_4 : decode cX10_foremostOf 4 = .ok (.iload_n 3, 1) := by decide +kernel
theorem dX10_foremostOf_5 : decode cX10_foremostOf 5 = .ok (.aload_n 0, 1) := by decide +kernel
theorem dX10_foremostOf_6 : decode cX10_foremostOf 6 = .ok (.getfield 17, 3) := by decide +kernel
theorem dX10_foremostOf_9 : decode cX10_foremostOf 9 = .ok (.iconst 5, 1) := by decide +kernel
theorem dX10_foremostOf_10 : decode cX10_foremostOf 10 = .ok (.iaload, 1) := by decide +kernel
theorem dX10_foremostOf_11 : decode cX10_foremostOf 11 = .ok (.if_icmp .ge 43, 3) := by decide +kernel
theorem dX10_foremostOf_14 : decode cX10_foremostOf 14 = .ok (.aload_n 0, 1) := by decide +kernel
theorem dX10_foremostOf_15 : decode cX10_foremostOf 15 = .ok (.iload_n 3, 1) := by decide +kernel
theorem dX10_foremostOf_16 : decode cX10_foremostOf 16 = .ok (.iconst 4, 1) := by decide +kernel
theorem dX10_foremostOf_17 : decode cX10_foremostOf 17 = .ok (.invokevirtual 192, 3) := by decide +kernel
theorem dX10_foremostOf_20 : decode cX10_foremostOf 20 = .ok (.iload_n 1, 1) := by decide +kernel
theorem dX10_foremostOf_21 : decode cX10_foremostOf 21 = .ok (.if_icmp .ne 27, 3) := by decide +kernel
theorem dX10_foremostOf_24 : decode cX10_foremostOf 24 = .ok (.iload_n 2, 1) := by decide +kernel
theorem dX10_foremostOf_25 : decode cX10_foremostOf 25 = .ok (.iconst (-1), 1) := by decide +kernel
theorem dX10_foremostOf_26 : decode cX10_foremostOf 26 = .ok (.if_icmp .eq 20, 3) := by decide +kernel
theorem dX10_foremostOf_29 : decode cX10_foremostOf 29 = .ok (.aload_n 0, 1) := by decide +kernel
theorem dX10_foremostOf_30 : decode cX10_foremostOf 30 = .ok (.iload_n 3, 1) := by decide +kernel
theorem dX10_foremostOf_31 : decode cX10_foremostOf 31 = .ok (.bipush 12, 2) := by decide +kernel
theorem dX10_foremostOf_33 : decode cX10_foremostOf 33 = .ok (.invokevirtual 192, 3) := by decide +kernel
theorem dX10_foremostOf_36 : decode cX10_foremostOf 36 = .ok (.aload_n 0, 1) := by decide +kernel
theorem dX10_foremostOf_37 : decode cX10_foremostOf 37 = .ok (.iload_n 2, 1) := by decide +kernel
theorem dX10_foremostOf_38 : decode cX10_foremostOf 38 = .ok (.bipush 12, 2) := by decide +kernel
theorem dX10_foremostOf_40 : decode cX10_foremostOf 40 = .ok (.invokevirtual 192, 3) := by decide +kernel
theorem dX10_foremostOf_43 : decode cX10_foremostOf 43 = .ok (.if_icmp .ge 5, 3) := by decide +kernel
theorem dX10_foremostOf_46 : decode cX10_foremostOf 46 = .ok (.iload_n 3, 1) := by decide +kernel
theorem dX10_foremostOf_47 : decode cX10_foremostOf 47 = .ok (.istore_n 2, 1) := by decide +kernel
theorem dX10_foremostOf_48 : decode cX10_foremostOf 48 = .ok (.iinc 3 1, 3) := by decide +kernel
theorem dX10_foremostOf_51 : decode cX10_foremostOf 51 = .ok (.goto (-47), 3) := by decide +kernel
theorem dX10_foremostOf_54 : decode cX10_foremostOf 54 = .ok (.iload_n 2, 1) := by decide +kernel
theorem dX10_foremostOf_55 : decode cX10_foremostOf 55 = .ok (.ireturn, 1) := by decide +kernel
theorem dX10_takesMarker_0 : decode cX10_takesMarker 0 = .ok (.sipush 163, 3) := by decide +kernel
theorem dX10_takesMarker_3 : decode cX10_takesMarker 3 = .ok (.iconst 2, 1) := by decide +kernel
theorem dX10_takesMarker_4 : decode cX10_takesMarker 4 = .ok (.iload_n 1, 1) := by decide +kernel
theorem dX10_takesMarker_5 : decode cX10_takesMarker 5 = .ok (.imul, 1) := by decide +kernel
theorem dX10_takesMarker_6 : decode cX10_takesMarker 6 = .ok (.iadd, 1) := by decide +kernel
theorem dX10_takesMarker_7 : decode cX10_takesMarker 7 = .ok (.istore_n 2, 1) := by decide +kernel
theorem dX10_takesMarker_8 : decode cX10_takesMarker 8 = .ok (.aload_n 0, 1) := by decide +kernel
theorem dX10_takesMarker_9 : decode cX10_takesMarker 9 = .ok (.iconst 3, 1) := by decide +kernel
theorem dX10_takesMarker_10 : decode cX10_takesMarker 10 = .ok (.invokevirtual 258, 3) := by decide +kernel
theorem dX10_takesMarker_13 : decode cX10_takesMarker 13 = .ok (.istore_n 3, 1) := by decide +kernel
theorem dX10_takesMarker_14 : decode cX10_takesMarker 14 = .ok (.aload_n 0, 1) := by decide +kernel
theorem dX10_takesMarker_15 : decode cX10_takesMarker 15 = .ok (.getfield 17, 3) := by decide +kernel
theorem dX10_takesMarker_18 : decode cX10_takesMarker 18 = .ok (.iload_n 2, 1) := by decide +kernel
theorem dX10_takesMarker_19 : decode cX10_takesMarker 19 = .ok (.iconst 0, 1) := by decide +kernel
theorem dX10_takesMarker_20 : decode cX10_takesMarker 20 = .ok (.iadd, 1) := by decide +kernel
theorem dX10_takesMarker_21 : decode cX10_takesMarker 21 = .ok (.iaload, 1) := by decide +kernel
theorem dX10_takesMarker_22 : decode cX10_takesMarker 22 = .ok (.iconst (-1), 1) := by decide +kernel
theorem dX10_takesMarker_23 : decode cX10_takesMarker 23 = .ok (.if_icmp .ne 8, 3) := by decide +kernel
theorem dX10_takesMarker_26 : decode cX10_takesMarker 26 = .ok (.iload_n 3, 1) := by decide +kernel
theorem dX10_takesMarker_27 : decode cX10_takesMarker 27 = .ok (.iconst (-1), 1) := by decide +kernel
theorem dX10_takesMarker_28 : decode cX10_takesMarker 28 = .ok (.if_icmp .ne 4, 3) := by decide +kernel
theorem dX10_takesMarker_31 : decode cX10_takesMarker 31 = .ok (.return_, 1) := by decide +kernel
theorem dX10_takesMarker_32 : decode cX10_takesMarker 32 = .ok (.aload_n 0, 1) := by decide +kernel
theorem dX10_takesMarker_33 : decode cX10_takesMarker 33 = .ok (.getfield 17, 3) := by decide +kernel
theorem dX10_takesMarker_36 : decode cX10_takesMarker 36 = .ok (.iload_n 2, 1) := by decide +kernel
theorem dX10_takesMarker_37 : decode cX10_takesMarker 37 = .ok (.iconst 0, 1) := by decide +kernel
theorem dX10_takesMarker_38 : decode cX10_takesMarker 38 = .ok (.iadd, 1) := by decide +kernel
theorem dX10_takesMarker_39 : decode cX10_takesMarker 39 = .ok (.iload_n 3, 1) := by decide +kernel
theorem dX10_takesMarker_40 : decode cX10_takesMarker 40 = .ok (.iastore, 1) := by decide +kernel
theorem dX10_takesMarker_41 : decode cX10_takesMarker 41 = .ok (.aload_n 0, 1) := by decide +kernel
theorem dX10_takesMarker_42 : decode cX10_takesMarker 42 = .ok (.getfield 17, 3) := by decide +kernel
theorem dX10_takesMarker_45 : decode cX10_takesMarker 45 = .ok (.iload_n 2, 1) := by decide +kernel
theorem dX10_takesMarker_46 : decode cX10_takesMarker 46 = .ok (.iconst 1, 1) := by decide +kernel
theorem dX10_takesMarker_47 : decode cX10_takesMarker 47 = .ok (.iadd, 1) := by decide +kernel
theorem dX10_takesMarker_48 : decode cX10_takesMarker 48 = .ok (.aload_n 0, 1) := by decide +kernel
theorem dX10_takesMarker_49 : decode cX10_takesMarker 49 = .ok (.getfield 17, 3) := by decide +kernel
theorem dX10_takesMarker_52 : decode cX10_takesMarker 52 = .ok (.bipush 21, 2) := by decide +kernel
theorem dX10_takesMarker_54 : decode cX10_takesMarker 54 = .ok (.iaload, 1) := by decide +kernel
theorem dX10_takesMarker_55 : decode cX10_takesMarker 55 = .ok (.iastore, 1) := by decide +kernel
theorem dX10_takesMarker_56 : decode cX10_takesMarker 56 = .ok (.aload_n 0, 1) := by decide +kernel
theorem dX10_takesMarker_57 : decode cX10_takesMarker 57 = .ok (.iload_n 3, 1) := by decide +kernel
theorem dX10_takesMarker_58 : decode cX10_takesMarker 58 = .ok (.iconst 4, 1) := by decide +kernel
theorem dX10_takesMarker_59 : decode cX10_takesMarker 59 = .ok (.iconst 4, 1) := by decide +kernel
theorem dX10_takesMarker_60 : decode cX10_takesMarker 60 = .ok (.invokevirtual 220, 3) := by decide +kernel
theorem dX10_takesMarker_63 : decode cX10_takesMarker 63 = .ok (.return_, 1) := by decide +kernel
theorem dX10_takesRegister_0 : decode cX10_takesRegister 0 = .ok (.sipush 151, 3) := by decide +kernel
theorem dX10_takesRegister_3 : decode cX10_takesRegister 3 = .ok (.iconst 3, 1) := by decide +kernel
theorem dX10_takesRegister_4 : decode cX10_takesRegister 4 = .ok (.iload_n 1, 1) := by decide +kernel
theorem dX10_takesRegister_5 : decode cX10_takesRegister 5 = .ok (.imul, 1) := by decide +kernel
theorem dX10_takesRegister_6 : decode cX10_takesRegister 6 = .ok (.iadd, 1) := by decide +kernel
theorem dX10_takesRegister_7 : decode cX10_takesRegister 7 = .ok (.istore_n 2, 1) := by decide +kernel
theorem dX10_takesRegister_8 : decode cX10_takesRegister 8 = .ok (.aload_n 0, 1) := by decide +kernel
theorem dX10_takesRegister_9 : decode cX10_takesRegister 9 = .ok (.iconst 1, 1) := by decide +kernel
theorem dX10_takesRegister_10 : decode cX10_takesRegister 10 = .ok (.invokevirtual 258, 3) := by decide +kernel
theorem dX10_takesRegister_13 : decode cX10_takesRegister 13 = .ok (.istore_n 3, 1) := by decide +kernel
theorem dX10_takesRegister_14 : decode cX10_takesRegister 14 = .ok (.aload_n 0, 1) := by decide +kernel
theorem dX10_takesRegister_15 : decode cX10_takesRegister 15 = .ok (.getfield 17, 3) := by decide +kernel
theorem dX10_takesRegister_18 : decode cX10_takesRegister 18 = .ok (.iload_n 2, 1) := by decide +kernel
theorem dX10_takesRegister_19 : decode cX10_takesRegister 19 = .ok (.iconst 0, 1) := by decide +kernel
theorem dX10_takesRegister_20 : decode cX10_takesRegister 20 = .ok (.iadd, 1) := by decide +kernel
theorem dX10_takesRegister_21 : decode cX10_takesRegister 21 = .ok (.iaload, 1) := by decide +kernel
theorem dX10_takesRegister_22 : decode cX10_takesRegister 22 = .ok (.iconst (-1), 1) := by decide +kernel
theorem dX10_takesRegister_23 : decode cX10_takesRegister 23 = .ok (.if_icmp .ne 8, 3) := by decide +kernel
theorem dX10_takesRegister_26 : decode cX10_takesRegister 26 = .ok (.iload_n 3, 1) := by decide +kernel
theorem dX10_takesRegister_27 : decode cX10_takesRegister 27 = .ok (.iconst (-1), 1) := by decide +kernel
theorem dX10_takesRegister_28 : decode cX10_takesRegister 28 = .ok (.if_icmp .ne 4, 3) := by decide +kernel
theorem dX10_takesRegister_31 : decode cX10_takesRegister 31 = .ok (.return_, 1) := by decide +kernel
theorem dX10_takesRegister_32 : decode cX10_takesRegister 32 = .ok (.aload_n 0, 1) := by decide +kernel
theorem dX10_takesRegister_33 : decode cX10_takesRegister 33 = .ok (.getfield 17, 3) := by decide +kernel
theorem dX10_takesRegister_36 : decode cX10_takesRegister 36 = .ok (.iload_n 2, 1) := by decide +kernel
theorem dX10_takesRegister_37 : decode cX10_takesRegister 37 = .ok (.iconst 0, 1) := by decide +kernel
theorem dX10_takesRegister_38 : decode cX10_takesRegister 38 = .ok (.iadd, 1) := by decide +kernel
theorem dX10_takesRegister_39 : decode cX10_takesRegister 39 = .ok (.iload_n 3, 1) := by decide +kernel
theorem dX10_takesRegister_40 : decode cX10_takesRegister 40 = .ok (.iastore, 1) := by decide +kernel
theorem dX10_takesRegister_41 : decode cX10_takesRegister 41 = .ok (.aload_n 0, 1) := by decide +kernel
theorem dX10_takesRegister_42 : decode cX10_takesRegister 42 = .ok (.iload_n 3, 1) := by decide +kernel
theorem dX10_takesRegister_43 : decode cX10_takesRegister 43 = .ok (.iconst 4, 1) := by decide +kernel
theorem dX10_takesRegister_44 : decode cX10_takesRegister 44 = .ok (.iconst 2, 1) := by decide +kernel
theorem dX10_takesRegister_45 : decode cX10_takesRegister 45 = .ok (.invokevirtual 220, 3) := by decide +kernel
theorem dX10_takesRegister_48 : decode cX10_takesRegister 48 = .ok (.aload_n 0, 1) := by decide +kernel
theorem dX10_takesRegister_49 : decode cX10_takesRegister 49 = .ok (.iload_n 3, 1) := by decide +kernel
theorem dX10_takesRegister_50 : decode cX10_takesRegister 50 = .ok (.bipush 10, 2) := by decide +kernel
theorem dX10_takesRegister_52 : decode cX10_takesRegister 52 = .ok (.iload_n 1, 1) := by decide +kernel
theorem dX10_takesRegister_53 : decode cX10_takesRegister 53 = .ok (.invokevirtual 220, 3) := by decide +kernel
theorem dX10_takesRegister_56 : decode cX10_takesRegister 56 = .ok (.return_, 1) := by decide +kernel
theorem dX10_passTick_0 : decode cX10_passTick 0 = .ok (.aload_n 0, 1) := by decide +kernel
theorem dX10_passTick_1 : decode cX10_passTick 1 = .ok (.getfield 17, 3) := by decide +kernel
theorem dX10_passTick_4 : decode cX10_passTick 4 = .ok (.bipush 6, 2) := by decide +kernel
theorem dX10_passTick_6 : decode cX10_passTick 6 = .ok (.dup2, 1) := by decide +kernel
theorem dX10_passTick_7 : decode cX10_passTick 7 = .ok (.iaload, 1) := by decide +kernel
theorem dX10_passTick_8 : decode cX10_passTick 8 = .ok (.iconst 1, 1) := by decide +kernel
theorem dX10_passTick_9 : decode cX10_passTick 9 = .ok (.iadd, 1) := by decide +kernel
theorem dX10_passTick_10 : decode cX10_passTick 10 = .ok (.iastore, 1) := by decide +kernel
theorem dX10_passTick_11 : decode cX10_passTick 11 = .ok (.iconst 0, 1) := by decide +kernel
theorem dX10_passTick_12 : decode cX10_passTick 12 = .ok (.istore_n 1, 1) := by decide +kernel
theorem dX10_passTick_13 : decode cX10_passTick 13 = .ok (.iload_n 1, 1) := by decide +kernel
theorem dX10_passTick_14 : decode cX10_passTick 14 = .ok (.aload_n 0, 1) := by decide +kernel
theorem dX10_passTick_15 : decode cX10_passTick 15 = .ok (.getfield 17, 3) := by decide +kernel
theorem dX10_passTick_18 : decode cX10_passTick 18 = .ok (.iconst 5, 1) := by decide +kernel
theorem dX10_passTick_19 : decode cX10_passTick 19 = .ok (.iaload, 1) := by decide +kernel
theorem dX10_passTick_20 : decode cX10_passTick 20 = .ok (.if_icmp .ge 39, 3) := by decide +kernel
theorem dX10_passTick_23 : decode cX10_passTick 23 = .ok (.aload_n 0, 1) := by decide +kernel
theorem dX10_passTick_24 : decode cX10_passTick 24 = .ok (.iload_n 1, 1) := by decide +kernel
theorem dX10_passTick_25 : decode cX10_passTick 25 = .ok (.iconst 4, 1) := by decide +kernel
theorem dX10_passTick_26 : decode cX10_passTick 26 = .ok (.invokevirtual 192, 3) := by decide +kernel
theorem dX10_passTick_29 : decode cX10_passTick 29 = .ok (.ifCond .ne 24, 3) := by decide +kernel
theorem dX10_passTick_32 : decode cX10_passTick 32 = .ok (.aload_n 0, 1) := by decide +kernel
theorem dX10_passTick_33 : decode cX10_passTick 33 = .ok (.iload_n 1, 1) := by decide +kernel
theorem dX10_passTick_34 : decode cX10_passTick 34 = .ok (.iconst 3, 1) := by decide +kernel
theorem dX10_passTick_35 : decode cX10_passTick 35 = .ok (.invokevirtual 192, 3) := by decide +kernel
theorem dX10_passTick_38 : decode cX10_passTick 38 = .ok (.aload_n 0, 1) := by decide +kernel
theorem dX10_passTick_39 : decode cX10_passTick 39 = .ok (.getfield 17, 3) := by decide +kernel
theorem dX10_passTick_42 : decode cX10_passTick 42 = .ok (.bipush 6, 2) := by decide +kernel
theorem dX10_passTick_44 : decode cX10_passTick 44 = .ok (.iaload, 1) := by decide +kernel
theorem dX10_passTick_45 : decode cX10_passTick 45 = .ok (.if_icmp .ne 8, 3) := by decide +kernel
theorem dX10_passTick_48 : decode cX10_passTick 48 = .ok (.aload_n 0, 1) := by decide +kernel
theorem dX10_passTick_49 : decode cX10_passTick 49 = .ok (.iload_n 1, 1) := by decide +kernel
theorem dX10_passTick_50 : decode cX10_passTick 50 = .ok (.invokevirtual 261, 3) := by decide +kernel
theorem dX10_passTick_53 : decode cX10_passTick 53 = .ok (.iinc 1 1, 3) := by decide +kernel
theorem dX10_passTick_56 : decode cX10_passTick 56 = .ok (.goto (-43), 3) := by decide +kernel
theorem dX10_passTick_59 : decode cX10_passTick 59 = .ok (.iconst 0, 1) := by decide +kernel
theorem dX10_passTick_60 : decode cX10_passTick 60 = .ok (.istore_n 1, 1) := by decide +kernel
theorem dX10_passTick_61 : decode cX10_passTick 61 = .ok (.iload_n 1, 1) := by decide +kernel
theorem dX10_passTick_62 : decode cX10_passTick 62 = .ok (.aload_n 0, 1) := by decide +kernel
theorem dX10_passTick_63 : decode cX10_passTick 63 = .ok (.getfield 17, 3) := by decide +kernel
theorem dX10_passTick_66 : decode cX10_passTick 66 = .ok (.iconst 5, 1) := by decide +kernel
theorem dX10_passTick_67 : decode cX10_passTick 67 = .ok (.iaload, 1) := by decide +kernel
theorem dX10_passTick_68 : decode cX10_passTick 68 = .ok (.if_icmp .ge 55, 3) := by decide +kernel
theorem dX10_passTick_71 : decode cX10_passTick 71 = .ok (.aload_n 0, 1) := by decide +kernel
theorem dX10_passTick_72 : decode cX10_passTick 72 = .ok (.iload_n 1, 1) := by decide +kernel
theorem dX10_passTick_73 : decode cX10_passTick 73 = .ok (.iconst 4, 1) := by decide +kernel
theorem dX10_passTick_74 : decode cX10_passTick 74 = .ok (.invokevirtual 192, 3) := by decide +kernel
theorem dX10_passTick_77 : decode cX10_passTick 77 = .ok (.iconst 5, 1) := by decide +kernel
theorem dX10_passTick_78 : decode cX10_passTick 78 = .ok (.if_icmp .eq 6, 3) := by decide +kernel
theorem dX10_passTick_81 : decode cX10_passTick 81 = .ok (.goto 36, 3) := by decide +kernel
theorem dX10_passTick_84 : decode cX10_passTick 84 = .ok (.aload_n 0, 1) := by decide +kernel
theorem dX10_passTick_85 : decode cX10_passTick 85 = .ok (.iload_n 1, 1) := by decide +kernel
theorem dX10_passTick_86 : decode cX10_passTick 86 = .ok (.bipush 9, 2) := by decide +kernel
theorem dX10_passTick_88 : decode cX10_passTick 88 = .ok (.aload_n 0, 1) := by decide +kernel
theorem dX10_passTick_89 : decode cX10_passTick 89 = .ok (.iload_n 1, 1) := by decide +kernel
theorem dX10_passTick_90 : decode cX10_passTick 90 = .ok (.bipush 9, 2) := by decide +kernel
theorem dX10_passTick_92 : decode cX10_passTick 92 = .ok (.invokevirtual 192, 3) := by decide +kernel
theorem dX10_passTick_95 : decode cX10_passTick 95 = .ok (.iconst 1, 1) := by decide +kernel
theorem dX10_passTick_96 : decode cX10_passTick 96 = .ok (.isub, 1) := by decide +kernel
theorem dX10_passTick_97 : decode cX10_passTick 97 = .ok (.invokevirtual 220, 3) := by decide +kernel
theorem dX10_passTick_100 : decode cX10_passTick 100 = .ok (.aload_n 0, 1) := by decide +kernel
theorem dX10_passTick_101 : decode cX10_passTick 101 = .ok (.iload_n 1, 1) := by decide +kernel
theorem dX10_passTick_102 : decode cX10_passTick 102 = .ok (.bipush 9, 2) := by decide +kernel
theorem dX10_passTick_104 : decode cX10_passTick 104 = .ok (.invokevirtual 192, 3) := by decide +kernel
theorem dX10_passTick_107 : decode cX10_passTick 107 = .ok (.ifCond .ne 10, 3) := by decide +kernel
theorem dX10_passTick_110 : decode cX10_passTick 110 = .ok (.aload_n 0, 1) := by decide +kernel
theorem dX10_passTick_111 : decode cX10_passTick 111 = .ok (.iload_n 1, 1) := by decide +kernel
theorem dX10_passTick_112 : decode cX10_passTick 112 = .ok (.bipush 6, 2) := by decide +kernel
theorem dX10_passTick_114 : decode cX10_passTick 114 = .ok (.invokevirtual 230, 3) := by decide +kernel
theorem dX10_passTick_117 : decode cX10_passTick 117 = .ok (.iinc 1 1, 3) := by decide +kernel
theorem dX10_passTick_120 : decode cX10_passTick 120 = .ok (.goto (-59), 3) := by decide +kernel
theorem dX10_passTick_123 : decode cX10_passTick 123 = .ok (.iconst 0, 1) := by decide +kernel
theorem dX10_passTick_124 : decode cX10_passTick 124 = .ok (.istore_n 1, 1) := by decide +kernel
theorem dX10_passTick_125 : decode cX10_passTick 125 = .ok (.iload_n 1, 1) := by decide +kernel
theorem dX10_passTick_126 : decode cX10_passTick 126 = .ok (.aload_n 0, 1) := by decide +kernel
theorem dX10_passTick_127 : decode cX10_passTick 127 = .ok (.getfield 17, 3) := by decide +kernel
theorem dX10_passTick_130 : decode cX10_passTick 130 = .ok (.iconst 1, 1) := by decide +kernel
theorem dX10_passTick_131 : decode cX10_passTick 131 = .ok (.iaload, 1) := by decide +kernel
theorem dX10_passTick_132 : decode cX10_passTick 132 = .ok (.if_icmp .ge 14, 3) := by decide +kernel
theorem dX10_passTick_135 : decode cX10_passTick 135 = .ok (.aload_n 0, 1) := by decide +kernel
theorem dX10_passTick_136 : decode cX10_passTick 136 = .ok (.iload_n 1, 1) := by decide +kernel
theorem dX10_passTick_137 : decode cX10_passTick 137 = .ok (.invokevirtual 264, 3) := by decide +kernel
theorem dX10_passTick_140 : decode cX10_passTick 140 = .ok (.iinc 1 1, 3) := by decide +kernel
theorem dX10_passTick_143 : decode cX10_passTick 143 = .ok (.goto (-18), 3) := by decide +kernel
theorem dX10_passTick_146 : decode cX10_passTick 146 = .ok (.iconst 0, 1) := by decide +kernel
theorem dX10_passTick_147 : decode cX10_passTick 147 = .ok (.istore_n 1, 1) := by decide +kernel
theorem dX10_passTick_148 : decode cX10_passTick 148 = .ok (.iload_n 1, 1) := by decide +kernel
theorem dX10_passTick_149 : decode cX10_passTick 149 = .ok (.aload_n 0, 1) := by decide +kernel
theorem dX10_passTick_150 : decode cX10_passTick 150 = .ok (.getfield 17, 3) := by decide +kernel
theorem dX10_passTick_153 : decode cX10_passTick 153 = .ok (.iconst 0, 1) := by decide +kernel
theorem dX10_passTick_154 : decode cX10_passTick 154 = .ok (.iaload, 1) := by decide +kernel
theorem dX10_passTick_155 : decode cX10_passTick 155 = .ok (.if_icmp .ge 14, 3) := by decide +kernel
theorem dX10_passTick_158 : decode cX10_passTick 158 = .ok (.aload_n 0, 1) := by decide +kernel
theorem dX10_passTick_159 : decode cX10_passTick 159 = .ok (.iload_n 1, 1) := by decide +kernel
theorem dX10_passTick_160 : decode cX10_passTick 160 = .ok (.invokevirtual 267, 3) := by decide +kernel
theorem dX10_passTick_163 : decode cX10_passTick 163 = .ok (.iinc 1 1, 3) := by decide +kernel
theorem dX10_passTick_166 : decode cX10_passTick 166 = .ok (.goto (-18), 3) := by decide +kernel
theorem dX10_passTick_169 : decode cX10_passTick 169 = .ok (.iconst 0, 1) := by decide +kernel
theorem dX10_passTick_170 : decode cX10_passTick 170 = .ok (.istore_n 1, 1) := by decide +kernel
theorem dX10_passTick_171 : decode cX10_passTick 171 = .ok (.iload_n 1, 1) := by decide +kernel
theorem dX10_passTick_172 : decode cX10_passTick 172 = .ok (.aload_n 0, 1) := by decide +kernel
theorem dX10_passTick_173 : decode cX10_passTick 173 = .ok (.getfield 17, 3) := by decide +kernel
theorem dX10_passTick_176 : decode cX10_passTick 176 = .ok (.iconst 1, 1) := by decide +kernel
theorem dX10_passTick_177 : decode cX10_passTick 177 = .ok (.iaload, 1) := by decide +kernel
theorem dX10_passTick_178 : decode cX10_passTick 178 = .ok (.if_icmp .ge 14, 3) := by decide +kernel
theorem dX10_passTick_181 : decode cX10_passTick 181 = .ok (.aload_n 0, 1) := by decide +kernel
theorem dX10_passTick_182 : decode cX10_passTick 182 = .ok (.iload_n 1, 1) := by decide +kernel
theorem dX10_passTick_183 : decode cX10_passTick 183 = .ok (.invokevirtual 270, 3) := by decide +kernel
theorem dX10_passTick_186 : decode cX10_passTick 186 = .ok (.iinc 1 1, 3) := by decide +kernel
theorem dX10_passTick_189 : decode cX10_passTick 189 = .ok (.goto (-18), 3) := by decide +kernel
theorem dX10_passTick_192 : decode cX10_passTick 192 = .ok (.iconst 0, 1) := by decide +kernel
theorem dX10_passTick_193 : decode cX10_passTick 193 = .ok (.istore_n 1, 1) := by decide +kernel
theorem dX10_passTick_194 : decode cX10_passTick 194 = .ok (.iload_n 1, 1) := by decide +kernel
theorem dX10_passTick_195 : decode cX10_passTick 195 = .ok (.aload_n 0, 1) := by decide +kernel
theorem dX10_passTick_196 : decode cX10_passTick 196 = .ok (.getfield 17, 3) := by decide +kernel
theorem dX10_passTick_199 : decode cX10_passTick 199 = .ok (.iconst 0, 1) := by decide +kernel
theorem dX10_passTick_200 : decode cX10_passTick 200 = .ok (.iaload, 1) := by decide +kernel
theorem dX10_passTick_201 : decode cX10_passTick 201 = .ok (.if_icmp .ge 14, 3) := by decide +kernel
theorem dX10_passTick_204 : decode cX10_passTick 204 = .ok (.aload_n 0, 1) := by decide +kernel
theorem dX10_passTick_205 : decode cX10_passTick 205 = .ok (.iload_n 1, 1) := by decide +kernel
theorem dX10_passTick_206 : decode cX10_passTick 206 = .ok (.invokevirtual 273, 3) := by decide +kernel
theorem dX10_passTick_209 : decode cX10_passTick 209 = .ok (.iinc 1 1, 3) := by decide +kernel
theorem dX10_passTick_212 : decode cX10_passTick 212 = .ok (.goto (-18), 3) := by decide +kernel
theorem dX10_passTick_215 : decode cX10_passTick 215 = .ok (.aload_n 0, 1) := by decide +kernel
theorem dX10_passTick_216 : decode cX10_passTick 216 = .ok (.getfield 17, 3) := by decide +kernel
theorem dX10_passTick_219 : decode cX10_passTick 219 = .ok (.bipush 24, 2) := by decide +kernel
theorem dX10_passTick_221 : decode cX10_passTick 221 = .ok (.aload_n 0, 1) := by decide +kernel
theorem dX10_passTick_222 : decode cX10_passTick 222 = .ok (.getfield 17, 3) := by decide +kernel
theorem dX10_passTick_225 : decode cX10_passTick 225 = .ok (.bipush 24, 2) := by decide +kernel
theorem dX10_passTick_227 : decode cX10_passTick 227 = .ok (.iaload, 1) := by decide +kernel
theorem dX10_passTick_228 : decode cX10_passTick 228 = .ok (.aload_n 0, 1) := by decide +kernel
theorem dX10_passTick_229 : decode cX10_passTick 229 = .ok (.iconst 1, 1) := by decide +kernel
theorem dX10_passTick_230 : decode cX10_passTick 230 = .ok (.invokevirtual 227, 3) := by decide +kernel
theorem dX10_passTick_233 : decode cX10_passTick 233 = .ok (.invokestatic 129, 3) := by decide +kernel
theorem dX10_passTick_236 : decode cX10_passTick 236 = .ok (.iastore, 1) := by decide +kernel
theorem dX10_passTick_237 : decode cX10_passTick 237 = .ok (.iconst 0, 1) := by decide +kernel
theorem dX10_passTick_238 : decode cX10_passTick 238 = .ok (.istore_n 1, 1) := by decide +kernel
theorem dX10_passTick_239 : decode cX10_passTick 239 = .ok (.iload_n 1, 1) := by decide +kernel
theorem dX10_passTick_240 : decode cX10_passTick 240 = .ok (.aload_n 0, 1) := by decide +kernel
theorem dX10_passTick_241 : decode cX10_passTick 241 = .ok (.getfield 17, 3) := by decide +kernel
theorem dX10_passTick_244 : decode cX10_passTick 244 = .ok (.iconst 3, 1) := by decide +kernel
theorem dX10_passTick_245 : decode cX10_passTick 245 = .ok (.iaload, 1) := by decide +kernel
theorem dX10_passTick_246 : decode cX10_passTick 246 = .ok (.if_icmp .ge 21, 3) := by decide +kernel
theorem dX10_passTick_249 : decode cX10_passTick 249 = .ok (.aload_n 0, 1) := by decide +kernel
theorem dX10_passTick_250 : decode cX10_passTick 250 = .ok (.iload_n 1, 1) := by decide +kernel
theorem dX10_passTick_251 : decode cX10_passTick 251 = .ok (.bipush 6, 2) := by decide +kernel
theorem dX10_passTick_253 : decode cX10_passTick 253 = .ok (.aload_n 0, 1) := by decide +kernel
theorem dX10_passTick_254 : decode cX10_passTick 254 = .ok (.iload_n 1, 1) := by decide +kernel
theorem dX10_passTick_255 : decode cX10_passTick 255 = .ok (.invokevirtual 213, 3) := by decide +kernel
theorem dX10_passTick_258 : decode cX10_passTick 258 = .ok (.invokevirtual 242, 3) := by decide +kernel
theorem dX10_passTick_261 : decode cX10_passTick 261 = .ok (.iinc 1 1, 3) := by decide +kernel
theorem dX10_passTick_264 : decode cX10_passTick 264 = .ok (.goto (-25), 3) := by decide +kernel
theorem dX10_passTick_267 : decode cX10_passTick 267 = .ok (.return_, 1) := by decide +kernel
theorem dX10_told_0 : decode cX10_told 0 = .ok (.iconst 0, 1) := by decide +kernel
theorem dX10_told_1 : decode cX10_told 1 = .ok (.istore_n 2, 1) := by decide +kernel
theorem dX10_told_2 : decode cX10_told 2 = .ok (.iload_n 1, 1) := by decide +kernel
theorem dX10_told_3 : decode cX10_told 3 = .ok (.bipush 7, 2) := by decide +kernel
theorem dX10_told_5 : decode cX10_told 5 = .ok (.bipush 18, 2) := by decide +kernel
theorem dX10_told_7 : decode cX10_told 7 = .ok (.invokestatic 57, 3) := by decide +kernel
theorem dX10_told_10 : decode cX10_told 10 = .ok (.ifCond .eq 12, 3) := by decide +kernel
theorem dX10_told_13 : decode cX10_told 13 = .ok (.aload_n 0, 1) := by decide +kernel
theorem dX10_told_14 : decode cX10_told 14 = .ok (.iload_n 1, 1) := by decide +kernel
theorem dX10_told_15 : decode cX10_told 15 = .ok (.bipush 7, 2) := by decide +kernel
theorem dX10_told_17 : decode cX10_told 17 = .ok (.isub, 1) := by decide +kernel
theorem dX10_told_18 : decode cX10_told 18 = .ok (.invokevirtual 227, 3) := by decide +kernel
theorem dX10_told_21 : decode cX10_told 21 = .ok (.ireturn, 1) := by decide +kernel
theorem dX10_told_22 : decode cX10_told 22 = .ok (.iload_n 1, 1) := by decide +kernel
theorem dX10_told_23 : decode cX10_told 23 = .ok (.bipush 22, 2) := by decide +kernel
theorem dX10_told_25 : decode cX10_told 25 = .ok (.if_icmp .eq 10, 3) := by decide +kernel
theorem dX10_told_28 : decode cX10_told 28 = .ok (.aload_n 0, 1) := by decide +kernel
theorem dX10_told_29 : decode cX10_told 29 = .ok (.getfield 17, 3) := by decide +kernel
theorem dX10_told_32 : decode cX10_told 32 = .ok (.iload_n 1, 1) := by decide +kernel
theorem dX10_told_33 : decode cX10_told 33 = .ok (.iaload, 1) := by decide +kernel
theorem dX10_told_34 : decode cX10_told 34 = .ok (.ireturn, 1) := by decide +kernel
theorem dX10_told_35 : decode cX10_told 35 = .ok (.iconst 0, 1) := by decide +kernel
theorem dX10_told_36 : decode cX10_told 36 = .ok (.istore_n 3, 1) := by decide +kernel
theorem dX10_told_37 : decode cX10_told 37 = .ok (.iload_n 3, 1) := by decide +kernel
theorem dX10_told_38 : decode cX10_told 38 = .ok (.aload_n 0, 1) := by decide +kernel
theorem dX10_told_39 : decode cX10_told 39 = .ok (.getfield 17, 3) := by decide +kernel
theorem dX10_told_42 : decode cX10_told 42 = .ok (.iconst 2, 1) := by decide +kernel
theorem dX10_told_43 : decode cX10_told 43 = .ok (.iaload, 1) := by decide +kernel
theorem dX10_told_44 : decode cX10_told 44 = .ok (.if_icmp .ge 25, 3) := by decide +kernel
theorem dX10_told_47 : decode cX10_told 47 = .ok (.iload_n 2, 1) := by decide +kernel
theorem dX10_told_48 : decode cX10_told 48 = .ok (.aload_n 0, 1) := by decide +kernel
theorem dX10_told_49 : decode cX10_told 49 = .ok (.iload_n 3, 1) := by decide +kernel
theorem dX10_told_50 : decode cX10_told 50 = .ok (.invokevirtual 224, 3) := by decide +kernel
theorem dX10_told_53 : decode cX10_told 53 = .ok (.ifCond .eq 7, 3) := by decide +kernel
theorem dX10_told_56 : decode cX10_told 56 = .ok (.iconst 1, 1) := by decide +kernel
theorem dX10_told_57 : decode cX10_told 57 = .ok (.goto 4, 3) := by decide +kernel
theorem dX10_told_60 : decode cX10_told 60 = .ok (.iconst 0, 1) := by decide +kernel
theorem dX10_told_61 : decode cX10_told 61 = .ok (.iadd, 1) := by decide +kernel
theorem dX10_told_62 : decode cX10_told 62 = .ok (.istore_n 2, 1) := by decide +kernel
theorem dX10_told_63 : decode cX10_told 63 = .ok (.iinc 3 1, 3) := by decide +kernel
theorem dX10_told_66 : decode cX10_told 66 = .ok (.goto (-29), 3) := by decide +kernel
theorem dX10_told_69 : decode cX10_told 69 = .ok (.iload_n 2, 1) := by decide +kernel
theorem dX10_told_70 : decode cX10_told 70 = .ok (.ireturn, 1) := by decide +kernel
theorem dX10_state_0 : decode cX10_state 0 = .ok (.aload_n 0, 1) := by decide +kernel
theorem dX10_state_1 : decode cX10_state 1 = .ok (.iconst 0, 1) := by decide +kernel
theorem dX10_state_2 : decode cX10_state 2 = .ok (.putfield 35, 3) := by decide +kernel
theorem dX10_state_5 : decode cX10_state 5 = .ok (.aload_n 0, 1) := by decide +kernel
theorem dX10_state_6 : decode cX10_state 6 = .ok (.iload_n 1, 1) := by decide +kernel
theorem dX10_state_7 : decode cX10_state 7 = .ok (.iconst 0, 1) := by decide +kernel
theorem dX10_state_8 : decode cX10_state 8 = .ok (.bipush 24, 2) := by decide +kernel
theorem dX10_state_10 : decode cX10_state 10 = .ok (.invokestatic 57, 3) := by decide +kernel
theorem dX10_state_13 : decode cX10_state 13 = .ok (.ifCond .ne 7, 3) := by decide +kernel
theorem dX10_state_16 : decode cX10_state 16 = .ok (.iconst 1, 1) := by decide +kernel
theorem dX10_state_17 : decode cX10_state 17 = .ok (.goto 4, 3) := by decide +kernel
theorem dX10_state_20 : decode cX10_state 20 = .ok (.iconst 0, 1) := by decide +kernel
theorem dX10_state_21 : decode cX10_state 21 = .ok (.iconst 1, 1) := by decide +kernel
theorem dX10_state_22 : decode cX10_state 22 = .ok (.invokevirtual 176, 3) := by decide +kernel
theorem dX10_state_25 : decode cX10_state 25 = .ok (.ifCond .eq 7, 3) := by decide +kernel
theorem dX10_state_28 : decode cX10_state 28 = .ok (.iconst 0, 1) := by decide +kernel
theorem dX10_state_29 : decode cX10_state 29 = .ok (.goto 8, 3) := by decide +kernel
theorem dX10_state_32 : decode cX10_state 32 = .ok (.aload_n 0, 1) := by decide +kernel
theorem dX10_state_33 : decode cX10_state 33 = .ok (.iload_n 1, 1) := by decide +kernel
theorem dX10_state_34 : decode cX10_state 34 = .ok (.invokevirtual 276, 3) := by decide +kernel
theorem dX10_state_37 : decode cX10_state 37 = .ok (.ireturn, 1) := by decide +kernel
theorem dX10_toldLine_0 : decode cX10_toldLine 0 = .ok (.iconst 0, 1) := by decide +kernel
theorem dX10_toldLine_1 : decode cX10_toldLine 1 = .ok (.istore_n 3, 1) := by decide +kernel
theorem dX10_toldLine_2 : decode cX10_toldLine 2 = .ok (.iload_n 2, 1) := by decide +kernel
theorem dX10_toldLine_3 : decode cX10_toldLine 3 = .ok (.tableswitch 51 0 2 #[25, 39, 45], 25) := by decide +kernel
theorem dX10_toldLine_28 : decode cX10_toldLine 28 = .ok (.aload_n 0, 1) := by decide +kernel
theorem dX10_toldLine_29 : decode cX10_toldLine 29 = .ok (.iload_n 1, 1) := by decide +kernel
theorem dX10_toldLine_30 : decode cX10_toldLine 30 = .ok (.invokevirtual 224, 3) := by decide +kernel
theorem dX10_toldLine_33 : decode cX10_toldLine 33 = .ok (.ifCond .eq 7, 3) := by decide +kernel
theorem dX10_toldLine_36 : decode cX10_toldLine 36 = .ok (.iconst 1, 1) := by decide +kernel
theorem dX10_toldLine_37 : decode cX10_toldLine 37 = .ok (.goto 4, 3) := by decide +kernel
theorem dX10_toldLine_40 : decode cX10_toldLine 40 = .ok (.iconst 0, 1) := by decide +kernel
theorem dX10_toldLine_41 : decode cX10_toldLine 41 = .ok (.ireturn, 1) := by decide +kernel
theorem dX10_toldLine_42 : decode cX10_toldLine 42 = .ok (.aload_n 0, 1) := by decide +kernel
theorem dX10_toldLine_43 : decode cX10_toldLine 43 = .ok (.iload_n 1, 1) := by decide +kernel
theorem dX10_toldLine_44 : decode cX10_toldLine 44 = .ok (.invokevirtual 204, 3) := by decide +kernel
theorem dX10_toldLine_47 : decode cX10_toldLine 47 = .ok (.ireturn, 1) := by decide +kernel
theorem dX10_toldLine_48 : decode cX10_toldLine 48 = .ok (.aload_n 0, 1) := by decide +kernel
theorem dX10_toldLine_49 : decode cX10_toldLine 49 = .ok (.iload_n 1, 1) := by decide +kernel
theorem dX10_toldLine_50 : decode cX10_toldLine 50 = .ok (.invokevirtual 207, 3) := by decide +kernel
theorem dX10_toldLine_53 : decode cX10_toldLine 53 = .ok (.ireturn, 1) := by decide +kernel
theorem dX10_toldLine_54 : decode cX10_toldLine 54 = .ok (.iconst 0, 1) := by decide +kernel
theorem dX10_toldLine_55 : decode cX10_toldLine 55 = .ok (.istore 4, 2) := by decide +kernel
theorem dX10_toldLine_57 : decode cX10_toldLine 57 = .ok (.iload 4, 2) := by decide +kernel
theorem dX10_toldLine_59 : decode cX10_toldLine 59 = .ok (.aload_n 0, 1) := by decide +kernel
theorem dX10_toldLine_60 : decode cX10_toldLine 60 = .ok (.getfield 17, 3) := by decide +kernel
theorem dX10_toldLine_63 : decode cX10_toldLine 63 = .ok (.iconst 5, 1) := by decide +kernel
theorem dX10_toldLine_64 : decode cX10_toldLine 64 = .ok (.iaload, 1) := by decide +kernel
theorem dX10_toldLine_65 : decode cX10_toldLine 65 = .ok (.if_icmp .ge 56, 3) := by decide +kernel
theorem dX10_toldLine_68 : decode cX10_toldLine 68 = .ok (.aload_n 0, 1) := by decide +kernel
theorem dX10_toldLine_69 : decode cX10_toldLine 69 = .ok (.iload 4, 2) := by decide +kernel
theorem dX10_toldLine_71 : decode cX10_toldLine 71 = .ok (.iconst 0, 1) := by decide +kernel
theorem dX10_toldLine_72 : decode cX10_toldLine 72 = .ok (.invokevirtual 192, 3) := by decide +kernel
theorem dX10_toldLine_75 : decode cX10_toldLine 75 = .ok (.iload_n 1, 1) := by decide +kernel
theorem dX10_toldLine_76 : decode cX10_toldLine 76 = .ok (.if_icmp .ne 39, 3) := by decide +kernel
theorem dX10_toldLine_79 : decode cX10_toldLine 79 = .ok (.iload_n 3, 1) := by decide +kernel
theorem dX10_toldLine_80 : decode cX10_toldLine 80 = .ok (.iload_n 2, 1) := by decide +kernel
theorem dX10_toldLine_81 : decode cX10_toldLine 81 = .ok (.iconst 3, 1) := by decide +kernel
theorem dX10_toldLine_82 : decode cX10_toldLine 82 = .ok (.if_icmp .ne 14, 3) := by decide +kernel
theorem dX10_toldLine_85 : decode cX10_toldLine 85 = .ok (.aload_n 0, 1) := by decide +kernel
theorem dX10_toldLine_86 : decode cX10_toldLine 86 = .ok (.iload 4, 2) := by decide +kernel
theorem dX10_toldLine_88 : decode cX10_toldLine 88 = .ok (.bipush 13, 2) := by decide +kernel
theorem dX10_toldLine_90 : decode cX10_toldLine 90 = .ok (.invokevirtual 192, 3) := by decide +kernel
theorem dX10_toldLine_93 : decode cX10_toldLine 93 = .ok (.goto 20, 3) := by decide +kernel
theorem dX10_toldLine_96 : decode cX10_toldLine 96 = .ok (.aload_n 0, 1) := by decide +kernel
theorem dX10_toldLine_97 : decode cX10_toldLine 97 = .ok (.iload 4, 2) := by decide +kernel
theorem dX10_toldLine_99 : decode cX10_toldLine 99 = .ok (.iconst 4, 1) := by decide +kernel
theorem dX10_toldLine_100 : decode cX10_toldLine 100 = .ok (.invokevirtual 192, 3) := by decide +kernel
theorem dX10_toldLine_103 : decode cX10_toldLine 103 = .ok (.bipush 6, 2) := by decide +kernel
theorem dX10_toldLine_105 : decode cX10_toldLine 105 = .ok (.if_icmp .ne 7, 3) := by decide +kernel
theorem dX10_toldLine_108 : decode cX10_toldLine 108 = .ok (.iconst 1, 1) := by decide +kernel
theorem dX10_toldLine_109 : decode cX10_toldLine 109 = .ok (.goto 4, 3) := by decide +kernel
theorem dX10_toldLine_112 : decode cX10_toldLine 112 = .ok (.iconst 0, 1) := by decide +kernel
theorem dX10_toldLine_113 : decode cX10_toldLine 113 = .ok (.iadd, 1) := by decide +kernel
theorem dX10_toldLine_114 : decode cX10_toldLine 114 = .ok (.istore_n 3, 1) := by decide +kernel
theorem dX10_toldLine_115 : decode cX10_toldLine 115 = .ok (.iinc 4 1, 3) := by decide +kernel
theorem dX10_toldLine_118 : decode cX10_toldLine 118 = .ok (.goto (-61), 3) := by decide +kernel
theorem dX10_toldLine_121 : decode cX10_toldLine 121 = .ok (.iload_n 3, 1) := by decide +kernel
theorem dX10_toldLine_122 : decode cX10_toldLine 122 = .ok (.ireturn, 1) := by decide +kernel
theorem dX10_line_0 : decode cX10_line 0 = .ok (.aload_n 0, 1) := by decide +kernel
theorem dX10_line_1 : decode cX10_line 1 = .ok (.iconst 0, 1) := by decide +kernel
theorem dX10_line_2 : decode cX10_line 2 = .ok (.putfield 35, 3) := by decide +kernel
theorem dX10_line_5 : decode cX10_line 5 = .ok (.aload_n 0, 1) := by decide +kernel
theorem dX10_line_6 : decode cX10_line 6 = .ok (.iload_n 1, 1) := by decide +kernel
theorem dX10_line_7 : decode cX10_line 7 = .ok (.iconst 0, 1) := by decide +kernel
theorem dX10_line_8 : decode cX10_line 8 = .ok (.aload_n 0, 1) := by decide +kernel
theorem dX10_line_9 : decode cX10_line 9 = .ok (.getfield 17, 3) := by decide +kernel
theorem dX10_line_12 : decode cX10_line 12 = .ok (.iconst 2, 1) := by decide +kernel
theorem dX10_line_13 : decode cX10_line 13 = .ok (.iaload, 1) := by decide +kernel
theorem dX10_line_14 : decode cX10_line 14 = .ok (.iconst 1, 1) := by decide +kernel
theorem dX10_line_15 : decode cX10_line 15 = .ok (.isub, 1) := by decide +kernel
theorem dX10_line_16 : decode cX10_line 16 = .ok (.invokestatic 57, 3) := by decide +kernel
theorem dX10_line_19 : decode cX10_line 19 = .ok (.ifCond .ne 7, 3) := by decide +kernel
theorem dX10_line_22 : decode cX10_line 22 = .ok (.iconst 1, 1) := by decide +kernel
theorem dX10_line_23 : decode cX10_line 23 = .ok (.goto 4, 3) := by decide +kernel
theorem dX10_line_26 : decode cX10_line 26 = .ok (.iconst 0, 1) := by decide +kernel
theorem dX10_line_27 : decode cX10_line 27 = .ok (.iconst 1, 1) := by decide +kernel
theorem dX10_line_28 : decode cX10_line 28 = .ok (.invokevirtual 176, 3) := by decide +kernel
theorem dX10_line_31 : decode cX10_line 31 = .ok (.ifCond .ne 25, 3) := by decide +kernel
theorem dX10_line_34 : decode cX10_line 34 = .ok (.aload_n 0, 1) := by decide +kernel
theorem dX10_line_35 : decode cX10_line 35 = .ok (.iload_n 2, 1) := by decide +kernel
theorem dX10_line_36 : decode cX10_line 36 = .ok (.iconst 0, 1) := by decide +kernel
theorem dX10_line_37 : decode cX10_line 37 = .ok (.iconst 4, 1) := by decide +kernel
theorem dX10_line_38 : decode cX10_line 38 = .ok (.invokestatic 57, 3) := by decide +kernel
theorem dX10_line_41 : decode cX10_line 41 = .ok (.ifCond .ne 7, 3) := by decide +kernel
theorem dX10_line_44 : decode cX10_line 44 = .ok (.iconst 1, 1) := by decide +kernel
theorem dX10_line_45 : decode cX10_line 45 = .ok (.goto 4, 3) := by decide +kernel
theorem dX10_line_48 : decode cX10_line 48 = .ok (.iconst 0, 1) := by decide +kernel
theorem dX10_line_49 : decode cX10_line 49 = .ok (.iconst 2, 1) := by decide +kernel
theorem dX10_line_50 : decode cX10_line 50 = .ok (.invokevirtual 176, 3) := by decide +kernel
theorem dX10_line_53 : decode cX10_line 53 = .ok (.ifCond .eq 7, 3) := by decide +kernel
theorem dX10_line_56 : decode cX10_line 56 = .ok (.iconst 0, 1) := by decide +kernel
theorem dX10_line_57 : decode cX10_line 57 = .ok (.goto 9, 3) := by decide +kernel
theorem dX10_line_60 : decode cX10_line 60 = .ok (.aload_n 0, 1) := by decide +kernel
theorem dX10_line_61 : decode cX10_line 61 = .ok (.iload_n 1, 1) := by decide +kernel
theorem dX10_line_62 : decode cX10_line 62 = .ok (.iload_n 2, 1) := by decide +kernel
theorem dX10_line_63 : decode cX10_line 63 = .ok (.invokevirtual 279, 3) := by decide +kernel
theorem dX10_line_66 : decode cX10_line 66 = .ok (.ireturn, 1) := by decide +kernel
theorem dX10_toldGroup_0 : decode cX10_toldGroup 0 = .ok (.iload_n 2, 1) := by decide +kernel
theorem dX10_toldGroup_1 : decode cX10_toldGroup 1 = .ok (.iconst 2, 1) := by decide +kernel
theorem dX10_toldGroup_2 : decode cX10_toldGroup 2 = .ok (.if_icmp .ne 11, 3) := by decide +kernel
theorem dX10_toldGroup_5 : decode cX10_toldGroup 5 = .ok (.aload_n 0, 1) := by decide +kernel
theorem dX10_toldGroup_6 : decode cX10_toldGroup 6 = .ok (.iload_n 1, 1) := by decide +kernel
theorem dX10_toldGroup_7 : decode cX10_toldGroup 7 = .ok (.invokevirtual 213, 3) := by decide +kernel
theorem dX10_toldGroup_10 : decode cX10_toldGroup 10 = .ok (.goto 9, 3) := by decide +kernel
theorem dX10_toldGroup_13 : decode cX10_toldGroup 13 = .ok (.aload_n 0, 1) := by decide +kernel
theorem dX10_toldGroup_14 : decode cX10_toldGroup 14 = .ok (.iload_n 1, 1) := by decide +kernel
theorem dX10_toldGroup_15 : decode cX10_toldGroup 15 = .ok (.iload_n 2, 1) := by decide +kernel
theorem dX10_toldGroup_16 : decode cX10_toldGroup 16 = .ok (.invokevirtual 210, 3) := by decide +kernel
theorem dX10_toldGroup_19 : decode cX10_toldGroup 19 = .ok (.ireturn, 1) := by decide +kernel
theorem dX10_noGroup_0 : decode cX10_noGroup 0 = .ok (.aload_n 0, 1) := by decide +kernel
theorem dX10_noGroup_1 : decode cX10_noGroup 1 = .ok (.iload_n 1, 1) := by decide +kernel
theorem dX10_noGroup_2 : decode cX10_noGroup 2 = .ok (.iconst 0, 1) := by decide +kernel
theorem dX10_noGroup_3 : decode cX10_noGroup 3 = .ok (.aload_n 0, 1) := by decide +kernel
theorem dX10_noGroup_4 : decode cX10_noGroup 4 = .ok (.getfield 17, 3) := by decide +kernel
theorem dX10_noGroup_7 : decode cX10_noGroup 7 = .ok (.iconst 3, 1) := by decide +kernel
theorem dX10_noGroup_8 : decode cX10_noGroup 8 = .ok (.iaload, 1) := by decide +kernel
theorem dX10_noGroup_9 : decode cX10_noGroup 9 = .ok (.iconst 1, 1) := by decide +kernel
theorem dX10_noGroup_10 : decode cX10_noGroup 10 = .ok (.isub, 1) := by decide +kernel
theorem dX10_noGroup_11 : decode cX10_noGroup 11 = .ok (.invokestatic 57, 3) := by decide +kernel
theorem dX10_noGroup_14 : decode cX10_noGroup 14 = .ok (.ifCond .ne 7, 3) := by decide +kernel
theorem dX10_noGroup_17 : decode cX10_noGroup 17 = .ok (.iconst 1, 1) := by decide +kernel
theorem dX10_noGroup_18 : decode cX10_noGroup 18 = .ok (.goto 4, 3) := by decide +kernel
theorem dX10_noGroup_21 : decode cX10_noGroup 21 = .ok (.iconst 0, 1) := by decide +kernel
theorem dX10_noGroup_22 : decode cX10_noGroup 22 = .ok (.iconst 1, 1) := by decide +kernel
theorem dX10_noGroup_23 : decode cX10_noGroup 23 = .ok (.invokevirtual 176, 3) := by decide +kernel
theorem dX10_noGroup_26 : decode cX10_noGroup 26 = .ok (.ireturn, 1) := by decide +kernel
theorem dX10_group_0 : decode cX10_group 0 = .ok (.aload_n 0, 1) := by decide +kernel
theorem dX10_group_1 : decode cX10_group 1 = .ok (.iconst 0, 1) := by decide +kernel
theorem dX10_group_2 : decode cX10_group 2 = .ok (.putfield 35, 3) := by decide +kernel
theorem dX10_group_5 : decode cX10_group 5 = .ok (.aload_n 0, 1) := by decide +kernel
theorem dX10_group_6 : decode cX10_group 6 = .ok (.iload_n 1, 1) := by decide +kernel
theorem dX10_group_7 : decode cX10_group 7 = .ok (.invokevirtual 282, 3) := by decide +kernel
theorem dX10_group_10 : decode cX10_group 10 = .ok (.ifCond .ne 26, 3) := by decide +kernel
theorem dX10_group_13 : decode cX10_group 13 = .ok (.aload_n 0, 1) := by decide +kernel
theorem dX10_group_14 : decode cX10_group 14 = .ok (.iload_n 2, 1) := by decide +kernel
theorem dX10_group_15 : decode cX10_group 15 = .ok (.iconst 0, 1) := by decide +kernel
theorem dX10_group_16 : decode cX10_group 16 = .ok (.bipush 6, 2) := by decide +kernel
theorem dX10_group_18 : decode cX10_group 18 = .ok (.invokestatic 57, 3) := by decide +kernel
theorem dX10_group_21 : decode cX10_group 21 = .ok (.ifCond .ne 7, 3) := by decide +kernel
theorem dX10_group_24 : decode cX10_group 24 = .ok (.iconst 1, 1) := by decide +kernel
theorem dX10_group_25 : decode cX10_group 25 = .ok (.goto 4, 3) := by decide +kernel
theorem dX10_group_28 : decode cX10_group 28 = .ok (.iconst 0, 1) := by decide +kernel
theorem dX10_group_29 : decode cX10_group 29 = .ok (.iconst 2, 1) := by decide +kernel
theorem dX10_group_30 : decode cX10_group 30 = .ok (.invokevirtual 176, 3) := by decide +kernel
theorem dX10_group_33 : decode cX10_group 33 = .ok (.ifCond .eq 7, 3) := by decide +kernel
theorem dX10_group_36 : decode cX10_group 36 = .ok (.iconst 0, 1) := by decide +kernel
theorem dX10_group_37 : decode cX10_group 37 = .ok (.goto 9, 3) := by decide +kernel
theorem dX10_group_40 : decode cX10_group 40 = .ok (.aload_n 0, 1) := by decide +kernel
theorem dX10_group_41 : decode cX10_group 41 = .ok (.iload_n 1, 1) := by decide +kernel
theorem dX10_group_42 : decode cX10_group 42 = .ok (.iload_n 2, 1) := by decide +kernel
theorem dX10_group_43 : decode cX10_group 43 = .ok (.invokevirtual 285, 3) := by decide +kernel
theorem dX10_group_46 : decode cX10_group 46 = .ok (.ireturn, 1) := by decide +kernel
theorem dX10_register_0 : decode cX10_register 0 = .ok (.aload_n 0, 1) := by decide +kernel
theorem dX10_register_1 : decode cX10_register 1 = .ok (.iconst 0, 1) := by decide +kernel
theorem dX10_register_2 : decode cX10_register 2 = .ok (.putfield 35, 3) := by decide +kernel
theorem dX10_register_5 : decode cX10_register 5 = .ok (.aload_n 0, 1) := by decide +kernel
theorem dX10_register_6 : decode cX10_register 6 = .ok (.iload_n 1, 1) := by decide +kernel
theorem dX10_register_7 : decode cX10_register 7 = .ok (.iconst 0, 1) := by decide +kernel
theorem dX10_register_8 : decode cX10_register 8 = .ok (.aload_n 0, 1) := by decide +kernel
theorem dX10_register_9 : decode cX10_register 9 = .ok (.getfield 17, 3) := by decide +kernel
theorem dX10_register_12 : decode cX10_register 12 = .ok (.iconst 0, 1) := by decide +kernel
theorem dX10_register_13 : decode cX10_register 13 = .ok (.iaload, 1) := by decide +kernel
theorem dX10_register_14 : decode cX10_register 14 = .ok (.iconst 1, 1) := by decide +kernel
theorem dX10_register_15 : decode cX10_register 15 = .ok (.isub, 1) := by decide +kernel
theorem dX10_register_16 : decode cX10_register 16 = .ok (.invokestatic 57, 3) := by decide +kernel
theorem dX10_register_19 : decode cX10_register 19 = .ok (.ifCond .ne 7, 3) := by decide +kernel
theorem dX10_register_22 : decode cX10_register 22 = .ok (.iconst 1, 1) := by decide +kernel
theorem dX10_register_23 : decode cX10_register 23 = .ok (.goto 4, 3) := by decide +kernel
theorem dX10_register_26 : decode cX10_register 26 = .ok (.iconst 0, 1) := by decide +kernel
theorem dX10_register_27 : decode cX10_register 27 = .ok (.iconst 1, 1) := by decide +kernel
theorem dX10_register_28 : decode cX10_register 28 = .ok (.invokevirtual 176, 3) := by decide +kernel
theorem dX10_register_31 : decode cX10_register 31 = .ok (.ifCond .ne 25, 3) := by decide +kernel
theorem dX10_register_34 : decode cX10_register 34 = .ok (.aload_n 0, 1) := by decide +kernel
theorem dX10_register_35 : decode cX10_register 35 = .ok (.iload_n 2, 1) := by decide +kernel
theorem dX10_register_36 : decode cX10_register 36 = .ok (.iconst 0, 1) := by decide +kernel
theorem dX10_register_37 : decode cX10_register 37 = .ok (.iconst 2, 1) := by decide +kernel
theorem dX10_register_38 : decode cX10_register 38 = .ok (.invokestatic 57, 3) := by decide +kernel
theorem dX10_register_41 : decode cX10_register 41 = .ok (.ifCond .ne 7, 3) := by decide +kernel
theorem dX10_register_44 : decode cX10_register 44 = .ok (.iconst 1, 1) := by decide +kernel
theorem dX10_register_45 : decode cX10_register 45 = .ok (.goto 4, 3) := by decide +kernel
theorem dX10_register_48 : decode cX10_register 48 = .ok (.iconst 0, 1) := by decide +kernel
theorem dX10_register_49 : decode cX10_register 49 = .ok (.iconst 2, 1) := by decide +kernel
theorem dX10_register_50 : decode cX10_register 50 = .ok (.invokevirtual 176, 3) := by decide +kernel
theorem dX10_register_53 : decode cX10_register 53 = .ok (.ifCond .eq 7, 3) := by decide +kernel
theorem dX10_register_56 : decode cX10_register 56 = .ok (.iconst 0, 1) := by decide +kernel
theorem dX10_register_57 : decode cX10_register 57 = .ok (.goto 17, 3) := by decide +kernel
theorem dX10_register_60 : decode cX10_register 60 = .ok (.aload_n 0, 1) := by decide +kernel
theorem dX10_register_61 : decode cX10_register 61 = .ok (.getfield 17, 3) := by decide +kernel
theorem dX10_register_64 : decode cX10_register 64 = .ok (.sipush 151, 3) := by decide +kernel
theorem dX10_register_67 : decode cX10_register 67 = .ok (.iconst 3, 1) := by decide +kernel
theorem dX10_register_68 : decode cX10_register 68 = .ok (.iload_n 1, 1) := by decide +kernel
theorem dX10_register_69 : decode cX10_register 69 = .ok (.imul, 1) := by decide +kernel
theorem dX10_register_70 : decode cX10_register 70 = .ok (.iadd, 1) := by decide +kernel
theorem dX10_register_71 : decode cX10_register 71 = .ok (.iload_n 2, 1) := by decide +kernel
theorem dX10_register_72 : decode cX10_register 72 = .ok (.iadd, 1) := by decide +kernel
theorem dX10_register_73 : decode cX10_register 73 = .ok (.iaload, 1) := by decide +kernel
theorem dX10_register_74 : decode cX10_register 74 = .ok (.ireturn, 1) := by decide +kernel
theorem dX10_marker_0 : decode cX10_marker 0 = .ok (.aload_n 0, 1) := by decide +kernel
theorem dX10_marker_1 : decode cX10_marker 1 = .ok (.iconst 0, 1) := by decide +kernel
theorem dX10_marker_2 : decode cX10_marker 2 = .ok (.putfield 35, 3) := by decide +kernel
theorem dX10_marker_5 : decode cX10_marker 5 = .ok (.aload_n 0, 1) := by decide +kernel
theorem dX10_marker_6 : decode cX10_marker 6 = .ok (.iload_n 1, 1) := by decide +kernel
theorem dX10_marker_7 : decode cX10_marker 7 = .ok (.iconst 0, 1) := by decide +kernel
theorem dX10_marker_8 : decode cX10_marker 8 = .ok (.aload_n 0, 1) := by decide +kernel
theorem dX10_marker_9 : decode cX10_marker 9 = .ok (.getfield 17, 3) := by decide +kernel
theorem dX10_marker_12 : decode cX10_marker 12 = .ok (.iconst 1, 1) := by decide +kernel
theorem dX10_marker_13 : decode cX10_marker 13 = .ok (.iaload, 1) := by decide +kernel
theorem dX10_marker_14 : decode cX10_marker 14 = .ok (.iconst 1, 1) := by decide +kernel
theorem dX10_marker_15 : decode cX10_marker 15 = .ok (.isub, 1) := by decide +kernel
theorem dX10_marker_16 : decode cX10_marker 16 = .ok (.invokestatic 57, 3) := by decide +kernel
theorem dX10_marker_19 : decode cX10_marker 19 = .ok (.ifCond .ne 7, 3) := by decide +kernel
theorem dX10_marker_22 : decode cX10_marker 22 = .ok (.iconst 1, 1) := by decide +kernel
theorem dX10_marker_23 : decode cX10_marker 23 = .ok (.goto 4, 3) := by decide +kernel
theorem dX10_marker_26 : decode cX10_marker 26 = .ok (.iconst 0, 1) := by decide +kernel
theorem dX10_marker_27 : decode cX10_marker 27 = .ok (.iconst 1, 1) := by decide +kernel
theorem dX10_marker_28 : decode cX10_marker 28 = .ok (.invokevirtual 176, 3) := by decide +kernel
theorem dX10_marker_31 : decode cX10_marker 31 = .ok (.ifCond .ne 25, 3) := by decide +kernel
theorem dX10_marker_34 : decode cX10_marker 34 = .ok (.aload_n 0, 1) := by decide +kernel
theorem dX10_marker_35 : decode cX10_marker 35 = .ok (.iload_n 2, 1) := by decide +kernel
theorem dX10_marker_36 : decode cX10_marker 36 = .ok (.iconst 0, 1) := by decide +kernel
theorem dX10_marker_37 : decode cX10_marker 37 = .ok (.iconst 1, 1) := by decide +kernel
theorem dX10_marker_38 : decode cX10_marker 38 = .ok (.invokestatic 57, 3) := by decide +kernel
theorem dX10_marker_41 : decode cX10_marker 41 = .ok (.ifCond .ne 7, 3) := by decide +kernel
theorem dX10_marker_44 : decode cX10_marker 44 = .ok (.iconst 1, 1) := by decide +kernel
theorem dX10_marker_45 : decode cX10_marker 45 = .ok (.goto 4, 3) := by decide +kernel
theorem dX10_marker_48 : decode cX10_marker 48 = .ok (.iconst 0, 1) := by decide +kernel
theorem dX10_marker_49 : decode cX10_marker 49 = .ok (.iconst 2, 1) := by decide +kernel
theorem dX10_marker_50 : decode cX10_marker 50 = .ok (.invokevirtual 176, 3) := by decide +kernel
theorem dX10_marker_53 : decode cX10_marker 53 = .ok (.ifCond .eq 7, 3) := by decide +kernel
theorem dX10_marker_56 : decode cX10_marker 56 = .ok (.iconst 0, 1) := by decide +kernel
theorem dX10_marker_57 : decode cX10_marker 57 = .ok (.goto 17, 3) := by decide +kernel
theorem dX10_marker_60 : decode cX10_marker 60 = .ok (.aload_n 0, 1) := by decide +kernel
theorem dX10_marker_61 : decode cX10_marker 61 = .ok (.getfield 17, 3) := by decide +kernel
theorem dX10_marker_64 : decode cX10_marker 64 = .ok (.sipush 163, 3) := by decide +kernel
theorem dX10_marker_67 : decode cX10_marker 67 = .ok (.iconst 2, 1) := by decide +kernel
theorem dX10_marker_68 : decode cX10_marker 68 = .ok (.iload_n 1, 1) := by decide +kernel
theorem dX10_marker_69 : decode cX10_marker 69 = .ok (.imul, 1) := by decide +kernel
theorem dX10_marker_70 : decode cX10_marker 70 = .ok (.iadd, 1) := by decide +kernel
theorem dX10_marker_71 : decode cX10_marker 71 = .ok (.iload_n 2, 1) := by decide +kernel
theorem dX10_marker_72 : decode cX10_marker 72 = .ok (.iadd, 1) := by decide +kernel
theorem dX10_marker_73 : decode cX10_marker 73 = .ok (.iaload, 1) := by decide +kernel
theorem dX10_marker_74 : decode cX10_marker 74 = .ok (.ireturn, 1) := by decide +kernel
theorem dX10_noCall_0 : decode cX10_noCall 0 = .ok (.aload_n 0, 1) := by decide +kernel
theorem dX10_noCall_1 : decode cX10_noCall 1 = .ok (.iload_n 1, 1) := by decide +kernel
theorem dX10_noCall_2 : decode cX10_noCall 2 = .ok (.iconst 0, 1) := by decide +kernel
theorem dX10_noCall_3 : decode cX10_noCall 3 = .ok (.aload_n 0, 1) := by decide +kernel
theorem dX10_noCall_4 : decode cX10_noCall 4 = .ok (.getfield 17, 3) := by decide +kernel
theorem dX10_noCall_7 : decode cX10_noCall 7 = .ok (.iconst 5, 1) := by decide +kernel
theorem dX10_noCall_8 : decode cX10_noCall 8 = .ok (.iaload, 1) := by decide +kernel
theorem dX10_noCall_9 : decode cX10_noCall 9 = .ok (.iconst 1, 1) := by decide +kernel
theorem dX10_noCall_10 : decode cX10_noCall 10 = .ok (.isub, 1) := by decide +kernel
theorem dX10_noCall_11 : decode cX10_noCall 11 = .ok (.invokestatic 57, 3) := by decide +kernel
theorem dX10_noCall_14 : decode cX10_noCall 14 = .ok (.ifCond .ne 7, 3) := by decide +kernel
theorem dX10_noCall_17 : decode cX10_noCall 17 = .ok (.iconst 1, 1) := by decide +kernel
theorem dX10_noCall_18 : decode cX10_noCall 18 = .ok (.goto 4, 3) := by decide +kernel
theorem dX10_noCall_21 : decode cX10_noCall 21 = .ok (.iconst 0, 1) := by decide +kernel
theorem dX10_noCall_22 : decode cX10_noCall 22 = .ok (.iconst 1, 1) := by decide +kernel
theorem dX10_noCall_23 : decode cX10_noCall 23 = .ok (.invokevirtual 176, 3) := by decide +kernel
theorem dX10_noCall_26 : decode cX10_noCall 26 = .ok (.ireturn, 1) := by decide +kernel
theorem dX10_call_0 : decode cX10_call 0 = .ok (.aload_n 0, 1) := by decide +kernel
theorem dX10_call_1 : decode cX10_call 1 = .ok (.iconst 0, 1) := by decide +kernel
theorem dX10_call_2 : decode cX10_call 2 = .ok (.putfield 35, 3) := by decide +kernel
theorem dX10_call_5 : decode cX10_call 5 = .ok (.aload_n 0, 1) := by decide +kernel
theorem dX10_call_6 : decode cX10_call 6 = .ok (.iload_n 1, 1) := by decide +kernel
theorem dX10_call_7 : decode cX10_call 7 = .ok (.invokevirtual 288, 3) := by decide +kernel
theorem dX10_call_10 : decode cX10_call 10 = .ok (.ifCond .ne 26, 3) := by decide +kernel
theorem dX10_call_13 : decode cX10_call 13 = .ok (.aload_n 0, 1) := by decide +kernel
theorem dX10_call_14 : decode cX10_call 14 = .ok (.iload_n 2, 1) := by decide +kernel
theorem dX10_call_15 : decode cX10_call 15 = .ok (.iconst 0, 1) := by decide +kernel
theorem dX10_call_16 : decode cX10_call 16 = .ok (.bipush 10, 2) := by decide +kernel
theorem dX10_call_18 : decode cX10_call 18 = .ok (.invokestatic 57, 3) := by decide +kernel
theorem dX10_call_21 : decode cX10_call 21 = .ok (.ifCond .ne 7, 3) := by decide +kernel
theorem dX10_call_24 : decode cX10_call 24 = .ok (.iconst 1, 1) := by decide +kernel
theorem dX10_call_25 : decode cX10_call 25 = .ok (.goto 4, 3) := by decide +kernel
theorem dX10_call_28 : decode cX10_call 28 = .ok (.iconst 0, 1) := by decide +kernel
theorem dX10_call_29 : decode cX10_call 29 = .ok (.iconst 2, 1) := by decide +kernel
theorem dX10_call_30 : decode cX10_call 30 = .ok (.invokevirtual 176, 3) := by decide +kernel
theorem dX10_call_33 : decode cX10_call 33 = .ok (.ifCond .eq 7, 3) := by decide +kernel
theorem dX10_call_36 : decode cX10_call 36 = .ok (.iconst 0, 1) := by decide +kernel
theorem dX10_call_37 : decode cX10_call 37 = .ok (.goto 9, 3) := by decide +kernel
theorem dX10_call_40 : decode cX10_call 40 = .ok (.aload_n 0, 1) := by decide +kernel
theorem dX10_call_41 : decode cX10_call 41 = .ok (.iload_n 1, 1) := by decide +kernel
theorem dX10_call_42 : decode cX10_call 42 = .ok (.iload_n 2, 1) := by decide +kernel
theorem dX10_call_43 : decode cX10_call 43 = .ok (.invokevirtual 192, 3) := by decide +kernel
theorem dX10_call_46 : decode cX10_call 46 = .ok (.ireturn, 1) := by decide +kernel
theorem dX10_digit_0 : decode cX10_digit 0 = .ok (.aload_n 0, 1) := by decide +kernel
theorem dX10_digit_1 : decode cX10_digit 1 = .ok (.iconst 0, 1) := by decide +kernel
theorem dX10_digit_2 : decode cX10_digit 2 = .ok (.putfield 35, 3) := by decide +kernel
theorem dX10_digit_5 : decode cX10_digit 5 = .ok (.aload_n 0, 1) := by decide +kernel
theorem dX10_digit_6 : decode cX10_digit 6 = .ok (.iload_n 1, 1) := by decide +kernel
theorem dX10_digit_7 : decode cX10_digit 7 = .ok (.invokevirtual 288, 3) := by decide +kernel
theorem dX10_digit_10 : decode cX10_digit 10 = .ok (.ifCond .ne 32, 3) := by decide +kernel
theorem dX10_digit_13 : decode cX10_digit 13 = .ok (.aload_n 0, 1) := by decide +kernel
theorem dX10_digit_14 : decode cX10_digit 14 = .ok (.iload_n 2, 1) := by decide +kernel
theorem dX10_digit_15 : decode cX10_digit 15 = .ok (.iconst 0, 1) := by decide +kernel
theorem dX10_digit_16 : decode cX10_digit 16 = .ok (.aload_n 0, 1) := by decide +kernel
theorem dX10_digit_17 : decode cX10_digit 17 = .ok (.iload_n 1, 1) := by decide +kernel
theorem dX10_digit_18 : decode cX10_digit 18 = .ok (.iconst 1, 1) := by decide +kernel
theorem dX10_digit_19 : decode cX10_digit 19 = .ok (.invokevirtual 192, 3) := by decide +kernel
theorem dX10_digit_22 : decode cX10_digit 22 = .ok (.iconst 1, 1) := by decide +kernel
theorem dX10_digit_23 : decode cX10_digit 23 = .ok (.isub, 1) := by decide +kernel
theorem dX10_digit_24 : decode cX10_digit 24 = .ok (.invokestatic 57, 3) := by decide +kernel
theorem dX10_digit_27 : decode cX10_digit 27 = .ok (.ifCond .ne 7, 3) := by decide +kernel
theorem dX10_digit_30 : decode cX10_digit 30 = .ok (.iconst 1, 1) := by decide +kernel
theorem dX10_digit_31 : decode cX10_digit 31 = .ok (.goto 4, 3) := by decide +kernel
theorem dX10_digit_34 : decode cX10_digit 34 = .ok (.iconst 0, 1) := by decide +kernel
theorem dX10_digit_35 : decode cX10_digit 35 = .ok (.iconst 2, 1) := by decide +kernel
theorem dX10_digit_36 : decode cX10_digit 36 = .ok (.invokevirtual 176, 3) := by decide +kernel
theorem dX10_digit_39 : decode cX10_digit 39 = .ok (.ifCond .eq 7, 3) := by decide +kernel
theorem dX10_digit_42 : decode cX10_digit 42 = .ok (.iconst 0, 1) := by decide +kernel
theorem dX10_digit_43 : decode cX10_digit 43 = .ok (.goto 14, 3) := by decide +kernel
theorem dX10_digit_46 : decode cX10_digit 46 = .ok (.aload_n 0, 1) := by decide +kernel
theorem dX10_digit_47 : decode cX10_digit 47 = .ok (.iload_n 1, 1) := by decide +kernel
theorem dX10_digit_48 : decode cX10_digit 48 = .ok (.iload_n 2, 1) := by decide +kernel
theorem dX10_digit_49 : decode cX10_digit 49 = .ok (.iconst 1, 1) := by decide +kernel
theorem dX10_digit_50 : decode cX10_digit 50 = .ok (.iadd, 1) := by decide +kernel
theorem dX10_digit_51 : decode cX10_digit 51 = .ok (.invokevirtual 248, 3) := by decide +kernel
theorem dX10_digit_54 : decode cX10_digit 54 = .ok (.bipush 10, 2) := by decide +kernel
theorem dX10_digit_56 : decode cX10_digit 56 = .ok (.irem, 1) := by decide +kernel
theorem dX10_digit_57 : decode cX10_digit 57 = .ok (.ireturn, 1) := by decide +kernel
theorem dX10_valueOf_0 : decode cX10_valueOf 0 = .ok (.iconst 0, 1) := by decide +kernel
theorem dX10_valueOf_1 : decode cX10_valueOf 1 = .ok (.istore_n 2, 1) := by decide +kernel
theorem dX10_valueOf_2 : decode cX10_valueOf 2 = .ok (.iconst 0, 1) := by decide +kernel
theorem dX10_valueOf_3 : decode cX10_valueOf 3 = .ok (.istore_n 3, 1) := by decide +kernel
theorem dX10_valueOf_4 : decode cX10_valueOf 4 = .ok (.iload_n 3, 1) := by decide +kernel
theorem dX10_valueOf_5 : decode cX10_valueOf 5 = .ok (.iload_n 1, 1) := by decide +kernel
theorem dX10_valueOf_6 : decode cX10_valueOf 6 = .ok (.if_icmp .ge 42, 3) := by decide +kernel
theorem dX10_valueOf_9 : decode cX10_valueOf 9 = .ok (.aload_n 0, 1) := by decide +kernel
theorem dX10_valueOf_10 : decode cX10_valueOf 10 = .ok (.getfield 9, 3) := by decide +kernel
theorem dX10_valueOf_13 : decode cX10_valueOf 13 = .ok (.iload_n 3, 1) := by decide +kernel
theorem dX10_valueOf_14 : decode cX10_valueOf 14 = .ok (.iaload, 1) := by decide +kernel
theorem dX10_valueOf_15 : decode cX10_valueOf 15 = .ok (.bipush 48, 2) := by decide +kernel
theorem dX10_valueOf_17 : decode cX10_valueOf 17 = .ok (.bipush 57, 2) := by decide +kernel
theorem dX10_valueOf_19 : decode cX10_valueOf 19 = .ok (.invokestatic 57, 3) := by decide +kernel
theorem dX10_valueOf_22 : decode cX10_valueOf 22 = .ok (.ifCond .ne 5, 3) := by decide +kernel
theorem dX10_valueOf_25 : decode cX10_valueOf 25 = .ok (.iconst (-1), 1) := by decide +kernel
theorem dX10_valueOf_26 : decode cX10_valueOf 26 = .ok (.ireturn, 1) := by decide +kernel
theorem dX10_valueOf_27 : decode cX10_valueOf 27 = .ok (.bipush 10, 2) := by decide +kernel
theorem dX10_valueOf_29 : decode cX10_valueOf 29 = .ok (.iload_n 2, 1) := by decide +kernel
theorem dX10_valueOf_30 : decode cX10_valueOf 30 = .ok (.imul, 1) := by decide +kernel
theorem dX10_valueOf_31 : decode cX10_valueOf 31 = .ok (.aload_n 0, 1) := by decide +kernel
theorem dX10_valueOf_32 : decode cX10_valueOf 32 = .ok (.getfield 9, 3) := by decide +kernel
theorem dX10_valueOf_35 : decode cX10_valueOf 35 = .ok (.iload_n 3, 1) := by decide +kernel
theorem dX10_valueOf_36 : decode cX10_valueOf 36 = .ok (.iaload, 1) := by decide +kernel
theorem dX10_valueOf_37 : decode cX10_valueOf 37 = .ok (.iadd, 1) := by decide +kernel
theorem dX10_valueOf_38 : decode cX10_valueOf 38 = .ok (.bipush 48, 2) := by decide +kernel
theorem dX10_valueOf_40 : decode cX10_valueOf 40 = .ok (.isub, 1) := by decide +kernel
theorem dX10_valueOf_41 : decode cX10_valueOf 41 = .ok (.istore_n 2, 1) := by decide +kernel
theorem dX10_valueOf_42 : decode cX10_valueOf 42 = .ok (.iinc 3 1, 3) := by decide +kernel
theorem dX10_valueOf_45 : decode cX10_valueOf 45 = .ok (.goto (-41), 3) := by decide +kernel
theorem dX10_valueOf_48 : decode cX10_valueOf 48 = .ok (.iload_n 2, 1) := by decide +kernel
theorem dX10_valueOf_49 : decode cX10_valueOf 49 = .ok (.ireturn, 1) := by decide +kernel
theorem dX10_look_0 : decode cX10_look 0 = .ok (.aload_n 0, 1) := by decide +kernel
theorem dX10_look_1 : decode cX10_look 1 = .ok (.iconst 0, 1) := by decide +kernel
theorem dX10_look_2 : decode cX10_look 2 = .ok (.putfield 35, 3) := by decide +kernel
theorem dX10_look_5 : decode cX10_look 5 = .ok (.aload_n 0, 1) := by decide +kernel
theorem dX10_look_6 : decode cX10_look 6 = .ok (.iload_n 1, 1) := by decide +kernel
theorem dX10_look_7 : decode cX10_look 7 = .ok (.iconst 1, 1) := by decide +kernel
theorem dX10_look_8 : decode cX10_look 8 = .ok (.bipush 6, 2) := by decide +kernel
theorem dX10_look_10 : decode cX10_look 10 = .ok (.invokestatic 57, 3) := by decide +kernel
theorem dX10_look_13 : decode cX10_look 13 = .ok (.ifCond .eq 20, 3) := by decide +kernel
theorem dX10_look_16 : decode cX10_look 16 = .ok (.iload_n 1, 1) := by decide +kernel
theorem dX10_look_17 : decode cX10_look 17 = .ok (.aload_n 0, 1) := by decide +kernel
theorem dX10_look_18 : decode cX10_look 18 = .ok (.getfield 38, 3) := by decide +kernel
theorem dX10_look_21 : decode cX10_look 21 = .ok (.if_icmp .gt 12, 3) := by decide +kernel
theorem dX10_look_24 : decode cX10_look 24 = .ok (.iload_n 2, 1) := by decide +kernel
theorem dX10_look_25 : decode cX10_look 25 = .ok (.iconst 0, 1) := by decide +kernel
theorem dX10_look_26 : decode cX10_look 26 = .ok (.iconst 3, 1) := by decide +kernel
theorem dX10_look_27 : decode cX10_look 27 = .ok (.invokestatic 57, 3) := by decide +kernel
theorem dX10_look_30 : decode cX10_look 30 = .ok (.ifCond .ne 7, 3) := by decide +kernel
theorem dX10_look_33 : decode cX10_look 33 = .ok (.iconst 1, 1) := by decide +kernel
theorem dX10_look_34 : decode cX10_look 34 = .ok (.goto 4, 3) := by decide +kernel
theorem dX10_look_37 : decode cX10_look 37 = .ok (.iconst 0, 1) := by decide +kernel
theorem dX10_look_38 : decode cX10_look 38 = .ok (.iconst 1, 1) := by decide +kernel
theorem dX10_look_39 : decode cX10_look 39 = .ok (.invokevirtual 176, 3) := by decide +kernel
theorem dX10_look_42 : decode cX10_look 42 = .ok (.ifCond .eq 5, 3) := by decide +kernel
theorem dX10_look_45 : decode cX10_look 45 = .ok (.iconst 0, 1) := by decide +kernel
theorem dX10_look_46 : decode cX10_look 46 = .ok (.ireturn, 1) := by decide +kernel
theorem dX10_look_47 : decode cX10_look 47 = .ok (.aload_n 0, 1) := by decide +kernel
theorem dX10_look_48 : decode cX10_look 48 = .ok (.iload_n 1, 1) := by decide +kernel
theorem dX10_look_49 : decode cX10_look 49 = .ok (.invokevirtual 291, 3) := by decide +kernel
theorem dX10_look_52 : decode cX10_look 52 = .ok (.istore_n 3, 1) := by decide +kernel
theorem dX10_look_53 : decode cX10_look 53 = .ok (.aload_n 0, 1) := by decide +kernel
theorem dX10_look_54 : decode cX10_look 54 = .ok (.iload_n 3, 1) := by decide +kernel
theorem dX10_look_55 : decode cX10_look 55 = .ok (.iconst (-1), 1) := by decide +kernel
theorem dX10_look_56 : decode cX10_look 56 = .ok (.if_icmp .ne 7, 3) := by decide +kernel
theorem dX10_look_59 : decode cX10_look 59 = .ok (.iconst 1, 1) := by decide +kernel
theorem dX10_look_60 : decode cX10_look 60 = .ok (.goto 4, 3) := by decide +kernel
theorem dX10_look_63 : decode cX10_look 63 = .ok (.iconst 0, 1) := by decide +kernel
theorem dX10_look_64 : decode cX10_look 64 = .ok (.iconst 1, 1) := by decide +kernel
theorem dX10_look_65 : decode cX10_look 65 = .ok (.invokevirtual 176, 3) := by decide +kernel
theorem dX10_look_68 : decode cX10_look 68 = .ok (.ifCond .eq 5, 3) := by decide +kernel
theorem dX10_look_71 : decode cX10_look 71 = .ok (.iconst 0, 1) := by decide +kernel
theorem dX10_look_72 : decode cX10_look 72 = .ok (.ireturn, 1) := by decide +kernel
theorem dX10_look_73 : decode cX10_look 73 = .ok (.aload_n 0, 1) := by decide +kernel
theorem dX10_look_74 : decode cX10_look 74 = .ok (.getfield 17, 3) := by decide +kernel
theorem dX10_look_77 : decode cX10_look 77 = .ok (.iload_n 1, 1) := by decide +kernel
theorem dX10_look_78 : decode cX10_look 78 = .ok (.iload_n 3, 1) := by decide +kernel
theorem dX10_look_79 : decode cX10_look 79 = .ok (.invokestatic 116, 3) := by decide +kernel
theorem dX10_look_82 : decode cX10_look 82 = .ok (.istore 4, 2) := by decide +kernel
theorem dX10_look_84 : decode cX10_look 84 = .ok (.aload_n 0, 1) := by decide +kernel
theorem dX10_look_85 : decode cX10_look 85 = .ok (.iload_n 1, 1) := by decide +kernel
theorem dX10_look_86 : decode cX10_look 86 = .ok (.iload_n 3, 1) := by decide +kernel
theorem dX10_look_87 : decode cX10_look 87 = .ok (.invokevirtual 198, 3) := by decide +kernel
theorem dX10_look_90 : decode cX10_look 90 = .ok (.istore 5, 2) := by decide +kernel
theorem dX10_look_92 : decode cX10_look 92 = .ok (.iload_n 2, 1) := by decide +kernel
theorem dX10_look_93 : decode cX10_look 93 = .ok (.tableswitch 48 0 2 #[27, 30, 33], 27) := by decide +kernel
theorem dX10_look_120 : decode cX10_look 120 = .ok (.iload 4, 2) := by decide +kernel
theorem dX10_look_122 : decode cX10_look 122 = .ok (.ireturn, 1) := by decide +kernel
theorem dX10_look_123 : decode cX10_look 123 = .ok (.iload 5, 2) := by decide +kernel
theorem dX10_look_125 : decode cX10_look 125 = .ok (.ireturn, 1) := by decide +kernel
theorem dX10_look_126 : decode cX10_look 126 = .ok (.aload_n 0, 1) := by decide +kernel
theorem dX10_look_127 : decode cX10_look 127 = .ok (.iload_n 1, 1) := by decide +kernel
theorem dX10_look_128 : decode cX10_look 128 = .ok (.iload_n 3, 1) := by decide +kernel
theorem dX10_look_129 : decode cX10_look 129 = .ok (.invokevirtual 254, 3) := by decide +kernel
theorem dX10_look_132 : decode cX10_look 132 = .ok (.ifCond .eq 7, 3) := by decide +kernel
theorem dX10_look_135 : decode cX10_look 135 = .ok (.iconst 1, 1) := by decide +kernel
theorem dX10_look_136 : decode cX10_look 136 = .ok (.goto 4, 3) := by decide +kernel
theorem dX10_look_139 : decode cX10_look 139 = .ok (.iconst 0, 1) := by decide +kernel
theorem dX10_look_140 : decode cX10_look 140 = .ok (.ireturn, 1) := by decide +kernel
theorem dX10_look_141 : decode cX10_look 141 = .ok (.iload 4, 2) := by decide +kernel
theorem dX10_look_143 : decode cX10_look 143 = .ok (.iconst (-1), 1) := by decide +kernel
theorem dX10_look_144 : decode cX10_look 144 = .ok (.if_icmp .ne 12, 3) := by decide +kernel
theorem dX10_look_147 : decode cX10_look 147 = .ok (.aload_n 0, 1) := by decide +kernel
theorem dX10_look_148 : decode cX10_look 148 = .ok (.iload_n 1, 1) := by decide +kernel
theorem dX10_look_149 : decode cX10_look 149 = .ok (.iload_n 3, 1) := by decide +kernel
theorem dX10_look_150 : decode cX10_look 150 = .ok (.invokevirtual 254, 3) := by decide +kernel
theorem dX10_look_153 : decode cX10_look 153 = .ok (.ifCond .ne 5, 3) := by decide +kernel
theorem dX10_look_156 : decode cX10_look 156 = .ok (.iconst (-1), 1) := by decide +kernel
theorem dX10_look_157 : decode cX10_look 157 = .ok (.ireturn, 1) := by decide +kernel
theorem dX10_look_158 : decode cX10_look 158 = .ok (.aload_n 0, 1) := by decide +kernel
theorem dX10_look_159 : decode cX10_look 159 = .ok (.iload 5, 2) := by decide +kernel
theorem dX10_look_161 : decode cX10_look 161 = .ok (.invokevirtual 239, 3) := by decide +kernel
theorem dX10_look_164 : decode cX10_look 164 = .ok (.istore 6, 2) := by decide +kernel
theorem dX10_look_166 : decode cX10_look 166 = .ok (.iload 6, 2) := by decide +kernel
theorem dX10_look_168 : decode cX10_look 168 = .ok (.aload_n 0, 1) := by decide +kernel
theorem dX10_look_169 : decode cX10_look 169 = .ok (.getfield 17, 3) := by decide +kernel
theorem dX10_look_172 : decode cX10_look 172 = .ok (.bipush 95, 2) := by decide +kernel
theorem dX10_look_174 : decode cX10_look 174 = .ok (.bipush 7, 2) := by decide +kernel
theorem dX10_look_176 : decode cX10_look 176 = .ok (.iload 5, 2) := by decide +kernel
theorem dX10_look_178 : decode cX10_look 178 = .ok (.imul, 1) := by decide +kernel
theorem dX10_look_179 : decode cX10_look 179 = .ok (.iadd, 1) := by decide +kernel
theorem dX10_look_180 : decode cX10_look 180 = .ok (.iconst 3, 1) := by decide +kernel
theorem dX10_look_181 : decode cX10_look 181 = .ok (.iadd, 1) := by decide +kernel
theorem dX10_look_182 : decode cX10_look 182 = .ok (.iaload, 1) := by decide +kernel
theorem dX10_look_183 : decode cX10_look 183 = .ok (.if_icmp .ne 7, 3) := by decide +kernel
theorem dX10_look_186 : decode cX10_look 186 = .ok (.iconst (-1), 1) := by decide +kernel
theorem dX10_look_187 : decode cX10_look 187 = .ok (.goto 21, 3) := by decide +kernel
theorem dX10_look_190 : decode cX10_look 190 = .ok (.aload_n 0, 1) := by decide +kernel
theorem dX10_look_191 : decode cX10_look 191 = .ok (.getfield 17, 3) := by decide +kernel
theorem dX10_look_194 : decode cX10_look 194 = .ok (.bipush 95, 2) := by decide +kernel
theorem dX10_look_196 : decode cX10_look 196 = .ok (.bipush 7, 2) := by decide +kernel
theorem dX10_look_198 : decode cX10_look 198 = .ok (.iload 5, 2) := by decide +kernel
theorem dX10_look_200 : decode cX10_look 200 = .ok (.imul, 1) := by decide +kernel
theorem dX10_look_201 : decode cX10_look 201 = .ok (.iadd, 1) := by decide +kernel
theorem dX10_look_202 : decode cX10_look 202 = .ok (.iconst 4, 1) := by decide +kernel
theorem dX10_look_203 : decode cX10_look 203 = .ok (.iadd, 1) := by decide +kernel
theorem dX10_look_204 : decode cX10_look 204 = .ok (.iload 6, 2) := by decide +kernel
theorem dX10_look_206 : decode cX10_look 206 = .ok (.iadd, 1) := by decide +kernel
theorem dX10_look_207 : decode cX10_look 207 = .ok (.iaload, 1) := by decide +kernel
theorem dX10_look_208 : decode cX10_look 208 = .ok (.ireturn, 1) := by decide +kernel
theorem dX10_foremost_0 : decode cX10_foremost 0 = .ok (.aload_n 0, 1) := by decide +kernel
theorem dX10_foremost_1 : decode cX10_foremost 1 = .ok (.iconst 0, 1) := by decide +kernel
theorem dX10_foremost_2 : decode cX10_foremost 2 = .ok (.putfield 35, 3) := by decide +kernel
theorem dX10_foremost_5 : decode cX10_foremost 5 = .ok (.aload_n 0, 1) := by decide +kernel
theorem dX10_foremost_6 : decode cX10_foremost 6 = .ok (.iload_n 1, 1) := by decide +kernel
theorem dX10_foremost_7 : decode cX10_foremost 7 = .ok (.ifCond .eq 7, 3) := by decide +kernel
theorem dX10_foremost_10 : decode cX10_foremost 10 = .ok (.iconst 3, 1) := by decide +kernel
theorem dX10_foremost_11 : decode cX10_foremost 11 = .ok (.goto 4, 3) := by decide +kernel
theorem dX10_foremost_14 : decode cX10_foremost 14 = .ok (.iconst 1, 1) := by decide +kernel
theorem dX10_foremost_15 : decode cX10_foremost 15 = .ok (.invokevirtual 258, 3) := by decide +kernel
theorem dX10_foremost_18 : decode cX10_foremost 18 = .ok (.ireturn, 1) := by decide +kernel
theorem dX10_overIn_0 : decode cX10_overIn 0 = .ok (.aload_n 0, 1) := by decide +kernel
theorem dX10_overIn_1 : decode cX10_overIn 1 = .ok (.iconst 0, 1) := by decide +kernel
theorem dX10_overIn_2 : decode cX10_overIn 2 = .ok (.putfield 35, 3) := by decide +kernel
theorem dX10_overIn_5 : decode cX10_overIn 5 = .ok (.aload_n 0, 1) := by decide +kernel
theorem dX10_overIn_6 : decode cX10_overIn 6 = .ok (.iload_n 1, 1) := by decide +kernel
theorem dX10_overIn_7 : decode cX10_overIn 7 = .ok (.invokevirtual 288, 3) := by decide +kernel
theorem dX10_overIn_10 : decode cX10_overIn 10 = .ok (.ifCond .eq 5, 3) := by decide +kernel
theorem dX10_overIn_13 : decode cX10_overIn 13 = .ok (.iconst 0, 1) := by decide +kernel
theorem dX10_overIn_14 : decode cX10_overIn 14 = .ok (.ireturn, 1) := by decide +kernel
theorem dX10_overIn_15 : decode cX10_overIn 15 = .ok (.iconst (-1), 1) := by decide +kernel
theorem dX10_overIn_16 : decode cX10_overIn 16 = .ok (.istore_n 2, 1) := by decide +kernel
theorem dX10_overIn_17 : decode cX10_overIn 17 = .ok (.aload_n 0, 1) := by decide +kernel
theorem dX10_overIn_18 : decode cX10_overIn 18 = .ok (.getfield 17, 3) := by decide +kernel
theorem dX10_overIn_21 : decode cX10_overIn 21 = .ok (.aload_n 0, 1) := by decide +kernel
theorem dX10_overIn_22 : decode cX10_overIn 22 = .ok (.getfield 23, 3) := by decide +kernel
theorem dX10_overIn_25 : decode cX10_overIn 25 = .ok (.invokestatic 188, 3) := by decide +kernel
theorem dX10_overIn_28 : decode cX10_overIn 28 = .ok (.iconst 0, 1) := by decide +kernel
theorem dX10_overIn_29 : decode cX10_overIn 29 = .ok (.istore_n 3, 1) := by decide +kernel
theorem dX10_overIn_30 : decode cX10_overIn 30 = .ok (.iload_n 3, 1) := by decide +kernel
theorem dX10_overIn_31 : decode cX10_overIn 31 = .ok (.sipush 600, 3) := by decide +kernel
theorem dX10_overIn_34 : decode cX10_overIn 34 = .ok (.if_icmp .gt 35, 3) := by decide +kernel
theorem dX10_overIn_37 : decode cX10_overIn 37 = .ok (.iload_n 2, 1) := by decide +kernel
theorem dX10_overIn_38 : decode cX10_overIn 38 = .ok (.iconst (-1), 1) := by decide +kernel
theorem dX10_overIn_39 : decode cX10_overIn 39 = .ok (.if_icmp .ne 30, 3) := by decide +kernel
theorem dX10_overIn_42 : decode cX10_overIn 42 = .ok (.iload_n 3, 1) := by decide +kernel
theorem dX10_overIn_43 : decode cX10_overIn 43 = .ok (.ifCond .le 7, 3) := by decide +kernel
theorem dX10_overIn_46 : decode cX10_overIn 46 = .ok (.aload_n 0, 1) := by decide +kernel
theorem dX10_overIn_47 : decode cX10_overIn 47 = .ok (.invokevirtual 294, 3) := by decide +kernel
theorem dX10_overIn_50 : decode cX10_overIn 50 = .ok (.aload_n 0, 1) := by decide +kernel
theorem dX10_overIn_51 : decode cX10_overIn 51 = .ok (.iload_n 1, 1) := by decide +kernel
theorem dX10_overIn_52 : decode cX10_overIn 52 = .ok (.iconst 4, 1) := by decide +kernel
theorem dX10_overIn_53 : decode cX10_overIn 53 = .ok (.invokevirtual 192, 3) := by decide +kernel
theorem dX10_overIn_56 : decode cX10_overIn 56 = .ok (.bipush 6, 2) := by decide +kernel
theorem dX10_overIn_58 : decode cX10_overIn 58 = .ok (.if_icmp .lt 5, 3) := by decide +kernel
theorem dX10_overIn_61 : decode cX10_overIn 61 = .ok (.iload_n 3, 1) := by decide +kernel
theorem dX10_overIn_62 : decode cX10_overIn 62 = .ok (.istore_n 2, 1) := by decide +kernel
theorem dX10_overIn_63 : decode cX10_overIn 63 = .ok (.iinc 3 1, 3) := by decide +kernel
theorem dX10_overIn_66 : decode cX10_overIn 66 = .ok (.goto (-36), 3) := by decide +kernel
theorem dX10_overIn_69 : decode cX10_overIn 69 = .ok (.aload_n 0, 1) := by decide +kernel
theorem dX10_overIn_70 : decode cX10_overIn 70 = .ok (.getfield 23, 3) := by decide +kernel
theorem dX10_overIn_73 : decode cX10_overIn 73 = .ok (.aload_n 0, 1) := by decide +kernel
theorem dX10_overIn_74 : decode cX10_overIn 74 = .ok (.getfield 17, 3) := by decide +kernel
theorem dX10_overIn_77 : decode cX10_overIn 77 = .ok (.invokestatic 188, 3) := by decide +kernel
theorem dX10_overIn_80 : decode cX10_overIn 80 = .ok (.iload_n 2, 1) := by decide +kernel
theorem dX10_overIn_81 : decode cX10_overIn 81 = .ok (.ireturn, 1) := by decide +kernel
theorem dX10_foretold_0 : decode cX10_foretold 0 = .ok (.aload_n 0, 1) := by decide +kernel
theorem dX10_foretold_1 : decode cX10_foretold 1 = .ok (.iconst 0, 1) := by decide +kernel
theorem dX10_foretold_2 : decode cX10_foretold 2 = .ok (.putfield 35, 3) := by decide +kernel
theorem dX10_foretold_5 : decode cX10_foretold 5 = .ok (.aload_n 0, 1) := by decide +kernel
theorem dX10_foretold_6 : decode cX10_foretold 6 = .ok (.iload_n 1, 1) := by decide +kernel
theorem dX10_foretold_7 : decode cX10_foretold 7 = .ok (.iconst 1, 1) := by decide +kernel
theorem dX10_foretold_8 : decode cX10_foretold 8 = .ok (.sipush 600, 3) := by decide +kernel
theorem dX10_foretold_11 : decode cX10_foretold 11 = .ok (.invokestatic 57, 3) := by decide +kernel
theorem dX10_foretold_14 : decode cX10_foretold 14 = .ok (.ifCond .eq 13, 3) := by decide +kernel
theorem dX10_foretold_17 : decode cX10_foretold 17 = .ok (.iload_n 2, 1) := by decide +kernel
theorem dX10_foretold_18 : decode cX10_foretold 18 = .ok (.iconst 0, 1) := by decide +kernel
theorem dX10_foretold_19 : decode cX10_foretold 19 = .ok (.bipush 11, 2) := by decide +kernel
theorem dX10_foretold_21 : decode cX10_foretold 21 = .ok (.invokestatic 57, 3) := by decide +kernel
theorem dX10_foretold_24 : decode cX10_foretold 24 = .ok (.ifCond .ne 7, 3) := by decide +kernel
theorem dX10_foretold_27 : decode cX10_foretold 27 = .ok (.iconst 1, 1) := by decide +kernel
theorem dX10_foretold_28 : decode cX10_foretold 28 = .ok (.goto 4, 3) := by decide +kernel
theorem dX10_foretold_31 : decode cX10_foretold 31 = .ok (.iconst 0, 1) := by decide +kernel
theorem dX10_foretold_32 : decode cX10_foretold 32 = .ok (.iconst 1, 1) := by decide +kernel
theorem dX10_foretold_33 : decode cX10_foretold 33 = .ok (.invokevirtual 176, 3) := by decide +kernel
theorem dX10_foretold_36 : decode cX10_foretold 36 = .ok (.ifCond .eq 5, 3) := by decide +kernel
theorem dX10_foretold_39 : decode cX10_foretold 39 = .ok (.iconst 0, 1) := by decide +kernel
theorem dX10_foretold_40 : decode cX10_foretold 40 = .ok (.ireturn, 1) := by decide +kernel
theorem dX10_foretold_41 : decode cX10_foretold 41 = .ok (.aload_n 0, 1) := by decide +kernel
theorem dX10_foretold_42 : decode cX10_foretold 42 = .ok (.getfield 17, 3) := by decide +kernel
theorem dX10_foretold_45 : decode cX10_foretold 45 = .ok (.aload_n 0, 1) := by decide +kernel
theorem dX10_foretold_46 : decode cX10_foretold 46 = .ok (.getfield 23, 3) := by decide +kernel
theorem dX10_foretold_49 : decode cX10_foretold 49 = .ok (.invokestatic 188, 3) := by decide +kernel
theorem dX10_foretold_52 : decode cX10_foretold 52 = .ok (.iconst 0, 1) := by decide +kernel
theorem dX10_foretold_53 : decode cX10_foretold 53 = .ok (.istore_n 3, 1) := by decide +kernel
theorem dX10_foretold_54 : decode cX10_foretold 54 = .ok (.iload_n 3, 1) := by decide +kernel
theorem dX10_foretold_55 : decode cX10_foretold 55 = .ok (.iload_n 1, 1) := by decide +kernel
theorem dX10_foretold_56 : decode cX10_foretold 56 = .ok (.if_icmp .ge 13, 3) := by decide +kernel
theorem dX10_foretold_59 : decode cX10_foretold 59 = .ok (.aload_n 0, 1) := by decide +kernel
theorem dX10_foretold_60 : decode cX10_foretold 60 = .ok (.invokevirtual 294, 3) := by decide +kernel
theorem dX10_foretold_63 : decode cX10_foretold 63 = .ok (.iinc 3 1, 3) := by decide +kernel
theorem dX10_foretold_66 : decode cX10_foretold 66 = .ok (.goto (-12), 3) := by decide +kernel
theorem dX10_foretold_69 : decode cX10_foretold 69 = .ok (.aload_n 0, 1) := by decide +kernel
theorem dX10_foretold_70 : decode cX10_foretold 70 = .ok (.iload_n 2, 1) := by decide +kernel
theorem dX10_foretold_71 : decode cX10_foretold 71 = .ok (.invokevirtual 227, 3) := by decide +kernel
theorem dX10_foretold_74 : decode cX10_foretold 74 = .ok (.istore_n 3, 1) := by decide +kernel
theorem dX10_foretold_75 : decode cX10_foretold 75 = .ok (.aload_n 0, 1) := by decide +kernel
theorem dX10_foretold_76 : decode cX10_foretold 76 = .ok (.getfield 23, 3) := by decide +kernel
theorem dX10_foretold_79 : decode cX10_foretold 79 = .ok (.aload_n 0, 1) := by decide +kernel
theorem dX10_foretold_80 : decode cX10_foretold 80 = .ok (.getfield 17, 3) := by decide +kernel
theorem dX10_foretold_83 : decode cX10_foretold 83 = .ok (.invokestatic 188, 3) := by decide +kernel
theorem dX10_foretold_86 : decode cX10_foretold 86 = .ok (.iload_n 3, 1) := by decide +kernel
theorem dX10_foretold_87 : decode cX10_foretold 87 = .ok (.ireturn, 1) := by decide +kernel
theorem dX10_bestGuard_0 : decode cX10_bestGuard 0 = .ok (.aload_n 0, 1) := by decide +kernel
theorem dX10_bestGuard_1 : decode cX10_bestGuard 1 = .ok (.iconst 0, 1) := by decide +kernel
theorem dX10_bestGuard_2 : decode cX10_bestGuard 2 = .ok (.putfield 35, 3) := by decide +kernel
theorem dX10_bestGuard_5 : decode cX10_bestGuard 5 = .ok (.iconst 1, 1) := by decide +kernel
theorem dX10_bestGuard_6 : decode cX10_bestGuard 6 = .ok (.istore_n 1, 1) := by decide +kernel
theorem dX10_bestGuard_7 : decode cX10_bestGuard 7 = .ok (.iconst (-1), 1) := by decide +kernel
theorem dX10_bestGuard_8 : decode cX10_bestGuard 8 = .ok (.istore_n 2, 1) := by decide +kernel
theorem dX10_bestGuard_9 : decode cX10_bestGuard 9 = .ok (.aload_n 0, 1) := by decide +kernel
theorem dX10_bestGuard_10 : decode cX10_bestGuard 10 = .ok (.getfield 17, 3) := by decide +kernel
theorem dX10_bestGuard_13 : decode cX10_bestGuard 13 = .ok (.aload_n 0, 1) := by decide +kernel
theorem dX10_bestGuard_14 : decode cX10_bestGuard 14 = .ok (.getfield 23, 3) := by decide +kernel
theorem dX10_bestGuard_17 : decode cX10_bestGuard 17 = .ok (.invokestatic 188, 3) := by decide +kernel
theorem dX10_bestGuard_20 : decode cX10_bestGuard 20 = .ok (.iconst 1, 1) := by decide +kernel
theorem dX10_bestGuard_21 : decode cX10_bestGuard 21 = .ok (.istore_n 3, 1) := by decide +kernel
theorem dX10_bestGuard_22 : decode cX10_bestGuard 22 = .ok (.iload_n 3, 1) := by decide +kernel
theorem dX10_bestGuard_23 : decode cX10_bestGuard 23 = .ok (.bipush 40, 2) := by decide +kernel
theorem dX10_bestGuard_25 : decode cX10_bestGuard 25 = .ok (.if_icmp .gt 71, 3) := by decide +kernel
theorem dX10_bestGuard_28 : decode cX10_bestGuard 28 = .ok (.aload_n 0, 1) := by decide +kernel
theorem dX10_bestGuard_29 : decode cX10_bestGuard 29 = .ok (.getfield 17, 3) := by decide +kernel
theorem dX10_bestGuard_32 : decode cX10_bestGuard 32 = .ok (.bipush 19, 2) := by decide +kernel
theorem dX10_bestGuard_34 : decode cX10_bestGuard 34 = .ok (.iload_n 3, 1) := by decide +kernel
theorem dX10_bestGuard_35 : decode cX10_bestGuard 35 = .ok (.iastore, 1) := by decide +kernel
theorem dX10_bestGuard_36 : decode cX10_bestGuard 36 = .ok (.iconst 0, 1) := by decide +kernel
theorem dX10_bestGuard_37 : decode cX10_bestGuard 37 = .ok (.istore 4, 2) := by decide +kernel
theorem dX10_bestGuard_39 : decode cX10_bestGuard 39 = .ok (.iload 4, 2) := by decide +kernel
theorem dX10_bestGuard_41 : decode cX10_bestGuard 41 = .ok (.sipush 300, 3) := by decide +kernel
theorem dX10_bestGuard_44 : decode cX10_bestGuard 44 = .ok (.if_icmp .ge 13, 3) := by decide +kernel
theorem dX10_bestGuard_47 : decode cX10_bestGuard 47 = .ok (.aload_n 0, 1) := by decide +kernel
theorem dX10_bestGuard_48 : decode cX10_bestGuard 48 = .ok (.invokevirtual 294, 3) := by decide +kernel
theorem dX10_bestGuard_51 : decode cX10_bestGuard 51 = .ok (.iinc 4 1, 3) := by decide +kernel
theorem dX10_bestGuard_54 : decode cX10_bestGuard 54 = .ok (.goto (-15), 3) := by decide +kernel
theorem dX10_bestGuard_57 : decode cX10_bestGuard 57 = .ok (.aload_n 0, 1) := by decide +kernel
theorem dX10_bestGuard_58 : decode cX10_bestGuard 58 = .ok (.bipush 6, 2) := by decide +kernel
theorem dX10_bestGuard_60 : decode cX10_bestGuard 60 = .ok (.invokevirtual 227, 3) := by decide +kernel
theorem dX10_bestGuard_63 : decode cX10_bestGuard 63 = .ok (.istore 4, 2) := by decide +kernel
theorem dX10_bestGuard_65 : decode cX10_bestGuard 65 = .ok (.aload_n 0, 1) := by decide +kernel
theorem dX10_bestGuard_66 : decode cX10_bestGuard 66 = .ok (.getfield 23, 3) := by decide +kernel
theorem dX10_bestGuard_69 : decode cX10_bestGuard 69 = .ok (.aload_n 0, 1) := by decide +kernel
theorem dX10_bestGuard_70 : decode cX10_bestGuard 70 = .ok (.getfield 17, 3) := by decide +kernel
theorem dX10_bestGuard_73 : decode cX10_bestGuard 73 = .ok (.invokestatic 188, 3) := by decide +kernel
theorem dX10_bestGuard_76 : decode cX10_bestGuard 76 = .ok (.iload 4, 2) := by decide +kernel
theorem dX10_bestGuard_78 : decode cX10_bestGuard 78 = .ok (.iload_n 2, 1) := by decide +kernel
theorem dX10_bestGuard_79 : decode cX10_bestGuard 79 = .ok (.if_icmp .gt 6, 3) := by decide +kernel
theorem dX10_bestGuard_82 : decode cX10_bestGuard 82 = .ok (.goto 8, 3) := by decide +kernel
theorem dX10_bestGuard_85 : decode cX10_bestGuard 85 = .ok (.iload_n 3, 1) := by decide +kernel
theorem dX10_bestGuard_86 : decode cX10_bestGuard 86 = .ok (.istore_n 1, 1) := by decide +kernel
theorem dX10_bestGuard_87 : decode cX10_bestGuard 87 = .ok (.iload 4, 2) := by decide +kernel
theorem dX10_bestGuard_89 : decode cX10_bestGuard 89 = .ok (.istore_n 2, 1) := by decide +kernel
theorem dX10_bestGuard_90 : decode cX10_bestGuard 90 = .ok (.iinc 3 1, 3) := by decide +kernel
theorem dX10_bestGuard_93 : decode cX10_bestGuard 93 = .ok (.goto (-71), 3) := by decide +kernel
theorem dX10_bestGuard_96 : decode cX10_bestGuard 96 = .ok (.iload_n 1, 1) := by decide +kernel
theorem dX10_bestGuard_97 : decode cX10_bestGuard 97 = .ok (.ireturn, 1) := by decide +kernel
theorem dX10_service_0 : decode cX10_service 0 = .ok (.aload_n 0, 1) := by decide +kernel
theorem dX10_service_1 : decode cX10_service 1 = .ok (.iconst 0, 1) := by decide +kernel
theorem dX10_service_2 : decode cX10_service 2 = .ok (.putfield 35, 3) := by decide +kernel
theorem dX10_service_5 : decode cX10_service 5 = .ok (.iconst 0, 1) := by decide +kernel
theorem dX10_service_6 : decode cX10_service 6 = .ok (.istore_n 1, 1) := by decide +kernel
theorem dX10_service_7 : decode cX10_service 7 = .ok (.bipush 6, 2) := by decide +kernel
theorem dX10_service_9 : decode cX10_service 9 = .ok (.istore_n 2, 1) := by decide +kernel
theorem dX10_service_10 : decode cX10_service 10 = .ok (.iload_n 2, 1) := by decide +kernel
theorem dX10_service_11 : decode cX10_service 11 = .ok (.bipush 10, 2) := by decide +kernel
theorem dX10_service_13 : decode cX10_service 13 = .ok (.if_icmp .gt 17, 3) := by decide +kernel
theorem dX10_service_16 : decode cX10_service 16 = .ok (.iload_n 1, 1) := by decide +kernel
theorem dX10_service_17 : decode cX10_service 17 = .ok (.aload_n 0, 1) := by decide +kernel
theorem dX10_service_18 : decode cX10_service 18 = .ok (.iload_n 2, 1) := by decide +kernel
theorem dX10_service_19 : decode cX10_service 19 = .ok (.invokevirtual 227, 3) := by decide +kernel
theorem dX10_service_22 : decode cX10_service 22 = .ok (.iadd, 1) := by decide +kernel
theorem dX10_service_23 : decode cX10_service 23 = .ok (.istore_n 1, 1) := by decide +kernel
theorem dX10_service_24 : decode cX10_service 24 = .ok (.iinc 2 1, 3) := by decide +kernel
theorem dX10_service_27 : decode cX10_service 27 = .ok (.goto (-17), 3) := by decide +kernel
theorem dX10_service_30 : decode cX10_service 30 = .ok (.iload_n 1, 1) := by decide +kernel
theorem dX10_service_31 : decode cX10_service 31 = .ok (.ifCond .ne 7, 3) := by decide +kernel
theorem dX10_service_34 : decode cX10_service 34 = .ok (.fconst 1, 1) := by decide +kernel
theorem dX10_service_35 : decode cX10_service 35 = .ok (.goto 13, 3) := by decide +kernel
theorem dX10_service_38 : decode cX10_service 38 = .ok (.aload_n 0, 1) := by decide +kernel
theorem dX10_service_39 : decode cX10_service 39 = .ok (.bipush 6, 2) := by decide +kernel
theorem dX10_service_41 : decode cX10_service 41 = .ok (.invokevirtual 227, 3) := by decide +kernel
theorem dX10_service_44 : decode cX10_service 44 = .ok (.i2f, 1) := by decide +kernel
theorem dX10_service_45 : decode cX10_service 45 = .ok (.iload_n 1, 1) := by decide +kernel
theorem dX10_service_46 : decode cX10_service 46 = .ok (.i2f, 1) := by decide +kernel
theorem dX10_service_47 : decode cX10_service 47 = .ok (.fdiv, 1) := by decide +kernel
theorem dX10_service_48 : decode cX10_service 48 = .ok (.freturn, 1) := by decide +kernel
theorem dX10_traffic_0 : decode cX10_traffic 0 = .ok (.aload_n 0, 1) := by decide +kernel
theorem dX10_traffic_1 : decode cX10_traffic 1 = .ok (.iconst 0, 1) := by decide +kernel
theorem dX10_traffic_2 : decode cX10_traffic 2 = .ok (.putfield 35, 3) := by decide +kernel
theorem dX10_traffic_5 : decode cX10_traffic 5 = .ok (.aload_n 0, 1) := by decide +kernel
theorem dX10_traffic_6 : decode cX10_traffic 6 = .ok (.iload_n 1, 1) := by decide +kernel
theorem dX10_traffic_7 : decode cX10_traffic 7 = .ok (.invokevirtual 282, 3) := by decide +kernel
theorem dX10_traffic_10 : decode cX10_traffic 10 = .ok (.ifCond .ne 13, 3) := by decide +kernel
theorem dX10_traffic_13 : decode cX10_traffic 13 = .ok (.aload_n 0, 1) := by decide +kernel
theorem dX10_traffic_14 : decode cX10_traffic 14 = .ok (.getfield 17, 3) := by decide +kernel
theorem dX10_traffic_17 : decode cX10_traffic 17 = .ok (.bipush 6, 2) := by decide +kernel
theorem dX10_traffic_19 : decode cX10_traffic 19 = .ok (.iaload, 1) := by decide +kernel
theorem dX10_traffic_20 : decode cX10_traffic 20 = .ok (.ifCond .ne 5, 3) := by decide +kernel
theorem dX10_traffic_23 : decode cX10_traffic 23 = .ok (.fconst 0, 1) := by decide +kernel
theorem dX10_traffic_24 : decode cX10_traffic 24 = .ok (.freturn, 1) := by decide +kernel
theorem dX10_traffic_25 : decode cX10_traffic 25 = .ok (.aload_n 0, 1) := by decide +kernel
theorem dX10_traffic_26 : decode cX10_traffic 26 = .ok (.iload_n 1, 1) := by decide +kernel
theorem dX10_traffic_27 : decode cX10_traffic 27 = .ok (.bipush 6, 2) := by decide +kernel
theorem dX10_traffic_29 : decode cX10_traffic 29 = .ok (.invokevirtual 210, 3) := by decide +kernel
theorem dX10_traffic_32 : decode cX10_traffic 32 = .ok (.i2f, 1) := by decide +kernel
theorem dX10_traffic_33 : decode cX10_traffic 33 = .ok (.aload_n 0, 1) := by decide +kernel
theorem dX10_traffic_34 : decode cX10_traffic 34 = .ok (.iload_n 1, 1) := by decide +kernel
theorem dX10_traffic_35 : decode cX10_traffic 35 = .ok (.iconst 0, 1) := by decide +kernel
theorem dX10_traffic_36 : decode cX10_traffic 36 = .ok (.invokevirtual 210, 3) := by decide +kernel
theorem dX10_traffic_39 : decode cX10_traffic 39 = .ok (.aload_n 0, 1) := by decide +kernel
theorem dX10_traffic_40 : decode cX10_traffic 40 = .ok (.getfield 17, 3) := by decide +kernel
theorem dX10_traffic_43 : decode cX10_traffic 43 = .ok (.bipush 6, 2) := by decide +kernel
theorem dX10_traffic_45 : decode cX10_traffic 45 = .ok (.iaload, 1) := by decide +kernel
theorem dX10_traffic_46 : decode cX10_traffic 46 = .ok (.imul, 1) := by decide +kernel
theorem dX10_traffic_47 : decode cX10_traffic 47 = .ok (.i2f, 1) := by decide +kernel
theorem dX10_traffic_48 : decode cX10_traffic 48 = .ok (.fdiv, 1) := by decide +kernel
theorem dX10_traffic_49 : decode cX10_traffic 49 = .ok (.freturn, 1) := by decide +kernel
theorem dX10_remember_0 : decode cX10_remember 0 = .ok (.aload_n 0, 1) := by decide +kernel
theorem dX10_remember_1 : decode cX10_remember 1 = .ok (.getfield 297, 3) := by decide +kernel
theorem dX10_remember_4 : decode cX10_remember 4 = .ok (.bipush 8, 2) := by decide +kernel
theorem dX10_remember_6 : decode cX10_remember 6 = .ok (.if_icmp .ne 44, 3) := by decide +kernel
theorem dX10_remember_9 : decode cX10_remember 9 = .ok (.iconst 1, 1) := by decide +kernel
theorem dX10_remember_10 : decode cX10_remember 10 = .ok (.istore_n 1, 1) := by decide +kernel
theorem dX10_remember_11 : decode cX10_remember 11 = .ok (.iload_n 1, 1) := by decide +kernel
theorem dX10_remember_12 : decode cX10_remember 12 = .ok (.bipush 8, 2) := by decide +kernel
theorem dX10_remember_14 : decode cX10_remember 14 = .ok (.if_icmp .ge 26, 3) := by decide +kernel
theorem dX10_remember_17 : decode cX10_remember 17 = .ok (.aload_n 0, 1) := by decide +kernel
theorem dX10_remember_18 : decode cX10_remember 18 = .ok (.getfield 28, 3) := by decide +kernel
theorem dX10_remember_21 : decode cX10_remember 21 = .ok (.iload_n 1, 1) := by decide +kernel
theorem dX10_remember_22 : decode cX10_remember 22 = .ok (.aaload, 1) := by decide +kernel
theorem dX10_remember_23 : decode cX10_remember 23 = .ok (.aload_n 0, 1) := by decide +kernel
theorem dX10_remember_24 : decode cX10_remember 24 = .ok (.getfield 28, 3) := by decide +kernel
theorem dX10_remember_27 : decode cX10_remember 27 = .ok (.iload_n 1, 1) := by decide +kernel
theorem dX10_remember_28 : decode cX10_remember 28 = .ok (.iconst 1, 1) := by decide +kernel
theorem dX10_remember_29 : decode cX10_remember 29 = .ok (.isub, 1) := by decide +kernel
theorem dX10_remember_30 : decode cX10_remember 30 = .ok (.aaload, 1) := by decide +kernel
theorem dX10_remember_31 : decode cX10_remember 31 = .ok (.invokestatic 188, 3) := by decide +kernel
theorem dX10_remember_34 : decode cX10_remember 34 = .ok (.iinc 1 1, 3) := by decide +kernel
theorem dX10_remember_37 : decode cX10_remember 37 = .ok (.goto (-26), 3) := by decide +kernel
theorem dX10_remember_40 : decode cX10_remember 40 = .ok (.aload_n 0, 1) := by decide +kernel
theorem dX10_remember_41 : decode cX10_remember 41 = .ok (.dup, 1) := by decide +kernel
theorem dX10_remember_42 : decode cX10_remember 42 = .ok (.getfield 297, 3) := by decide +kernel
theorem dX10_remember_45 : decode cX10_remember 45 = .ok (.iconst 1, 1) := by decide +kernel
theorem dX10_remember_46 : decode cX10_remember 46 = .ok (.isub, 1) := by decide +kernel
theorem dX10_remember_47 : decode cX10_remember 47 = .ok (.putfield 297, 3) := by decide +kernel
theorem dX10_remember_50 : decode cX10_remember 50 = .ok (.aload_n 0, 1) := by decide +kernel
theorem dX10_remember_51 : decode cX10_remember 51 = .ok (.getfield 17, 3) := by decide +kernel
theorem dX10_remember_54 : decode cX10_remember 54 = .ok (.aload_n 0, 1) := by decide +kernel
theorem dX10_remember_55 : decode cX10_remember 55 = .ok (.getfield 28, 3) := by decide +kernel
theorem dX10_remember_58 : decode cX10_remember 58 = .ok (.aload_n 0, 1) := by decide +kernel
theorem dX10_remember_59 : decode cX10_remember 59 = .ok (.getfield 297, 3) := by decide +kernel
theorem dX10_remember_62 : decode cX10_remember 62 = .ok (.aaload, 1) := by decide +kernel
theorem dX10_remember_63 : decode cX10_remember 63 = .ok (.invokestatic 188, 3) := by decide +kernel
theorem dX10_remember_66 : decode cX10_remember 66 = .ok (.aload_n 0, 1) := by decide +kernel
theorem dX10_remember_67 : decode cX10_remember 67 = .ok (.dup, 1) := by decide +kernel
theorem dX10_remember_68 : decode cX10_remember 68 = .ok (.getfield 297, 3) := by decide +kernel
theorem dX10_remember_71 : decode cX10_remember 71 = .ok (.iconst 1, 1) := by decide +kernel
theorem dX10_remember_72 : decode cX10_remember 72 = .ok (.iadd, 1) := by decide +kernel
theorem dX10_remember_73 : decode cX10_remember 73 = .ok (.putfield 297, 3) := by decide +kernel
theorem dX10_remember_76 : decode cX10_remember 76 = .ok (.return_, 1) := by decide +kernel
theorem dX10_dial_0 : decode cX10_dial 0 = .ok (.aload_n 0, 1) := by decide +kernel
theorem dX10_dial_1 : decode cX10_dial 1 = .ok (.iconst 0, 1) := by decide +kernel
theorem dX10_dial_2 : decode cX10_dial 2 = .ok (.putfield 35, 3) := by decide +kernel
theorem dX10_dial_5 : decode cX10_dial 5 = .ok (.aload_n 0, 1) := by decide +kernel
theorem dX10_dial_6 : decode cX10_dial 6 = .ok (.iload_n 1, 1) := by decide +kernel
theorem dX10_dial_7 : decode cX10_dial 7 = .ok (.iconst 0, 1) := by decide +kernel
theorem dX10_dial_8 : decode cX10_dial 8 = .ok (.aload_n 0, 1) := by decide +kernel
theorem dX10_dial_9 : decode cX10_dial 9 = .ok (.getfield 17, 3) := by decide +kernel
theorem dX10_dial_12 : decode cX10_dial 12 = .ok (.iconst 2, 1) := by decide +kernel
theorem dX10_dial_13 : decode cX10_dial 13 = .ok (.iaload, 1) := by decide +kernel
theorem dX10_dial_14 : decode cX10_dial 14 = .ok (.iconst 1, 1) := by decide +kernel
theorem dX10_dial_15 : decode cX10_dial 15 = .ok (.isub, 1) := by decide +kernel
theorem dX10_dial_16 : decode cX10_dial 16 = .ok (.invokestatic 57, 3) := by decide +kernel
theorem dX10_dial_19 : decode cX10_dial 19 = .ok (.ifCond .ne 7, 3) := by decide +kernel
theorem dX10_dial_22 : decode cX10_dial 22 = .ok (.iconst 1, 1) := by decide +kernel
theorem dX10_dial_23 : decode cX10_dial 23 = .ok (.goto 4, 3) := by decide +kernel
theorem dX10_dial_26 : decode cX10_dial 26 = .ok (.iconst 0, 1) := by decide +kernel
theorem dX10_dial_27 : decode cX10_dial 27 = .ok (.iconst 1, 1) := by decide +kernel
theorem dX10_dial_28 : decode cX10_dial 28 = .ok (.invokevirtual 176, 3) := by decide +kernel
theorem dX10_dial_31 : decode cX10_dial 31 = .ok (.ifCond .ne 68, 3) := by decide +kernel
theorem dX10_dial_34 : decode cX10_dial 34 = .ok (.aload_n 0, 1) := by decide +kernel
theorem dX10_dial_35 : decode cX10_dial 35 = .ok (.iload_n 2, 1) := by decide +kernel
theorem dX10_dial_36 : decode cX10_dial 36 = .ok (.iconst 1, 1) := by decide +kernel
theorem dX10_dial_37 : decode cX10_dial 37 = .ok (.bipush 6, 2) := by decide +kernel
theorem dX10_dial_39 : decode cX10_dial 39 = .ok (.invokestatic 57, 3) := by decide +kernel
theorem dX10_dial_42 : decode cX10_dial 42 = .ok (.ifCond .eq 21, 3) := by decide +kernel
theorem dX10_dial_45 : decode cX10_dial 45 = .ok (.iload_n 2, 1) := by decide +kernel
theorem dX10_dial_46 : decode cX10_dial 46 = .ok (.aload_n 0, 1) := by decide +kernel
theorem dX10_dial_47 : decode cX10_dial 47 = .ok (.getfield 38, 3) := by decide +kernel
theorem dX10_dial_50 : decode cX10_dial 50 = .ok (.if_icmp .gt 13, 3) := by decide +kernel
theorem dX10_dial_53 : decode cX10_dial 53 = .ok (.iload_n 3, 1) := by decide +kernel
theorem dX10_dial_54 : decode cX10_dial 54 = .ok (.iconst 1, 1) := by decide +kernel
theorem dX10_dial_55 : decode cX10_dial 55 = .ok (.bipush 99, 2) := by decide +kernel
theorem dX10_dial_57 : decode cX10_dial 57 = .ok (.invokestatic 57, 3) := by decide +kernel
theorem dX10_dial_60 : decode cX10_dial 60 = .ok (.ifCond .ne 7, 3) := by decide +kernel
theorem dX10_dial_63 : decode cX10_dial 63 = .ok (.iconst 1, 1) := by decide +kernel
theorem dX10_dial_64 : decode cX10_dial 64 = .ok (.goto 4, 3) := by decide +kernel
theorem dX10_dial_67 : decode cX10_dial 67 = .ok (.iconst 0, 1) := by decide +kernel
theorem dX10_dial_68 : decode cX10_dial 68 = .ok (.iconst 2, 1) := by decide +kernel
theorem dX10_dial_69 : decode cX10_dial 69 = .ok (.invokevirtual 176, 3) := by decide +kernel
theorem dX10_dial_72 : decode cX10_dial 72 = .ok (.ifCond .ne 27, 3) := by decide +kernel
theorem dX10_dial_75 : decode cX10_dial 75 = .ok (.aload_n 0, 1) := by decide +kernel
theorem dX10_dial_76 : decode cX10_dial 76 = .ok (.aload_n 0, 1) := by decide +kernel
theorem dX10_dial_77 : decode cX10_dial 77 = .ok (.getfield 17, 3) := by decide +kernel
theorem dX10_dial_80 : decode cX10_dial 80 = .ok (.iconst 5, 1) := by decide +kernel
theorem dX10_dial_81 : decode cX10_dial 81 = .ok (.iaload, 1) := by decide +kernel
theorem dX10_dial_82 : decode cX10_dial 82 = .ok (.bipush 40, 2) := by decide +kernel
theorem dX10_dial_84 : decode cX10_dial 84 = .ok (.if_icmp .ne 7, 3) := by decide +kernel
theorem dX10_dial_87 : decode cX10_dial 87 = .ok (.iconst 1, 1) := by decide +kernel
theorem dX10_dial_88 : decode cX10_dial 88 = .ok (.goto 4, 3) := by decide +kernel
theorem dX10_dial_91 : decode cX10_dial 91 = .ok (.iconst 0, 1) := by decide +kernel
theorem dX10_dial_92 : decode cX10_dial 92 = .ok (.iconst 3, 1) := by decide +kernel
theorem dX10_dial_93 : decode cX10_dial 93 = .ok (.invokevirtual 176, 3) := by decide +kernel
theorem dX10_dial_96 : decode cX10_dial 96 = .ok (.ifCond .eq 5, 3) := by decide +kernel
theorem dX10_dial_99 : decode cX10_dial 99 = .ok (.iconst 0, 1) := by decide +kernel
theorem dX10_dial_100 : decode cX10_dial 100 = .ok (.ireturn, 1) := by decide +kernel
theorem dX10_dial_101 : decode cX10_dial 101 = .ok (.aload_n 0, 1) := by decide +kernel
theorem dX10_dial_102 : decode cX10_dial 102 = .ok (.iconst 0, 1) := by decide +kernel
theorem dX10_dial_103 : decode cX10_dial 103 = .ok (.putfield 38, 3) := by decide +kernel
theorem dX10_dial_106 : decode cX10_dial 106 = .ok (.aload_n 0, 1) := by decide +kernel
theorem dX10_dial_107 : decode cX10_dial 107 = .ok (.iload_n 2, 1) := by decide +kernel
theorem dX10_dial_108 : decode cX10_dial 108 = .ok (.invokevirtual 291, 3) := by decide +kernel
theorem dX10_dial_111 : decode cX10_dial 111 = .ok (.istore 4, 2) := by decide +kernel
theorem dX10_dial_113 : decode cX10_dial 113 = .ok (.iload 4, 2) := by decide +kernel
theorem dX10_dial_115 : decode cX10_dial 115 = .ok (.iconst (-1), 1) := by decide +kernel
theorem dX10_dial_116 : decode cX10_dial 116 = .ok (.if_icmp .ne 5, 3) := by decide +kernel
theorem dX10_dial_119 : decode cX10_dial 119 = .ok (.iconst (-1), 1) := by decide +kernel
theorem dX10_dial_120 : decode cX10_dial 120 = .ok (.ireturn, 1) := by decide +kernel
theorem dX10_dial_121 : decode cX10_dial 121 = .ok (.aload_n 0, 1) := by decide +kernel
theorem dX10_dial_122 : decode cX10_dial 122 = .ok (.invokevirtual 185, 3) := by decide +kernel
theorem dX10_dial_125 : decode cX10_dial 125 = .ok (.aload_n 0, 1) := by decide +kernel
theorem dX10_dial_126 : decode cX10_dial 126 = .ok (.getfield 17, 3) := by decide +kernel
theorem dX10_dial_129 : decode cX10_dial 129 = .ok (.iload_n 1, 1) := by decide +kernel
theorem dX10_dial_130 : decode cX10_dial 130 = .ok (.iload_n 2, 1) := by decide +kernel
theorem dX10_dial_131 : decode cX10_dial 131 = .ok (.iload 4, 2) := by decide +kernel
theorem dX10_dial_133 : decode cX10_dial 133 = .ok (.iload_n 3, 1) := by decide +kernel
theorem dX10_dial_134 : decode cX10_dial 134 = .ok (.aload_n 0, 1) := by decide +kernel
theorem dX10_dial_135 : decode cX10_dial 135 = .ok (.getfield 17, 3) := by decide +kernel
theorem dX10_dial_138 : decode cX10_dial 138 = .ok (.bipush 6, 2) := by decide +kernel
theorem dX10_dial_140 : decode cX10_dial 140 = .ok (.iaload, 1) := by decide +kernel
theorem dX10_dial_141 : decode cX10_dial 141 = .ok (.iconst 1, 1) := by decide +kernel
theorem dX10_dial_142 : decode cX10_dial 142 = .ok (.iadd, 1) := by decide +kernel
theorem dX10_dial_143 : decode cX10_dial 143 = .ok (.invokestatic 132, 3) := by decide +kernel
theorem dX10_dial_146 : decode cX10_dial 146 = .ok (.aload_n 0, 1) := by decide +kernel
theorem dX10_dial_147 : decode cX10_dial 147 = .ok (.getfield 17, 3) := by decide +kernel
theorem dX10_dial_150 : decode cX10_dial 150 = .ok (.iconst 5, 1) := by decide +kernel
theorem dX10_dial_151 : decode cX10_dial 151 = .ok (.iaload, 1) := by decide +kernel
theorem dX10_dial_152 : decode cX10_dial 152 = .ok (.iconst 1, 1) := by decide +kernel
theorem dX10_dial_153 : decode cX10_dial 153 = .ok (.isub, 1) := by decide +kernel
theorem dX10_dial_154 : decode cX10_dial 154 = .ok (.ireturn, 1) := by decide +kernel
theorem dX10_hang_0 : decode cX10_hang 0 = .ok (.aload_n 0, 1) := by decide +kernel
theorem dX10_hang_1 : decode cX10_hang 1 = .ok (.iconst 0, 1) := by decide +kernel
theorem dX10_hang_2 : decode cX10_hang 2 = .ok (.putfield 35, 3) := by decide +kernel
theorem dX10_hang_5 : decode cX10_hang 5 = .ok (.aload_n 0, 1) := by decide +kernel
theorem dX10_hang_6 : decode cX10_hang 6 = .ok (.iload_n 1, 1) := by decide +kernel
theorem dX10_hang_7 : decode cX10_hang 7 = .ok (.invokevirtual 288, 3) := by decide +kernel
theorem dX10_hang_10 : decode cX10_hang 10 = .ok (.ifCond .ne 27, 3) := by decide +kernel
theorem dX10_hang_13 : decode cX10_hang 13 = .ok (.aload_n 0, 1) := by decide +kernel
theorem dX10_hang_14 : decode cX10_hang 14 = .ok (.aload_n 0, 1) := by decide +kernel
theorem dX10_hang_15 : decode cX10_hang 15 = .ok (.iload_n 1, 1) := by decide +kernel
theorem dX10_hang_16 : decode cX10_hang 16 = .ok (.iconst 4, 1) := by decide +kernel
theorem dX10_hang_17 : decode cX10_hang 17 = .ok (.invokevirtual 192, 3) := by decide +kernel
theorem dX10_hang_20 : decode cX10_hang 20 = .ok (.bipush 6, 2) := by decide +kernel
theorem dX10_hang_22 : decode cX10_hang 22 = .ok (.if_icmp .lt 7, 3) := by decide +kernel
theorem dX10_hang_25 : decode cX10_hang 25 = .ok (.iconst 1, 1) := by decide +kernel
theorem dX10_hang_26 : decode cX10_hang 26 = .ok (.goto 4, 3) := by decide +kernel
theorem dX10_hang_29 : decode cX10_hang 29 = .ok (.iconst 0, 1) := by decide +kernel
theorem dX10_hang_30 : decode cX10_hang 30 = .ok (.iconst 2, 1) := by decide +kernel
theorem dX10_hang_31 : decode cX10_hang 31 = .ok (.invokevirtual 176, 3) := by decide +kernel
theorem dX10_hang_34 : decode cX10_hang 34 = .ok (.ifCond .eq 5, 3) := by decide +kernel
theorem dX10_hang_37 : decode cX10_hang 37 = .ok (.iconst 0, 1) := by decide +kernel
theorem dX10_hang_38 : decode cX10_hang 38 = .ok (.ireturn, 1) := by decide +kernel
theorem dX10_hang_39 : decode cX10_hang 39 = .ok (.aload_n 0, 1) := by decide +kernel
theorem dX10_hang_40 : decode cX10_hang 40 = .ok (.invokevirtual 185, 3) := by decide +kernel
theorem dX10_hang_43 : decode cX10_hang 43 = .ok (.aload_n 0, 1) := by decide +kernel
theorem dX10_hang_44 : decode cX10_hang 44 = .ok (.iload_n 1, 1) := by decide +kernel
theorem dX10_hang_45 : decode cX10_hang 45 = .ok (.iconst 4, 1) := by decide +kernel
theorem dX10_hang_46 : decode cX10_hang 46 = .ok (.invokevirtual 192, 3) := by decide +kernel
theorem dX10_hang_49 : decode cX10_hang 49 = .ok (.istore_n 2, 1) := by decide +kernel
theorem dX10_hang_50 : decode cX10_hang 50 = .ok (.aload_n 0, 1) := by decide +kernel
theorem dX10_hang_51 : decode cX10_hang 51 = .ok (.iload_n 1, 1) := by decide +kernel
theorem dX10_hang_52 : decode cX10_hang 52 = .ok (.invokevirtual 245, 3) := by decide +kernel
theorem dX10_hang_55 : decode cX10_hang 55 = .ok (.iconst 0, 1) := by decide +kernel
theorem dX10_hang_56 : decode cX10_hang 56 = .ok (.istore_n 3, 1) := by decide +kernel
theorem dX10_hang_57 : decode cX10_hang 57 = .ok (.iload_n 3, 1) := by decide +kernel
theorem dX10_hang_58 : decode cX10_hang 58 = .ok (.aload_n 0, 1) := by decide +kernel
theorem dX10_hang_59 : decode cX10_hang 59 = .ok (.getfield 17, 3) := by decide +kernel
theorem dX10_hang_62 : decode cX10_hang 62 = .ok (.iconst 1, 1) := by decide +kernel
theorem dX10_hang_63 : decode cX10_hang 63 = .ok (.iaload, 1) := by decide +kernel
theorem dX10_hang_64 : decode cX10_hang 64 = .ok (.if_icmp .ge 60, 3) := by decide +kernel
theorem dX10_hang_67 : decode cX10_hang 67 = .ok (.aload_n 0, 1) := by decide +kernel
theorem dX10_hang_68 : decode cX10_hang 68 = .ok (.getfield 17, 3) := by decide +kernel
theorem dX10_hang_71 : decode cX10_hang 71 = .ok (.sipush 163, 3) := by decide +kernel
theorem dX10_hang_74 : decode cX10_hang 74 = .ok (.iconst 2, 1) := by decide +kernel
theorem dX10_hang_75 : decode cX10_hang 75 = .ok (.iload_n 3, 1) := by decide +kernel
theorem dX10_hang_76 : decode cX10_hang 76 = .ok (.imul, 1) := by decide +kernel
theorem dX10_hang_77 : decode cX10_hang 77 = .ok (.iadd, 1) := by decide +kernel
theorem dX10_hang_78 : decode cX10_hang 78 = .ok (.iconst 0, 1) := by decide +kernel
theorem dX10_hang_79 : decode cX10_hang 79 = .ok (.iadd, 1) := by decide +kernel
theorem dX10_hang_80 : decode cX10_hang 80 = .ok (.iaload, 1) := by decide +kernel
theorem dX10_hang_81 : decode cX10_hang 81 = .ok (.iload_n 1, 1) := by decide +kernel
theorem dX10_hang_82 : decode cX10_hang 82 = .ok (.if_icmp .eq 6, 3) := by decide +kernel
theorem dX10_hang_85 : decode cX10_hang 85 = .ok (.goto 33, 3) := by decide +kernel
theorem dX10_hang_88 : decode cX10_hang 88 = .ok (.aload_n 0, 1) := by decide +kernel
theorem dX10_hang_89 : decode cX10_hang 89 = .ok (.getfield 17, 3) := by decide +kernel
theorem dX10_hang_92 : decode cX10_hang 92 = .ok (.sipush 163, 3) := by decide +kernel
theorem dX10_hang_95 : decode cX10_hang 95 = .ok (.iconst 2, 1) := by decide +kernel
theorem dX10_hang_96 : decode cX10_hang 96 = .ok (.iload_n 3, 1) := by decide +kernel
theorem dX10_hang_97 : decode cX10_hang 97 = .ok (.imul, 1) := by decide +kernel
theorem dX10_hang_98 : decode cX10_hang 98 = .ok (.iadd, 1) := by decide +kernel
theorem dX10_hang_99 : decode cX10_hang 99 = .ok (.iconst 0, 1) := by decide +kernel
theorem dX10_hang_100 : decode cX10_hang 100 = .ok (.iadd, 1) := by decide +kernel
theorem dX10_hang_101 : decode cX10_hang 101 = .ok (.iconst (-1), 1) := by decide +kernel
theorem dX10_hang_102 : decode cX10_hang 102 = .ok (.iastore, 1) := by decide +kernel
theorem dX10_hang_103 : decode cX10_hang 103 = .ok (.aload_n 0, 1) := by decide +kernel
theorem dX10_hang_104 : decode cX10_hang 104 = .ok (.getfield 17, 3) := by decide +kernel
theorem dX10_hang_107 : decode cX10_hang 107 = .ok (.sipush 163, 3) := by decide +kernel
theorem dX10_hang_110 : decode cX10_hang 110 = .ok (.iconst 2, 1) := by decide +kernel
theorem dX10_hang_111 : decode cX10_hang 111 = .ok (.iload_n 3, 1) := by decide +kernel
theorem dX10_hang_112 : decode cX10_hang 112 = .ok (.imul, 1) := by decide +kernel
theorem dX10_hang_113 : decode cX10_hang 113 = .ok (.iadd, 1) := by decide +kernel
theorem dX10_hang_114 : decode cX10_hang 114 = .ok (.iconst 1, 1) := by decide +kernel
theorem dX10_hang_115 : decode cX10_hang 115 = .ok (.iadd, 1) := by decide +kernel
theorem dX10_hang_116 : decode cX10_hang 116 = .ok (.iconst 0, 1) := by decide +kernel
theorem dX10_hang_117 : decode cX10_hang 117 = .ok (.iastore, 1) := by decide +kernel
theorem dX10_hang_118 : decode cX10_hang 118 = .ok (.iinc 3 1, 3) := by decide +kernel
theorem dX10_hang_121 : decode cX10_hang 121 = .ok (.goto (-64), 3) := by decide +kernel
theorem dX10_hang_124 : decode cX10_hang 124 = .ok (.aload_n 0, 1) := by decide +kernel
theorem dX10_hang_125 : decode cX10_hang 125 = .ok (.iload_n 1, 1) := by decide +kernel
theorem dX10_hang_126 : decode cX10_hang 126 = .ok (.bipush 11, 2) := by decide +kernel
theorem dX10_hang_128 : decode cX10_hang 128 = .ok (.invokevirtual 230, 3) := by decide +kernel
theorem dX10_hang_131 : decode cX10_hang 131 = .ok (.iload_n 2, 1) := by decide +kernel
theorem dX10_hang_132 : decode cX10_hang 132 = .ok (.ireturn, 1) := by decide +kernel
theorem dX10_rule_0 : decode cX10_rule 0 = .ok (.aload_n 0, 1) := by decide +kernel
theorem dX10_rule_1 : decode cX10_rule 1 = .ok (.iconst 0, 1) := by decide +kernel
theorem dX10_rule_2 : decode cX10_rule 2 = .ok (.putfield 35, 3) := by decide +kernel
theorem dX10_rule_5 : decode cX10_rule 5 = .ok (.aload_n 0, 1) := by decide +kernel
theorem dX10_rule_6 : decode cX10_rule 6 = .ok (.iload_n 1, 1) := by decide +kernel
theorem dX10_rule_7 : decode cX10_rule 7 = .ok (.bipush 19, 2) := by decide +kernel
theorem dX10_rule_9 : decode cX10_rule 9 = .ok (.bipush 21, 2) := by decide +kernel
theorem dX10_rule_11 : decode cX10_rule 11 = .ok (.invokestatic 57, 3) := by decide +kernel
theorem dX10_rule_14 : decode cX10_rule 14 = .ok (.ifCond .eq 35, 3) := by decide +kernel
theorem dX10_rule_17 : decode cX10_rule 17 = .ok (.iload_n 2, 1) := by decide +kernel
theorem dX10_rule_18 : decode cX10_rule 18 = .ok (.iconst 1, 1) := by decide +kernel
theorem dX10_rule_19 : decode cX10_rule 19 = .ok (.iload_n 1, 1) := by decide +kernel
theorem dX10_rule_20 : decode cX10_rule 20 = .ok (.bipush 19, 2) := by decide +kernel
theorem dX10_rule_22 : decode cX10_rule 22 = .ok (.if_icmp .ne 8, 3) := by decide +kernel
theorem dX10_rule_25 : decode cX10_rule 25 = .ok (.bipush 40, 2) := by decide +kernel
theorem dX10_rule_27 : decode cX10_rule 27 = .ok (.goto 16, 3) := by decide +kernel
theorem dX10_rule_30 : decode cX10_rule 30 = .ok (.iload_n 1, 1) := by decide +kernel
theorem dX10_rule_31 : decode cX10_rule 31 = .ok (.bipush 20, 2) := by decide +kernel
theorem dX10_rule_33 : decode cX10_rule 33 = .ok (.if_icmp .ne 8, 3) := by decide +kernel
theorem dX10_rule_36 : decode cX10_rule 36 = .ok (.bipush 20, 2) := by decide +kernel
theorem dX10_rule_38 : decode cX10_rule 38 = .ok (.goto 5, 3) := by decide +kernel
theorem dX10_rule_41 : decode cX10_rule 41 = .ok (.bipush 9, 2) := by decide +kernel
theorem dX10_rule_43 : decode cX10_rule 43 = .ok (.invokestatic 57, 3) := by decide +kernel
theorem dX10_rule_46 : decode cX10_rule 46 = .ok (.ifCond .ne 7, 3) := by decide +kernel
theorem dX10_rule_49 : decode cX10_rule 49 = .ok (.iconst 1, 1) := by decide +kernel
theorem dX10_rule_50 : decode cX10_rule 50 = .ok (.goto 4, 3) := by decide +kernel
theorem dX10_rule_53 : decode cX10_rule 53 = .ok (.iconst 0, 1) := by decide +kernel
theorem dX10_rule_54 : decode cX10_rule 54 = .ok (.iconst 1, 1) := by decide +kernel
theorem dX10_rule_55 : decode cX10_rule 55 = .ok (.invokevirtual 176, 3) := by decide +kernel
theorem dX10_rule_58 : decode cX10_rule 58 = .ok (.ifCond .eq 5, 3) := by decide +kernel
theorem dX10_rule_61 : decode cX10_rule 61 = .ok (.iconst 0, 1) := by decide +kernel
theorem dX10_rule_62 : decode cX10_rule 62 = .ok (.ireturn, 1) := by decide +kernel
theorem dX10_rule_63 : decode cX10_rule 63 = .ok (.aload_n 0, 1) := by decide +kernel
theorem dX10_rule_64 : decode cX10_rule 64 = .ok (.invokevirtual 185, 3) := by decide +kernel
theorem dX10_rule_67 : decode cX10_rule 67 = .ok (.aload_n 0, 1) := by decide +kernel
theorem dX10_rule_68 : decode cX10_rule 68 = .ok (.getfield 17, 3) := by decide +kernel
theorem dX10_rule_71 : decode cX10_rule 71 = .ok (.iload_n 1, 1) := by decide +kernel
theorem dX10_rule_72 : decode cX10_rule 72 = .ok (.iaload, 1) := by decide +kernel
theorem dX10_rule_73 : decode cX10_rule 73 = .ok (.istore_n 3, 1) := by decide +kernel
theorem dX10_rule_74 : decode cX10_rule 74 = .ok (.aload_n 0, 1) := by decide +kernel
theorem dX10_rule_75 : decode cX10_rule 75 = .ok (.getfield 17, 3) := by decide +kernel
theorem dX10_rule_78 : decode cX10_rule 78 = .ok (.iload_n 1, 1) := by decide +kernel
theorem dX10_rule_79 : decode cX10_rule 79 = .ok (.iload_n 2, 1) := by decide +kernel
theorem dX10_rule_80 : decode cX10_rule 80 = .ok (.iastore, 1) := by decide +kernel
theorem dX10_rule_81 : decode cX10_rule 81 = .ok (.iload_n 3, 1) := by decide +kernel
theorem dX10_rule_82 : decode cX10_rule 82 = .ok (.ireturn, 1) := by decide +kernel
theorem dX10_pass_0 : decode cX10_pass 0 = .ok (.aload_n 0, 1) := by decide +kernel
theorem dX10_pass_1 : decode cX10_pass 1 = .ok (.iconst 0, 1) := by decide +kernel
theorem dX10_pass_2 : decode cX10_pass 2 = .ok (.putfield 35, 3) := by decide +kernel
theorem dX10_pass_5 : decode cX10_pass 5 = .ok (.aload_n 0, 1) := by decide +kernel
theorem dX10_pass_6 : decode cX10_pass 6 = .ok (.iload_n 1, 1) := by decide +kernel
theorem dX10_pass_7 : decode cX10_pass 7 = .ok (.iconst 1, 1) := by decide +kernel
theorem dX10_pass_8 : decode cX10_pass 8 = .ok (.sipush 300, 3) := by decide +kernel
theorem dX10_pass_11 : decode cX10_pass 11 = .ok (.invokestatic 57, 3) := by decide +kernel
theorem dX10_pass_14 : decode cX10_pass 14 = .ok (.ifCond .ne 7, 3) := by decide +kernel
theorem dX10_pass_17 : decode cX10_pass 17 = .ok (.iconst 1, 1) := by decide +kernel
theorem dX10_pass_18 : decode cX10_pass 18 = .ok (.goto 4, 3) := by decide +kernel
theorem dX10_pass_21 : decode cX10_pass 21 = .ok (.iconst 0, 1) := by decide +kernel
theorem dX10_pass_22 : decode cX10_pass 22 = .ok (.iconst 1, 1) := by decide +kernel
theorem dX10_pass_23 : decode cX10_pass 23 = .ok (.invokevirtual 176, 3) := by decide +kernel
theorem dX10_pass_26 : decode cX10_pass 26 = .ok (.ifCond .eq 5, 3) := by decide +kernel
theorem dX10_pass_29 : decode cX10_pass 29 = .ok (.iconst 0, 1) := by decide +kernel
theorem dX10_pass_30 : decode cX10_pass 30 = .ok (.ireturn, 1) := by decide +kernel
theorem dX10_pass_31 : decode cX10_pass 31 = .ok (.aload_n 0, 1) := by decide +kernel
theorem dX10_pass_32 : decode cX10_pass 32 = .ok (.invokevirtual 185, 3) := by decide +kernel
theorem dX10_pass_35 : decode cX10_pass 35 = .ok (.aload_n 0, 1) := by decide +kernel
theorem dX10_pass_36 : decode cX10_pass 36 = .ok (.bipush 6, 2) := by decide +kernel
theorem dX10_pass_38 : decode cX10_pass 38 = .ok (.invokevirtual 227, 3) := by decide +kernel
theorem dX10_pass_41 : decode cX10_pass 41 = .ok (.istore_n 2, 1) := by decide +kernel
theorem dX10_pass_42 : decode cX10_pass 42 = .ok (.iconst 0, 1) := by decide +kernel
theorem dX10_pass_43 : decode cX10_pass 43 = .ok (.istore_n 3, 1) := by decide +kernel
theorem dX10_pass_44 : decode cX10_pass 44 = .ok (.iload_n 3, 1) := by decide +kernel
theorem dX10_pass_45 : decode cX10_pass 45 = .ok (.iload_n 1, 1) := by decide +kernel
theorem dX10_pass_46 : decode cX10_pass 46 = .ok (.if_icmp .ge 13, 3) := by decide +kernel
theorem dX10_pass_49 : decode cX10_pass 49 = .ok (.aload_n 0, 1) := by decide +kernel
theorem dX10_pass_50 : decode cX10_pass 50 = .ok (.invokevirtual 294, 3) := by decide +kernel
theorem dX10_pass_53 : decode cX10_pass 53 = .ok (.iinc 3 1, 3) := by decide +kernel
theorem dX10_pass_56 : decode cX10_pass 56 = .ok (.goto (-12), 3) := by decide +kernel
theorem dX10_pass_59 : decode cX10_pass 59 = .ok (.aload_n 0, 1) := by decide +kernel
theorem dX10_pass_60 : decode cX10_pass 60 = .ok (.bipush 6, 2) := by decide +kernel
theorem dX10_pass_62 : decode cX10_pass 62 = .ok (.invokevirtual 227, 3) := by decide +kernel
theorem dX10_pass_65 : decode cX10_pass 65 = .ok (.iload_n 2, 1) := by decide +kernel
theorem dX10_pass_66 : decode cX10_pass 66 = .ok (.isub, 1) := by decide +kernel
theorem dX10_pass_67 : decode cX10_pass 67 = .ok (.ireturn, 1) := by decide +kernel
theorem dX10_undo_0 : decode cX10_undo 0 = .ok (.aload_n 0, 1) := by decide +kernel
theorem dX10_undo_1 : decode cX10_undo 1 = .ok (.iconst 0, 1) := by decide +kernel
theorem dX10_undo_2 : decode cX10_undo 2 = .ok (.putfield 35, 3) := by decide +kernel
theorem dX10_undo_5 : decode cX10_undo 5 = .ok (.aload_n 0, 1) := by decide +kernel
theorem dX10_undo_6 : decode cX10_undo 6 = .ok (.getfield 297, 3) := by decide +kernel
theorem dX10_undo_9 : decode cX10_undo 9 = .ok (.ifCond .ne 5, 3) := by decide +kernel
theorem dX10_undo_12 : decode cX10_undo 12 = .ok (.iconst (-1), 1) := by decide +kernel
theorem dX10_undo_13 : decode cX10_undo 13 = .ok (.ireturn, 1) := by decide +kernel
theorem dX10_undo_14 : decode cX10_undo 14 = .ok (.aload_n 0, 1) := by decide +kernel
theorem dX10_undo_15 : decode cX10_undo 15 = .ok (.dup, 1) := by decide +kernel
theorem dX10_undo_16 : decode cX10_undo 16 = .ok (.getfield 297, 3) := by decide +kernel
theorem dX10_undo_19 : decode cX10_undo 19 = .ok (.iconst 1, 1) := by decide +kernel
theorem dX10_undo_20 : decode cX10_undo 20 = .ok (.isub, 1) := by decide +kernel
theorem dX10_undo_21 : decode cX10_undo 21 = .ok (.putfield 297, 3) := by decide +kernel
theorem dX10_undo_24 : decode cX10_undo 24 = .ok (.aload_n 0, 1) := by decide +kernel
theorem dX10_undo_25 : decode cX10_undo 25 = .ok (.getfield 28, 3) := by decide +kernel
theorem dX10_undo_28 : decode cX10_undo 28 = .ok (.aload_n 0, 1) := by decide +kernel
theorem dX10_undo_29 : decode cX10_undo 29 = .ok (.getfield 297, 3) := by decide +kernel
theorem dX10_undo_32 : decode cX10_undo 32 = .ok (.aaload, 1) := by decide +kernel
theorem dX10_undo_33 : decode cX10_undo 33 = .ok (.aload_n 0, 1) := by decide +kernel
theorem dX10_undo_34 : decode cX10_undo 34 = .ok (.getfield 17, 3) := by decide +kernel
theorem dX10_undo_37 : decode cX10_undo 37 = .ok (.invokestatic 188, 3) := by decide +kernel
theorem dX10_undo_40 : decode cX10_undo 40 = .ok (.aload_n 0, 1) := by decide +kernel
theorem dX10_undo_41 : decode cX10_undo 41 = .ok (.getfield 297, 3) := by decide +kernel
theorem dX10_undo_44 : decode cX10_undo 44 = .ok (.ireturn, 1) := by decide +kernel
theorem dX10_checksum_0 : decode cX10_checksum 0 = .ok (.aload_n 0, 1) := by decide +kernel
theorem dX10_checksum_1 : decode cX10_checksum 1 = .ok (.iconst 0, 1) := by decide +kernel
theorem dX10_checksum_2 : decode cX10_checksum 2 = .ok (.putfield 35, 3) := by decide +kernel
theorem dX10_checksum_5 : decode cX10_checksum 5 = .ok (.lconst 0, 1) := by decide +kernel
theorem dX10_checksum_6 : decode cX10_checksum 6 = .ok (.lstore_n 1, 1) := by decide +kernel
theorem dX10_checksum_7 : decode cX10_checksum 7 = .ok (.iconst 0, 1) := by decide +kernel
theorem dX10_checksum_8 : decode cX10_checksum 8 = .ok (.istore_n 3, 1) := by decide +kernel
theorem dX10_checksum_9 : decode cX10_checksum 9 = .ok (.iload_n 3, 1) := by decide +kernel
theorem dX10_checksum_10 : decode cX10_checksum 10 = .ok (.bipush 25, 2) := by decide +kernel
theorem dX10_checksum_12 : decode cX10_checksum 12 = .ok (.if_icmp .ge 22, 3) := by decide +kernel
theorem dX10_checksum_15 : decode cX10_checksum 15 = .ok (.ldc2_w 300, 3) := by decide +kernel
theorem dX10_checksum_18 : decode cX10_checksum 18 = .ok (.lload_n 1, 1) := by decide +kernel
theorem dX10_checksum_19 : decode cX10_checksum 19 = .ok (.lmul, 1) := by decide +kernel
theorem dX10_checksum_20 : decode cX10_checksum 20 = .ok (.aload_n 0, 1) := by decide +kernel
theorem dX10_checksum_21 : decode cX10_checksum 21 = .ok (.iload_n 3, 1) := by decide +kernel
theorem dX10_checksum_22 : decode cX10_checksum 22 = .ok (.invokevirtual 276, 3) := by decide +kernel
theorem dX10_checksum_25 : decode cX10_checksum 25 = .ok (.i2l, 1) := by decide +kernel
theorem dX10_checksum_26 : decode cX10_checksum 26 = .ok (.ladd, 1) := by decide +kernel
theorem dX10_checksum_27 : decode cX10_checksum 27 = .ok (.lstore_n 1, 1) := by decide +kernel
theorem dX10_checksum_28 : decode cX10_checksum 28 = .ok (.iinc 3 1, 3) := by decide +kernel
theorem dX10_checksum_31 : decode cX10_checksum 31 = .ok (.goto (-22), 3) := by decide +kernel
theorem dX10_checksum_34 : decode cX10_checksum 34 = .ok (.iconst 0, 1) := by decide +kernel
theorem dX10_checksum_35 : decode cX10_checksum 35 = .ok (.istore_n 3, 1) := by decide +kernel
theorem dX10_checksum_36 : decode cX10_checksum 36 = .ok (.iload_n 3, 1) := by decide +kernel
theorem dX10_checksum_37 : decode cX10_checksum 37 = .ok (.aload_n 0, 1) := by decide +kernel
theorem dX10_checksum_38 : decode cX10_checksum 38 = .ok (.getfield 17, 3) := by decide +kernel
theorem dX10_checksum_41 : decode cX10_checksum 41 = .ok (.iconst 2, 1) := by decide +kernel
theorem dX10_checksum_42 : decode cX10_checksum 42 = .ok (.iaload, 1) := by decide +kernel
theorem dX10_checksum_43 : decode cX10_checksum 43 = .ok (.if_icmp .ge 39, 3) := by decide +kernel
theorem dX10_checksum_46 : decode cX10_checksum 46 = .ok (.iconst 0, 1) := by decide +kernel
theorem dX10_checksum_47 : decode cX10_checksum 47 = .ok (.istore 4, 2) := by decide +kernel
theorem dX10_checksum_49 : decode cX10_checksum 49 = .ok (.iload 4, 2) := by decide +kernel
theorem dX10_checksum_51 : decode cX10_checksum 51 = .ok (.iconst 5, 1) := by decide +kernel
theorem dX10_checksum_52 : decode cX10_checksum 52 = .ok (.if_icmp .ge 24, 3) := by decide +kernel
theorem dX10_checksum_55 : decode cX10_checksum 55 = .ok (.ldc2_w 300, 3) := by decide +kernel
theorem dX10_checksum_58 : decode cX10_checksum 58 = .ok (.lload_n 1, 1) := by decide +kernel
theorem dX10_checksum_59 : decode cX10_checksum 59 = .ok (.lmul, 1) := by decide +kernel
theorem dX10_checksum_60 : decode cX10_checksum 60 = .ok (.aload_n 0, 1) := by decide +kernel
theorem dX10_checksum_61 : decode cX10_checksum 61 = .ok (.iload_n 3, 1) := by decide +kernel
theorem dX10_checksum_62 : decode cX10_checksum 62 = .ok (.iload 4, 2) := by decide +kernel
theorem dX10_checksum_64 : decode cX10_checksum 64 = .ok (.invokevirtual 279, 3) := by decide +kernel
theorem dX10_checksum_67 : decode cX10_checksum 67 = .ok (.i2l, 1) := by decide +kernel
theorem dX10_checksum_68 : decode cX10_checksum 68 = .ok (.ladd, 1) := by decide +kernel
theorem dX10_checksum_69 : decode cX10_checksum 69 = .ok (.lstore_n 1, 1) := by decide +kernel
theorem dX10_checksum_70 : decode cX10_checksum 70 = .ok (.iinc 4 1, 3) := by decide +kernel
theorem dX10_checksum_73 : decode cX10_checksum 73 = .ok (.goto (-24), 3) := by decide +kernel
theorem dX10_checksum_76 : decode cX10_checksum 76 = .ok (.iinc 3 1, 3) := by decide +kernel
theorem dX10_checksum_79 : decode cX10_checksum 79 = .ok (.goto (-43), 3) := by decide +kernel
theorem dX10_checksum_82 : decode cX10_checksum 82 = .ok (.iconst 0, 1) := by decide +kernel
theorem dX10_checksum_83 : decode cX10_checksum 83 = .ok (.istore_n 3, 1) := by decide +kernel
theorem dX10_checksum_84 : decode cX10_checksum 84 = .ok (.iload_n 3, 1) := by decide +kernel
theorem dX10_checksum_85 : decode cX10_checksum 85 = .ok (.aload_n 0, 1) := by decide +kernel
theorem dX10_checksum_86 : decode cX10_checksum 86 = .ok (.getfield 17, 3) := by decide +kernel
theorem dX10_checksum_89 : decode cX10_checksum 89 = .ok (.iconst 3, 1) := by decide +kernel
theorem dX10_checksum_90 : decode cX10_checksum 90 = .ok (.iaload, 1) := by decide +kernel
theorem dX10_checksum_91 : decode cX10_checksum 91 = .ok (.if_icmp .ge 40, 3) := by decide +kernel
theorem dX10_checksum_94 : decode cX10_checksum 94 = .ok (.iconst 0, 1) := by decide +kernel
theorem dX10_checksum_95 : decode cX10_checksum 95 = .ok (.istore 4, 2) := by decide +kernel
theorem dX10_checksum_97 : decode cX10_checksum 97 = .ok (.iload 4, 2) := by decide +kernel
theorem dX10_checksum_99 : decode cX10_checksum 99 = .ok (.bipush 7, 2) := by decide +kernel
theorem dX10_checksum_101 : decode cX10_checksum 101 = .ok (.if_icmp .ge 24, 3) := by decide +kernel
theorem dX10_checksum_104 : decode cX10_checksum 104 = .ok (.ldc2_w 300, 3) := by decide +kernel
theorem dX10_checksum_107 : decode cX10_checksum 107 = .ok (.lload_n 1, 1) := by decide +kernel
theorem dX10_checksum_108 : decode cX10_checksum 108 = .ok (.lmul, 1) := by decide +kernel
theorem dX10_checksum_109 : decode cX10_checksum 109 = .ok (.aload_n 0, 1) := by decide +kernel
theorem dX10_checksum_110 : decode cX10_checksum 110 = .ok (.iload_n 3, 1) := by decide +kernel
theorem dX10_checksum_111 : decode cX10_checksum 111 = .ok (.iload 4, 2) := by decide +kernel
theorem dX10_checksum_113 : decode cX10_checksum 113 = .ok (.invokevirtual 285, 3) := by decide +kernel
theorem dX10_checksum_116 : decode cX10_checksum 116 = .ok (.i2l, 1) := by decide +kernel
theorem dX10_checksum_117 : decode cX10_checksum 117 = .ok (.ladd, 1) := by decide +kernel
theorem dX10_checksum_118 : decode cX10_checksum 118 = .ok (.lstore_n 1, 1) := by decide +kernel
theorem dX10_checksum_119 : decode cX10_checksum 119 = .ok (.iinc 4 1, 3) := by decide +kernel
theorem dX10_checksum_122 : decode cX10_checksum 122 = .ok (.goto (-25), 3) := by decide +kernel
theorem dX10_checksum_125 : decode cX10_checksum 125 = .ok (.iinc 3 1, 3) := by decide +kernel
theorem dX10_checksum_128 : decode cX10_checksum 128 = .ok (.goto (-44), 3) := by decide +kernel
theorem dX10_checksum_131 : decode cX10_checksum 131 = .ok (.iconst 0, 1) := by decide +kernel
theorem dX10_checksum_132 : decode cX10_checksum 132 = .ok (.istore_n 3, 1) := by decide +kernel
theorem dX10_checksum_133 : decode cX10_checksum 133 = .ok (.iload_n 3, 1) := by decide +kernel
theorem dX10_checksum_134 : decode cX10_checksum 134 = .ok (.aload_n 0, 1) := by decide +kernel
theorem dX10_checksum_135 : decode cX10_checksum 135 = .ok (.getfield 17, 3) := by decide +kernel
theorem dX10_checksum_138 : decode cX10_checksum 138 = .ok (.iconst 0, 1) := by decide +kernel
theorem dX10_checksum_139 : decode cX10_checksum 139 = .ok (.iaload, 1) := by decide +kernel
theorem dX10_checksum_140 : decode cX10_checksum 140 = .ok (.if_icmp .ge 47, 3) := by decide +kernel
theorem dX10_checksum_143 : decode cX10_checksum 143 = .ok (.iconst 0, 1) := by decide +kernel
theorem dX10_checksum_144 : decode cX10_checksum 144 = .ok (.istore 4, 2) := by decide +kernel
theorem dX10_checksum_146 : decode cX10_checksum 146 = .ok (.iload 4, 2) := by decide +kernel
theorem dX10_checksum_148 : decode cX10_checksum 148 = .ok (.iconst 3, 1) := by decide +kernel
theorem dX10_checksum_149 : decode cX10_checksum 149 = .ok (.if_icmp .ge 32, 3) := by decide +kernel
theorem dX10_checksum_152 : decode cX10_checksum 152 = .ok (.ldc2_w 300, 3) := by decide +kernel
theorem dX10_checksum_155 : decode cX10_checksum 155 = .ok (.lload_n 1, 1) := by decide +kernel
theorem dX10_checksum_156 : decode cX10_checksum 156 = .ok (.lmul, 1) := by decide +kernel
theorem dX10_checksum_157 : decode cX10_checksum 157 = .ok (.aload_n 0, 1) := by decide +kernel
theorem dX10_checksum_158 : decode cX10_checksum 158 = .ok (.getfield 17, 3) := by decide +kernel
theorem dX10_checksum_161 : decode cX10_checksum 161 = .ok (.sipush 151, 3) := by decide +kernel
theorem dX10_checksum_164 : decode cX10_checksum 164 = .ok (.iconst 3, 1) := by decide +kernel
theorem dX10_checksum_165 : decode cX10_checksum 165 = .ok (.iload_n 3, 1) := by decide +kernel
theorem dX10_checksum_166 : decode cX10_checksum 166 = .ok (.imul, 1) := by decide +kernel
theorem dX10_checksum_167 : decode cX10_checksum 167 = .ok (.iadd, 1) := by decide +kernel
theorem dX10_checksum_168 : decode cX10_checksum 168 = .ok (.iload 4, 2) := by decide +kernel
theorem dX10_checksum_170 : decode cX10_checksum 170 = .ok (.iadd, 1) := by decide +kernel
theorem dX10_checksum_171 : decode cX10_checksum 171 = .ok (.iaload, 1) := by decide +kernel
theorem dX10_checksum_172 : decode cX10_checksum 172 = .ok (.i2l, 1) := by decide +kernel
theorem dX10_checksum_173 : decode cX10_checksum 173 = .ok (.ladd, 1) := by decide +kernel
theorem dX10_checksum_174 : decode cX10_checksum 174 = .ok (.lstore_n 1, 1) := by decide +kernel
theorem dX10_checksum_175 : decode cX10_checksum 175 = .ok (.iinc 4 1, 3) := by decide +kernel
theorem dX10_checksum_178 : decode cX10_checksum 178 = .ok (.goto (-32), 3) := by decide +kernel
theorem dX10_checksum_181 : decode cX10_checksum 181 = .ok (.iinc 3 1, 3) := by decide +kernel
theorem dX10_checksum_184 : decode cX10_checksum 184 = .ok (.goto (-51), 3) := by decide +kernel
theorem dX10_checksum_187 : decode cX10_checksum 187 = .ok (.iconst 0, 1) := by decide +kernel
theorem dX10_checksum_188 : decode cX10_checksum 188 = .ok (.istore_n 3, 1) := by decide +kernel
theorem dX10_checksum_189 : decode cX10_checksum 189 = .ok (.iload_n 3, 1) := by decide +kernel
theorem dX10_checksum_190 : decode cX10_checksum 190 = .ok (.aload_n 0, 1) := by decide +kernel
theorem dX10_checksum_191 : decode cX10_checksum 191 = .ok (.getfield 17, 3) := by decide +kernel
theorem dX10_checksum_194 : decode cX10_checksum 194 = .ok (.iconst 1, 1) := by decide +kernel
theorem dX10_checksum_195 : decode cX10_checksum 195 = .ok (.iaload, 1) := by decide +kernel
theorem dX10_checksum_196 : decode cX10_checksum 196 = .ok (.if_icmp .ge 47, 3) := by decide +kernel
theorem dX10_checksum_199 : decode cX10_checksum 199 = .ok (.iconst 0, 1) := by decide +kernel
theorem dX10_checksum_200 : decode cX10_checksum 200 = .ok (.istore 4, 2) := by decide +kernel
theorem dX10_checksum_202 : decode cX10_checksum 202 = .ok (.iload 4, 2) := by decide +kernel
theorem dX10_checksum_204 : decode cX10_checksum 204 = .ok (.iconst 2, 1) := by decide +kernel
theorem dX10_checksum_205 : decode cX10_checksum 205 = .ok (.if_icmp .ge 32, 3) := by decide +kernel
theorem dX10_checksum_208 : decode cX10_checksum 208 = .ok (.ldc2_w 300, 3) := by decide +kernel
theorem dX10_checksum_211 : decode cX10_checksum 211 = .ok (.lload_n 1, 1) := by decide +kernel
theorem dX10_checksum_212 : decode cX10_checksum 212 = .ok (.lmul, 1) := by decide +kernel
theorem dX10_checksum_213 : decode cX10_checksum 213 = .ok (.aload_n 0, 1) := by decide +kernel
theorem dX10_checksum_214 : decode cX10_checksum 214 = .ok (.getfield 17, 3) := by decide +kernel
theorem dX10_checksum_217 : decode cX10_checksum 217 = .ok (.sipush 163, 3) := by decide +kernel
theorem dX10_checksum_220 : decode cX10_checksum 220 = .ok (.iconst 2, 1) := by decide +kernel
theorem dX10_checksum_221 : decode cX10_checksum 221 = .ok (.iload_n 3, 1) := by decide +kernel
theorem dX10_checksum_222 : decode cX10_checksum 222 = .ok (.imul, 1) := by decide +kernel
theorem dX10_checksum_223 : decode cX10_checksum 223 = .ok (.iadd, 1) := by decide +kernel
theorem dX10_checksum_224 : decode cX10_checksum 224 = .ok (.iload 4, 2) := by decide +kernel
theorem dX10_checksum_226 : decode cX10_checksum 226 = .ok (.iadd, 1) := by decide +kernel
theorem dX10_checksum_227 : decode cX10_checksum 227 = .ok (.iaload, 1) := by decide +kernel
theorem dX10_checksum_228 : decode cX10_checksum 228 = .ok (.i2l, 1) := by decide +kernel
theorem dX10_checksum_229 : decode cX10_checksum 229 = .ok (.ladd, 1) := by decide +kernel
theorem dX10_checksum_230 : decode cX10_checksum 230 = .ok (.lstore_n 1, 1) := by decide +kernel
theorem dX10_checksum_231 : decode cX10_checksum 231 = .ok (.iinc 4 1, 3) := by decide +kernel
theorem dX10_checksum_234 : decode cX10_checksum 234 = .ok (.goto (-32), 3) := by decide +kernel
theorem dX10_checksum_237 : decode cX10_checksum 237 = .ok (.iinc 3 1, 3) := by decide +kernel
theorem dX10_checksum_240 : decode cX10_checksum 240 = .ok (.goto (-51), 3) := by decide +kernel
theorem dX10_checksum_243 : decode cX10_checksum 243 = .ok (.iconst 0, 1) := by decide +kernel
theorem dX10_checksum_244 : decode cX10_checksum 244 = .ok (.istore_n 3, 1) := by decide +kernel
theorem dX10_checksum_245 : decode cX10_checksum 245 = .ok (.iload_n 3, 1) := by decide +kernel
theorem dX10_checksum_246 : decode cX10_checksum 246 = .ok (.aload_n 0, 1) := by decide +kernel
theorem dX10_checksum_247 : decode cX10_checksum 247 = .ok (.getfield 17, 3) := by decide +kernel
theorem dX10_checksum_250 : decode cX10_checksum 250 = .ok (.iconst 5, 1) := by decide +kernel
theorem dX10_checksum_251 : decode cX10_checksum 251 = .ok (.iaload, 1) := by decide +kernel
theorem dX10_checksum_252 : decode cX10_checksum 252 = .ok (.if_icmp .ge 40, 3) := by decide +kernel
theorem dX10_checksum_255 : decode cX10_checksum 255 = .ok (.iconst 0, 1) := by decide +kernel
theorem dX10_checksum_256 : decode cX10_checksum 256 = .ok (.istore 4, 2) := by decide +kernel
theorem dX10_checksum_258 : decode cX10_checksum 258 = .ok (.iload 4, 2) := by decide +kernel
theorem dX10_checksum_260 : decode cX10_checksum 260 = .ok (.bipush 11, 2) := by decide +kernel
theorem dX10_checksum_262 : decode cX10_checksum 262 = .ok (.if_icmp .ge 24, 3) := by decide +kernel
theorem dX10_checksum_265 : decode cX10_checksum 265 = .ok (.ldc2_w 300, 3) := by decide +kernel
theorem dX10_checksum_268 : decode cX10_checksum 268 = .ok (.lload_n 1, 1) := by decide +kernel
theorem dX10_checksum_269 : decode cX10_checksum 269 = .ok (.lmul, 1) := by decide +kernel
theorem dX10_checksum_270 : decode cX10_checksum 270 = .ok (.aload_n 0, 1) := by decide +kernel
theorem dX10_checksum_271 : decode cX10_checksum 271 = .ok (.iload_n 3, 1) := by decide +kernel
theorem dX10_checksum_272 : decode cX10_checksum 272 = .ok (.iload 4, 2) := by decide +kernel
theorem dX10_checksum_274 : decode cX10_checksum 274 = .ok (.invokevirtual 192, 3) := by decide +kernel
theorem dX10_checksum_277 : decode cX10_checksum 277 = .ok (.i2l, 1) := by decide +kernel
theorem dX10_checksum_278 : decode cX10_checksum 278 = .ok (.ladd, 1) := by decide +kernel
theorem dX10_checksum_279 : decode cX10_checksum 279 = .ok (.lstore_n 1, 1) := by decide +kernel
theorem dX10_checksum_280 : decode cX10_checksum 280 = .ok (.iinc 4 1, 3) := by decide +kernel
theorem dX10_checksum_283 : decode cX10_checksum 283 = .ok (.goto (-25), 3) := by decide +kernel
theorem dX10_checksum_286 : decode cX10_checksum 286 = .ok (.iinc 3 1, 3) := by decide +kernel
theorem dX10_checksum_289 : decode cX10_checksum 289 = .ok (.goto (-44), 3) := by decide +kernel
theorem dX10_checksum_292 : decode cX10_checksum 292 = .ok (.lload_n 1, 1) := by decide +kernel
theorem dX10_checksum_293 : decode cX10_checksum 293 = .ok (.lreturn, 1) := by decide +kernel

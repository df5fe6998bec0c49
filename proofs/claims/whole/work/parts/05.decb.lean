theorem dX8_init_0 : decode cX8_init 0 = .ok (.aload_n 0, 1) := by decide +kernel
theorem dX8_init_1 : decode cX8_init 1 = .ok (.invokespecial 3, 3) := by decide +kernel
theorem dX8_init_4 : decode cX8_init 4 = .ok (.aload_n 0, 1) := by decide +kernel
theorem dX8_init_5 : decode cX8_init 5 = .ok (.new 9, 3) := by decide +kernel
theorem dX8_init_8 : decode cX8_init 8 = .ok (.dup, 1) := by decide +kernel
theorem dX8_init_9 : decode cX8_init 9 = .ok (.invokespecial 11, 3) := by decide +kernel
theorem dX8_init_12 : decode cX8_init 12 = .ok (.putfield 12, 3) := by decide +kernel
theorem dX8_init_15 : decode cX8_init 15 = .ok (.aload_n 0, 1) := by decide +kernel
theorem dX8_init_16 : decode cX8_init 16 = .ok (.iconst 0, 1) := by decide +kernel
theorem dX8_init_17 : decode cX8_init 17 = .ok (.newarray .byte, 2) := by decide +kernel
theorem dX8_init_19 : decode cX8_init 19 = .ok (.putfield 18, 3) := by decide +kernel
theorem dX8_init_22 : decode cX8_init 22 = .ok (.return_, 1) := by decide +kernel
theorem dX8_readSetup_0 : decode cX8_readSetup 0 = .ok (.aload_n 0, 1) := by decide +kernel
theorem dX8_readSetup_1 : decode cX8_readSetup 1 = .ok (.aload_n 1, 1) := by decide +kernel
theorem dX8_readSetup_2 : decode cX8_readSetup 2 = .ok (.putfield 18, 3) := by decide +kernel
theorem dX8_readSetup_5 : decode cX8_readSetup 5 = .ok (.aload_n 0, 1) := by decide +kernel
theorem dX8_readSetup_6 : decode cX8_readSetup 6 = .ok (.iload_n 2, 1) := by decide +kernel
theorem dX8_readSetup_7 : decode cX8_readSetup 7 = .ok (.putfield 22, 3) := by decide +kernel
theorem dX8_readSetup_10 : decode cX8_readSetup 10 = .ok (.aload_n 0, 1) := by decide +kernel
theorem dX8_readSetup_11 : decode cX8_readSetup 11 = .ok (.iconst 0, 1) := by decide +kernel
theorem dX8_readSetup_12 : decode cX8_readSetup 12 = .ok (.putfield 26, 3) := by decide +kernel
theorem dX8_readSetup_15 : decode cX8_readSetup 15 = .ok (.aload_n 0, 1) := by decide +kernel
theorem dX8_readSetup_16 : decode cX8_readSetup 16 = .ok (.iconst 0, 1) := by decide +kernel
theorem dX8_readSetup_17 : decode cX8_readSetup 17 = .ok (.putfield 29, 3) := by decide +kernel
theorem dX8_readSetup_20 : decode cX8_readSetup 20 = .ok (.aload_n 0, 1) := by decide +kernel
theorem dX8_readSetup_21 : decode cX8_readSetup 21 = .ok (.iconst (-1), 1) := by decide +kernel
theorem dX8_readSetup_22 : decode cX8_readSetup 22 = .ok (.putfield 32, 3) := by decide +kernel
theorem dX8_readSetup_25 : decode cX8_readSetup 25 = .ok (.aload_n 0, 1) := by decide +kernel
theorem dX8_readSetup_26 : decode cX8_readSetup 26 = .ok (.iconst 0, 1) := by decide +kernel
theorem dX8_readSetup_27 : decode cX8_readSetup 27 = .ok (.putfield 35, 3) := by decide +kernel
theorem dX8_readSetup_30 : decode cX8_readSetup 30 = .ok (.aload_n 0, 1) := by decide +kernel
theorem dX8_readSetup_31 : decode cX8_readSetup 31 = .ok (.iconst 0, 1) := by decide +kernel
theorem dX8_readSetup_32 : decode cX8_readSetup 32 = .ok (.putfield 39, 3) := by decide +kernel
theorem dX8_readSetup_35 : decode cX8_readSetup 35 = .ok (.aload_n 0, 1) := by decide +kernel
theorem dX8_readSetup_36 : decode cX8_readSetup 36 = .ok (.iconst 0, 1) := by decide +kernel
theorem dX8_readSetup_37 : decode cX8_readSetup 37 = .ok (.putfield 42, 3) := by decide +kernel
theorem dX8_readSetup_40 : decode cX8_readSetup 40 = .ok (.aload_n 0, 1) := by decide +kernel
theorem dX8_readSetup_41 : decode cX8_readSetup 41 = .ok (.invokevirtual 45, 3) := by decide +kernel
theorem dX8_readSetup_44 : decode cX8_readSetup 44 = .ok (.aload_n 0, 1) := by decide +kernel
theorem dX8_readSetup_45 : decode cX8_readSetup 45 = .ok (.invokevirtual 48, 3) := by decide +kernel
theorem dX8_readSetup_48 : decode cX8_readSetup 48 = .ok (.istore_n 3, 1) := by decide +kernel
theorem dX8_readSetup_49 : decode cX8_readSetup 49 = .ok (.iconst 0, 1) := by decide +kernel
theorem dX8_readSetup_50 : decode cX8_readSetup 50 = .ok (.istore 4, 2) := by decide +kernel
theorem dX8_readSetup_52 : decode cX8_readSetup 52 = .ok (.iload 4, 2) := by decide +kernel
theorem dX8_readSetup_54 : decode cX8_readSetup 54 = .ok (.sipush 700, 3) := by decide +kernel
theorem dX8_readSetup_57 : decode cX8_readSetup 57 = .ok (.if_icmp .ge 40, 3) := by decide +kernel
theorem dX8_readSetup_60 : decode cX8_readSetup 60 = .ok (.iload_n 3, 1) := by decide +kernel
theorem dX8_readSetup_61 : decode cX8_readSetup 61 = .ok (.ifCond .eq 36, 3) := by decide +kernel
theorem dX8_readSetup_64 : decode cX8_readSetup 64 = .ok (.aload_n 0, 1) := by decide +kernel
theorem dX8_readSetup_65 : decode cX8_readSetup 65 = .ok (.getfield 52, 3) := by decide +kernel
theorem dX8_readSetup_68 : decode cX8_readSetup 68 = .ok (.ifCond .eq 29, 3) := by decide +kernel
theorem dX8_readSetup_71 : decode cX8_readSetup 71 = .ok (.aload_n 0, 1) := by decide +kernel
theorem dX8_readSetup_72 : decode cX8_readSetup 72 = .ok (.invokevirtual 55, 3) := by decide +kernel
theorem dX8_readSetup_75 : decode cX8_readSetup 75 = .ok (.ifCond .eq 14, 3) := by decide +kernel
theorem dX8_readSetup_78 : decode cX8_readSetup 78 = .ok (.aload_n 0, 1) := by decide +kernel
theorem dX8_readSetup_79 : decode cX8_readSetup 79 = .ok (.invokevirtual 58, 3) := by decide +kernel
theorem dX8_readSetup_82 : decode cX8_readSetup 82 = .ok (.ifCond .eq 7, 3) := by decide +kernel
theorem dX8_readSetup_85 : decode cX8_readSetup 85 = .ok (.iconst 1, 1) := by decide +kernel
theorem dX8_readSetup_86 : decode cX8_readSetup 86 = .ok (.goto 4, 3) := by decide +kernel
theorem dX8_readSetup_89 : decode cX8_readSetup 89 = .ok (.iconst 0, 1) := by decide +kernel
theorem dX8_readSetup_90 : decode cX8_readSetup 90 = .ok (.istore_n 3, 1) := by decide +kernel
theorem dX8_readSetup_91 : decode cX8_readSetup 91 = .ok (.iinc 4 1, 3) := by decide +kernel
theorem dX8_readSetup_94 : decode cX8_readSetup 94 = .ok (.goto (-42), 3) := by decide +kernel
theorem dX8_readSetup_97 : decode cX8_readSetup 97 = .ok (.aload_n 0, 1) := by decide +kernel
theorem dX8_readSetup_98 : decode cX8_readSetup 98 = .ok (.getfield 29, 3) := by decide +kernel
theorem dX8_readSetup_101 : decode cX8_readSetup 101 = .ok (.ireturn, 1) := by decide +kernel
theorem dX8_readSize_0 : decode cX8_readSize 0 = .ok (.aload_n 0, 1) := by decide +kernel
theorem dX8_readSize_1 : decode cX8_readSize 1 = .ok (.ldc 61, 2) := by decide +kernel
theorem dX8_readSize_3 : decode cX8_readSize 3 = .ok (.invokevirtual 63, 3) := by decide +kernel
theorem dX8_readSize_6 : decode cX8_readSize 6 = .ok (.ifCond .ne 10, 3) := by decide +kernel
theorem dX8_readSize_9 : decode cX8_readSize 9 = .ok (.aload_n 0, 1) := by decide +kernel
theorem dX8_readSize_10 : decode cX8_readSize 10 = .ok (.bipush (-2), 2) := by decide +kernel
theorem dX8_readSize_12 : decode cX8_readSize 12 = .ok (.invokevirtual 67, 3) := by decide +kernel
theorem dX8_readSize_15 : decode cX8_readSize 15 = .ok (.ireturn, 1) := by decide +kernel
theorem dX8_readSize_16 : decode cX8_readSize 16 = .ok (.aload_n 0, 1) := by decide +kernel
theorem dX8_readSize_17 : decode cX8_readSize 17 = .ok (.invokevirtual 45, 3) := by decide +kernel
theorem dX8_readSize_20 : decode cX8_readSize 20 = .ok (.aload_n 0, 1) := by decide +kernel
theorem dX8_readSize_21 : decode cX8_readSize 21 = .ok (.iconst 1, 1) := by decide +kernel
theorem dX8_readSize_22 : decode cX8_readSize 22 = .ok (.iconst 4, 1) := by decide +kernel
theorem dX8_readSize_23 : decode cX8_readSize 23 = .ok (.invokevirtual 71, 3) := by decide +kernel
theorem dX8_readSize_26 : decode cX8_readSize 26 = .ok (.ifCond .ne 5, 3) := by decide +kernel
theorem dX8_readSize_29 : decode cX8_readSize 29 = .ok (.iconst 0, 1) := by decide +kernel
theorem dX8_readSize_30 : decode cX8_readSize 30 = .ok (.ireturn, 1) := by decide +kernel
theorem dX8_readSize_31 : decode cX8_readSize 31 = .ok (.aload_n 0, 1) := by decide +kernel
theorem dX8_readSize_32 : decode cX8_readSize 32 = .ok (.getfield 75, 3) := by decide +kernel
theorem dX8_readSize_35 : decode cX8_readSize 35 = .ok (.istore_n 1, 1) := by decide +kernel
theorem dX8_readSize_36 : decode cX8_readSize 36 = .ok (.aload_n 0, 1) := by decide +kernel
theorem dX8_readSize_37 : decode cX8_readSize 37 = .ok (.invokevirtual 45, 3) := by decide +kernel
theorem dX8_readSize_40 : decode cX8_readSize 40 = .ok (.aload_n 0, 1) := by decide +kernel
theorem dX8_readSize_41 : decode cX8_readSize 41 = .ok (.iconst 1, 1) := by decide +kernel
theorem dX8_readSize_42 : decode cX8_readSize 42 = .ok (.iconst 3, 1) := by decide +kernel
theorem dX8_readSize_43 : decode cX8_readSize 43 = .ok (.invokevirtual 71, 3) := by decide +kernel
theorem dX8_readSize_46 : decode cX8_readSize 46 = .ok (.ifCond .ne 5, 3) := by decide +kernel
theorem dX8_readSize_49 : decode cX8_readSize 49 = .ok (.iconst 0, 1) := by decide +kernel
theorem dX8_readSize_50 : decode cX8_readSize 50 = .ok (.ireturn, 1) := by decide +kernel
theorem dX8_readSize_51 : decode cX8_readSize 51 = .ok (.aload_n 0, 1) := by decide +kernel
theorem dX8_readSize_52 : decode cX8_readSize 52 = .ok (.getfield 12, 3) := by decide +kernel
theorem dX8_readSize_55 : decode cX8_readSize 55 = .ok (.iload_n 1, 1) := by decide +kernel
theorem dX8_readSize_56 : decode cX8_readSize 56 = .ok (.aload_n 0, 1) := by decide +kernel
theorem dX8_readSize_57 : decode cX8_readSize 57 = .ok (.getfield 75, 3) := by decide +kernel
theorem dX8_readSize_60 : decode cX8_readSize 60 = .ok (.invokevirtual 78, 3) := by decide +kernel
theorem dX8_readSize_63 : decode cX8_readSize 63 = .ok (.aload_n 0, 1) := by decide +kernel
theorem dX8_readSize_64 : decode cX8_readSize 64 = .ok (.invokevirtual 45, 3) := by decide +kernel
theorem dX8_readSize_67 : decode cX8_readSize 67 = .ok (.aload_n 0, 1) := by decide +kernel
theorem dX8_readSize_68 : decode cX8_readSize 68 = .ok (.invokevirtual 58, 3) := by decide +kernel
theorem dX8_readSize_71 : decode cX8_readSize 71 = .ok (.ireturn, 1) := by decide +kernel
theorem dX8_readStatement_0 : decode cX8_readStatement 0 = .ok (.aload_n 0, 1) := by decide +kernel
theorem dX8_readStatement_1 : decode cX8_readStatement 1 = .ok (.ldc 82, 2) := by decide +kernel
theorem dX8_readStatement_3 : decode cX8_readStatement 3 = .ok (.invokevirtual 63, 3) := by decide +kernel
theorem dX8_readStatement_6 : decode cX8_readStatement 6 = .ok (.ifCond .eq 8, 3) := by decide +kernel
theorem dX8_readStatement_9 : decode cX8_readStatement 9 = .ok (.aload_n 0, 1) := by decide +kernel
theorem dX8_readStatement_10 : decode cX8_readStatement 10 = .ok (.invokevirtual 84, 3) := by decide +kernel
theorem dX8_readStatement_13 : decode cX8_readStatement 13 = .ok (.ireturn, 1) := by decide +kernel
theorem dX8_readStatement_14 : decode cX8_readStatement 14 = .ok (.aload_n 0, 1) := by decide +kernel
theorem dX8_readStatement_15 : decode cX8_readStatement 15 = .ok (.ldc 87, 2) := by decide +kernel
theorem dX8_readStatement_17 : decode cX8_readStatement 17 = .ok (.invokevirtual 63, 3) := by decide +kernel
theorem dX8_readStatement_20 : decode cX8_readStatement 20 = .ok (.ifCond .eq 8, 3) := by decide +kernel
theorem dX8_readStatement_23 : decode cX8_readStatement 23 = .ok (.aload_n 0, 1) := by decide +kernel
theorem dX8_readStatement_24 : decode cX8_readStatement 24 = .ok (.invokevirtual 89, 3) := by decide +kernel
theorem dX8_readStatement_27 : decode cX8_readStatement 27 = .ok (.ireturn, 1) := by decide +kernel
theorem dX8_readStatement_28 : decode cX8_readStatement 28 = .ok (.aload_n 0, 1) := by decide +kernel
theorem dX8_readStatement_29 : decode cX8_readStatement 29 = .ok (.ldc 92, 2) := by decide +kernel
theorem dX8_readStatement_31 : decode cX8_readStatement 31 = .ok (.invokevirtual 63, 3) := by decide +kernel
theorem dX8_readStatement_34 : decode cX8_readStatement 34 = .ok (.ifCond .eq 8, 3) := by decide +kernel
theorem dX8_readStatement_37 : decode cX8_readStatement 37 = .ok (.aload_n 0, 1) := by decide +kernel
theorem dX8_readStatement_38 : decode cX8_readStatement 38 = .ok (.invokevirtual 94, 3) := by decide +kernel
theorem dX8_readStatement_41 : decode cX8_readStatement 41 = .ok (.ireturn, 1) := by decide +kernel
theorem dX8_readStatement_42 : decode cX8_readStatement 42 = .ok (.aload_n 0, 1) := by decide +kernel
theorem dX8_readStatement_43 : decode cX8_readStatement 43 = .ok (.ldc 97, 2) := by decide +kernel
theorem dX8_readStatement_45 : decode cX8_readStatement 45 = .ok (.invokevirtual 63, 3) := by decide +kernel
theorem dX8_readStatement_48 : decode cX8_readStatement 48 = .ok (.ifCond .eq 8, 3) := by decide +kernel
theorem dX8_readStatement_51 : decode cX8_readStatement 51 = .ok (.aload_n 0, 1) := by decide +kernel
theorem dX8_readStatement_52 : decode cX8_readStatement 52 = .ok (.invokevirtual 99, 3) := by decide +kernel
theorem dX8_readStatement_55 : decode cX8_readStatement 55 = .ok (.ireturn, 1) := by decide +kernel
theorem dX8_readStatement_56 : decode cX8_readStatement 56 = .ok (.aload_n 0, 1) := by decide +kernel
theorem dX8_readStatement_57 : decode cX8_readStatement 57 = .ok (.invokevirtual 102, 3) := by decide +kernel
theorem dX8_readStatement_60 : decode cX8_readStatement 60 = .ok (.ireturn, 1) := by decide +kernel
theorem dX8_readLine_0 : decode cX8_readLine 0 = .ok (.aload_n 0, 1) := by decide +kernel
theorem dX8_readLine_1 : decode cX8_readLine 1 = .ok (.getfield 12, 3) := by decide +kernel
theorem dX8_readLine_4 : decode cX8_readLine 4 = .ok (.getfield 105, 3) := by decide +kernel
theorem dX8_readLine_7 : decode cX8_readLine 7 = .ok (.bipush 12, 2) := by decide +kernel
theorem dX8_readLine_9 : decode cX8_readLine 9 = .ok (.if_icmp .lt 10, 3) := by decide +kernel
theorem dX8_readLine_12 : decode cX8_readLine 12 = .ok (.aload_n 0, 1) := by decide +kernel
theorem dX8_readLine_13 : decode cX8_readLine 13 = .ok (.bipush (-5), 2) := by decide +kernel
theorem dX8_readLine_15 : decode cX8_readLine 15 = .ok (.invokevirtual 67, 3) := by decide +kernel
theorem dX8_readLine_18 : decode cX8_readLine 18 = .ok (.ireturn, 1) := by decide +kernel
theorem dX8_readLine_19 : decode cX8_readLine 19 = .ok (.aload_n 0, 1) := by decide +kernel
theorem dX8_readLine_20 : decode cX8_readLine 20 = .ok (.invokevirtual 45, 3) := by decide +kernel
theorem dX8_readLine_23 : decode cX8_readLine 23 = .ok (.aload_n 0, 1) := by decide +kernel
theorem dX8_readLine_24 : decode cX8_readLine 24 = .ok (.bipush 6, 2) := by decide +kernel
theorem dX8_readLine_26 : decode cX8_readLine 26 = .ok (.invokevirtual 108, 3) := by decide +kernel
theorem dX8_readLine_29 : decode cX8_readLine 29 = .ok (.ifCond .ne 5, 3) := by decide +kernel
theorem dX8_readLine_32 : decode cX8_readLine 32 = .ok (.iconst 0, 1) := by decide +kernel
theorem dX8_readLine_33 : decode cX8_readLine 33 = .ok (.ireturn, 1) := by decide +kernel
theorem dX8_readLine_34 : decode cX8_readLine 34 = .ok (.aload_n 0, 1) := by decide +kernel
theorem dX8_readLine_35 : decode cX8_readLine 35 = .ok (.getfield 12, 3) := by decide +kernel
theorem dX8_readLine_38 : decode cX8_readLine 38 = .ok (.aload_n 0, 1) := by decide +kernel
theorem dX8_readLine_39 : decode cX8_readLine 39 = .ok (.getfield 111, 3) := by decide +kernel
theorem dX8_readLine_42 : decode cX8_readLine 42 = .ok (.invokevirtual 114, 3) := by decide +kernel
theorem dX8_readLine_45 : decode cX8_readLine 45 = .ok (.iconst (-1), 1) := by decide +kernel
theorem dX8_readLine_46 : decode cX8_readLine 46 = .ok (.if_icmp .eq 10, 3) := by decide +kernel
theorem dX8_readLine_49 : decode cX8_readLine 49 = .ok (.aload_n 0, 1) := by decide +kernel
theorem dX8_readLine_50 : decode cX8_readLine 50 = .ok (.bipush (-4), 2) := by decide +kernel
theorem dX8_readLine_52 : decode cX8_readLine 52 = .ok (.invokevirtual 67, 3) := by decide +kernel
theorem dX8_readLine_55 : decode cX8_readLine 55 = .ok (.ireturn, 1) := by decide +kernel
theorem dX8_readLine_56 : decode cX8_readLine 56 = .ok (.aload_n 0, 1) := by decide +kernel
theorem dX8_readLine_57 : decode cX8_readLine 57 = .ok (.getfield 12, 3) := by decide +kernel
theorem dX8_readLine_60 : decode cX8_readLine 60 = .ok (.aload_n 0, 1) := by decide +kernel
theorem dX8_readLine_61 : decode cX8_readLine 61 = .ok (.getfield 111, 3) := by decide +kernel
theorem dX8_readLine_64 : decode cX8_readLine 64 = .ok (.invokevirtual 118, 3) := by decide +kernel
theorem dX8_readLine_67 : decode cX8_readLine 67 = .ok (.aload_n 0, 1) := by decide +kernel
theorem dX8_readLine_68 : decode cX8_readLine 68 = .ok (.invokevirtual 45, 3) := by decide +kernel
theorem dX8_readLine_71 : decode cX8_readLine 71 = .ok (.iconst 1, 1) := by decide +kernel
theorem dX8_readLine_72 : decode cX8_readLine 72 = .ok (.ireturn, 1) := by decide +kernel
theorem dX8_readGroup_0 : decode cX8_readGroup 0 = .ok (.aload_n 0, 1) := by decide +kernel
theorem dX8_readGroup_1 : decode cX8_readGroup 1 = .ok (.getfield 12, 3) := by decide +kernel
theorem dX8_readGroup_4 : decode cX8_readGroup 4 = .ok (.getfield 122, 3) := by decide +kernel
theorem dX8_readGroup_7 : decode cX8_readGroup 7 = .ok (.iconst 5, 1) := by decide +kernel
theorem dX8_readGroup_8 : decode cX8_readGroup 8 = .ok (.if_icmp .lt 10, 3) := by decide +kernel
theorem dX8_readGroup_11 : decode cX8_readGroup 11 = .ok (.aload_n 0, 1) := by decide +kernel
theorem dX8_readGroup_12 : decode cX8_readGroup 12 = .ok (.bipush (-5), 2) := by decide +kernel
theorem dX8_readGroup_14 : decode cX8_readGroup 14 = .ok (.invokevirtual 67, 3) := by decide +kernel
theorem dX8_readGroup_17 : decode cX8_readGroup 17 = .ok (.ireturn, 1) := by decide +kernel
theorem dX8_readGroup_18 : decode cX8_readGroup 18 = .ok (.aload_n 0, 1) := by decide +kernel
theorem dX8_readGroup_19 : decode cX8_readGroup 19 = .ok (.invokevirtual 45, 3) := by decide +kernel
theorem dX8_readGroup_22 : decode cX8_readGroup 22 = .ok (.aload_n 0, 1) := by decide +kernel
theorem dX8_readGroup_23 : decode cX8_readGroup 23 = .ok (.invokevirtual 125, 3) := by decide +kernel
theorem dX8_readGroup_26 : decode cX8_readGroup 26 = .ok (.ifCond .ne 5, 3) := by decide +kernel
theorem dX8_readGroup_29 : decode cX8_readGroup 29 = .ok (.iconst 0, 1) := by decide +kernel
theorem dX8_readGroup_30 : decode cX8_readGroup 30 = .ok (.ireturn, 1) := by decide +kernel
theorem dX8_readGroup_31 : decode cX8_readGroup 31 = .ok (.aload_n 0, 1) := by decide +kernel
theorem dX8_readGroup_32 : decode cX8_readGroup 32 = .ok (.getfield 128, 3) := by decide +kernel
theorem dX8_readGroup_35 : decode cX8_readGroup 35 = .ok (.lstore_n 1, 1) := by decide +kernel
theorem dX8_readGroup_36 : decode cX8_readGroup 36 = .ok (.aload_n 0, 1) := by decide +kernel
theorem dX8_readGroup_37 : decode cX8_readGroup 37 = .ok (.getfield 12, 3) := by decide +kernel
theorem dX8_readGroup_40 : decode cX8_readGroup 40 = .ok (.lload_n 1, 1) := by decide +kernel
theorem dX8_readGroup_41 : decode cX8_readGroup 41 = .ok (.invokevirtual 132, 3) := by decide +kernel
theorem dX8_readGroup_44 : decode cX8_readGroup 44 = .ok (.iconst (-1), 1) := by decide +kernel
theorem dX8_readGroup_45 : decode cX8_readGroup 45 = .ok (.if_icmp .eq 10, 3) := by decide +kernel
theorem dX8_readGroup_48 : decode cX8_readGroup 48 = .ok (.aload_n 0, 1) := by decide +kernel
theorem dX8_readGroup_49 : decode cX8_readGroup 49 = .ok (.bipush (-4), 2) := by decide +kernel
theorem dX8_readGroup_51 : decode cX8_readGroup 51 = .ok (.invokevirtual 67, 3) := by decide +kernel
theorem dX8_readGroup_54 : decode cX8_readGroup 54 = .ok (.ireturn, 1) := by decide +kernel
theorem dX8_readGroup_55 : decode cX8_readGroup 55 = .ok (.aload_n 0, 1) := by decide +kernel
theorem dX8_readGroup_56 : decode cX8_readGroup 56 = .ok (.invokevirtual 45, 3) := by decide +kernel
theorem dX8_readGroup_59 : decode cX8_readGroup 59 = .ok (.aload_n 0, 1) := by decide +kernel
theorem dX8_readGroup_60 : decode cX8_readGroup 60 = .ok (.iconst 1, 1) := by decide +kernel
theorem dX8_readGroup_61 : decode cX8_readGroup 61 = .ok (.bipush 8, 2) := by decide +kernel
theorem dX8_readGroup_63 : decode cX8_readGroup 63 = .ok (.invokevirtual 71, 3) := by decide +kernel
theorem dX8_readGroup_66 : decode cX8_readGroup 66 = .ok (.ifCond .ne 5, 3) := by decide +kernel
theorem dX8_readGroup_69 : decode cX8_readGroup 69 = .ok (.iconst 0, 1) := by decide +kernel
theorem dX8_readGroup_70 : decode cX8_readGroup 70 = .ok (.ireturn, 1) := by decide +kernel
theorem dX8_readGroup_71 : decode cX8_readGroup 71 = .ok (.aload_n 0, 1) := by decide +kernel
theorem dX8_readGroup_72 : decode cX8_readGroup 72 = .ok (.getfield 75, 3) := by decide +kernel
theorem dX8_readGroup_75 : decode cX8_readGroup 75 = .ok (.istore_n 3, 1) := by decide +kernel
theorem dX8_readGroup_76 : decode cX8_readGroup 76 = .ok (.aload_n 0, 1) := by decide +kernel
theorem dX8_readGroup_77 : decode cX8_readGroup 77 = .ok (.invokevirtual 45, 3) := by decide +kernel
theorem dX8_readGroup_80 : decode cX8_readGroup 80 = .ok (.aload_n 0, 1) := by decide +kernel
theorem dX8_readGroup_81 : decode cX8_readGroup 81 = .ok (.iconst 0, 1) := by decide +kernel
theorem dX8_readGroup_82 : decode cX8_readGroup 82 = .ok (.iload_n 3, 1) := by decide +kernel
theorem dX8_readGroup_83 : decode cX8_readGroup 83 = .ok (.iconst 1, 1) := by decide +kernel
theorem dX8_readGroup_84 : decode cX8_readGroup 84 = .ok (.isub, 1) := by decide +kernel
theorem dX8_readGroup_85 : decode cX8_readGroup 85 = .ok (.invokevirtual 71, 3) := by decide +kernel
theorem dX8_readGroup_88 : decode cX8_readGroup 88 = .ok (.ifCond .ne 5, 3) := by decide +kernel
theorem dX8_readGroup_91 : decode cX8_readGroup 91 = .ok (.iconst 0, 1) := by decide +kernel
theorem dX8_readGroup_92 : decode cX8_readGroup 92 = .ok (.ireturn, 1) := by decide +kernel
theorem dX8_readGroup_93 : decode cX8_readGroup 93 = .ok (.aload_n 0, 1) := by decide +kernel
theorem dX8_readGroup_94 : decode cX8_readGroup 94 = .ok (.getfield 12, 3) := by decide +kernel
theorem dX8_readGroup_97 : decode cX8_readGroup 97 = .ok (.lload_n 1, 1) := by decide +kernel
theorem dX8_readGroup_98 : decode cX8_readGroup 98 = .ok (.iload_n 3, 1) := by decide +kernel
theorem dX8_readGroup_99 : decode cX8_readGroup 99 = .ok (.aload_n 0, 1) := by decide +kernel
theorem dX8_readGroup_100 : decode cX8_readGroup 100 = .ok (.getfield 75, 3) := by decide +kernel
theorem dX8_readGroup_103 : decode cX8_readGroup 103 = .ok (.invokevirtual 136, 3) := by decide +kernel
theorem dX8_readGroup_106 : decode cX8_readGroup 106 = .ok (.aload_n 0, 1) := by decide +kernel
theorem dX8_readGroup_107 : decode cX8_readGroup 107 = .ok (.invokevirtual 45, 3) := by decide +kernel
theorem dX8_readGroup_110 : decode cX8_readGroup 110 = .ok (.iconst 1, 1) := by decide +kernel
theorem dX8_readGroup_111 : decode cX8_readGroup 111 = .ok (.ireturn, 1) := by decide +kernel
theorem dX8_readRoute_0 : decode cX8_readRoute 0 = .ok (.aload_n 0, 1) := by decide +kernel
theorem dX8_readRoute_1 : decode cX8_readRoute 1 = .ok (.getfield 12, 3) := by decide +kernel
theorem dX8_readRoute_4 : decode cX8_readRoute 4 = .ok (.getfield 140, 3) := by decide +kernel
theorem dX8_readRoute_7 : decode cX8_readRoute 7 = .ok (.bipush 8, 2) := by decide +kernel
theorem dX8_readRoute_9 : decode cX8_readRoute 9 = .ok (.if_icmp .lt 10, 3) := by decide +kernel
theorem dX8_readRoute_12 : decode cX8_readRoute 12 = .ok (.aload_n 0, 1) := by decide +kernel
theorem dX8_readRoute_13 : decode cX8_readRoute 13 = .ok (.bipush (-5), 2) := by decide +kernel
theorem dX8_readRoute_15 : decode cX8_readRoute 15 = .ok (.invokevirtual 67, 3) := by decide +kernel
theorem dX8_readRoute_18 : decode cX8_readRoute 18 = .ok (.ireturn, 1) := by decide +kernel
theorem dX8_readRoute_19 : decode cX8_readRoute 19 = .ok (.aload_n 0, 1) := by decide +kernel
theorem dX8_readRoute_20 : decode cX8_readRoute 20 = .ok (.invokevirtual 45, 3) := by decide +kernel
theorem dX8_readRoute_23 : decode cX8_readRoute 23 = .ok (.aload_n 0, 1) := by decide +kernel
theorem dX8_readRoute_24 : decode cX8_readRoute 24 = .ok (.iconst 5, 1) := by decide +kernel
theorem dX8_readRoute_25 : decode cX8_readRoute 25 = .ok (.invokevirtual 108, 3) := by decide +kernel
theorem dX8_readRoute_28 : decode cX8_readRoute 28 = .ok (.ifCond .ne 5, 3) := by decide +kernel
theorem dX8_readRoute_31 : decode cX8_readRoute 31 = .ok (.iconst 0, 1) := by decide +kernel
theorem dX8_readRoute_32 : decode cX8_readRoute 32 = .ok (.ireturn, 1) := by decide +kernel
theorem dX8_readRoute_33 : decode cX8_readRoute 33 = .ok (.aload_n 0, 1) := by decide +kernel
theorem dX8_readRoute_34 : decode cX8_readRoute 34 = .ok (.getfield 111, 3) := by decide +kernel
theorem dX8_readRoute_37 : decode cX8_readRoute 37 = .ok (.istore_n 1, 1) := by decide +kernel
theorem dX8_readRoute_38 : decode cX8_readRoute 38 = .ok (.aload_n 0, 1) := by decide +kernel
theorem dX8_readRoute_39 : decode cX8_readRoute 39 = .ok (.getfield 12, 3) := by decide +kernel
theorem dX8_readRoute_42 : decode cX8_readRoute 42 = .ok (.iload_n 1, 1) := by decide +kernel
theorem dX8_readRoute_43 : decode cX8_readRoute 43 = .ok (.invokevirtual 143, 3) := by decide +kernel
theorem dX8_readRoute_46 : decode cX8_readRoute 46 = .ok (.ifCond .eq 10, 3) := by decide +kernel
theorem dX8_readRoute_49 : decode cX8_readRoute 49 = .ok (.aload_n 0, 1) := by decide +kernel
theorem dX8_readRoute_50 : decode cX8_readRoute 50 = .ok (.bipush (-4), 2) := by decide +kernel
theorem dX8_readRoute_52 : decode cX8_readRoute 52 = .ok (.invokevirtual 67, 3) := by decide +kernel
theorem dX8_readRoute_55 : decode cX8_readRoute 55 = .ok (.ireturn, 1) := by decide +kernel
theorem dX8_readRoute_56 : decode cX8_readRoute 56 = .ok (.aload_n 0, 1) := by decide +kernel
theorem dX8_readRoute_57 : decode cX8_readRoute 57 = .ok (.invokevirtual 45, 3) := by decide +kernel
theorem dX8_readRoute_60 : decode cX8_readRoute 60 = .ok (.aload_n 0, 1) := by decide +kernel
theorem dX8_readRoute_61 : decode cX8_readRoute 61 = .ok (.iload_n 1, 1) := by decide +kernel
theorem dX8_readRoute_62 : decode cX8_readRoute 62 = .ok (.invokestatic 146, 3) := by decide +kernel
theorem dX8_readRoute_65 : decode cX8_readRoute 65 = .ok (.bipush 6, 2) := by decide +kernel
theorem dX8_readRoute_67 : decode cX8_readRoute 67 = .ok (.invokevirtual 71, 3) := by decide +kernel
theorem dX8_readRoute_70 : decode cX8_readRoute 70 = .ok (.ifCond .ne 5, 3) := by decide +kernel
theorem dX8_readRoute_73 : decode cX8_readRoute 73 = .ok (.iconst 0, 1) := by decide +kernel
theorem dX8_readRoute_74 : decode cX8_readRoute 74 = .ok (.ireturn, 1) := by decide +kernel
theorem dX8_readRoute_75 : decode cX8_readRoute 75 = .ok (.aload_n 0, 1) := by decide +kernel
theorem dX8_readRoute_76 : decode cX8_readRoute 76 = .ok (.getfield 12, 3) := by decide +kernel
theorem dX8_readRoute_79 : decode cX8_readRoute 79 = .ok (.iload_n 1, 1) := by decide +kernel
theorem dX8_readRoute_80 : decode cX8_readRoute 80 = .ok (.aload_n 0, 1) := by decide +kernel
theorem dX8_readRoute_81 : decode cX8_readRoute 81 = .ok (.getfield 75, 3) := by decide +kernel
theorem dX8_readRoute_84 : decode cX8_readRoute 84 = .ok (.invokevirtual 151, 3) := by decide +kernel
theorem dX8_readRoute_87 : decode cX8_readRoute 87 = .ok (.astore_n 2, 1) := by decide +kernel
theorem dX8_readRoute_88 : decode cX8_readRoute 88 = .ok (.aload_n 0, 1) := by decide +kernel
theorem dX8_readRoute_89 : decode cX8_readRoute 89 = .ok (.invokevirtual 45, 3) := by decide +kernel
theorem dX8_readRoute_92 : decode cX8_readRoute 92 = .ok (.aload_n 2, 1) := by decide +kernel
theorem dX8_readRoute_93 : decode cX8_readRoute 93 = .ok (.ifnull 15, 3) := by decide +kernel
theorem dX8_readRoute_96 : decode cX8_readRoute 96 = .ok (.aload_n 0, 1) := by decide +kernel
theorem dX8_readRoute_97 : decode cX8_readRoute 97 = .ok (.aload_n 2, 1) := by decide +kernel
theorem dX8_readRoute_98 : decode cX8_readRoute 98 = .ok (.invokevirtual 155, 3) := by decide +kernel
theorem dX8_readRoute_101 : decode cX8_readRoute 101 = .ok (.ifCond .eq 7, 3) := by decide +kernel
theorem dX8_readRoute_104 : decode cX8_readRoute 104 = .ok (.iconst 1, 1) := by decide +kernel
theorem dX8_readRoute_105 : decode cX8_readRoute 105 = .ok (.goto 4, 3) := by decide +kernel
theorem dX8_readRoute_108 : decode cX8_readRoute 108 = .ok (.iconst 0, 1) := by decide +kernel
theorem dX8_readRoute_109 : decode cX8_readRoute 109 = .ok (.istore_n 3, 1) := by decide +kernel
theorem dX8_readRoute_110 : decode cX8_readRoute 110 = .ok (.iconst 1, 1) := by decide +kernel
theorem dX8_readRoute_111 : decode cX8_readRoute 111 = .ok (.istore 4, 2) := by decide +kernel
theorem dX8_readRoute_113 : decode cX8_readRoute 113 = .ok (.iload 4, 2) := by decide +kernel
theorem dX8_readRoute_115 : decode cX8_readRoute 115 = .ok (.iconst 3, 1) := by decide +kernel
theorem dX8_readRoute_116 : decode cX8_readRoute 116 = .ok (.if_icmp .ge 27, 3) := by decide +kernel
theorem dX8_readRoute_119 : decode cX8_readRoute 119 = .ok (.iload_n 3, 1) := by decide +kernel
theorem dX8_readRoute_120 : decode cX8_readRoute 120 = .ok (.ifCond .eq 23, 3) := by decide +kernel
theorem dX8_readRoute_123 : decode cX8_readRoute 123 = .ok (.aload_n 0, 1) := by decide +kernel
theorem dX8_readRoute_124 : decode cX8_readRoute 124 = .ok (.getfield 52, 3) := by decide +kernel
theorem dX8_readRoute_127 : decode cX8_readRoute 127 = .ok (.iconst 2, 1) := by decide +kernel
theorem dX8_readRoute_128 : decode cX8_readRoute 128 = .ok (.if_icmp .ne 15, 3) := by decide +kernel
theorem dX8_readRoute_131 : decode cX8_readRoute 131 = .ok (.aload_n 0, 1) := by decide +kernel
theorem dX8_readRoute_132 : decode cX8_readRoute 132 = .ok (.aload_n 2, 1) := by decide +kernel
theorem dX8_readRoute_133 : decode cX8_readRoute 133 = .ok (.invokevirtual 155, 3) := by decide +kernel
theorem dX8_readRoute_136 : decode cX8_readRoute 136 = .ok (.istore_n 3, 1) := by decide +kernel
theorem dX8_readRoute_137 : decode cX8_readRoute 137 = .ok (.iinc 4 1, 3) := by decide +kernel
theorem dX8_readRoute_140 : decode cX8_readRoute 140 = .ok (.goto (-27), 3) := by decide +kernel
theorem dX8_readRoute_143 : decode cX8_readRoute 143 = .ok (.iload_n 3, 1) := by decide +kernel
theorem dX8_readRoute_144 : decode cX8_readRoute 144 = .ok (.ireturn, 1) := by decide +kernel
theorem dX8_readChoice_0 : decode cX8_readChoice 0 = .ok (.aload_n 0, 1) := by decide +kernel
theorem dX8_readChoice_1 : decode cX8_readChoice 1 = .ok (.invokevirtual 125, 3) := by decide +kernel
theorem dX8_readChoice_4 : decode cX8_readChoice 4 = .ok (.ifCond .ne 5, 3) := by decide +kernel
theorem dX8_readChoice_7 : decode cX8_readChoice 7 = .ok (.iconst 0, 1) := by decide +kernel
theorem dX8_readChoice_8 : decode cX8_readChoice 8 = .ok (.ireturn, 1) := by decide +kernel
theorem dX8_readChoice_9 : decode cX8_readChoice 9 = .ok (.aload_n 0, 1) := by decide +kernel
theorem dX8_readChoice_10 : decode cX8_readChoice 10 = .ok (.getfield 12, 3) := by decide +kernel
theorem dX8_readChoice_13 : decode cX8_readChoice 13 = .ok (.aload_n 0, 1) := by decide +kernel
theorem dX8_readChoice_14 : decode cX8_readChoice 14 = .ok (.getfield 128, 3) := by decide +kernel
theorem dX8_readChoice_17 : decode cX8_readChoice 17 = .ok (.invokevirtual 132, 3) := by decide +kernel
theorem dX8_readChoice_20 : decode cX8_readChoice 20 = .ok (.istore_n 2, 1) := by decide +kernel
theorem dX8_readChoice_21 : decode cX8_readChoice 21 = .ok (.iload_n 2, 1) := by decide +kernel
theorem dX8_readChoice_22 : decode cX8_readChoice 22 = .ok (.iconst (-1), 1) := by decide +kernel
theorem dX8_readChoice_23 : decode cX8_readChoice 23 = .ok (.if_icmp .eq 11, 3) := by decide +kernel
theorem dX8_readChoice_26 : decode cX8_readChoice 26 = .ok (.aload_n 1, 1) := by decide +kernel
theorem dX8_readChoice_27 : decode cX8_readChoice 27 = .ok (.iload_n 2, 1) := by decide +kernel
theorem dX8_readChoice_28 : decode cX8_readChoice 28 = .ok (.invokevirtual 159, 3) := by decide +kernel
theorem dX8_readChoice_31 : decode cX8_readChoice 31 = .ok (.ifCond .eq 10, 3) := by decide +kernel
theorem dX8_readChoice_34 : decode cX8_readChoice 34 = .ok (.aload_n 0, 1) := by decide +kernel
theorem dX8_readChoice_35 : decode cX8_readChoice 35 = .ok (.bipush (-4), 2) := by decide +kernel
theorem dX8_readChoice_37 : decode cX8_readChoice 37 = .ok (.invokevirtual 67, 3) := by decide +kernel
theorem dX8_readChoice_40 : decode cX8_readChoice 40 = .ok (.ireturn, 1) := by decide +kernel
theorem dX8_readChoice_41 : decode cX8_readChoice 41 = .ok (.aload_n 1, 1) := by decide +kernel
theorem dX8_readChoice_42 : decode cX8_readChoice 42 = .ok (.iload_n 2, 1) := by decide +kernel
theorem dX8_readChoice_43 : decode cX8_readChoice 43 = .ok (.invokevirtual 164, 3) := by decide +kernel
theorem dX8_readChoice_46 : decode cX8_readChoice 46 = .ok (.aload_n 0, 1) := by decide +kernel
theorem dX8_readChoice_47 : decode cX8_readChoice 47 = .ok (.invokevirtual 45, 3) := by decide +kernel
theorem dX8_readChoice_50 : decode cX8_readChoice 50 = .ok (.iconst 1, 1) := by decide +kernel
theorem dX8_readChoice_51 : decode cX8_readChoice 51 = .ok (.ireturn, 1) := by decide +kernel
theorem dX8_readCall_0 : decode cX8_readCall 0 = .ok (.aload_n 0, 1) := by decide +kernel
theorem dX8_readCall_1 : decode cX8_readCall 1 = .ok (.getfield 12, 3) := by decide +kernel
theorem dX8_readCall_4 : decode cX8_readCall 4 = .ok (.getfield 167, 3) := by decide +kernel
theorem dX8_readCall_7 : decode cX8_readCall 7 = .ok (.bipush 40, 2) := by decide +kernel
theorem dX8_readCall_9 : decode cX8_readCall 9 = .ok (.if_icmp .lt 10, 3) := by decide +kernel
theorem dX8_readCall_12 : decode cX8_readCall 12 = .ok (.aload_n 0, 1) := by decide +kernel
theorem dX8_readCall_13 : decode cX8_readCall 13 = .ok (.bipush (-5), 2) := by decide +kernel
theorem dX8_readCall_15 : decode cX8_readCall 15 = .ok (.invokevirtual 67, 3) := by decide +kernel
theorem dX8_readCall_18 : decode cX8_readCall 18 = .ok (.ireturn, 1) := by decide +kernel
theorem dX8_readCall_19 : decode cX8_readCall 19 = .ok (.aload_n 0, 1) := by decide +kernel
theorem dX8_readCall_20 : decode cX8_readCall 20 = .ok (.invokevirtual 45, 3) := by decide +kernel
theorem dX8_readCall_23 : decode cX8_readCall 23 = .ok (.aload_n 0, 1) := by decide +kernel
theorem dX8_readCall_24 : decode cX8_readCall 24 = .ok (.getfield 52, 3) := by decide +kernel
theorem dX8_readCall_27 : decode cX8_readCall 27 = .ok (.iconst 1, 1) := by decide +kernel
theorem dX8_readCall_28 : decode cX8_readCall 28 = .ok (.if_icmp .eq 10, 3) := by decide +kernel
theorem dX8_readCall_31 : decode cX8_readCall 31 = .ok (.aload_n 0, 1) := by decide +kernel
theorem dX8_readCall_32 : decode cX8_readCall 32 = .ok (.bipush (-2), 2) := by decide +kernel
theorem dX8_readCall_34 : decode cX8_readCall 34 = .ok (.invokevirtual 67, 3) := by decide +kernel
theorem dX8_readCall_37 : decode cX8_readCall 37 = .ok (.ireturn, 1) := by decide +kernel
theorem dX8_readCall_38 : decode cX8_readCall 38 = .ok (.aload_n 0, 1) := by decide +kernel
theorem dX8_readCall_39 : decode cX8_readCall 39 = .ok (.getfield 12, 3) := by decide +kernel
theorem dX8_readCall_42 : decode cX8_readCall 42 = .ok (.aload_n 0, 1) := by decide +kernel
theorem dX8_readCall_43 : decode cX8_readCall 43 = .ok (.getfield 111, 3) := by decide +kernel
theorem dX8_readCall_46 : decode cX8_readCall 46 = .ok (.invokevirtual 114, 3) := by decide +kernel
theorem dX8_readCall_49 : decode cX8_readCall 49 = .ok (.istore_n 1, 1) := by decide +kernel
theorem dX8_readCall_50 : decode cX8_readCall 50 = .ok (.iload_n 1, 1) := by decide +kernel
theorem dX8_readCall_51 : decode cX8_readCall 51 = .ok (.iconst (-1), 1) := by decide +kernel
theorem dX8_readCall_52 : decode cX8_readCall 52 = .ok (.if_icmp .ne 10, 3) := by decide +kernel
theorem dX8_readCall_55 : decode cX8_readCall 55 = .ok (.aload_n 0, 1) := by decide +kernel
theorem dX8_readCall_56 : decode cX8_readCall 56 = .ok (.bipush (-4), 2) := by decide +kernel
theorem dX8_readCall_58 : decode cX8_readCall 58 = .ok (.invokevirtual 67, 3) := by decide +kernel
theorem dX8_readCall_61 : decode cX8_readCall 61 = .ok (.ireturn, 1) := by decide +kernel
theorem dX8_readCall_62 : decode cX8_readCall 62 = .ok (.aload_n 0, 1) := by decide +kernel
theorem dX8_readCall_63 : decode cX8_readCall 63 = .ok (.invokevirtual 45, 3) := by decide +kernel
theorem dX8_readCall_66 : decode cX8_readCall 66 = .ok (.aload_n 0, 1) := by decide +kernel
theorem dX8_readCall_67 : decode cX8_readCall 67 = .ok (.bipush 6, 2) := by decide +kernel
theorem dX8_readCall_69 : decode cX8_readCall 69 = .ok (.invokevirtual 108, 3) := by decide +kernel
theorem dX8_readCall_72 : decode cX8_readCall 72 = .ok (.ifCond .ne 5, 3) := by decide +kernel
theorem dX8_readCall_75 : decode cX8_readCall 75 = .ok (.iconst 0, 1) := by decide +kernel
theorem dX8_readCall_76 : decode cX8_readCall 76 = .ok (.ireturn, 1) := by decide +kernel
theorem dX8_readCall_77 : decode cX8_readCall 77 = .ok (.aload_n 0, 1) := by decide +kernel
theorem dX8_readCall_78 : decode cX8_readCall 78 = .ok (.getfield 111, 3) := by decide +kernel
theorem dX8_readCall_81 : decode cX8_readCall 81 = .ok (.istore_n 2, 1) := by decide +kernel
theorem dX8_readCall_82 : decode cX8_readCall 82 = .ok (.aload_n 0, 1) := by decide +kernel
theorem dX8_readCall_83 : decode cX8_readCall 83 = .ok (.invokevirtual 45, 3) := by decide +kernel
theorem dX8_readCall_86 : decode cX8_readCall 86 = .ok (.aload_n 0, 1) := by decide +kernel
theorem dX8_readCall_87 : decode cX8_readCall 87 = .ok (.iconst 1, 1) := by decide +kernel
theorem dX8_readCall_88 : decode cX8_readCall 88 = .ok (.bipush 99, 2) := by decide +kernel
theorem dX8_readCall_90 : decode cX8_readCall 90 = .ok (.invokevirtual 71, 3) := by decide +kernel
theorem dX8_readCall_93 : decode cX8_readCall 93 = .ok (.ifCond .ne 5, 3) := by decide +kernel
theorem dX8_readCall_96 : decode cX8_readCall 96 = .ok (.iconst 0, 1) := by decide +kernel
theorem dX8_readCall_97 : decode cX8_readCall 97 = .ok (.ireturn, 1) := by decide +kernel
theorem dX8_readCall_98 : decode cX8_readCall 98 = .ok (.aload_n 0, 1) := by decide +kernel
theorem dX8_readCall_99 : decode cX8_readCall 99 = .ok (.getfield 75, 3) := by decide +kernel
theorem dX8_readCall_102 : decode cX8_readCall 102 = .ok (.istore_n 3, 1) := by decide +kernel
theorem dX8_readCall_103 : decode cX8_readCall 103 = .ok (.aload_n 0, 1) := by decide +kernel
theorem dX8_readCall_104 : decode cX8_readCall 104 = .ok (.invokevirtual 45, 3) := by decide +kernel
theorem dX8_readCall_107 : decode cX8_readCall 107 = .ok (.aload_n 0, 1) := by decide +kernel
theorem dX8_readCall_108 : decode cX8_readCall 108 = .ok (.iconst 1, 1) := by decide +kernel
theorem dX8_readCall_109 : decode cX8_readCall 109 = .ok (.sipush 999, 3) := by decide +kernel
theorem dX8_readCall_112 : decode cX8_readCall 112 = .ok (.invokevirtual 71, 3) := by decide +kernel
theorem dX8_readCall_115 : decode cX8_readCall 115 = .ok (.ifCond .ne 5, 3) := by decide +kernel
theorem dX8_readCall_118 : decode cX8_readCall 118 = .ok (.iconst 0, 1) := by decide +kernel
theorem dX8_readCall_119 : decode cX8_readCall 119 = .ok (.ireturn, 1) := by decide +kernel
theorem dX8_readCall_120 : decode cX8_readCall 120 = .ok (.aload_n 0, 1) := by decide +kernel
theorem dX8_readCall_121 : decode cX8_readCall 121 = .ok (.getfield 12, 3) := by decide +kernel
theorem dX8_readCall_124 : decode cX8_readCall 124 = .ok (.iload_n 1, 1) := by decide +kernel
theorem dX8_readCall_125 : decode cX8_readCall 125 = .ok (.iload_n 2, 1) := by decide +kernel
theorem dX8_readCall_126 : decode cX8_readCall 126 = .ok (.iload_n 3, 1) := by decide +kernel
theorem dX8_readCall_127 : decode cX8_readCall 127 = .ok (.aload_n 0, 1) := by decide +kernel
theorem dX8_readCall_128 : decode cX8_readCall 128 = .ok (.getfield 75, 3) := by decide +kernel
theorem dX8_readCall_131 : decode cX8_readCall 131 = .ok (.invokevirtual 170, 3) := by decide +kernel
theorem dX8_readCall_134 : decode cX8_readCall 134 = .ok (.pop, 1) := by decide +kernel
theorem dX8_readCall_135 : decode cX8_readCall 135 = .ok (.aload_n 0, 1) := by decide +kernel
theorem dX8_readCall_136 : decode cX8_readCall 136 = .ok (.invokevirtual 45, 3) := by decide +kernel
theorem dX8_readCall_139 : decode cX8_readCall 139 = .ok (.iconst 1, 1) := by decide +kernel
theorem dX8_readCall_140 : decode cX8_readCall 140 = .ok (.ireturn, 1) := by decide +kernel
theorem dX8_readRule_0 : decode cX8_readRule 0 = .ok (.aload_n 0, 1) := by decide +kernel
theorem dX8_readRule_1 : decode cX8_readRule 1 = .ok (.ldc 174, 2) := by decide +kernel
theorem dX8_readRule_3 : decode cX8_readRule 3 = .ok (.invokevirtual 63, 3) := by decide +kernel
theorem dX8_readRule_6 : decode cX8_readRule 6 = .ok (.ifCond .eq 21, 3) := by decide +kernel
theorem dX8_readRule_9 : decode cX8_readRule 9 = .ok (.aload_n 0, 1) := by decide +kernel
theorem dX8_readRule_10 : decode cX8_readRule 10 = .ok (.getfield 35, 3) := by decide +kernel
theorem dX8_readRule_13 : decode cX8_readRule 13 = .ok (.ifCond .ne 14, 3) := by decide +kernel
theorem dX8_readRule_16 : decode cX8_readRule 16 = .ok (.bipush 19, 2) := by decide +kernel
theorem dX8_readRule_18 : decode cX8_readRule 18 = .ok (.istore_n 1, 1) := by decide +kernel
theorem dX8_readRule_19 : decode cX8_readRule 19 = .ok (.aload_n 0, 1) := by decide +kernel
theorem dX8_readRule_20 : decode cX8_readRule 20 = .ok (.iconst 1, 1) := by decide +kernel
theorem dX8_readRule_21 : decode cX8_readRule 21 = .ok (.putfield 35, 3) := by decide +kernel
theorem dX8_readRule_24 : decode cX8_readRule 24 = .ok (.goto 64, 3) := by decide +kernel
theorem dX8_readRule_27 : decode cX8_readRule 27 = .ok (.aload_n 0, 1) := by decide +kernel
theorem dX8_readRule_28 : decode cX8_readRule 28 = .ok (.ldc 176, 2) := by decide +kernel
theorem dX8_readRule_30 : decode cX8_readRule 30 = .ok (.invokevirtual 63, 3) := by decide +kernel
theorem dX8_readRule_33 : decode cX8_readRule 33 = .ok (.ifCond .eq 21, 3) := by decide +kernel
theorem dX8_readRule_36 : decode cX8_readRule 36 = .ok (.aload_n 0, 1) := by decide +kernel
theorem dX8_readRule_37 : decode cX8_readRule 37 = .ok (.getfield 39, 3) := by decide +kernel
theorem dX8_readRule_40 : decode cX8_readRule 40 = .ok (.ifCond .ne 14, 3) := by decide +kernel
theorem dX8_readRule_43 : decode cX8_readRule 43 = .ok (.bipush 20, 2) := by decide +kernel
theorem dX8_readRule_45 : decode cX8_readRule 45 = .ok (.istore_n 1, 1) := by decide +kernel
theorem dX8_readRule_46 : decode cX8_readRule 46 = .ok (.aload_n 0, 1) := by decide +kernel
theorem dX8_readRule_47 : decode cX8_readRule 47 = .ok (.iconst 1, 1) := by decide +kernel
theorem dX8_readRule_48 : decode cX8_readRule 48 = .ok (.putfield 39, 3) := by decide +kernel
theorem dX8_readRule_51 : decode cX8_readRule 51 = .ok (.goto 37, 3) := by decide +kernel
theorem dX8_readRule_54 : decode cX8_readRule 54 = .ok (.aload_n 0, 1) := by decide +kernel
theorem dX8_readRule_55 : decode cX8_readRule 55 = .ok (.ldc 178, 2) := by decide +kernel
theorem dX8_readRule_57 : decode cX8_readRule 57 = .ok (.invokevirtual 63, 3) := by decide +kernel
theorem dX8_readRule_60 : decode cX8_readRule 60 = .ok (.ifCond .eq 21, 3) := by decide +kernel
theorem dX8_readRule_63 : decode cX8_readRule 63 = .ok (.aload_n 0, 1) := by decide +kernel
theorem dX8_readRule_64 : decode cX8_readRule 64 = .ok (.getfield 42, 3) := by decide +kernel
theorem dX8_readRule_67 : decode cX8_readRule 67 = .ok (.ifCond .ne 14, 3) := by decide +kernel
theorem dX8_readRule_70 : decode cX8_readRule 70 = .ok (.bipush 21, 2) := by decide +kernel
theorem dX8_readRule_72 : decode cX8_readRule 72 = .ok (.istore_n 1, 1) := by decide +kernel
theorem dX8_readRule_73 : decode cX8_readRule 73 = .ok (.aload_n 0, 1) := by decide +kernel
theorem dX8_readRule_74 : decode cX8_readRule 74 = .ok (.iconst 1, 1) := by decide +kernel
theorem dX8_readRule_75 : decode cX8_readRule 75 = .ok (.putfield 42, 3) := by decide +kernel
theorem dX8_readRule_78 : decode cX8_readRule 78 = .ok (.goto 10, 3) := by decide +kernel
theorem dX8_readRule_81 : decode cX8_readRule 81 = .ok (.aload_n 0, 1) := by decide +kernel
theorem dX8_readRule_82 : decode cX8_readRule 82 = .ok (.bipush (-2), 2) := by decide +kernel
theorem dX8_readRule_84 : decode cX8_readRule 84 = .ok (.invokevirtual 67, 3) := by decide +kernel
theorem dX8_readRule_87 : decode cX8_readRule 87 = .ok (.ireturn, 1) := by decide +kernel
theorem dX8_readRule_88 : decode cX8_readRule 88 = .ok (.aload_n 0, 1) := by decide +kernel
theorem dX8_readRule_89 : decode cX8_readRule 89 = .ok (.invokevirtual 45, 3) := by decide +kernel
theorem dX8_readRule_92 : decode cX8_readRule 92 = .ok (.aload_n 0, 1) := by decide +kernel
theorem dX8_readRule_93 : decode cX8_readRule 93 = .ok (.iconst 1, 1) := by decide +kernel
theorem dX8_readRule_94 : decode cX8_readRule 94 = .ok (.iload_n 1, 1) := by decide +kernel
theorem dX8_readRule_95 : decode cX8_readRule 95 = .ok (.invokestatic 180, 3) := by decide +kernel
theorem dX8_readRule_98 : decode cX8_readRule 98 = .ok (.invokevirtual 71, 3) := by decide +kernel
theorem dX8_readRule_101 : decode cX8_readRule 101 = .ok (.ifCond .ne 5, 3) := by decide +kernel
theorem dX8_readRule_104 : decode cX8_readRule 104 = .ok (.iconst 0, 1) := by decide +kernel
theorem dX8_readRule_105 : decode cX8_readRule 105 = .ok (.ireturn, 1) := by decide +kernel
theorem dX8_readRule_106 : decode cX8_readRule 106 = .ok (.aload_n 0, 1) := by decide +kernel
theorem dX8_readRule_107 : decode cX8_readRule 107 = .ok (.getfield 12, 3) := by decide +kernel
theorem dX8_readRule_110 : decode cX8_readRule 110 = .ok (.iload_n 1, 1) := by decide +kernel
theorem dX8_readRule_111 : decode cX8_readRule 111 = .ok (.aload_n 0, 1) := by decide +kernel
theorem dX8_readRule_112 : decode cX8_readRule 112 = .ok (.getfield 75, 3) := by decide +kernel
theorem dX8_readRule_115 : decode cX8_readRule 115 = .ok (.invokevirtual 183, 3) := by decide +kernel
theorem dX8_readRule_118 : decode cX8_readRule 118 = .ok (.pop, 1) := by decide +kernel
theorem dX8_readRule_119 : decode cX8_readRule 119 = .ok (.aload_n 0, 1) := by decide +kernel
theorem dX8_readRule_120 : decode cX8_readRule 120 = .ok (.invokevirtual 45, 3) := by decide +kernel
theorem dX8_readRule_123 : decode cX8_readRule 123 = .ok (.iconst 1, 1) := by decide +kernel
theorem dX8_readRule_124 : decode cX8_readRule 124 = .ok (.ireturn, 1) := by decide +kernel
theorem dX8_passSemicolon_0 : decode cX8_passSemicolon 0 = .ok (.aload_n 0, 1) := by decide +kernel
theorem dX8_passSemicolon_1 : decode cX8_passSemicolon 1 = .ok (.getfield 52, 3) := by decide +kernel
theorem dX8_passSemicolon_4 : decode cX8_passSemicolon 4 = .ok (.iconst 3, 1) := by decide +kernel
theorem dX8_passSemicolon_5 : decode cX8_passSemicolon 5 = .ok (.if_icmp .eq 10, 3) := by decide +kernel
theorem dX8_passSemicolon_8 : decode cX8_passSemicolon 8 = .ok (.aload_n 0, 1) := by decide +kernel
theorem dX8_passSemicolon_9 : decode cX8_passSemicolon 9 = .ok (.bipush (-2), 2) := by decide +kernel
theorem dX8_passSemicolon_11 : decode cX8_passSemicolon 11 = .ok (.invokevirtual 67, 3) := by decide +kernel
theorem dX8_passSemicolon_14 : decode cX8_passSemicolon 14 = .ok (.ireturn, 1) := by decide +kernel
theorem dX8_passSemicolon_15 : decode cX8_passSemicolon 15 = .ok (.aload_n 0, 1) := by decide +kernel
theorem dX8_passSemicolon_16 : decode cX8_passSemicolon 16 = .ok (.invokevirtual 45, 3) := by decide +kernel
theorem dX8_passSemicolon_19 : decode cX8_passSemicolon 19 = .ok (.iconst 1, 1) := by decide +kernel
theorem dX8_passSemicolon_20 : decode cX8_passSemicolon 20 = .ok (.ireturn, 1) := by decide +kernel
theorem dX8_checkNumber_0 : decode cX8_checkNumber 0 = .ok (.aload_n 0, 1) := by decide +kernel
theorem dX8_checkNumber_1 : decode cX8_checkNumber 1 = .ok (.getfield 52, 3) := by decide +kernel
theorem dX8_checkNumber_4 : decode cX8_checkNumber 4 = .ok (.iconst 1, 1) := by decide +kernel
theorem dX8_checkNumber_5 : decode cX8_checkNumber 5 = .ok (.if_icmp .eq 10, 3) := by decide +kernel
theorem dX8_checkNumber_8 : decode cX8_checkNumber 8 = .ok (.aload_n 0, 1) := by decide +kernel
theorem dX8_checkNumber_9 : decode cX8_checkNumber 9 = .ok (.bipush (-2), 2) := by decide +kernel
theorem dX8_checkNumber_11 : decode cX8_checkNumber 11 = .ok (.invokevirtual 67, 3) := by decide +kernel
theorem dX8_checkNumber_14 : decode cX8_checkNumber 14 = .ok (.ireturn, 1) := by decide +kernel
theorem dX8_checkNumber_15 : decode cX8_checkNumber 15 = .ok (.aload_n 0, 1) := by decide +kernel
theorem dX8_checkNumber_16 : decode cX8_checkNumber 16 = .ok (.getfield 75, 3) := by decide +kernel
theorem dX8_checkNumber_19 : decode cX8_checkNumber 19 = .ok (.iload_n 1, 1) := by decide +kernel
theorem dX8_checkNumber_20 : decode cX8_checkNumber 20 = .ok (.if_icmp .lt 11, 3) := by decide +kernel
theorem dX8_checkNumber_23 : decode cX8_checkNumber 23 = .ok (.aload_n 0, 1) := by decide +kernel
theorem dX8_checkNumber_24 : decode cX8_checkNumber 24 = .ok (.getfield 75, 3) := by decide +kernel
theorem dX8_checkNumber_27 : decode cX8_checkNumber 27 = .ok (.iload_n 2, 1) := by decide +kernel
theorem dX8_checkNumber_28 : decode cX8_checkNumber 28 = .ok (.if_icmp .le 10, 3) := by decide +kernel
theorem dX8_checkNumber_31 : decode cX8_checkNumber 31 = .ok (.aload_n 0, 1) := by decide +kernel
theorem dX8_checkNumber_32 : decode cX8_checkNumber 32 = .ok (.bipush (-3), 2) := by decide +kernel
theorem dX8_checkNumber_34 : decode cX8_checkNumber 34 = .ok (.invokevirtual 67, 3) := by decide +kernel
theorem dX8_checkNumber_37 : decode cX8_checkNumber 37 = .ok (.ireturn, 1) := by decide +kernel
theorem dX8_checkNumber_38 : decode cX8_checkNumber 38 = .ok (.iconst 1, 1) := by decide +kernel
theorem dX8_checkNumber_39 : decode cX8_checkNumber 39 = .ok (.ireturn, 1) := by decide +kernel
theorem dX8_checkDigits_0 : decode cX8_checkDigits 0 = .ok (.aload_n 0, 1) := by decide +kernel
theorem dX8_checkDigits_1 : decode cX8_checkDigits 1 = .ok (.getfield 52, 3) := by decide +kernel
theorem dX8_checkDigits_4 : decode cX8_checkDigits 4 = .ok (.iconst 1, 1) := by decide +kernel
theorem dX8_checkDigits_5 : decode cX8_checkDigits 5 = .ok (.if_icmp .eq 10, 3) := by decide +kernel
theorem dX8_checkDigits_8 : decode cX8_checkDigits 8 = .ok (.aload_n 0, 1) := by decide +kernel
theorem dX8_checkDigits_9 : decode cX8_checkDigits 9 = .ok (.bipush (-2), 2) := by decide +kernel
theorem dX8_checkDigits_11 : decode cX8_checkDigits 11 = .ok (.invokevirtual 67, 3) := by decide +kernel
theorem dX8_checkDigits_14 : decode cX8_checkDigits 14 = .ok (.ireturn, 1) := by decide +kernel
theorem dX8_checkDigits_15 : decode cX8_checkDigits 15 = .ok (.aload_n 0, 1) := by decide +kernel
theorem dX8_checkDigits_16 : decode cX8_checkDigits 16 = .ok (.getfield 187, 3) := by decide +kernel
theorem dX8_checkDigits_19 : decode cX8_checkDigits 19 = .ok (.iload_n 1, 1) := by decide +kernel
theorem dX8_checkDigits_20 : decode cX8_checkDigits 20 = .ok (.if_icmp .le 10, 3) := by decide +kernel
theorem dX8_checkDigits_23 : decode cX8_checkDigits 23 = .ok (.aload_n 0, 1) := by decide +kernel
theorem dX8_checkDigits_24 : decode cX8_checkDigits 24 = .ok (.bipush (-3), 2) := by decide +kernel
theorem dX8_checkDigits_26 : decode cX8_checkDigits 26 = .ok (.invokevirtual 67, 3) := by decide +kernel
theorem dX8_checkDigits_29 : decode cX8_checkDigits 29 = .ok (.ireturn, 1) := by decide +kernel
theorem dX8_checkDigits_30 : decode cX8_checkDigits 30 = .ok (.iconst 1, 1) := by decide +kernel
theorem dX8_checkDigits_31 : decode cX8_checkDigits 31 = .ok (.ireturn, 1) := by decide +kernel
theorem dX8_checkName_0 : decode cX8_checkName 0 = .ok (.aload_n 0, 1) := by decide +kernel
theorem dX8_checkName_1 : decode cX8_checkName 1 = .ok (.getfield 52, 3) := by decide +kernel
theorem dX8_checkName_4 : decode cX8_checkName 4 = .ok (.iconst 2, 1) := by decide +kernel
theorem dX8_checkName_5 : decode cX8_checkName 5 = .ok (.if_icmp .eq 10, 3) := by decide +kernel
theorem dX8_checkName_8 : decode cX8_checkName 8 = .ok (.aload_n 0, 1) := by decide +kernel
theorem dX8_checkName_9 : decode cX8_checkName 9 = .ok (.bipush (-2), 2) := by decide +kernel
theorem dX8_checkName_11 : decode cX8_checkName 11 = .ok (.invokevirtual 67, 3) := by decide +kernel
theorem dX8_checkName_14 : decode cX8_checkName 14 = .ok (.ireturn, 1) := by decide +kernel
theorem dX8_checkName_15 : decode cX8_checkName 15 = .ok (.aload_n 0, 1) := by decide +kernel
theorem dX8_checkName_16 : decode cX8_checkName 16 = .ok (.getfield 187, 3) := by decide +kernel
theorem dX8_checkName_19 : decode cX8_checkName 19 = .ok (.bipush 8, 2) := by decide +kernel
theorem dX8_checkName_21 : decode cX8_checkName 21 = .ok (.if_icmp .le 10, 3) := by decide +kernel
theorem dX8_checkName_24 : decode cX8_checkName 24 = .ok (.aload_n 0, 1) := by decide +kernel
theorem dX8_checkName_25 : decode cX8_checkName 25 = .ok (.bipush (-3), 2) := by decide +kernel
theorem dX8_checkName_27 : decode cX8_checkName 27 = .ok (.invokevirtual 67, 3) := by decide +kernel
theorem dX8_checkName_30 : decode cX8_checkName 30 = .ok (.ireturn, 1) := by decide +kernel
theorem dX8_checkName_31 : decode cX8_checkName 31 = .ok (.iconst 1, 1) := by decide +kernel
theorem dX8_checkName_32 : decode cX8_checkName 32 = .ok (.ireturn, 1) := by decide +kernel
theorem dX8_fail_0 : decode cX8_fail 0 = .ok (.aload_n 0, 1) := by decide +kernel
theorem dX8_fail_1 : decode cX8_fail 1 = .ok (.iload_n 1, 1) := by decide +kernel
theorem dX8_fail_2 : decode cX8_fail 2 = .ok (.putfield 29, 3) := by decide +kernel
theorem dX8_fail_5 : decode cX8_fail 5 = .ok (.aload_n 0, 1) := by decide +kernel
theorem dX8_fail_6 : decode cX8_fail 6 = .ok (.aload_n 0, 1) := by decide +kernel
theorem dX8_fail_7 : decode cX8_fail 7 = .ok (.getfield 190, 3) := by decide +kernel
theorem dX8_fail_10 : decode cX8_fail 10 = .ok (.putfield 32, 3) := by decide +kernel
theorem dX8_fail_13 : decode cX8_fail 13 = .ok (.iconst 0, 1) := by decide +kernel
theorem dX8_fail_14 : decode cX8_fail 14 = .ok (.ireturn, 1) := by decide +kernel
theorem dX8_isWord_0 : decode cX8_isWord 0 = .ok (.aload_n 0, 1) := by decide +kernel
theorem dX8_isWord_1 : decode cX8_isWord 1 = .ok (.getfield 52, 3) := by decide +kernel
theorem dX8_isWord_4 : decode cX8_isWord 4 = .ok (.iconst 2, 1) := by decide +kernel
theorem dX8_isWord_5 : decode cX8_isWord 5 = .ok (.if_icmp .ne 14, 3) := by decide +kernel
theorem dX8_isWord_8 : decode cX8_isWord 8 = .ok (.aload_n 0, 1) := by decide +kernel
theorem dX8_isWord_9 : decode cX8_isWord 9 = .ok (.getfield 187, 3) := by decide +kernel
theorem dX8_isWord_12 : decode cX8_isWord 12 = .ok (.aload_n 1, 1) := by decide +kernel
theorem dX8_isWord_13 : decode cX8_isWord 13 = .ok (.invokevirtual 193, 3) := by decide +kernel
theorem dX8_isWord_16 : decode cX8_isWord 16 = .ok (.if_icmp .eq 5, 3) := by decide +kernel
theorem dX8_isWord_19 : decode cX8_isWord 19 = .ok (.iconst 0, 1) := by decide +kernel
theorem dX8_isWord_20 : decode cX8_isWord 20 = .ok (.ireturn, 1) := by decide +kernel
theorem dX8_isWord_21 : decode cX8_isWord 21 = .ok (.iconst 0, 1) := by decide +kernel
theorem dX8_isWord_22 : decode cX8_isWord 22 = .ok (.istore_n 2, 1) := by decide +kernel
theorem dX8_isWord_23 : decode cX8_isWord 23 = .ok (.iload_n 2, 1) := by decide +kernel
theorem dX8_isWord_24 : decode cX8_isWord 24 = .ok (.aload_n 1, 1) := by decide +kernel
theorem dX8_isWord_25 : decode cX8_isWord 25 = .ok (.invokevirtual 193, 3) := by decide +kernel
theorem dX8_isWord_28 : decode cX8_isWord 28 = .ok (.if_icmp .ge 29, 3) := by decide +kernel
theorem dX8_isWord_31 : decode cX8_isWord 31 = .ok (.aload_n 0, 1) := by decide +kernel
theorem dX8_isWord_32 : decode cX8_isWord 32 = .ok (.aload_n 0, 1) := by decide +kernel
theorem dX8_isWord_33 : decode cX8_isWord 33 = .ok (.getfield 190, 3) := by decide +kernel
theorem dX8_isWord_36 : decode cX8_isWord 36 = .ok (.iload_n 2, 1) := by decide +kernel
theorem dX8_isWord_37 : decode cX8_isWord 37 = .ok (.iadd, 1) := by decide +kernel
theorem dX8_isWord_38 : decode cX8_isWord 38 = .ok (.invokevirtual 199, 3) := by decide +kernel
theorem dX8_isWord_41 : decode cX8_isWord 41 = .ok (.aload_n 1, 1) := by decide +kernel
theorem dX8_isWord_42 : decode cX8_isWord 42 = .ok (.iload_n 2, 1) := by decide +kernel
theorem dX8_isWord_43 : decode cX8_isWord 43 = .ok (.invokevirtual 202, 3) := by decide +kernel
theorem dX8_isWord_46 : decode cX8_isWord 46 = .ok (.if_icmp .eq 5, 3) := by decide +kernel
theorem dX8_isWord_49 : decode cX8_isWord 49 = .ok (.iconst 0, 1) := by decide +kernel
theorem dX8_isWord_50 : decode cX8_isWord 50 = .ok (.ireturn, 1) := by decide +kernel
theorem dX8_isWord_51 : decode cX8_isWord 51 = .ok (.iinc 2 1, 3) := by decide +kernel
theorem dX8_isWord_54 : decode cX8_isWord 54 = .ok (.goto (-31), 3) := by decide +kernel
theorem dX8_isWord_57 : decode cX8_isWord 57 = .ok (.iconst 1, 1) := by decide +kernel
theorem dX8_isWord_58 : decode cX8_isWord 58 = .ok (.ireturn, 1) := by decide +kernel
theorem dX8_advance_0 : decode cX8_advance 0 = .ok (.aload_n 0, 1) := by decide +kernel
theorem dX8_advance_1 : decode cX8_advance 1 = .ok (.getfield 26, 3) := by decide +kernel
theorem dX8_advance_4 : decode cX8_advance 4 = .ok (.aload_n 0, 1) := by decide +kernel
theorem dX8_advance_5 : decode cX8_advance 5 = .ok (.getfield 22, 3) := by decide +kernel
theorem dX8_advance_8 : decode cX8_advance 8 = .ok (.if_icmp .ge 29, 3) := by decide +kernel
theorem dX8_advance_11 : decode cX8_advance 11 = .ok (.aload_n 0, 1) := by decide +kernel
theorem dX8_advance_12 : decode cX8_advance 12 = .ok (.aload_n 0, 1) := by decide +kernel
theorem dX8_advance_13 : decode cX8_advance 13 = .ok (.getfield 26, 3) := by decide +kernel
theorem dX8_advance_16 : decode cX8_advance 16 = .ok (.invokevirtual 199, 3) := by decide +kernel
theorem dX8_advance_19 : decode cX8_advance 19 = .ok (.bipush 32, 2) := by decide +kernel
theorem dX8_advance_21 : decode cX8_advance 21 = .ok (.if_icmp .ne 16, 3) := by decide +kernel
theorem dX8_advance_24 : decode cX8_advance 24 = .ok (.aload_n 0, 1) := by decide +kernel
theorem dX8_advance_25 : decode cX8_advance 25 = .ok (.dup, 1) := by decide +kernel
theorem dX8_advance_26 : decode cX8_advance 26 = .ok (.getfield 26, 3) := by decide +kernel
theorem dX8_advance_29 : decode cX8_advance 29 = .ok (.iconst 1, 1) := by decide +kernel
theorem dX8_advance_30 : decode cX8_advance 30 = .ok (.iadd, 1) := by decide +kernel
theorem dX8_advance_31 : decode cX8_advance 31 = .ok (.putfield 26, 3) := by decide +kernel
theorem dX8_advance_34 : decode cX8_advance 34 = .ok (.goto (-34), 3) := by decide +kernel
theorem dX8_advance_37 : decode cX8_advance 37 = .ok (.aload_n 0, 1) := by decide +kernel
theorem dX8_advance_38 : decode cX8_advance 38 = .ok (.aload_n 0, 1) := by decide +kernel
theorem dX8_advance_39 : decode cX8_advance 39 = .ok (.getfield 26, 3) := by decide +kernel
theorem dX8_advance_42 : decode cX8_advance 42 = .ok (.putfield 190, 3) := by decide +kernel
theorem dX8_advance_45 : decode cX8_advance 45 = .ok (.aload_n 0, 1) := by decide +kernel
theorem dX8_advance_46 : decode cX8_advance 46 = .ok (.iconst 0, 1) := by decide +kernel
theorem dX8_advance_47 : decode cX8_advance 47 = .ok (.putfield 187, 3) := by decide +kernel
theorem dX8_advance_50 : decode cX8_advance 50 = .ok (.aload_n 0, 1) := by decide +kernel
theorem dX8_advance_51 : decode cX8_advance 51 = .ok (.iconst 0, 1) := by decide +kernel
theorem dX8_advance_52 : decode cX8_advance 52 = .ok (.putfield 75, 3) := by decide +kernel
theorem dX8_advance_55 : decode cX8_advance 55 = .ok (.aload_n 0, 1) := by decide +kernel
theorem dX8_advance_56 : decode cX8_advance 56 = .ok (.iconst 1, 1) := by decide +kernel
theorem dX8_advance_57 : decode cX8_advance 57 = .ok (.putfield 111, 3) := by decide +kernel
theorem dX8_advance_60 : decode cX8_advance 60 = .ok (.aload_n 0, 1) := by decide +kernel
theorem dX8_advance_61 : decode cX8_advance 61 = .ok (.lconst 0, 1) := by decide +kernel
theorem dX8_advance_62 : decode cX8_advance 62 = .ok (.putfield 128, 3) := by decide +kernel
theorem dX8_advance_65 : decode cX8_advance 65 = .ok (.aload_n 0, 1) := by decide +kernel
theorem dX8_advance_66 : decode cX8_advance 66 = .ok (.aload_n 0, 1) := by decide +kernel
theorem dX8_advance_67 : decode cX8_advance 67 = .ok (.getfield 26, 3) := by decide +kernel
theorem dX8_advance_70 : decode cX8_advance 70 = .ok (.aload_n 0, 1) := by decide +kernel
theorem dX8_advance_71 : decode cX8_advance 71 = .ok (.getfield 22, 3) := by decide +kernel
theorem dX8_advance_74 : decode cX8_advance 74 = .ok (.if_icmp .ge 17, 3) := by decide +kernel
theorem dX8_advance_77 : decode cX8_advance 77 = .ok (.aload_n 0, 1) := by decide +kernel
theorem dX8_advance_78 : decode cX8_advance 78 = .ok (.aload_n 0, 1) := by decide +kernel
theorem dX8_advance_79 : decode cX8_advance 79 = .ok (.getfield 26, 3) := by decide +kernel
theorem dX8_advance_82 : decode cX8_advance 82 = .ok (.invokevirtual 199, 3) := by decide +kernel
theorem dX8_advance_85 : decode cX8_advance 85 = .ok (.invokestatic 206, 3) := by decide +kernel
theorem dX8_advance_88 : decode cX8_advance 88 = .ok (.goto 4, 3) := by decide +kernel
theorem dX8_advance_91 : decode cX8_advance 91 = .ok (.iconst 0, 1) := by decide +kernel
theorem dX8_advance_92 : decode cX8_advance 92 = .ok (.putfield 52, 3) := by decide +kernel
theorem dX8_advance_95 : decode cX8_advance 95 = .ok (.iconst 1, 1) := by decide +kernel
theorem dX8_advance_96 : decode cX8_advance 96 = .ok (.istore_n 1, 1) := by decide +kernel
theorem dX8_advance_97 : decode cX8_advance 97 = .ok (.aload_n 0, 1) := by decide +kernel
theorem dX8_advance_98 : decode cX8_advance 98 = .ok (.getfield 26, 3) := by decide +kernel
theorem dX8_advance_101 : decode cX8_advance 101 = .ok (.aload_n 0, 1) := by decide +kernel
theorem dX8_advance_102 : decode cX8_advance 102 = .ok (.getfield 22, 3) := by decide +kernel
theorem dX8_advance_105 : decode cX8_advance 105 = .ok (.if_icmp .ge 72, 3) := by decide +kernel
theorem dX8_advance_108 : decode cX8_advance 108 = .ok (.iload_n 1, 1) := by decide +kernel
theorem dX8_advance_109 : decode cX8_advance 109 = .ok (.ifCond .eq 68, 3) := by decide +kernel
theorem dX8_advance_112 : decode cX8_advance 112 = .ok (.aload_n 0, 1) := by decide +kernel
theorem dX8_advance_113 : decode cX8_advance 113 = .ok (.aload_n 0, 1) := by decide +kernel
theorem dX8_advance_114 : decode cX8_advance 114 = .ok (.aload_n 0, 1) := by decide +kernel
theorem dX8_advance_115 : decode cX8_advance 115 = .ok (.getfield 26, 3) := by decide +kernel
theorem dX8_advance_118 : decode cX8_advance 118 = .ok (.invokevirtual 199, 3) := by decide +kernel
theorem dX8_advance_121 : decode cX8_advance 121 = .ok (.invokevirtual 209, 3) := by decide +kernel
theorem dX8_advance_124 : decode cX8_advance 124 = .ok (.aload_n 0, 1) := by decide +kernel
theorem dX8_advance_125 : decode cX8_advance 125 = .ok (.dup, 1) := by decide +kernel
theorem dX8_advance_126 : decode cX8_advance 126 = .ok (.getfield 26, 3) := by decide +kernel
theorem dX8_advance_129 : decode cX8_advance 129 = .ok (.iconst 1, 1) := by decide +kernel
theorem dX8_advance_130 : decode cX8_advance 130 = .ok (.iadd, 1) := by decide +kernel
theorem dX8_advance_131 : decode cX8_advance 131 = .ok (.putfield 26, 3) := by decide +kernel
theorem dX8_advance_134 : decode cX8_advance 134 = .ok (.aload_n 0, 1) := by decide +kernel
theorem dX8_advance_135 : decode cX8_advance 135 = .ok (.getfield 52, 3) := by decide +kernel
theorem dX8_advance_138 : decode cX8_advance 138 = .ok (.iconst 1, 1) := by decide +kernel
theorem dX8_advance_139 : decode cX8_advance 139 = .ok (.if_icmp .eq 11, 3) := by decide +kernel
theorem dX8_advance_142 : decode cX8_advance 142 = .ok (.aload_n 0, 1) := by decide +kernel
theorem dX8_advance_143 : decode cX8_advance 143 = .ok (.getfield 52, 3) := by decide +kernel
theorem dX8_advance_146 : decode cX8_advance 146 = .ok (.iconst 2, 1) := by decide +kernel
theorem dX8_advance_147 : decode cX8_advance 147 = .ok (.if_icmp .ne 25, 3) := by decide +kernel
theorem dX8_advance_150 : decode cX8_advance 150 = .ok (.aload_n 0, 1) := by decide +kernel
theorem dX8_advance_151 : decode cX8_advance 151 = .ok (.aload_n 0, 1) := by decide +kernel
theorem dX8_advance_152 : decode cX8_advance 152 = .ok (.getfield 26, 3) := by decide +kernel
theorem dX8_advance_155 : decode cX8_advance 155 = .ok (.invokevirtual 199, 3) := by decide +kernel
theorem dX8_advance_158 : decode cX8_advance 158 = .ok (.invokestatic 206, 3) := by decide +kernel
theorem dX8_advance_161 : decode cX8_advance 161 = .ok (.aload_n 0, 1) := by decide +kernel
theorem dX8_advance_162 : decode cX8_advance 162 = .ok (.getfield 52, 3) := by decide +kernel
theorem dX8_advance_165 : decode cX8_advance 165 = .ok (.if_icmp .ne 7, 3) := by decide +kernel
theorem dX8_advance_168 : decode cX8_advance 168 = .ok (.iconst 1, 1) := by decide +kernel
theorem dX8_advance_169 : decode cX8_advance 169 = .ok (.goto 4, 3) := by decide +kernel
theorem dX8_advance_172 : decode cX8_advance 172 = .ok (.iconst 0, 1) := by decide +kernel
theorem dX8_advance_173 : decode cX8_advance 173 = .ok (.istore_n 1, 1) := by decide +kernel
theorem dX8_advance_174 : decode cX8_advance 174 = .ok (.goto (-77), 3) := by decide +kernel
theorem dX8_advance_177 : decode cX8_advance 177 = .ok (.return_, 1) := by decide +kernel
theorem dX8_kindOf_0 : decode cX8_kindOf 0 = .ok (.iload_n 0, 1) := by decide +kernel
theorem dX8_kindOf_1 : decode cX8_kindOf 1 = .ok (.bipush 48, 2) := by decide +kernel
theorem dX8_kindOf_3 : decode cX8_kindOf 3 = .ok (.if_icmp .lt 11, 3) := by decide +kernel
theorem dX8_kindOf_6 : decode cX8_kindOf 6 = .ok (.iload_n 0, 1) := by decide +kernel
theorem dX8_kindOf_7 : decode cX8_kindOf 7 = .ok (.bipush 57, 2) := by decide +kernel
theorem dX8_kindOf_9 : decode cX8_kindOf 9 = .ok (.if_icmp .gt 5, 3) := by decide +kernel
theorem dX8_kindOf_12 : decode cX8_kindOf 12 = .ok (.iconst 1, 1) := by decide +kernel
theorem dX8_kindOf_13 : decode cX8_kindOf 13 = .ok (.ireturn, 1) := by decide +kernel
theorem dX8_kindOf_14 : decode cX8_kindOf 14 = .ok (.iload_n 0, 1) := by decide +kernel
theorem dX8_kindOf_15 : decode cX8_kindOf 15 = .ok (.bipush 97, 2) := by decide +kernel
theorem dX8_kindOf_17 : decode cX8_kindOf 17 = .ok (.if_icmp .lt 11, 3) := by decide +kernel
theorem dX8_kindOf_20 : decode cX8_kindOf 20 = .ok (.iload_n 0, 1) := by decide +kernel
theorem dX8_kindOf_21 : decode cX8_kindOf 21 = .ok (.bipush 122, 2) := by decide +kernel
theorem dX8_kindOf_23 : decode cX8_kindOf 23 = .ok (.if_icmp .gt 5, 3) := by decide +kernel
theorem dX8_kindOf_26 : decode cX8_kindOf 26 = .ok (.iconst 2, 1) := by decide +kernel
theorem dX8_kindOf_27 : decode cX8_kindOf 27 = .ok (.ireturn, 1) := by decide +kernel
theorem dX8_kindOf_28 : decode cX8_kindOf 28 = .ok (.iload_n 0, 1) := by decide +kernel
theorem dX8_kindOf_29 : decode cX8_kindOf 29 = .ok (.bipush 59, 2) := by decide +kernel
theorem dX8_kindOf_31 : decode cX8_kindOf 31 = .ok (.if_icmp .ne 7, 3) := by decide +kernel
theorem dX8_kindOf_34 : decode cX8_kindOf 34 = .ok (.iconst 3, 1) := by decide +kernel
theorem dX8_kindOf_35 : decode cX8_kindOf 35 = .ok (.goto 4, 3) := by decide +kernel
theorem dX8_kindOf_38 : decode cX8_kindOf 38 = .ok (.iconst 4, 1) := by decide +kernel
theorem dX8_kindOf_39 : decode cX8_kindOf 39 = .ok (.ireturn, 1) := by decide +kernel
theorem dX8_addToToken_0 : decode cX8_addToToken 0 = .ok (.aload_n 0, 1) := by decide +kernel
theorem dX8_addToToken_1 : decode cX8_addToToken 1 = .ok (.getfield 52, 3) := by decide +kernel
theorem dX8_addToToken_4 : decode cX8_addToToken 4 = .ok (.iconst 1, 1) := by decide +kernel
theorem dX8_addToToken_5 : decode cX8_addToToken 5 = .ok (.if_icmp .ne 67, 3) := by decide +kernel
theorem dX8_addToToken_8 : decode cX8_addToToken 8 = .ok (.aload_n 0, 1) := by decide +kernel
theorem dX8_addToToken_9 : decode cX8_addToToken 9 = .ok (.aload_n 0, 1) := by decide +kernel
theorem dX8_addToToken_10 : decode cX8_addToToken 10 = .ok (.getfield 75, 3) := by decide +kernel
theorem dX8_addToToken_13 : decode cX8_addToToken 13 = .ok (.sipush 1000, 3) := by decide +kernel
theorem dX8_addToToken_16 : decode cX8_addToToken 16 = .ok (.if_icmp .ge 18, 3) := by decide +kernel
theorem dX8_addToToken_19 : decode cX8_addToToken 19 = .ok (.aload_n 0, 1) := by decide +kernel
theorem dX8_addToToken_20 : decode cX8_addToToken 20 = .ok (.getfield 75, 3) := by decide +kernel
theorem dX8_addToToken_23 : decode cX8_addToToken 23 = .ok (.bipush 10, 2) := by decide +kernel
theorem dX8_addToToken_25 : decode cX8_addToToken 25 = .ok (.imul, 1) := by decide +kernel
theorem dX8_addToToken_26 : decode cX8_addToToken 26 = .ok (.iload_n 1, 1) := by decide +kernel
theorem dX8_addToToken_27 : decode cX8_addToToken 27 = .ok (.bipush 48, 2) := by decide +kernel
theorem dX8_addToToken_29 : decode cX8_addToToken 29 = .ok (.isub, 1) := by decide +kernel
theorem dX8_addToToken_30 : decode cX8_addToToken 30 = .ok (.iadd, 1) := by decide +kernel
theorem dX8_addToToken_31 : decode cX8_addToToken 31 = .ok (.goto 6, 3) := by decide +kernel
theorem dX8_addToToken_34 : decode cX8_addToToken 34 = .ok (.sipush 1000, 3) := by decide +kernel
theorem dX8_addToToken_37 : decode cX8_addToToken 37 = .ok (.putfield 75, 3) := by decide +kernel
theorem dX8_addToToken_40 : decode cX8_addToToken 40 = .ok (.aload_n 0, 1) := by decide +kernel
theorem dX8_addToToken_41 : decode cX8_addToToken 41 = .ok (.aload_n 0, 1) := by decide +kernel
theorem dX8_addToToken_42 : decode cX8_addToToken 42 = .ok (.getfield 187, 3) := by decide +kernel
theorem dX8_addToToken_45 : decode cX8_addToToken 45 = .ok (.bipush 6, 2) := by decide +kernel
theorem dX8_addToToken_47 : decode cX8_addToToken 47 = .ok (.if_icmp .ge 18, 3) := by decide +kernel
theorem dX8_addToToken_50 : decode cX8_addToToken 50 = .ok (.aload_n 0, 1) := by decide +kernel
theorem dX8_addToToken_51 : decode cX8_addToToken 51 = .ok (.getfield 111, 3) := by decide +kernel
theorem dX8_addToToken_54 : decode cX8_addToToken 54 = .ok (.bipush 10, 2) := by decide +kernel
theorem dX8_addToToken_56 : decode cX8_addToToken 56 = .ok (.imul, 1) := by decide +kernel
theorem dX8_addToToken_57 : decode cX8_addToToken 57 = .ok (.iload_n 1, 1) := by decide +kernel
theorem dX8_addToToken_58 : decode cX8_addToToken 58 = .ok (.bipush 48, 2) := by decide +kernel
theorem dX8_addToToken_60 : decode cX8_addToToken 60 = .ok (.isub, 1) := by decide +kernel
theorem dX8_addToToken_61 : decode cX8_addToToken 61 = .ok (.iadd, 1) := by decide +kernel
theorem dX8_addToToken_62 : decode cX8_addToToken 62 = .ok (.goto 4, 3) := by decide +kernel
theorem dX8_addToToken_65 : decode cX8_addToToken 65 = .ok (.iconst 0, 1) := by decide +kernel
theorem dX8_addToToken_66 : decode cX8_addToToken 66 = .ok (.putfield 111, 3) := by decide +kernel
theorem dX8_addToToken_69 : decode cX8_addToToken 69 = .ok (.goto 44, 3) := by decide +kernel
theorem dX8_addToToken_72 : decode cX8_addToToken 72 = .ok (.aload_n 0, 1) := by decide +kernel
theorem dX8_addToToken_73 : decode cX8_addToToken 73 = .ok (.getfield 52, 3) := by decide +kernel
theorem dX8_addToToken_76 : decode cX8_addToToken 76 = .ok (.iconst 2, 1) := by decide +kernel
theorem dX8_addToToken_77 : decode cX8_addToToken 77 = .ok (.if_icmp .ne 36, 3) := by decide +kernel
theorem dX8_addToToken_80 : decode cX8_addToToken 80 = .ok (.aload_n 0, 1) := by decide +kernel
theorem dX8_addToToken_81 : decode cX8_addToToken 81 = .ok (.aload_n 0, 1) := by decide +kernel
theorem dX8_addToToken_82 : decode cX8_addToToken 82 = .ok (.getfield 187, 3) := by decide +kernel
theorem dX8_addToToken_85 : decode cX8_addToToken 85 = .ok (.bipush 8, 2) := by decide +kernel
theorem dX8_addToToken_87 : decode cX8_addToToken 87 = .ok (.if_icmp .ge 22, 3) := by decide +kernel
theorem dX8_addToToken_90 : decode cX8_addToToken 90 = .ok (.aload_n 0, 1) := by decide +kernel
theorem dX8_addToToken_91 : decode cX8_addToToken 91 = .ok (.getfield 128, 3) := by decide +kernel
theorem dX8_addToToken_94 : decode cX8_addToToken 94 = .ok (.ldc2_w 212, 3) := by decide +kernel
theorem dX8_addToToken_97 : decode cX8_addToToken 97 = .ok (.lmul, 1) := by decide +kernel
theorem dX8_addToToken_98 : decode cX8_addToToken 98 = .ok (.iload_n 1, 1) := by decide +kernel
theorem dX8_addToToken_99 : decode cX8_addToToken 99 = .ok (.bipush 97, 2) := by decide +kernel
theorem dX8_addToToken_101 : decode cX8_addToToken 101 = .ok (.isub, 1) := by decide +kernel
theorem dX8_addToToken_102 : decode cX8_addToToken 102 = .ok (.iconst 1, 1) := by decide +kernel
theorem dX8_addToToken_103 : decode cX8_addToToken 103 = .ok (.iadd, 1) := by decide +kernel
theorem dX8_addToToken_104 : decode cX8_addToToken 104 = .ok (.i2l, 1) := by decide +kernel
theorem dX8_addToToken_105 : decode cX8_addToToken 105 = .ok (.ladd, 1) := by decide +kernel
theorem dX8_addToToken_106 : decode cX8_addToToken 106 = .ok (.goto 4, 3) := by decide +kernel
theorem dX8_addToToken_109 : decode cX8_addToToken 109 = .ok (.lconst 0, 1) := by decide +kernel
theorem dX8_addToToken_110 : decode cX8_addToToken 110 = .ok (.putfield 128, 3) := by decide +kernel
theorem dX8_addToToken_113 : decode cX8_addToToken 113 = .ok (.aload_n 0, 1) := by decide +kernel
theorem dX8_addToToken_114 : decode cX8_addToToken 114 = .ok (.dup, 1) := by decide +kernel
theorem dX8_addToToken_115 : decode cX8_addToToken 115 = .ok (.getfield 187, 3) := by decide +kernel
theorem dX8_addToToken_118 : decode cX8_addToToken 118 = .ok (.iconst 1, 1) := by decide +kernel
theorem dX8_addToToken_119 : decode cX8_addToToken 119 = .ok (.iadd, 1) := by decide +kernel
theorem dX8_addToToken_120 : decode cX8_addToToken 120 = .ok (.putfield 187, 3) := by decide +kernel
theorem dX8_addToToken_123 : decode cX8_addToToken 123 = .ok (.return_, 1) := by decide +kernel
theorem dX8_signAt_0 : decode cX8_signAt 0 = .ok (.iload_n 1, 1) := by decide +kernel
theorem dX8_signAt_1 : decode cX8_signAt 1 = .ok (.ifCond .lt 29, 3) := by decide +kernel
theorem dX8_signAt_4 : decode cX8_signAt 4 = .ok (.iload_n 1, 1) := by decide +kernel
theorem dX8_signAt_5 : decode cX8_signAt 5 = .ok (.aload_n 0, 1) := by decide +kernel
theorem dX8_signAt_6 : decode cX8_signAt 6 = .ok (.getfield 22, 3) := by decide +kernel
theorem dX8_signAt_9 : decode cX8_signAt 9 = .ok (.if_icmp .ge 21, 3) := by decide +kernel
theorem dX8_signAt_12 : decode cX8_signAt 12 = .ok (.iload_n 1, 1) := by decide +kernel
theorem dX8_signAt_13 : decode cX8_signAt 13 = .ok (.aload_n 0, 1) := by decide +kernel
theorem dX8_signAt_14 : decode cX8_signAt 14 = .ok (.getfield 18, 3) := by decide +kernel
theorem dX8_signAt_17 : decode cX8_signAt 17 = .ok (.arraylength, 1) := by decide +kernel
theorem dX8_signAt_18 : decode cX8_signAt 18 = .ok (.if_icmp .ge 12, 3) := by decide +kernel
theorem dX8_signAt_21 : decode cX8_signAt 21 = .ok (.aload_n 0, 1) := by decide +kernel
theorem dX8_signAt_22 : decode cX8_signAt 22 = .ok (.getfield 18, 3) := by decide +kernel
theorem dX8_signAt_25 : decode cX8_signAt 25 = .ok (.iload_n 1, 1) := by decide +kernel
theorem dX8_signAt_26 : decode cX8_signAt 26 = .ok (.baload, 1) := by decide +kernel
theorem dX8_signAt_27 : decode cX8_signAt 27 = .ok (.goto 4, 3) := by decide +kernel
theorem dX8_signAt_30 : decode cX8_signAt 30 = .ok (.iconst 0, 1) := by decide +kernel
theorem dX8_signAt_31 : decode cX8_signAt 31 = .ok (.ireturn, 1) := by decide +kernel
theorem dX9_init_0 : decode cX9_init 0 = .ok (.aload_n 0, 1) := by decide +kernel
theorem dX9_init_1 : decode cX9_init 1 = .ok (.invokespecial 1, 3) := by decide +kernel
theorem dX9_init_4 : decode cX9_init 4 = .ok (.aload_n 0, 1) := by decide +kernel
theorem dX9_init_5 : decode cX9_init 5 = .ok (.sipush 700, 3) := by decide +kernel
theorem dX9_init_8 : decode cX9_init 8 = .ok (.newarray .byte, 2) := by decide +kernel
theorem dX9_init_10 : decode cX9_init 10 = .ok (.putfield 9, 3) := by decide +kernel
theorem dX9_init_13 : decode cX9_init 13 = .ok (.aload_n 0, 1) := by decide +kernel
theorem dX9_init_14 : decode cX9_init 14 = .ok (.iconst 0, 1) := by decide +kernel
theorem dX9_init_15 : decode cX9_init 15 = .ok (.putfield 13, 3) := by decide +kernel
theorem dX9_init_18 : decode cX9_init 18 = .ok (.aload_n 0, 1) := by decide +kernel
theorem dX9_init_19 : decode cX9_init 19 = .ok (.iconst (-1), 1) := by decide +kernel
theorem dX9_init_20 : decode cX9_init 20 = .ok (.putfield 17, 3) := by decide +kernel
theorem dX9_init_23 : decode cX9_init 23 = .ok (.aload_n 0, 1) := by decide +kernel
theorem dX9_init_24 : decode cX9_init 24 = .ok (.new 20, 3) := by decide +kernel
theorem dX9_init_27 : decode cX9_init 27 = .ok (.dup, 1) := by decide +kernel
theorem dX9_init_28 : decode cX9_init 28 = .ok (.invokespecial 22, 3) := by decide +kernel
theorem dX9_init_31 : decode cX9_init 31 = .ok (.putfield 23, 3) := by decide +kernel
theorem dX9_init_34 : decode cX9_init 34 = .ok (.aload_n 0, 1) := by decide +kernel
theorem dX9_init_35 : decode cX9_init 35 = .ok (.new 20, 3) := by decide +kernel
theorem dX9_init_38 : decode cX9_init 38 = .ok (.dup, 1) := by decide +kernel
theorem dX9_init_39 : decode cX9_init 39 = .ok (.invokespecial 22, 3) := by decide +kernel
theorem dX9_init_42 : decode cX9_init 42 = .ok (.putfield 27, 3) := by decide +kernel
theorem dX9_init_45 : decode cX9_init 45 = .ok (.aload_n 0, 1) := by decide +kernel
theorem dX9_init_46 : decode cX9_init 46 = .ok (.new 30, 3) := by decide +kernel
theorem dX9_init_49 : decode cX9_init 49 = .ok (.dup, 1) := by decide +kernel
theorem dX9_init_50 : decode cX9_init 50 = .ok (.invokespecial 32, 3) := by decide +kernel
theorem dX9_init_53 : decode cX9_init 53 = .ok (.putfield 33, 3) := by decide +kernel
theorem dX9_init_56 : decode cX9_init 56 = .ok (.aload_n 0, 1) := by decide +kernel
theorem dX9_init_57 : decode cX9_init 57 = .ok (.new 37, 3) := by decide +kernel
theorem dX9_init_60 : decode cX9_init 60 = .ok (.dup, 1) := by decide +kernel
theorem dX9_init_61 : decode cX9_init 61 = .ok (.invokespecial 39, 3) := by decide +kernel
theorem dX9_init_64 : decode cX9_init 64 = .ok (.putfield 40, 3) := by decide +kernel
theorem dX9_init_67 : decode cX9_init 67 = .ok (.return_, 1) := by decide +kernel
theorem dX9_append_0 : decode cX9_append 0 = .ok (.aload_n 0, 1) := by decide +kernel
theorem dX9_append_1 : decode cX9_append 1 = .ok (.getfield 13, 3) := by decide +kernel
theorem dX9_append_4 : decode cX9_append 4 = .ok (.bipush 20, 2) := by decide +kernel
theorem dX9_append_6 : decode cX9_append 6 = .ok (.iadd, 1) := by decide +kernel
theorem dX9_append_7 : decode cX9_append 7 = .ok (.sipush 700, 3) := by decide +kernel
theorem dX9_append_10 : decode cX9_append 10 = .ok (.if_icmp .le 5, 3) := by decide +kernel
theorem dX9_append_13 : decode cX9_append 13 = .ok (.iconst (-1), 1) := by decide +kernel
theorem dX9_append_14 : decode cX9_append 14 = .ok (.ireturn, 1) := by decide +kernel
theorem dX9_append_15 : decode cX9_append 15 = .ok (.aload_n 0, 1) := by decide +kernel
theorem dX9_append_16 : decode cX9_append 16 = .ok (.iload_n 1, 1) := by decide +kernel
theorem dX9_append_17 : decode cX9_append 17 = .ok (.invokevirtual 44, 3) := by decide +kernel
theorem dX9_append_20 : decode cX9_append 20 = .ok (.aload_n 0, 1) := by decide +kernel
theorem dX9_append_21 : decode cX9_append 21 = .ok (.iload_n 2, 1) := by decide +kernel
theorem dX9_append_22 : decode cX9_append 22 = .ok (.invokevirtual 44, 3) := by decide +kernel
theorem dX9_append_25 : decode cX9_append 25 = .ok (.aload_n 0, 1) := by decide +kernel
theorem dX9_append_26 : decode cX9_append 26 = .ok (.iload_n 3, 1) := by decide +kernel
theorem dX9_append_27 : decode cX9_append 27 = .ok (.invokevirtual 44, 3) := by decide +kernel
theorem dX9_append_30 : decode cX9_append 30 = .ok (.aload_n 0, 1) := by decide +kernel
theorem dX9_append_31 : decode cX9_append 31 = .ok (.iload 4, 2) := by decide +kernel
theorem dX9_append_33 : decode cX9_append 33 = .ok (.invokevirtual 44, 3) := by decide +kernel
theorem dX9_append_36 : decode cX9_append 36 = .ok (.aload_n 0, 1) := by decide +kernel
theorem dX9_append_37 : decode cX9_append 37 = .ok (.iload 5, 2) := by decide +kernel
theorem dX9_append_39 : decode cX9_append 39 = .ok (.invokevirtual 44, 3) := by decide +kernel
theorem dX9_append_42 : decode cX9_append 42 = .ok (.aload_n 0, 1) := by decide +kernel
theorem dX9_append_43 : decode cX9_append 43 = .ok (.getfield 13, 3) := by decide +kernel
theorem dX9_append_46 : decode cX9_append 46 = .ok (.ireturn, 1) := by decide +kernel
theorem dX9_load_0 : decode cX9_load 0 = .ok (.iload_n 1, 1) := by decide +kernel
theorem dX9_load_1 : decode cX9_load 1 = .ok (.ifCond .lt 11, 3) := by decide +kernel
theorem dX9_load_4 : decode cX9_load 4 = .ok (.iload_n 1, 1) := by decide +kernel
theorem dX9_load_5 : decode cX9_load 5 = .ok (.aload_n 0, 1) := by decide +kernel
theorem dX9_load_6 : decode cX9_load 6 = .ok (.getfield 13, 3) := by decide +kernel
theorem dX9_load_9 : decode cX9_load 9 = .ok (.if_icmp .le 11, 3) := by decide +kernel
theorem dX9_load_12 : decode cX9_load 12 = .ok (.new 48, 3) := by decide +kernel
theorem dX9_load_15 : decode cX9_load 15 = .ok (.dup, 1) := by decide +kernel
theorem dX9_load_16 : decode cX9_load 16 = .ok (.invokespecial 50, 3) := by decide +kernel
theorem dX9_load_19 : decode cX9_load 19 = .ok (.athrow, 1) := by decide +kernel
theorem dX9_load_20 : decode cX9_load 20 = .ok (.aload_n 0, 1) := by decide +kernel
theorem dX9_load_21 : decode cX9_load 21 = .ok (.getfield 40, 3) := by decide +kernel
theorem dX9_load_24 : decode cX9_load 24 = .ok (.aload_n 0, 1) := by decide +kernel
theorem dX9_load_25 : decode cX9_load 25 = .ok (.getfield 9, 3) := by decide +kernel
theorem dX9_load_28 : decode cX9_load 28 = .ok (.iload_n 1, 1) := by decide +kernel
theorem dX9_load_29 : decode cX9_load 29 = .ok (.invokevirtual 51, 3) := by decide +kernel
theorem dX9_load_32 : decode cX9_load 32 = .ok (.istore_n 2, 1) := by decide +kernel
theorem dX9_load_33 : decode cX9_load 33 = .ok (.aload_n 0, 1) := by decide +kernel
theorem dX9_load_34 : decode cX9_load 34 = .ok (.iconst 0, 1) := by decide +kernel
theorem dX9_load_35 : decode cX9_load 35 = .ok (.putfield 13, 3) := by decide +kernel
theorem dX9_load_38 : decode cX9_load 38 = .ok (.aload_n 0, 1) := by decide +kernel
theorem dX9_load_39 : decode cX9_load 39 = .ok (.aload_n 0, 1) := by decide +kernel
theorem dX9_load_40 : decode cX9_load 40 = .ok (.getfield 40, 3) := by decide +kernel
theorem dX9_load_43 : decode cX9_load 43 = .ok (.getfield 55, 3) := by decide +kernel
theorem dX9_load_46 : decode cX9_load 46 = .ok (.putfield 17, 3) := by decide +kernel
theorem dX9_load_49 : decode cX9_load 49 = .ok (.iload_n 2, 1) := by decide +kernel
theorem dX9_load_50 : decode cX9_load 50 = .ok (.ifCond .eq 5, 3) := by decide +kernel
theorem dX9_load_53 : decode cX9_load 53 = .ok (.iload_n 2, 1) := by decide +kernel
theorem dX9_load_54 : decode cX9_load 54 = .ok (.ireturn, 1) := by decide +kernel
theorem dX9_load_55 : decode cX9_load 55 = .ok (.aload_n 0, 1) := by decide +kernel
theorem dX9_load_56 : decode cX9_load 56 = .ok (.getfield 33, 3) := by decide +kernel
theorem dX9_load_59 : decode cX9_load 59 = .ok (.aload_n 0, 1) := by decide +kernel
theorem dX9_load_60 : decode cX9_load 60 = .ok (.getfield 23, 3) := by decide +kernel
theorem dX9_load_63 : decode cX9_load 63 = .ok (.invokevirtual 56, 3) := by decide +kernel
theorem dX9_load_66 : decode cX9_load 66 = .ok (.aload_n 0, 1) := by decide +kernel
theorem dX9_load_67 : decode cX9_load 67 = .ok (.getfield 23, 3) := by decide +kernel
theorem dX9_load_70 : decode cX9_load 70 = .ok (.aload_n 0, 1) := by decide +kernel
theorem dX9_load_71 : decode cX9_load 71 = .ok (.getfield 40, 3) := by decide +kernel
theorem dX9_load_74 : decode cX9_load 74 = .ok (.getfield 60, 3) := by decide +kernel
theorem dX9_load_77 : decode cX9_load 77 = .ok (.invokevirtual 63, 3) := by decide +kernel
theorem dX9_load_80 : decode cX9_load 80 = .ok (.aload_n 0, 1) := by decide +kernel
theorem dX9_load_81 : decode cX9_load 81 = .ok (.getfield 23, 3) := by decide +kernel
theorem dX9_load_84 : decode cX9_load 84 = .ok (.getfield 66, 3) := by decide +kernel
theorem dX9_load_87 : decode cX9_load 87 = .ok (.ireturn, 1) := by decide +kernel
theorem dX9_errorOffset_0 : decode cX9_errorOffset 0 = .ok (.aload_n 0, 1) := by decide +kernel
theorem dX9_errorOffset_1 : decode cX9_errorOffset 1 = .ok (.getfield 17, 3) := by decide +kernel
theorem dX9_errorOffset_4 : decode cX9_errorOffset 4 = .ok (.ireturn, 1) := by decide +kernel
theorem dX9_state_0 : decode cX9_state 0 = .ok (.iload_n 1, 1) := by decide +kernel
theorem dX9_state_1 : decode cX9_state 1 = .ok (.ifCond .lt 9, 3) := by decide +kernel
theorem dX9_state_4 : decode cX9_state 4 = .ok (.iload_n 1, 1) := by decide +kernel
theorem dX9_state_5 : decode cX9_state 5 = .ok (.bipush 24, 2) := by decide +kernel
theorem dX9_state_7 : decode cX9_state 7 = .ok (.if_icmp .le 11, 3) := by decide +kernel
theorem dX9_state_10 : decode cX9_state 10 = .ok (.new 48, 3) := by decide +kernel
theorem dX9_state_13 : decode cX9_state 13 = .ok (.dup, 1) := by decide +kernel
theorem dX9_state_14 : decode cX9_state 14 = .ok (.invokespecial 50, 3) := by decide +kernel
theorem dX9_state_17 : decode cX9_state 17 = .ok (.athrow, 1) := by decide +kernel
theorem dX9_state_18 : decode cX9_state 18 = .ok (.iload_n 1, 1) := by decide +kernel
theorem dX9_state_19 : decode cX9_state 19 = .ok (.bipush 7, 2) := by decide +kernel
theorem dX9_state_21 : decode cX9_state 21 = .ok (.if_icmp .lt 21, 3) := by decide +kernel
theorem dX9_state_24 : decode cX9_state 24 = .ok (.iload_n 1, 1) := by decide +kernel
theorem dX9_state_25 : decode cX9_state 25 = .ok (.bipush 18, 2) := by decide +kernel
theorem dX9_state_27 : decode cX9_state 27 = .ok (.if_icmp .gt 15, 3) := by decide +kernel
theorem dX9_state_30 : decode cX9_state 30 = .ok (.aload_n 0, 1) := by decide +kernel
theorem dX9_state_31 : decode cX9_state 31 = .ok (.getfield 23, 3) := by decide +kernel
theorem dX9_state_34 : decode cX9_state 34 = .ok (.iload_n 1, 1) := by decide +kernel
theorem dX9_state_35 : decode cX9_state 35 = .ok (.bipush 7, 2) := by decide +kernel
theorem dX9_state_37 : decode cX9_state 37 = .ok (.isub, 1) := by decide +kernel
theorem dX9_state_38 : decode cX9_state 38 = .ok (.invokevirtual 69, 3) := by decide +kernel
theorem dX9_state_41 : decode cX9_state 41 = .ok (.ireturn, 1) := by decide +kernel
theorem dX9_state_42 : decode cX9_state 42 = .ok (.iload_n 1, 1) := by decide +kernel
theorem dX9_state_43 : decode cX9_state 43 = .ok (.tableswitch 205 0 23 #[109, 117, 125, 133, 141, 149, 157, 205, 205, 205, 205, 205, 205, 205, 205, 205, 205, 205, 205, 165, 173, 181, 189, 197], 109) := by decide +kernel
theorem dX9_state_152 : decode cX9_state 152 = .ok (.aload_n 0, 1) := by decide +kernel
theorem dX9_state_153 : decode cX9_state 153 = .ok (.getfield 23, 3) := by decide +kernel
theorem dX9_state_156 : decode cX9_state 156 = .ok (.getfield 73, 3) := by decide +kernel
theorem dX9_state_159 : decode cX9_state 159 = .ok (.ireturn, 1) := by decide +kernel
theorem dX9_state_160 : decode cX9_state 160 = .ok (.aload_n 0, 1) := by decide +kernel
theorem dX9_state_161 : decode cX9_state 161 = .ok (.getfield 23, 3) := by decide +kernel
theorem dX9_state_164 : decode cX9_state 164 = .ok (.getfield 76, 3) := by decide +kernel
theorem dX9_state_167 : decode cX9_state 167 = .ok (.ireturn, 1) := by decide +kernel
theorem dX9_state_168 : decode cX9_state 168 = .ok (.aload_n 0, 1) := by decide +kernel
theorem dX9_state_169 : decode cX9_state 169 = .ok (.getfield 23, 3) := by decide +kernel
theorem dX9_state_172 : decode cX9_state 172 = .ok (.getfield 79, 3) := by decide +kernel
theorem dX9_state_175 : decode cX9_state 175 = .ok (.ireturn, 1) := by decide +kernel
theorem dX9_state_176 : decode cX9_state 176 = .ok (.aload_n 0, 1) := by decide +kernel
theorem dX9_state_177 : decode cX9_state 177 = .ok (.getfield 23, 3) := by decide +kernel
theorem dX9_state_180 : decode cX9_state 180 = .ok (.getfield 82, 3) := by decide +kernel
theorem dX9_state_183 : decode cX9_state 183 = .ok (.ireturn, 1) := by decide +kernel
theorem dX9_state_184 : decode cX9_state 184 = .ok (.aload_n 0, 1) := by decide +kernel
theorem dX9_state_185 : decode cX9_state 185 = .ok (.getfield 23, 3) := by decide +kernel
theorem dX9_state_188 : decode cX9_state 188 = .ok (.getfield 85, 3) := by decide +kernel
theorem dX9_state_191 : decode cX9_state 191 = .ok (.ireturn, 1) := by decide +kernel
theorem dX9_state_192 : decode cX9_state 192 = .ok (.aload_n 0, 1) := by decide +kernel
theorem dX9_state_193 : decode cX9_state 193 = .ok (.getfield 23, 3) := by decide +kernel
theorem dX9_state_196 : decode cX9_state 196 = .ok (.getfield 66, 3) := by decide +kernel
theorem dX9_state_199 : decode cX9_state 199 = .ok (.ireturn, 1) := by decide +kernel
theorem dX9_state_200 : decode cX9_state 200 = .ok (.aload_n 0, 1) := by decide +kernel
theorem dX9_state_201 : decode cX9_state 201 = .ok (.getfield 23, 3) := by decide +kernel
theorem dX9_state_204 : decode cX9_state 204 = .ok (.getfield 88, 3) := by decide +kernel
theorem dX9_state_207 : decode cX9_state 207 = .ok (.ireturn, 1) := by decide +kernel
theorem dX9_state_208 : decode cX9_state 208 = .ok (.aload_n 0, 1) := by decide +kernel
theorem dX9_state_209 : decode cX9_state 209 = .ok (.getfield 23, 3) := by decide +kernel
theorem dX9_state_212 : decode cX9_state 212 = .ok (.getfield 91, 3) := by decide +kernel
theorem dX9_state_215 : decode cX9_state 215 = .ok (.ireturn, 1) := by decide +kernel
theorem dX9_state_216 : decode cX9_state 216 = .ok (.aload_n 0, 1) := by decide +kernel
theorem dX9_state_217 : decode cX9_state 217 = .ok (.getfield 23, 3) := by decide +kernel
theorem dX9_state_220 : decode cX9_state 220 = .ok (.getfield 94, 3) := by decide +kernel
theorem dX9_state_223 : decode cX9_state 223 = .ok (.ireturn, 1) := by decide +kernel
theorem dX9_state_224 : decode cX9_state 224 = .ok (.aload_n 0, 1) := by decide +kernel
theorem dX9_state_225 : decode cX9_state 225 = .ok (.getfield 23, 3) := by decide +kernel
theorem dX9_state_228 : decode cX9_state 228 = .ok (.getfield 97, 3) := by decide +kernel
theorem dX9_state_231 : decode cX9_state 231 = .ok (.ireturn, 1) := by decide +kernel
theorem dX9_state_232 : decode cX9_state 232 = .ok (.aload_n 0, 1) := by decide +kernel
theorem dX9_state_233 : decode cX9_state 233 = .ok (.getfield 23, 3) := by decide +kernel
theorem dX9_state_236 : decode cX9_state 236 = .ok (.invokevirtual 100, 3) := by decide +kernel
theorem dX9_state_239 : decode cX9_state 239 = .ok (.ireturn, 1) := by decide +kernel
theorem dX9_state_240 : decode cX9_state 240 = .ok (.aload_n 0, 1) := by decide +kernel
theorem dX9_state_241 : decode cX9_state 241 = .ok (.getfield 23, 3) := by decide +kernel
theorem dX9_state_244 : decode cX9_state 244 = .ok (.invokevirtual 104, 3) := by decide +kernel
theorem dX9_state_247 : decode cX9_state 247 = .ok (.ireturn, 1) := by decide +kernel
theorem dX9_state_248 : decode cX9_state 248 = .ok (.aload_n 0, 1) := by decide +kernel
theorem dX9_state_249 : decode cX9_state 249 = .ok (.getfield 23, 3) := by decide +kernel
theorem dX9_state_252 : decode cX9_state 252 = .ok (.getfield 107, 3) := by decide +kernel
theorem dX9_state_255 : decode cX9_state 255 = .ok (.ireturn, 1) := by decide +kernel
theorem dX9_line_0 : decode cX9_line 0 = .ok (.aload_n 0, 1) := by decide +kernel
theorem dX9_line_1 : decode cX9_line 1 = .ok (.getfield 23, 3) := by decide +kernel
theorem dX9_line_4 : decode cX9_line 4 = .ok (.iload_n 1, 1) := by decide +kernel
theorem dX9_line_5 : decode cX9_line 5 = .ok (.invokevirtual 110, 3) := by decide +kernel
theorem dX9_line_8 : decode cX9_line 8 = .ok (.ifCond .ne 11, 3) := by decide +kernel
theorem dX9_line_11 : decode cX9_line 11 = .ok (.new 114, 3) := by decide +kernel
theorem dX9_line_14 : decode cX9_line 14 = .ok (.dup, 1) := by decide +kernel
theorem dX9_line_15 : decode cX9_line 15 = .ok (.invokespecial 116, 3) := by decide +kernel
theorem dX9_line_18 : decode cX9_line 18 = .ok (.athrow, 1) := by decide +kernel
theorem dX9_line_19 : decode cX9_line 19 = .ok (.iload_n 2, 1) := by decide +kernel
theorem dX9_line_20 : decode cX9_line 20 = .ok (.ifCond .lt 8, 3) := by decide +kernel
theorem dX9_line_23 : decode cX9_line 23 = .ok (.iload_n 2, 1) := by decide +kernel
theorem dX9_line_24 : decode cX9_line 24 = .ok (.iconst 4, 1) := by decide +kernel
theorem dX9_line_25 : decode cX9_line 25 = .ok (.if_icmp .le 11, 3) := by decide +kernel
theorem dX9_line_28 : decode cX9_line 28 = .ok (.new 48, 3) := by decide +kernel
theorem dX9_line_31 : decode cX9_line 31 = .ok (.dup, 1) := by decide +kernel
theorem dX9_line_32 : decode cX9_line 32 = .ok (.invokespecial 50, 3) := by decide +kernel
theorem dX9_line_35 : decode cX9_line 35 = .ok (.athrow, 1) := by decide +kernel
theorem dX9_line_36 : decode cX9_line 36 = .ok (.iload_n 2, 1) := by decide +kernel
theorem dX9_line_37 : decode cX9_line 37 = .ok (.tableswitch 75 0 3 #[31, 48, 57, 66], 31) := by decide +kernel
theorem dX9_line_68 : decode cX9_line 68 = .ok (.aload_n 0, 1) := by decide +kernel
theorem dX9_line_69 : decode cX9_line 69 = .ok (.getfield 23, 3) := by decide +kernel
theorem dX9_line_72 : decode cX9_line 72 = .ok (.iload_n 1, 1) := by decide +kernel
theorem dX9_line_73 : decode cX9_line 73 = .ok (.invokevirtual 117, 3) := by decide +kernel
theorem dX9_line_76 : decode cX9_line 76 = .ok (.ifCond .eq 7, 3) := by decide +kernel
theorem dX9_line_79 : decode cX9_line 79 = .ok (.iconst 1, 1) := by decide +kernel
theorem dX9_line_80 : decode cX9_line 80 = .ok (.goto 4, 3) := by decide +kernel
theorem dX9_line_83 : decode cX9_line 83 = .ok (.iconst 0, 1) := by decide +kernel
theorem dX9_line_84 : decode cX9_line 84 = .ok (.ireturn, 1) := by decide +kernel
theorem dX9_line_85 : decode cX9_line 85 = .ok (.aload_n 0, 1) := by decide +kernel
theorem dX9_line_86 : decode cX9_line 86 = .ok (.getfield 23, 3) := by decide +kernel
theorem dX9_line_89 : decode cX9_line 89 = .ok (.iload_n 1, 1) := by decide +kernel
theorem dX9_line_90 : decode cX9_line 90 = .ok (.invokevirtual 120, 3) := by decide +kernel
theorem dX9_line_93 : decode cX9_line 93 = .ok (.ireturn, 1) := by decide +kernel
theorem dX9_line_94 : decode cX9_line 94 = .ok (.aload_n 0, 1) := by decide +kernel
theorem dX9_line_95 : decode cX9_line 95 = .ok (.getfield 23, 3) := by decide +kernel
theorem dX9_line_98 : decode cX9_line 98 = .ok (.iload_n 1, 1) := by decide +kernel
theorem dX9_line_99 : decode cX9_line 99 = .ok (.invokevirtual 123, 3) := by decide +kernel
theorem dX9_line_102 : decode cX9_line 102 = .ok (.ireturn, 1) := by decide +kernel
theorem dX9_line_103 : decode cX9_line 103 = .ok (.aload_n 0, 1) := by decide +kernel
theorem dX9_line_104 : decode cX9_line 104 = .ok (.getfield 23, 3) := by decide +kernel
theorem dX9_line_107 : decode cX9_line 107 = .ok (.iload_n 1, 1) := by decide +kernel
theorem dX9_line_108 : decode cX9_line 108 = .ok (.invokevirtual 126, 3) := by decide +kernel
theorem dX9_line_111 : decode cX9_line 111 = .ok (.ireturn, 1) := by decide +kernel
theorem dX9_line_112 : decode cX9_line 112 = .ok (.aload_n 0, 1) := by decide +kernel
theorem dX9_line_113 : decode cX9_line 113 = .ok (.getfield 23, 3) := by decide +kernel
theorem dX9_line_116 : decode cX9_line 116 = .ok (.iload_n 1, 1) := by decide +kernel
theorem dX9_line_117 : decode cX9_line 117 = .ok (.invokevirtual 129, 3) := by decide +kernel
theorem dX9_line_120 : decode cX9_line 120 = .ok (.ireturn, 1) := by decide +kernel
theorem dX9_group_0 : decode cX9_group 0 = .ok (.aload_n 0, 1) := by decide +kernel
theorem dX9_group_1 : decode cX9_group 1 = .ok (.getfield 23, 3) := by decide +kernel
theorem dX9_group_4 : decode cX9_group 4 = .ok (.iload_n 1, 1) := by decide +kernel
theorem dX9_group_5 : decode cX9_group 5 = .ok (.invokevirtual 132, 3) := by decide +kernel
theorem dX9_group_8 : decode cX9_group 8 = .ok (.astore_n 3, 1) := by decide +kernel
theorem dX9_group_9 : decode cX9_group 9 = .ok (.aload_n 3, 1) := by decide +kernel
theorem dX9_group_10 : decode cX9_group 10 = .ok (.ifnonnull 11, 3) := by decide +kernel
theorem dX9_group_13 : decode cX9_group 13 = .ok (.new 114, 3) := by decide +kernel
theorem dX9_group_16 : decode cX9_group 16 = .ok (.dup, 1) := by decide +kernel
theorem dX9_group_17 : decode cX9_group 17 = .ok (.invokespecial 116, 3) := by decide +kernel
theorem dX9_group_20 : decode cX9_group 20 = .ok (.athrow, 1) := by decide +kernel
theorem dX9_group_21 : decode cX9_group 21 = .ok (.iload_n 2, 1) := by decide +kernel
theorem dX9_group_22 : decode cX9_group 22 = .ok (.ifCond .lt 9, 3) := by decide +kernel
theorem dX9_group_25 : decode cX9_group 25 = .ok (.iload_n 2, 1) := by decide +kernel
theorem dX9_group_26 : decode cX9_group 26 = .ok (.bipush 6, 2) := by decide +kernel
theorem dX9_group_28 : decode cX9_group 28 = .ok (.if_icmp .le 11, 3) := by decide +kernel
theorem dX9_group_31 : decode cX9_group 31 = .ok (.new 48, 3) := by decide +kernel
theorem dX9_group_34 : decode cX9_group 34 = .ok (.dup, 1) := by decide +kernel
theorem dX9_group_35 : decode cX9_group 35 = .ok (.invokespecial 50, 3) := by decide +kernel
theorem dX9_group_38 : decode cX9_group 38 = .ok (.athrow, 1) := by decide +kernel
theorem dX9_group_39 : decode cX9_group 39 = .ok (.iload_n 2, 1) := by decide +kernel
theorem dX9_group_40 : decode cX9_group 40 = .ok (.tableswitch 74 0 5 #[40, 45, 50, 59, 64, 69], 40) := by decide +kernel
theorem dX9_group_80 : decode cX9_group 80 = .ok (.aload_n 3, 1) := by decide +kernel
theorem dX9_group_81 : decode cX9_group 81 = .ok (.getfield 136, 3) := by decide +kernel
theorem dX9_group_84 : decode cX9_group 84 = .ok (.ireturn, 1) := by decide +kernel
theorem dX9_group_85 : decode cX9_group 85 = .ok (.aload_n 3, 1) := by decide +kernel
theorem dX9_group_86 : decode cX9_group 86 = .ok (.getfield 141, 3) := by decide +kernel
theorem dX9_group_89 : decode cX9_group 89 = .ok (.ireturn, 1) := by decide +kernel
theorem dX9_group_90 : decode cX9_group 90 = .ok (.aload_n 0, 1) := by decide +kernel
theorem dX9_group_91 : decode cX9_group 91 = .ok (.getfield 23, 3) := by decide +kernel
theorem dX9_group_94 : decode cX9_group 94 = .ok (.iload_n 1, 1) := by decide +kernel
theorem dX9_group_95 : decode cX9_group 95 = .ok (.invokevirtual 144, 3) := by decide +kernel
theorem dX9_group_98 : decode cX9_group 98 = .ok (.ireturn, 1) := by decide +kernel
theorem dX9_group_99 : decode cX9_group 99 = .ok (.aload_n 3, 1) := by decide +kernel
theorem dX9_group_100 : decode cX9_group 100 = .ok (.getfield 147, 3) := by decide +kernel
theorem dX9_group_103 : decode cX9_group 103 = .ok (.ireturn, 1) := by decide +kernel
theorem dX9_group_104 : decode cX9_group 104 = .ok (.aload_n 3, 1) := by decide +kernel
theorem dX9_group_105 : decode cX9_group 105 = .ok (.getfield 150, 3) := by decide +kernel
theorem dX9_group_108 : decode cX9_group 108 = .ok (.ireturn, 1) := by decide +kernel
theorem dX9_group_109 : decode cX9_group 109 = .ok (.aload_n 3, 1) := by decide +kernel
theorem dX9_group_110 : decode cX9_group 110 = .ok (.getfield 153, 3) := by decide +kernel
theorem dX9_group_113 : decode cX9_group 113 = .ok (.ireturn, 1) := by decide +kernel
theorem dX9_group_114 : decode cX9_group 114 = .ok (.aload_n 3, 1) := by decide +kernel
theorem dX9_group_115 : decode cX9_group 115 = .ok (.getfield 156, 3) := by decide +kernel
theorem dX9_group_118 : decode cX9_group 118 = .ok (.ireturn, 1) := by decide +kernel
theorem dX9_register_0 : decode cX9_register 0 = .ok (.aload_n 0, 1) := by decide +kernel
theorem dX9_register_1 : decode cX9_register 1 = .ok (.getfield 23, 3) := by decide +kernel
theorem dX9_register_4 : decode cX9_register 4 = .ok (.iload_n 1, 1) := by decide +kernel
theorem dX9_register_5 : decode cX9_register 5 = .ok (.invokevirtual 159, 3) := by decide +kernel
theorem dX9_register_8 : decode cX9_register 8 = .ok (.astore_n 3, 1) := by decide +kernel
theorem dX9_register_9 : decode cX9_register 9 = .ok (.aload_n 3, 1) := by decide +kernel
theorem dX9_register_10 : decode cX9_register 10 = .ok (.ifnonnull 11, 3) := by decide +kernel
theorem dX9_register_13 : decode cX9_register 13 = .ok (.new 114, 3) := by decide +kernel
theorem dX9_register_16 : decode cX9_register 16 = .ok (.dup, 1) := by decide +kernel
theorem dX9_register_17 : decode cX9_register 17 = .ok (.invokespecial 116, 3) := by decide +kernel
theorem dX9_register_20 : decode cX9_register 20 = .ok (.athrow, 1) := by decide +kernel
theorem dX9_register_21 : decode cX9_register 21 = .ok (.iload_n 2, 1) := by decide +kernel
theorem dX9_register_22 : decode cX9_register 22 = .ok (.ifCond .lt 8, 3) := by decide +kernel
theorem dX9_register_25 : decode cX9_register 25 = .ok (.iload_n 2, 1) := by decide +kernel
theorem dX9_register_26 : decode cX9_register 26 = .ok (.iconst 2, 1) := by decide +kernel
theorem dX9_register_27 : decode cX9_register 27 = .ok (.if_icmp .le 11, 3) := by decide +kernel
theorem dX9_register_30 : decode cX9_register 30 = .ok (.new 48, 3) := by decide +kernel
theorem dX9_register_33 : decode cX9_register 33 = .ok (.dup, 1) := by decide +kernel
theorem dX9_register_34 : decode cX9_register 34 = .ok (.invokespecial 50, 3) := by decide +kernel
theorem dX9_register_37 : decode cX9_register 37 = .ok (.athrow, 1) := by decide +kernel
theorem dX9_register_38 : decode cX9_register 38 = .ok (.iload_n 2, 1) := by decide +kernel
theorem dX9_register_39 : decode cX9_register 39 = .ok (.lookupswitch 38 #[(0, 25), (1, 30)], 25) := by decide +kernel
theorem dX9_register_64 : decode cX9_register 64 = .ok (.aload_n 3, 1) := by decide +kernel
theorem dX9_register_65 : decode cX9_register 65 = .ok (.getfield 163, 3) := by decide +kernel
theorem dX9_register_68 : decode cX9_register 68 = .ok (.ireturn, 1) := by decide +kernel
theorem dX9_register_69 : decode cX9_register 69 = .ok (.aload_n 3, 1) := by decide +kernel
theorem dX9_register_70 : decode cX9_register 70 = .ok (.getfield 168, 3) := by decide +kernel
theorem dX9_register_73 : decode cX9_register 73 = .ok (.invokestatic 171, 3) := by decide +kernel
theorem dX9_register_76 : decode cX9_register 76 = .ok (.ireturn, 1) := by decide +kernel
theorem dX9_register_77 : decode cX9_register 77 = .ok (.aload_n 3, 1) := by decide +kernel
theorem dX9_register_78 : decode cX9_register 78 = .ok (.getfield 176, 3) := by decide +kernel
theorem dX9_register_81 : decode cX9_register 81 = .ok (.ireturn, 1) := by decide +kernel
theorem dX9_marker_0 : decode cX9_marker 0 = .ok (.aload_n 0, 1) := by decide +kernel
theorem dX9_marker_1 : decode cX9_marker 1 = .ok (.getfield 23, 3) := by decide +kernel
theorem dX9_marker_4 : decode cX9_marker 4 = .ok (.iload_n 1, 1) := by decide +kernel
theorem dX9_marker_5 : decode cX9_marker 5 = .ok (.invokevirtual 179, 3) := by decide +kernel
theorem dX9_marker_8 : decode cX9_marker 8 = .ok (.astore_n 3, 1) := by decide +kernel
theorem dX9_marker_9 : decode cX9_marker 9 = .ok (.aload_n 3, 1) := by decide +kernel
theorem dX9_marker_10 : decode cX9_marker 10 = .ok (.ifnonnull 11, 3) := by decide +kernel
theorem dX9_marker_13 : decode cX9_marker 13 = .ok (.new 114, 3) := by decide +kernel
theorem dX9_marker_16 : decode cX9_marker 16 = .ok (.dup, 1) := by decide +kernel
theorem dX9_marker_17 : decode cX9_marker 17 = .ok (.invokespecial 116, 3) := by decide +kernel
theorem dX9_marker_20 : decode cX9_marker 20 = .ok (.athrow, 1) := by decide +kernel
theorem dX9_marker_21 : decode cX9_marker 21 = .ok (.iload_n 2, 1) := by decide +kernel
theorem dX9_marker_22 : decode cX9_marker 22 = .ok (.ifCond .lt 8, 3) := by decide +kernel
theorem dX9_marker_25 : decode cX9_marker 25 = .ok (.iload_n 2, 1) := by decide +kernel
theorem dX9_marker_26 : decode cX9_marker 26 = .ok (.iconst 1, 1) := by decide +kernel
theorem dX9_marker_27 : decode cX9_marker 27 = .ok (.if_icmp .le 11, 3) := by decide +kernel
theorem dX9_marker_30 : decode cX9_marker 30 = .ok (.new 48, 3) := by decide +kernel
theorem dX9_marker_33 : decode cX9_marker 33 = .ok (.dup, 1) := by decide +kernel
theorem dX9_marker_34 : decode cX9_marker 34 = .ok (.invokespecial 50, 3) := by decide +kernel
theorem dX9_marker_37 : decode cX9_marker 37 = .ok (.athrow, 1) := by decide +kernel
theorem dX9_marker_38 : decode cX9_marker 38 = .ok (.iload_n 2, 1) := by decide +kernel
theorem dX9_marker_39 : decode cX9_marker 39 = .ok (.ifCond .ne 10, 3) := by decide +kernel
theorem dX9_marker_42 : decode cX9_marker 42 = .ok (.aload_n 3, 1) := by decide +kernel
theorem dX9_marker_43 : decode cX9_marker 43 = .ok (.getfield 183, 3) := by decide +kernel
theorem dX9_marker_46 : decode cX9_marker 46 = .ok (.goto 7, 3) := by decide +kernel
theorem dX9_marker_49 : decode cX9_marker 49 = .ok (.aload_n 3, 1) := by decide +kernel
theorem dX9_marker_50 : decode cX9_marker 50 = .ok (.getfield 186, 3) := by decide +kernel
theorem dX9_marker_53 : decode cX9_marker 53 = .ok (.ireturn, 1) := by decide +kernel
theorem dX9_call_0 : decode cX9_call 0 = .ok (.aload_n 0, 1) := by decide +kernel
theorem dX9_call_1 : decode cX9_call 1 = .ok (.getfield 23, 3) := by decide +kernel
theorem dX9_call_4 : decode cX9_call 4 = .ok (.iload_n 1, 1) := by decide +kernel
theorem dX9_call_5 : decode cX9_call 5 = .ok (.invokevirtual 189, 3) := by decide +kernel
theorem dX9_call_8 : decode cX9_call 8 = .ok (.astore_n 3, 1) := by decide +kernel
theorem dX9_call_9 : decode cX9_call 9 = .ok (.aload_n 3, 1) := by decide +kernel
theorem dX9_call_10 : decode cX9_call 10 = .ok (.ifnonnull 11, 3) := by decide +kernel
theorem dX9_call_13 : decode cX9_call 13 = .ok (.new 114, 3) := by decide +kernel
theorem dX9_call_16 : decode cX9_call 16 = .ok (.dup, 1) := by decide +kernel
theorem dX9_call_17 : decode cX9_call 17 = .ok (.invokespecial 116, 3) := by decide +kernel
theorem dX9_call_20 : decode cX9_call 20 = .ok (.athrow, 1) := by decide +kernel
theorem dX9_call_21 : decode cX9_call 21 = .ok (.iload_n 2, 1) := by decide +kernel
theorem dX9_call_22 : decode cX9_call 22 = .ok (.ifCond .lt 9, 3) := by decide +kernel
theorem dX9_call_25 : decode cX9_call 25 = .ok (.iload_n 2, 1) := by decide +kernel
theorem dX9_call_26 : decode cX9_call 26 = .ok (.bipush 10, 2) := by decide +kernel
theorem dX9_call_28 : decode cX9_call 28 = .ok (.if_icmp .le 11, 3) := by decide +kernel
theorem dX9_call_31 : decode cX9_call 31 = .ok (.new 48, 3) := by decide +kernel
theorem dX9_call_34 : decode cX9_call 34 = .ok (.dup, 1) := by decide +kernel
theorem dX9_call_35 : decode cX9_call 35 = .ok (.invokespecial 50, 3) := by decide +kernel
theorem dX9_call_38 : decode cX9_call 38 = .ok (.athrow, 1) := by decide +kernel
theorem dX9_call_39 : decode cX9_call 39 = .ok (.iload_n 2, 1) := by decide +kernel
theorem dX9_call_40 : decode cX9_call 40 = .ok (.tableswitch 109 0 9 #[56, 61, 69, 74, 79, 84, 89, 94, 99, 104], 56) := by decide +kernel
theorem dX9_call_96 : decode cX9_call 96 = .ok (.aload_n 3, 1) := by decide +kernel
theorem dX9_call_97 : decode cX9_call 97 = .ok (.getfield 193, 3) := by decide +kernel
theorem dX9_call_100 : decode cX9_call 100 = .ok (.ireturn, 1) := by decide +kernel
theorem dX9_call_101 : decode cX9_call 101 = .ok (.aload_n 3, 1) := by decide +kernel
theorem dX9_call_102 : decode cX9_call 102 = .ok (.getfield 198, 3) := by decide +kernel
theorem dX9_call_105 : decode cX9_call 105 = .ok (.invokestatic 171, 3) := by decide +kernel
theorem dX9_call_108 : decode cX9_call 108 = .ok (.ireturn, 1) := by decide +kernel
theorem dX9_call_109 : decode cX9_call 109 = .ok (.aload_n 3, 1) := by decide +kernel
theorem dX9_call_110 : decode cX9_call 110 = .ok (.getfield 199, 3) := by decide +kernel
theorem dX9_call_113 : decode cX9_call 113 = .ok (.ireturn, 1) := by decide +kernel
theorem dX9_call_114 : decode cX9_call 114 = .ok (.aload_n 3, 1) := by decide +kernel
theorem dX9_call_115 : decode cX9_call 115 = .ok (.getfield 202, 3) := by decide +kernel
theorem dX9_call_118 : decode cX9_call 118 = .ok (.ireturn, 1) := by decide +kernel
theorem dX9_call_119 : decode cX9_call 119 = .ok (.aload_n 3, 1) := by decide +kernel
theorem dX9_call_120 : decode cX9_call 120 = .ok (.getfield 205, 3) := by decide +kernel
theorem dX9_call_123 : decode cX9_call 123 = .ok (.ireturn, 1) := by decide +kernel
theorem dX9_call_124 : decode cX9_call 124 = .ok (.aload_n 3, 1) := by decide +kernel
theorem dX9_call_125 : decode cX9_call 125 = .ok (.getfield 208, 3) := by decide +kernel
theorem dX9_call_128 : decode cX9_call 128 = .ok (.ireturn, 1) := by decide +kernel
theorem dX9_call_129 : decode cX9_call 129 = .ok (.aload_n 3, 1) := by decide +kernel
theorem dX9_call_130 : decode cX9_call 130 = .ok (.getfield 211, 3) := by decide +kernel
theorem dX9_call_133 : decode cX9_call 133 = .ok (.ireturn, 1) := by decide +kernel
theorem dX9_call_134 : decode cX9_call 134 = .ok (.aload_n 3, 1) := by decide +kernel
theorem dX9_call_135 : decode cX9_call 135 = .ok (.getfield 214, 3) := by decide +kernel
theorem dX9_call_138 : decode cX9_call 138 = .ok (.ireturn, 1) := by decide +kernel
theorem dX9_call_139 : decode cX9_call 139 = .ok (.aload_n 3, 1) := by decide +kernel
theorem dX9_call_140 : decode cX9_call 140 = .ok (.getfield 217, 3) := by decide +kernel
theorem dX9_call_143 : decode cX9_call 143 = .ok (.ireturn, 1) := by decide +kernel
theorem dX9_call_144 : decode cX9_call 144 = .ok (.aload_n 3, 1) := by decide +kernel
theorem dX9_call_145 : decode cX9_call 145 = .ok (.getfield 220, 3) := by decide +kernel
theorem dX9_call_148 : decode cX9_call 148 = .ok (.ireturn, 1) := by decide +kernel
theorem dX9_call_149 : decode cX9_call 149 = .ok (.aload_n 0, 1) := by decide +kernel
theorem dX9_call_150 : decode cX9_call 150 = .ok (.getfield 23, 3) := by decide +kernel
theorem dX9_call_153 : decode cX9_call 153 = .ok (.iload_n 1, 1) := by decide +kernel
theorem dX9_call_154 : decode cX9_call 154 = .ok (.invokevirtual 221, 3) := by decide +kernel
theorem dX9_call_157 : decode cX9_call 157 = .ok (.ireturn, 1) := by decide +kernel
theorem dX9_digit_0 : decode cX9_digit 0 = .ok (.aload_n 0, 1) := by decide +kernel
theorem dX9_digit_1 : decode cX9_digit 1 = .ok (.getfield 23, 3) := by decide +kernel
theorem dX9_digit_4 : decode cX9_digit 4 = .ok (.iload_n 1, 1) := by decide +kernel
theorem dX9_digit_5 : decode cX9_digit 5 = .ok (.invokevirtual 189, 3) := by decide +kernel
theorem dX9_digit_8 : decode cX9_digit 8 = .ok (.astore_n 3, 1) := by decide +kernel
theorem dX9_digit_9 : decode cX9_digit 9 = .ok (.aload_n 3, 1) := by decide +kernel
theorem dX9_digit_10 : decode cX9_digit 10 = .ok (.ifnonnull 11, 3) := by decide +kernel
theorem dX9_digit_13 : decode cX9_digit 13 = .ok (.new 114, 3) := by decide +kernel
theorem dX9_digit_16 : decode cX9_digit 16 = .ok (.dup, 1) := by decide +kernel
theorem dX9_digit_17 : decode cX9_digit 17 = .ok (.invokespecial 116, 3) := by decide +kernel
theorem dX9_digit_20 : decode cX9_digit 20 = .ok (.athrow, 1) := by decide +kernel
theorem dX9_digit_21 : decode cX9_digit 21 = .ok (.iload_n 2, 1) := by decide +kernel
theorem dX9_digit_22 : decode cX9_digit 22 = .ok (.ifCond .lt 14, 3) := by decide +kernel
theorem dX9_digit_25 : decode cX9_digit 25 = .ok (.iload_n 2, 1) := by decide +kernel
theorem dX9_digit_26 : decode cX9_digit 26 = .ok (.aload_n 3, 1) := by decide +kernel
theorem dX9_digit_27 : decode cX9_digit 27 = .ok (.getfield 198, 3) := by decide +kernel
theorem dX9_digit_30 : decode cX9_digit 30 = .ok (.invokestatic 171, 3) := by decide +kernel
theorem dX9_digit_33 : decode cX9_digit 33 = .ok (.if_icmp .lt 11, 3) := by decide +kernel
theorem dX9_digit_36 : decode cX9_digit 36 = .ok (.new 224, 3) := by decide +kernel
theorem dX9_digit_39 : decode cX9_digit 39 = .ok (.dup, 1) := by decide +kernel
theorem dX9_digit_40 : decode cX9_digit 40 = .ok (.invokespecial 226, 3) := by decide +kernel
theorem dX9_digit_43 : decode cX9_digit 43 = .ok (.athrow, 1) := by decide +kernel
theorem dX9_digit_44 : decode cX9_digit 44 = .ok (.aload_n 3, 1) := by decide +kernel
theorem dX9_digit_45 : decode cX9_digit 45 = .ok (.getfield 198, 3) := by decide +kernel
theorem dX9_digit_48 : decode cX9_digit 48 = .ok (.iload_n 2, 1) := by decide +kernel
theorem dX9_digit_49 : decode cX9_digit 49 = .ok (.invokestatic 227, 3) := by decide +kernel
theorem dX9_digit_52 : decode cX9_digit 52 = .ok (.ireturn, 1) := by decide +kernel
theorem dX9_look_0 : decode cX9_look 0 = .ok (.aload_n 0, 1) := by decide +kernel
theorem dX9_look_1 : decode cX9_look 1 = .ok (.iload_n 1, 1) := by decide +kernel
theorem dX9_look_2 : decode cX9_look 2 = .ok (.invokevirtual 231, 3) := by decide +kernel
theorem dX9_look_5 : decode cX9_look 5 = .ok (.ifCond .eq 12, 3) := by decide +kernel
theorem dX9_look_8 : decode cX9_look 8 = .ok (.iload_n 2, 1) := by decide +kernel
theorem dX9_look_9 : decode cX9_look 9 = .ok (.ifCond .lt 8, 3) := by decide +kernel
theorem dX9_look_12 : decode cX9_look 12 = .ok (.iload_n 2, 1) := by decide +kernel
theorem dX9_look_13 : decode cX9_look 13 = .ok (.iconst 3, 1) := by decide +kernel
theorem dX9_look_14 : decode cX9_look 14 = .ok (.if_icmp .le 11, 3) := by decide +kernel
theorem dX9_look_17 : decode cX9_look 17 = .ok (.new 48, 3) := by decide +kernel
theorem dX9_look_20 : decode cX9_look 20 = .ok (.dup, 1) := by decide +kernel
theorem dX9_look_21 : decode cX9_look 21 = .ok (.invokespecial 50, 3) := by decide +kernel
theorem dX9_look_24 : decode cX9_look 24 = .ok (.athrow, 1) := by decide +kernel
theorem dX9_look_25 : decode cX9_look 25 = .ok (.aload_n 0, 1) := by decide +kernel
theorem dX9_look_26 : decode cX9_look 26 = .ok (.iload_n 1, 1) := by decide +kernel
theorem dX9_look_27 : decode cX9_look 27 = .ok (.invokevirtual 234, 3) := by decide +kernel
theorem dX9_look_30 : decode cX9_look 30 = .ok (.istore_n 3, 1) := by decide +kernel
theorem dX9_look_31 : decode cX9_look 31 = .ok (.iload_n 3, 1) := by decide +kernel
theorem dX9_look_32 : decode cX9_look 32 = .ok (.ifCond .ne 11, 3) := by decide +kernel
theorem dX9_look_35 : decode cX9_look 35 = .ok (.new 48, 3) := by decide +kernel
theorem dX9_look_38 : decode cX9_look 38 = .ok (.dup, 1) := by decide +kernel
theorem dX9_look_39 : decode cX9_look 39 = .ok (.invokespecial 50, 3) := by decide +kernel
theorem dX9_look_42 : decode cX9_look 42 = .ok (.athrow, 1) := by decide +kernel
theorem dX9_look_43 : decode cX9_look 43 = .ok (.iload_n 2, 1) := by decide +kernel
theorem dX9_look_44 : decode cX9_look 44 = .ok (.tableswitch 63 0 2 #[28, 37, 46], 28) := by decide +kernel
theorem dX9_look_72 : decode cX9_look 72 = .ok (.aload_n 0, 1) := by decide +kernel
theorem dX9_look_73 : decode cX9_look 73 = .ok (.getfield 23, 3) := by decide +kernel
theorem dX9_look_76 : decode cX9_look 76 = .ok (.iload_n 3, 1) := by decide +kernel
theorem dX9_look_77 : decode cX9_look 77 = .ok (.invokevirtual 237, 3) := by decide +kernel
theorem dX9_look_80 : decode cX9_look 80 = .ok (.ireturn, 1) := by decide +kernel
theorem dX9_look_81 : decode cX9_look 81 = .ok (.aload_n 0, 1) := by decide +kernel
theorem dX9_look_82 : decode cX9_look 82 = .ok (.getfield 23, 3) := by decide +kernel
theorem dX9_look_85 : decode cX9_look 85 = .ok (.iload_n 3, 1) := by decide +kernel
theorem dX9_look_86 : decode cX9_look 86 = .ok (.invokevirtual 240, 3) := by decide +kernel
theorem dX9_look_89 : decode cX9_look 89 = .ok (.ireturn, 1) := by decide +kernel
theorem dX9_look_90 : decode cX9_look 90 = .ok (.aload_n 0, 1) := by decide +kernel
theorem dX9_look_91 : decode cX9_look 91 = .ok (.getfield 23, 3) := by decide +kernel
theorem dX9_look_94 : decode cX9_look 94 = .ok (.iload_n 3, 1) := by decide +kernel
theorem dX9_look_95 : decode cX9_look 95 = .ok (.invokevirtual 243, 3) := by decide +kernel
theorem dX9_look_98 : decode cX9_look 98 = .ok (.ifCond .eq 7, 3) := by decide +kernel
theorem dX9_look_101 : decode cX9_look 101 = .ok (.iconst 1, 1) := by decide +kernel
theorem dX9_look_102 : decode cX9_look 102 = .ok (.goto 4, 3) := by decide +kernel
theorem dX9_look_105 : decode cX9_look 105 = .ok (.iconst 0, 1) := by decide +kernel
theorem dX9_look_106 : decode cX9_look 106 = .ok (.ireturn, 1) := by decide +kernel
theorem dX9_look_107 : decode cX9_look 107 = .ok (.aload_n 0, 1) := by decide +kernel
theorem dX9_look_108 : decode cX9_look 108 = .ok (.getfield 23, 3) := by decide +kernel
theorem dX9_look_111 : decode cX9_look 111 = .ok (.iload_n 3, 1) := by decide +kernel
theorem dX9_look_112 : decode cX9_look 112 = .ok (.invokevirtual 246, 3) := by decide +kernel
theorem dX9_look_115 : decode cX9_look 115 = .ok (.ireturn, 1) := by decide +kernel
theorem dX9_foremost_0 : decode cX9_foremost 0 = .ok (.aload_n 0, 1) := by decide +kernel
theorem dX9_foremost_1 : decode cX9_foremost 1 = .ok (.getfield 23, 3) := by decide +kernel
theorem dX9_foremost_4 : decode cX9_foremost 4 = .ok (.iload_n 1, 1) := by decide +kernel
theorem dX9_foremost_5 : decode cX9_foremost 5 = .ok (.ifCond .eq 7, 3) := by decide +kernel
theorem dX9_foremost_8 : decode cX9_foremost 8 = .ok (.iconst 3, 1) := by decide +kernel
theorem dX9_foremost_9 : decode cX9_foremost 9 = .ok (.goto 4, 3) := by decide +kernel
theorem dX9_foremost_12 : decode cX9_foremost 12 = .ok (.iconst 1, 1) := by decide +kernel
theorem dX9_foremost_13 : decode cX9_foremost 13 = .ok (.invokevirtual 249, 3) := by decide +kernel
theorem dX9_foremost_16 : decode cX9_foremost 16 = .ok (.astore_n 2, 1) := by decide +kernel
theorem dX9_foremost_17 : decode cX9_foremost 17 = .ok (.aload_n 2, 1) := by decide +kernel
theorem dX9_foremost_18 : decode cX9_foremost 18 = .ok (.ifnonnull 7, 3) := by decide +kernel
theorem dX9_foremost_21 : decode cX9_foremost 21 = .ok (.iconst (-1), 1) := by decide +kernel
theorem dX9_foremost_22 : decode cX9_foremost 22 = .ok (.goto 7, 3) := by decide +kernel
theorem dX9_foremost_25 : decode cX9_foremost 25 = .ok (.aload_n 2, 1) := by decide +kernel
theorem dX9_foremost_26 : decode cX9_foremost 26 = .ok (.getfield 252, 3) := by decide +kernel
theorem dX9_foremost_29 : decode cX9_foremost 29 = .ok (.ireturn, 1) := by decide +kernel
theorem dX9_overIn_0 : decode cX9_overIn 0 = .ok (.aload_n 0, 1) := by decide +kernel
theorem dX9_overIn_1 : decode cX9_overIn 1 = .ok (.getfield 27, 3) := by decide +kernel
theorem dX9_overIn_4 : decode cX9_overIn 4 = .ok (.aload_n 0, 1) := by decide +kernel
theorem dX9_overIn_5 : decode cX9_overIn 5 = .ok (.getfield 23, 3) := by decide +kernel
theorem dX9_overIn_8 : decode cX9_overIn 8 = .ok (.invokevirtual 63, 3) := by decide +kernel
theorem dX9_overIn_11 : decode cX9_overIn 11 = .ok (.aload_n 0, 1) := by decide +kernel
theorem dX9_overIn_12 : decode cX9_overIn 12 = .ok (.getfield 27, 3) := by decide +kernel
theorem dX9_overIn_15 : decode cX9_overIn 15 = .ok (.iload_n 1, 1) := by decide +kernel
theorem dX9_overIn_16 : decode cX9_overIn 16 = .ok (.invokevirtual 189, 3) := by decide +kernel
theorem dX9_overIn_19 : decode cX9_overIn 19 = .ok (.astore_n 2, 1) := by decide +kernel
theorem dX9_overIn_20 : decode cX9_overIn 20 = .ok (.aload_n 2, 1) := by decide +kernel
theorem dX9_overIn_21 : decode cX9_overIn 21 = .ok (.ifnonnull 11, 3) := by decide +kernel
theorem dX9_overIn_24 : decode cX9_overIn 24 = .ok (.new 114, 3) := by decide +kernel
theorem dX9_overIn_27 : decode cX9_overIn 27 = .ok (.dup, 1) := by decide +kernel
theorem dX9_overIn_28 : decode cX9_overIn 28 = .ok (.invokespecial 116, 3) := by decide +kernel
theorem dX9_overIn_31 : decode cX9_overIn 31 = .ok (.athrow, 1) := by decide +kernel
theorem dX9_overIn_32 : decode cX9_overIn 32 = .ok (.iconst 0, 1) := by decide +kernel
theorem dX9_overIn_33 : decode cX9_overIn 33 = .ok (.istore_n 3, 1) := by decide +kernel
theorem dX9_overIn_34 : decode cX9_overIn 34 = .ok (.iload_n 3, 1) := by decide +kernel
theorem dX9_overIn_35 : decode cX9_overIn 35 = .ok (.sipush 600, 3) := by decide +kernel
theorem dX9_overIn_38 : decode cX9_overIn 38 = .ok (.if_icmp .ge 25, 3) := by decide +kernel
theorem dX9_overIn_41 : decode cX9_overIn 41 = .ok (.aload_n 2, 1) := by decide +kernel
theorem dX9_overIn_42 : decode cX9_overIn 42 = .ok (.invokevirtual 255, 3) := by decide +kernel
theorem dX9_overIn_45 : decode cX9_overIn 45 = .ok (.ifCond .eq 5, 3) := by decide +kernel
theorem dX9_overIn_48 : decode cX9_overIn 48 = .ok (.iload_n 3, 1) := by decide +kernel
theorem dX9_overIn_49 : decode cX9_overIn 49 = .ok (.ireturn, 1) := by decide +kernel
theorem dX9_overIn_50 : decode cX9_overIn 50 = .ok (.aload_n 0, 1) := by decide +kernel
theorem dX9_overIn_51 : decode cX9_overIn 51 = .ok (.getfield 27, 3) := by decide +kernel
theorem dX9_overIn_54 : decode cX9_overIn 54 = .ok (.invokevirtual 259, 3) := by decide +kernel
theorem dX9_overIn_57 : decode cX9_overIn 57 = .ok (.iinc 3 1, 3) := by decide +kernel
theorem dX9_overIn_60 : decode cX9_overIn 60 = .ok (.goto (-26), 3) := by decide +kernel
theorem dX9_overIn_63 : decode cX9_overIn 63 = .ok (.aload_n 2, 1) := by decide +kernel
theorem dX9_overIn_64 : decode cX9_overIn 64 = .ok (.invokevirtual 255, 3) := by decide +kernel
theorem dX9_overIn_67 : decode cX9_overIn 67 = .ok (.ifCond .eq 9, 3) := by decide +kernel
theorem dX9_overIn_70 : decode cX9_overIn 70 = .ok (.sipush 600, 3) := by decide +kernel
theorem dX9_overIn_73 : decode cX9_overIn 73 = .ok (.goto 4, 3) := by decide +kernel
theorem dX9_overIn_76 : decode cX9_overIn 76 = .ok (.iconst (-1), 1) := by decide +kernel
theorem dX9_overIn_77 : decode cX9_overIn 77 = .ok (.ireturn, 1) := by decide +kernel
theorem dX9_foretold_0 : decode cX9_foretold 0 = .ok (.iload_n 1, 1) := by decide +kernel
theorem dX9_foretold_1 : decode cX9_foretold 1 = .ok (.iconst 1, 1) := by decide +kernel
theorem dX9_foretold_2 : decode cX9_foretold 2 = .ok (.if_icmp .lt 20, 3) := by decide +kernel
theorem dX9_foretold_5 : decode cX9_foretold 5 = .ok (.iload_n 1, 1) := by decide +kernel
theorem dX9_foretold_6 : decode cX9_foretold 6 = .ok (.sipush 600, 3) := by decide +kernel
theorem dX9_foretold_9 : decode cX9_foretold 9 = .ok (.if_icmp .gt 13, 3) := by decide +kernel
theorem dX9_foretold_12 : decode cX9_foretold 12 = .ok (.iload_n 2, 1) := by decide +kernel
theorem dX9_foretold_13 : decode cX9_foretold 13 = .ok (.ifCond .lt 9, 3) := by decide +kernel
theorem dX9_foretold_16 : decode cX9_foretold 16 = .ok (.iload_n 2, 1) := by decide +kernel
theorem dX9_foretold_17 : decode cX9_foretold 17 = .ok (.bipush 11, 2) := by decide +kernel
theorem dX9_foretold_19 : decode cX9_foretold 19 = .ok (.if_icmp .le 11, 3) := by decide +kernel
theorem dX9_foretold_22 : decode cX9_foretold 22 = .ok (.new 48, 3) := by decide +kernel
theorem dX9_foretold_25 : decode cX9_foretold 25 = .ok (.dup, 1) := by decide +kernel
theorem dX9_foretold_26 : decode cX9_foretold 26 = .ok (.invokespecial 50, 3) := by decide +kernel
theorem dX9_foretold_29 : decode cX9_foretold 29 = .ok (.athrow, 1) := by decide +kernel
theorem dX9_foretold_30 : decode cX9_foretold 30 = .ok (.aload_n 0, 1) := by decide +kernel
theorem dX9_foretold_31 : decode cX9_foretold 31 = .ok (.getfield 27, 3) := by decide +kernel
theorem dX9_foretold_34 : decode cX9_foretold 34 = .ok (.aload_n 0, 1) := by decide +kernel
theorem dX9_foretold_35 : decode cX9_foretold 35 = .ok (.getfield 23, 3) := by decide +kernel
theorem dX9_foretold_38 : decode cX9_foretold 38 = .ok (.invokevirtual 63, 3) := by decide +kernel
theorem dX9_foretold_41 : decode cX9_foretold 41 = .ok (.aload_n 0, 1) := by decide +kernel
theorem dX9_foretold_42 : decode cX9_foretold 42 = .ok (.getfield 27, 3) := by decide +kernel
theorem dX9_foretold_45 : decode cX9_foretold 45 = .ok (.iload_n 1, 1) := by decide +kernel
theorem dX9_foretold_46 : decode cX9_foretold 46 = .ok (.invokevirtual 262, 3) := by decide +kernel
theorem dX9_foretold_49 : decode cX9_foretold 49 = .ok (.aload_n 0, 1) := by decide +kernel
theorem dX9_foretold_50 : decode cX9_foretold 50 = .ok (.getfield 27, 3) := by decide +kernel
theorem dX9_foretold_53 : decode cX9_foretold 53 = .ok (.iload_n 2, 1) := by decide +kernel
theorem dX9_foretold_54 : decode cX9_foretold 54 = .ok (.invokevirtual 69, 3) := by decide +kernel
theorem dX9_foretold_57 : decode cX9_foretold 57 = .ok (.ireturn, 1) := by decide +kernel
theorem dX9_bestGuard_0 : decode cX9_bestGuard 0 = .ok (.iconst 1, 1) := by decide +kernel
theorem dX9_bestGuard_1 : decode cX9_bestGuard 1 = .ok (.istore_n 1, 1) := by decide +kernel
theorem dX9_bestGuard_2 : decode cX9_bestGuard 2 = .ok (.iconst (-1), 1) := by decide +kernel
theorem dX9_bestGuard_3 : decode cX9_bestGuard 3 = .ok (.istore_n 2, 1) := by decide +kernel
theorem dX9_bestGuard_4 : decode cX9_bestGuard 4 = .ok (.iconst 1, 1) := by decide +kernel
theorem dX9_bestGuard_5 : decode cX9_bestGuard 5 = .ok (.istore_n 3, 1) := by decide +kernel
theorem dX9_bestGuard_6 : decode cX9_bestGuard 6 = .ok (.iconst 1, 1) := by decide +kernel
theorem dX9_bestGuard_7 : decode cX9_bestGuard 7 = .ok (.istore 4, 2) := by decide +kernel
theorem dX9_bestGuard_9 : decode cX9_bestGuard 9 = .ok (.iload 4, 2) := by decide +kernel
theorem dX9_bestGuard_11 : decode cX9_bestGuard 11 = .ok (.bipush 40, 2) := by decide +kernel
theorem dX9_bestGuard_13 : decode cX9_bestGuard 13 = .ok (.if_icmp .gt 82, 3) := by decide +kernel
theorem dX9_bestGuard_16 : decode cX9_bestGuard 16 = .ok (.iload_n 3, 1) := by decide +kernel
theorem dX9_bestGuard_17 : decode cX9_bestGuard 17 = .ok (.ifCond .eq 78, 3) := by decide +kernel
theorem dX9_bestGuard_20 : decode cX9_bestGuard 20 = .ok (.aload_n 0, 1) := by decide +kernel
theorem dX9_bestGuard_21 : decode cX9_bestGuard 21 = .ok (.getfield 27, 3) := by decide +kernel
theorem dX9_bestGuard_24 : decode cX9_bestGuard 24 = .ok (.aload_n 0, 1) := by decide +kernel
theorem dX9_bestGuard_25 : decode cX9_bestGuard 25 = .ok (.getfield 23, 3) := by decide +kernel
theorem dX9_bestGuard_28 : decode cX9_bestGuard 28 = .ok (.invokevirtual 63, 3) := by decide +kernel
theorem dX9_bestGuard_31 : decode cX9_bestGuard 31 = .ok (.aload_n 0, 1) := by decide +kernel
theorem dX9_bestGuard_32 : decode cX9_bestGuard 32 = .ok (.getfield 27, 3) := by decide +kernel
theorem dX9_bestGuard_35 : decode cX9_bestGuard 35 = .ok (.iload 4, 2) := by decide +kernel
theorem dX9_bestGuard_37 : decode cX9_bestGuard 37 = .ok (.putfield 91, 3) := by decide +kernel
theorem dX9_bestGuard_40 : decode cX9_bestGuard 40 = .ok (.aload_n 0, 1) := by decide +kernel
theorem dX9_bestGuard_41 : decode cX9_bestGuard 41 = .ok (.getfield 27, 3) := by decide +kernel
theorem dX9_bestGuard_44 : decode cX9_bestGuard 44 = .ok (.iconst 0, 1) := by decide +kernel
theorem dX9_bestGuard_45 : decode cX9_bestGuard 45 = .ok (.putfield 265, 3) := by decide +kernel
theorem dX9_bestGuard_48 : decode cX9_bestGuard 48 = .ok (.aload_n 0, 1) := by decide +kernel
theorem dX9_bestGuard_49 : decode cX9_bestGuard 49 = .ok (.getfield 27, 3) := by decide +kernel
theorem dX9_bestGuard_52 : decode cX9_bestGuard 52 = .ok (.sipush 300, 3) := by decide +kernel
theorem dX9_bestGuard_55 : decode cX9_bestGuard 55 = .ok (.invokevirtual 262, 3) := by decide +kernel
theorem dX9_bestGuard_58 : decode cX9_bestGuard 58 = .ok (.aload_n 0, 1) := by decide +kernel
theorem dX9_bestGuard_59 : decode cX9_bestGuard 59 = .ok (.getfield 27, 3) := by decide +kernel
theorem dX9_bestGuard_62 : decode cX9_bestGuard 62 = .ok (.bipush 6, 2) := by decide +kernel
theorem dX9_bestGuard_64 : decode cX9_bestGuard 64 = .ok (.invokevirtual 69, 3) := by decide +kernel
theorem dX9_bestGuard_67 : decode cX9_bestGuard 67 = .ok (.istore 5, 2) := by decide +kernel
theorem dX9_bestGuard_69 : decode cX9_bestGuard 69 = .ok (.iload 5, 2) := by decide +kernel
theorem dX9_bestGuard_71 : decode cX9_bestGuard 71 = .ok (.iload_n 2, 1) := by decide +kernel
theorem dX9_bestGuard_72 : decode cX9_bestGuard 72 = .ok (.if_icmp .le 9, 3) := by decide +kernel
theorem dX9_bestGuard_75 : decode cX9_bestGuard 75 = .ok (.iload 5, 2) := by decide +kernel
theorem dX9_bestGuard_77 : decode cX9_bestGuard 77 = .ok (.istore_n 2, 1) := by decide +kernel
theorem dX9_bestGuard_78 : decode cX9_bestGuard 78 = .ok (.iload 4, 2) := by decide +kernel
theorem dX9_bestGuard_80 : decode cX9_bestGuard 80 = .ok (.istore_n 1, 1) := by decide +kernel
theorem dX9_bestGuard_81 : decode cX9_bestGuard 81 = .ok (.aload_n 0, 1) := by decide +kernel
theorem dX9_bestGuard_82 : decode cX9_bestGuard 82 = .ok (.getfield 27, 3) := by decide +kernel
theorem dX9_bestGuard_85 : decode cX9_bestGuard 85 = .ok (.getfield 265, 3) := by decide +kernel
theorem dX9_bestGuard_88 : decode cX9_bestGuard 88 = .ok (.istore_n 3, 1) := by decide +kernel
theorem dX9_bestGuard_89 : decode cX9_bestGuard 89 = .ok (.iinc 4 1, 3) := by decide +kernel
theorem dX9_bestGuard_92 : decode cX9_bestGuard 92 = .ok (.goto (-83), 3) := by decide +kernel
theorem dX9_bestGuard_95 : decode cX9_bestGuard 95 = .ok (.iload_n 1, 1) := by decide +kernel
theorem dX9_bestGuard_96 : decode cX9_bestGuard 96 = .ok (.ireturn, 1) := by decide +kernel
theorem dX9_service_0 : decode cX9_service 0 = .ok (.aload_n 0, 1) := by decide +kernel
theorem dX9_service_1 : decode cX9_service 1 = .ok (.getfield 23, 3) := by decide +kernel
theorem dX9_service_4 : decode cX9_service 4 = .ok (.bipush 6, 2) := by decide +kernel
theorem dX9_service_6 : decode cX9_service 6 = .ok (.invokevirtual 69, 3) := by decide +kernel
theorem dX9_service_9 : decode cX9_service 9 = .ok (.istore_n 1, 1) := by decide +kernel
theorem dX9_service_10 : decode cX9_service 10 = .ok (.iload_n 1, 1) := by decide +kernel
theorem dX9_service_11 : decode cX9_service 11 = .ok (.aload_n 0, 1) := by decide +kernel
theorem dX9_service_12 : decode cX9_service 12 = .ok (.getfield 23, 3) := by decide +kernel
theorem dX9_service_15 : decode cX9_service 15 = .ok (.bipush 7, 2) := by decide +kernel
theorem dX9_service_17 : decode cX9_service 17 = .ok (.invokevirtual 69, 3) := by decide +kernel
theorem dX9_service_20 : decode cX9_service 20 = .ok (.iadd, 1) := by decide +kernel
theorem dX9_service_21 : decode cX9_service 21 = .ok (.aload_n 0, 1) := by decide +kernel
theorem dX9_service_22 : decode cX9_service 22 = .ok (.getfield 23, 3) := by decide +kernel
theorem dX9_service_25 : decode cX9_service 25 = .ok (.bipush 8, 2) := by decide +kernel
theorem dX9_service_27 : decode cX9_service 27 = .ok (.invokevirtual 69, 3) := by decide +kernel
theorem dX9_service_30 : decode cX9_service 30 = .ok (.iadd, 1) := by decide +kernel
theorem dX9_service_31 : decode cX9_service 31 = .ok (.aload_n 0, 1) := by decide +kernel
theorem dX9_service_32 : decode cX9_service 32 = .ok (.getfield 23, 3) := by decide +kernel
theorem dX9_service_35 : decode cX9_service 35 = .ok (.bipush 9, 2) := by decide +kernel
theorem dX9_service_37 : decode cX9_service 37 = .ok (.invokevirtual 69, 3) := by decide +kernel
theorem dX9_service_40 : decode cX9_service 40 = .ok (.iadd, 1) := by decide +kernel
theorem dX9_service_41 : decode cX9_service 41 = .ok (.aload_n 0, 1) := by decide +kernel
theorem dX9_service_42 : decode cX9_service 42 = .ok (.getfield 23, 3) := by decide +kernel
theorem dX9_service_45 : decode cX9_service 45 = .ok (.bipush 10, 2) := by decide +kernel
theorem dX9_service_47 : decode cX9_service 47 = .ok (.invokevirtual 69, 3) := by decide +kernel
theorem dX9_service_50 : decode cX9_service 50 = .ok (.iadd, 1) := by decide +kernel
theorem dX9_service_51 : decode cX9_service 51 = .ok (.istore_n 2, 1) := by decide +kernel
theorem dX9_service_52 : decode cX9_service 52 = .ok (.iload_n 2, 1) := by decide +kernel
theorem dX9_service_53 : decode cX9_service 53 = .ok (.ifCond .ne 5, 3) := by decide +kernel
theorem dX9_service_56 : decode cX9_service 56 = .ok (.fconst 1, 1) := by decide +kernel
theorem dX9_service_57 : decode cX9_service 57 = .ok (.freturn, 1) := by decide +kernel
theorem dX9_service_58 : decode cX9_service 58 = .ok (.iload_n 1, 1) := by decide +kernel
theorem dX9_service_59 : decode cX9_service 59 = .ok (.i2f, 1) := by decide +kernel
theorem dX9_service_60 : decode cX9_service 60 = .ok (.iload_n 2, 1) := by decide +kernel
theorem dX9_service_61 : decode cX9_service 61 = .ok (.i2f, 1) := by decide +kernel
theorem dX9_service_62 : decode cX9_service 62 = .ok (.fdiv, 1) := by decide +kernel
theorem dX9_service_63 : decode cX9_service 63 = .ok (.freturn, 1) := by decide +kernel
theorem dX9_traffic_0 : decode cX9_traffic 0 = .ok (.aload_n 0, 1) := by decide +kernel
theorem dX9_traffic_1 : decode cX9_traffic 1 = .ok (.getfield 23, 3) := by decide +kernel
theorem dX9_traffic_4 : decode cX9_traffic 4 = .ok (.iload_n 1, 1) := by decide +kernel
theorem dX9_traffic_5 : decode cX9_traffic 5 = .ok (.invokevirtual 132, 3) := by decide +kernel
theorem dX9_traffic_8 : decode cX9_traffic 8 = .ok (.astore_n 2, 1) := by decide +kernel
theorem dX9_traffic_9 : decode cX9_traffic 9 = .ok (.aload_n 2, 1) := by decide +kernel
theorem dX9_traffic_10 : decode cX9_traffic 10 = .ok (.ifnonnull 11, 3) := by decide +kernel
theorem dX9_traffic_13 : decode cX9_traffic 13 = .ok (.new 114, 3) := by decide +kernel
theorem dX9_traffic_16 : decode cX9_traffic 16 = .ok (.dup, 1) := by decide +kernel
theorem dX9_traffic_17 : decode cX9_traffic 17 = .ok (.invokespecial 116, 3) := by decide +kernel
theorem dX9_traffic_20 : decode cX9_traffic 20 = .ok (.athrow, 1) := by decide +kernel
theorem dX9_traffic_21 : decode cX9_traffic 21 = .ok (.aload_n 2, 1) := by decide +kernel
theorem dX9_traffic_22 : decode cX9_traffic 22 = .ok (.getfield 136, 3) := by decide +kernel
theorem dX9_traffic_25 : decode cX9_traffic 25 = .ok (.aload_n 0, 1) := by decide +kernel
theorem dX9_traffic_26 : decode cX9_traffic 26 = .ok (.getfield 23, 3) := by decide +kernel
theorem dX9_traffic_29 : decode cX9_traffic 29 = .ok (.getfield 88, 3) := by decide +kernel
theorem dX9_traffic_32 : decode cX9_traffic 32 = .ok (.imul, 1) := by decide +kernel
theorem dX9_traffic_33 : decode cX9_traffic 33 = .ok (.istore_n 3, 1) := by decide +kernel
theorem dX9_traffic_34 : decode cX9_traffic 34 = .ok (.iload_n 3, 1) := by decide +kernel
theorem dX9_traffic_35 : decode cX9_traffic 35 = .ok (.ifCond .ne 5, 3) := by decide +kernel
theorem dX9_traffic_38 : decode cX9_traffic 38 = .ok (.fconst 0, 1) := by decide +kernel
theorem dX9_traffic_39 : decode cX9_traffic 39 = .ok (.freturn, 1) := by decide +kernel
theorem dX9_traffic_40 : decode cX9_traffic 40 = .ok (.aload_n 2, 1) := by decide +kernel
theorem dX9_traffic_41 : decode cX9_traffic 41 = .ok (.getfield 156, 3) := by decide +kernel
theorem dX9_traffic_44 : decode cX9_traffic 44 = .ok (.i2f, 1) := by decide +kernel
theorem dX9_traffic_45 : decode cX9_traffic 45 = .ok (.iload_n 3, 1) := by decide +kernel
theorem dX9_traffic_46 : decode cX9_traffic 46 = .ok (.i2f, 1) := by decide +kernel
theorem dX9_traffic_47 : decode cX9_traffic 47 = .ok (.fdiv, 1) := by decide +kernel
theorem dX9_traffic_48 : decode cX9_traffic 48 = .ok (.freturn, 1) := by decide +kernel
theorem dX9_dial_0 : decode cX9_dial 0 = .ok (.aload_n 0, 1) := by decide +kernel
theorem dX9_dial_1 : decode cX9_dial 1 = .ok (.getfield 23, 3) := by decide +kernel
theorem dX9_dial_4 : decode cX9_dial 4 = .ok (.iload_n 1, 1) := by decide +kernel
theorem dX9_dial_5 : decode cX9_dial 5 = .ok (.invokevirtual 110, 3) := by decide +kernel
theorem dX9_dial_8 : decode cX9_dial 8 = .ok (.ifCond .ne 11, 3) := by decide +kernel
theorem dX9_dial_11 : decode cX9_dial 11 = .ok (.new 114, 3) := by decide +kernel
theorem dX9_dial_14 : decode cX9_dial 14 = .ok (.dup, 1) := by decide +kernel
theorem dX9_dial_15 : decode cX9_dial 15 = .ok (.invokespecial 116, 3) := by decide +kernel
theorem dX9_dial_18 : decode cX9_dial 18 = .ok (.athrow, 1) := by decide +kernel
theorem dX9_dial_19 : decode cX9_dial 19 = .ok (.aload_n 0, 1) := by decide +kernel
theorem dX9_dial_20 : decode cX9_dial 20 = .ok (.iload_n 2, 1) := by decide +kernel
theorem dX9_dial_21 : decode cX9_dial 21 = .ok (.invokevirtual 231, 3) := by decide +kernel
theorem dX9_dial_24 : decode cX9_dial 24 = .ok (.ifCond .eq 14, 3) := by decide +kernel
theorem dX9_dial_27 : decode cX9_dial 27 = .ok (.iload_n 3, 1) := by decide +kernel
theorem dX9_dial_28 : decode cX9_dial 28 = .ok (.iconst 1, 1) := by decide +kernel
theorem dX9_dial_29 : decode cX9_dial 29 = .ok (.if_icmp .lt 9, 3) := by decide +kernel
theorem dX9_dial_32 : decode cX9_dial 32 = .ok (.iload_n 3, 1) := by decide +kernel
theorem dX9_dial_33 : decode cX9_dial 33 = .ok (.bipush 99, 2) := by decide +kernel
theorem dX9_dial_35 : decode cX9_dial 35 = .ok (.if_icmp .le 11, 3) := by decide +kernel
theorem dX9_dial_38 : decode cX9_dial 38 = .ok (.new 48, 3) := by decide +kernel
theorem dX9_dial_41 : decode cX9_dial 41 = .ok (.dup, 1) := by decide +kernel
theorem dX9_dial_42 : decode cX9_dial 42 = .ok (.invokespecial 50, 3) := by decide +kernel
theorem dX9_dial_45 : decode cX9_dial 45 = .ok (.athrow, 1) := by decide +kernel
theorem dX9_dial_46 : decode cX9_dial 46 = .ok (.aload_n 0, 1) := by decide +kernel
theorem dX9_dial_47 : decode cX9_dial 47 = .ok (.getfield 23, 3) := by decide +kernel
theorem dX9_dial_50 : decode cX9_dial 50 = .ok (.getfield 66, 3) := by decide +kernel
theorem dX9_dial_53 : decode cX9_dial 53 = .ok (.bipush 40, 2) := by decide +kernel
theorem dX9_dial_55 : decode cX9_dial 55 = .ok (.if_icmp .lt 11, 3) := by decide +kernel
theorem dX9_dial_58 : decode cX9_dial 58 = .ok (.new 269, 3) := by decide +kernel
theorem dX9_dial_61 : decode cX9_dial 61 = .ok (.dup, 1) := by decide +kernel
theorem dX9_dial_62 : decode cX9_dial 62 = .ok (.invokespecial 271, 3) := by decide +kernel
theorem dX9_dial_65 : decode cX9_dial 65 = .ok (.athrow, 1) := by decide +kernel
theorem dX9_dial_66 : decode cX9_dial 66 = .ok (.aload_n 0, 1) := by decide +kernel
theorem dX9_dial_67 : decode cX9_dial 67 = .ok (.iload_n 2, 1) := by decide +kernel
theorem dX9_dial_68 : decode cX9_dial 68 = .ok (.invokevirtual 234, 3) := by decide +kernel
theorem dX9_dial_71 : decode cX9_dial 71 = .ok (.istore 4, 2) := by decide +kernel
theorem dX9_dial_73 : decode cX9_dial 73 = .ok (.aload_n 0, 1) := by decide +kernel
theorem dX9_dial_74 : decode cX9_dial 74 = .ok (.iconst 0, 1) := by decide +kernel
theorem dX9_dial_75 : decode cX9_dial 75 = .ok (.putfield 13, 3) := by decide +kernel
theorem dX9_dial_78 : decode cX9_dial 78 = .ok (.iload 4, 2) := by decide +kernel
theorem dX9_dial_80 : decode cX9_dial 80 = .ok (.ifCond .ne 5, 3) := by decide +kernel
theorem dX9_dial_83 : decode cX9_dial 83 = .ok (.iconst (-1), 1) := by decide +kernel
theorem dX9_dial_84 : decode cX9_dial 84 = .ok (.ireturn, 1) := by decide +kernel
theorem dX9_dial_85 : decode cX9_dial 85 = .ok (.aload_n 0, 1) := by decide +kernel
theorem dX9_dial_86 : decode cX9_dial 86 = .ok (.getfield 33, 3) := by decide +kernel
theorem dX9_dial_89 : decode cX9_dial 89 = .ok (.aload_n 0, 1) := by decide +kernel
theorem dX9_dial_90 : decode cX9_dial 90 = .ok (.getfield 23, 3) := by decide +kernel
theorem dX9_dial_93 : decode cX9_dial 93 = .ok (.invokevirtual 56, 3) := by decide +kernel
theorem dX9_dial_96 : decode cX9_dial 96 = .ok (.aload_n 0, 1) := by decide +kernel
theorem dX9_dial_97 : decode cX9_dial 97 = .ok (.getfield 23, 3) := by decide +kernel
theorem dX9_dial_100 : decode cX9_dial 100 = .ok (.iload_n 1, 1) := by decide +kernel
theorem dX9_dial_101 : decode cX9_dial 101 = .ok (.iload 4, 2) := by decide +kernel
theorem dX9_dial_103 : decode cX9_dial 103 = .ok (.iload_n 3, 1) := by decide +kernel
theorem dX9_dial_104 : decode cX9_dial 104 = .ok (.aload_n 0, 1) := by decide +kernel
theorem dX9_dial_105 : decode cX9_dial 105 = .ok (.getfield 23, 3) := by decide +kernel
theorem dX9_dial_108 : decode cX9_dial 108 = .ok (.getfield 88, 3) := by decide +kernel
theorem dX9_dial_111 : decode cX9_dial 111 = .ok (.iconst 1, 1) := by decide +kernel
theorem dX9_dial_112 : decode cX9_dial 112 = .ok (.iadd, 1) := by decide +kernel
theorem dX9_dial_113 : decode cX9_dial 113 = .ok (.invokevirtual 272, 3) := by decide +kernel
theorem dX9_dial_116 : decode cX9_dial 116 = .ok (.ireturn, 1) := by decide +kernel
theorem dX9_hang_0 : decode cX9_hang 0 = .ok (.aload_n 0, 1) := by decide +kernel
theorem dX9_hang_1 : decode cX9_hang 1 = .ok (.getfield 23, 3) := by decide +kernel
theorem dX9_hang_4 : decode cX9_hang 4 = .ok (.iload_n 1, 1) := by decide +kernel
theorem dX9_hang_5 : decode cX9_hang 5 = .ok (.invokevirtual 189, 3) := by decide +kernel
theorem dX9_hang_8 : decode cX9_hang 8 = .ok (.astore_n 2, 1) := by decide +kernel
theorem dX9_hang_9 : decode cX9_hang 9 = .ok (.aload_n 2, 1) := by decide +kernel
theorem dX9_hang_10 : decode cX9_hang 10 = .ok (.ifnonnull 11, 3) := by decide +kernel
theorem dX9_hang_13 : decode cX9_hang 13 = .ok (.new 114, 3) := by decide +kernel
theorem dX9_hang_16 : decode cX9_hang 16 = .ok (.dup, 1) := by decide +kernel
theorem dX9_hang_17 : decode cX9_hang 17 = .ok (.invokespecial 116, 3) := by decide +kernel
theorem dX9_hang_20 : decode cX9_hang 20 = .ok (.athrow, 1) := by decide +kernel
theorem dX9_hang_21 : decode cX9_hang 21 = .ok (.aload_n 2, 1) := by decide +kernel
theorem dX9_hang_22 : decode cX9_hang 22 = .ok (.invokevirtual 255, 3) := by decide +kernel
theorem dX9_hang_25 : decode cX9_hang 25 = .ok (.ifCond .eq 11, 3) := by decide +kernel
theorem dX9_hang_28 : decode cX9_hang 28 = .ok (.new 269, 3) := by decide +kernel
theorem dX9_hang_31 : decode cX9_hang 31 = .ok (.dup, 1) := by decide +kernel
theorem dX9_hang_32 : decode cX9_hang 32 = .ok (.invokespecial 271, 3) := by decide +kernel
theorem dX9_hang_35 : decode cX9_hang 35 = .ok (.athrow, 1) := by decide +kernel
theorem dX9_hang_36 : decode cX9_hang 36 = .ok (.aload_n 0, 1) := by decide +kernel
theorem dX9_hang_37 : decode cX9_hang 37 = .ok (.getfield 33, 3) := by decide +kernel
theorem dX9_hang_40 : decode cX9_hang 40 = .ok (.aload_n 0, 1) := by decide +kernel
theorem dX9_hang_41 : decode cX9_hang 41 = .ok (.getfield 23, 3) := by decide +kernel
theorem dX9_hang_44 : decode cX9_hang 44 = .ok (.invokevirtual 56, 3) := by decide +kernel
theorem dX9_hang_47 : decode cX9_hang 47 = .ok (.aload_n 2, 1) := by decide +kernel
theorem dX9_hang_48 : decode cX9_hang 48 = .ok (.getfield 205, 3) := by decide +kernel
theorem dX9_hang_51 : decode cX9_hang 51 = .ok (.istore_n 3, 1) := by decide +kernel
theorem dX9_hang_52 : decode cX9_hang 52 = .ok (.aload_n 0, 1) := by decide +kernel
theorem dX9_hang_53 : decode cX9_hang 53 = .ok (.getfield 23, 3) := by decide +kernel
theorem dX9_hang_56 : decode cX9_hang 56 = .ok (.aload_n 2, 1) := by decide +kernel
theorem dX9_hang_57 : decode cX9_hang 57 = .ok (.invokevirtual 276, 3) := by decide +kernel
theorem dX9_hang_60 : decode cX9_hang 60 = .ok (.iload_n 3, 1) := by decide +kernel
theorem dX9_hang_61 : decode cX9_hang 61 = .ok (.ireturn, 1) := by decide +kernel
theorem dX9_rule_0 : decode cX9_rule 0 = .ok (.iload_n 2, 1) := by decide +kernel
theorem dX9_rule_1 : decode cX9_rule 1 = .ok (.iconst 1, 1) := by decide +kernel
theorem dX9_rule_2 : decode cX9_rule 2 = .ok (.if_icmp .lt 11, 3) := by decide +kernel
theorem dX9_rule_5 : decode cX9_rule 5 = .ok (.iload_n 2, 1) := by decide +kernel
theorem dX9_rule_6 : decode cX9_rule 6 = .ok (.iload_n 1, 1) := by decide +kernel
theorem dX9_rule_7 : decode cX9_rule 7 = .ok (.invokestatic 280, 3) := by decide +kernel
theorem dX9_rule_10 : decode cX9_rule 10 = .ok (.if_icmp .le 11, 3) := by decide +kernel
theorem dX9_rule_13 : decode cX9_rule 13 = .ok (.new 48, 3) := by decide +kernel
theorem dX9_rule_16 : decode cX9_rule 16 = .ok (.dup, 1) := by decide +kernel
theorem dX9_rule_17 : decode cX9_rule 17 = .ok (.invokespecial 50, 3) := by decide +kernel
theorem dX9_rule_20 : decode cX9_rule 20 = .ok (.athrow, 1) := by decide +kernel
theorem dX9_rule_21 : decode cX9_rule 21 = .ok (.aload_n 0, 1) := by decide +kernel
theorem dX9_rule_22 : decode cX9_rule 22 = .ok (.getfield 33, 3) := by decide +kernel
theorem dX9_rule_25 : decode cX9_rule 25 = .ok (.aload_n 0, 1) := by decide +kernel
theorem dX9_rule_26 : decode cX9_rule 26 = .ok (.getfield 23, 3) := by decide +kernel
theorem dX9_rule_29 : decode cX9_rule 29 = .ok (.invokevirtual 56, 3) := by decide +kernel
theorem dX9_rule_32 : decode cX9_rule 32 = .ok (.aload_n 0, 1) := by decide +kernel
theorem dX9_rule_33 : decode cX9_rule 33 = .ok (.getfield 23, 3) := by decide +kernel
theorem dX9_rule_36 : decode cX9_rule 36 = .ok (.iload_n 1, 1) := by decide +kernel
theorem dX9_rule_37 : decode cX9_rule 37 = .ok (.iload_n 2, 1) := by decide +kernel
theorem dX9_rule_38 : decode cX9_rule 38 = .ok (.invokevirtual 283, 3) := by decide +kernel
theorem dX9_rule_41 : decode cX9_rule 41 = .ok (.ireturn, 1) := by decide +kernel
theorem dX9_pass_0 : decode cX9_pass 0 = .ok (.iload_n 1, 1) := by decide +kernel
theorem dX9_pass_1 : decode cX9_pass 1 = .ok (.iconst 1, 1) := by decide +kernel
theorem dX9_pass_2 : decode cX9_pass 2 = .ok (.if_icmp .lt 10, 3) := by decide +kernel
theorem dX9_pass_5 : decode cX9_pass 5 = .ok (.iload_n 1, 1) := by decide +kernel
theorem dX9_pass_6 : decode cX9_pass 6 = .ok (.sipush 300, 3) := by decide +kernel
theorem dX9_pass_9 : decode cX9_pass 9 = .ok (.if_icmp .le 11, 3) := by decide +kernel
theorem dX9_pass_12 : decode cX9_pass 12 = .ok (.new 48, 3) := by decide +kernel
theorem dX9_pass_15 : decode cX9_pass 15 = .ok (.dup, 1) := by decide +kernel
theorem dX9_pass_16 : decode cX9_pass 16 = .ok (.invokespecial 50, 3) := by decide +kernel
theorem dX9_pass_19 : decode cX9_pass 19 = .ok (.athrow, 1) := by decide +kernel
theorem dX9_pass_20 : decode cX9_pass 20 = .ok (.aload_n 0, 1) := by decide +kernel
theorem dX9_pass_21 : decode cX9_pass 21 = .ok (.getfield 33, 3) := by decide +kernel
theorem dX9_pass_24 : decode cX9_pass 24 = .ok (.aload_n 0, 1) := by decide +kernel
theorem dX9_pass_25 : decode cX9_pass 25 = .ok (.getfield 23, 3) := by decide +kernel
theorem dX9_pass_28 : decode cX9_pass 28 = .ok (.invokevirtual 56, 3) := by decide +kernel
theorem dX9_pass_31 : decode cX9_pass 31 = .ok (.aload_n 0, 1) := by decide +kernel
theorem dX9_pass_32 : decode cX9_pass 32 = .ok (.getfield 23, 3) := by decide +kernel
theorem dX9_pass_35 : decode cX9_pass 35 = .ok (.bipush 6, 2) := by decide +kernel
theorem dX9_pass_37 : decode cX9_pass 37 = .ok (.invokevirtual 69, 3) := by decide +kernel
theorem dX9_pass_40 : decode cX9_pass 40 = .ok (.istore_n 2, 1) := by decide +kernel
theorem dX9_pass_41 : decode cX9_pass 41 = .ok (.iconst 0, 1) := by decide +kernel
theorem dX9_pass_42 : decode cX9_pass 42 = .ok (.istore_n 3, 1) := by decide +kernel
theorem dX9_pass_43 : decode cX9_pass 43 = .ok (.iload_n 3, 1) := by decide +kernel
theorem dX9_pass_44 : decode cX9_pass 44 = .ok (.iload_n 1, 1) := by decide +kernel
theorem dX9_pass_45 : decode cX9_pass 45 = .ok (.if_icmp .ge 16, 3) := by decide +kernel
theorem dX9_pass_48 : decode cX9_pass 48 = .ok (.aload_n 0, 1) := by decide +kernel
theorem dX9_pass_49 : decode cX9_pass 49 = .ok (.getfield 23, 3) := by decide +kernel
theorem dX9_pass_52 : decode cX9_pass 52 = .ok (.invokevirtual 259, 3) := by decide +kernel
theorem dX9_pass_55 : decode cX9_pass 55 = .ok (.iinc 3 1, 3) := by decide +kernel
theorem dX9_pass_58 : decode cX9_pass 58 = .ok (.goto (-15), 3) := by decide +kernel
theorem dX9_pass_61 : decode cX9_pass 61 = .ok (.aload_n 0, 1) := by decide +kernel
theorem dX9_pass_62 : decode cX9_pass 62 = .ok (.getfield 23, 3) := by decide +kernel
theorem dX9_pass_65 : decode cX9_pass 65 = .ok (.bipush 6, 2) := by decide +kernel
theorem dX9_pass_67 : decode cX9_pass 67 = .ok (.invokevirtual 69, 3) := by decide +kernel
theorem dX9_pass_70 : decode cX9_pass 70 = .ok (.iload_n 2, 1) := by decide +kernel
theorem dX9_pass_71 : decode cX9_pass 71 = .ok (.isub, 1) := by decide +kernel
theorem dX9_pass_72 : decode cX9_pass 72 = .ok (.ireturn, 1) := by decide +kernel
theorem dX9_undo_0 : decode cX9_undo 0 = .ok (.aload_n 0, 1) := by decide +kernel
theorem dX9_undo_1 : decode cX9_undo 1 = .ok (.getfield 33, 3) := by decide +kernel
theorem dX9_undo_4 : decode cX9_undo 4 = .ok (.aload_n 0, 1) := by decide +kernel
theorem dX9_undo_5 : decode cX9_undo 5 = .ok (.getfield 23, 3) := by decide +kernel
theorem dX9_undo_8 : decode cX9_undo 8 = .ok (.invokevirtual 286, 3) := by decide +kernel
theorem dX9_undo_11 : decode cX9_undo 11 = .ok (.ireturn, 1) := by decide +kernel
theorem dX9_checksum_0 : decode cX9_checksum 0 = .ok (.lconst 0, 1) := by decide +kernel
theorem dX9_checksum_1 : decode cX9_checksum 1 = .ok (.lstore_n 1, 1) := by decide +kernel
theorem dX9_checksum_2 : decode cX9_checksum 2 = .ok (.iconst 0, 1) := by decide +kernel
theorem dX9_checksum_3 : decode cX9_checksum 3 = .ok (.istore_n 3, 1) := by decide +kernel
theorem dX9_checksum_4 : decode cX9_checksum 4 = .ok (.iload_n 3, 1) := by decide +kernel
theorem dX9_checksum_5 : decode cX9_checksum 5 = .ok (.bipush 24, 2) := by decide +kernel
theorem dX9_checksum_7 : decode cX9_checksum 7 = .ok (.if_icmp .gt 22, 3) := by decide +kernel
theorem dX9_checksum_10 : decode cX9_checksum 10 = .ok (.ldc2_w 290, 3) := by decide +kernel
theorem dX9_checksum_13 : decode cX9_checksum 13 = .ok (.lload_n 1, 1) := by decide +kernel
theorem dX9_checksum_14 : decode cX9_checksum 14 = .ok (.lmul, 1) := by decide +kernel
theorem dX9_checksum_15 : decode cX9_checksum 15 = .ok (.aload_n 0, 1) := by decide +kernel
theorem dX9_checksum_16 : decode cX9_checksum 16 = .ok (.iload_n 3, 1) := by decide +kernel
theorem dX9_checksum_17 : decode cX9_checksum 17 = .ok (.invokevirtual 292, 3) := by decide +kernel
theorem dX9_checksum_20 : decode cX9_checksum 20 = .ok (.i2l, 1) := by decide +kernel
theorem dX9_checksum_21 : decode cX9_checksum 21 = .ok (.ladd, 1) := by decide +kernel
theorem dX9_checksum_22 : decode cX9_checksum 22 = .ok (.lstore_n 1, 1) := by decide +kernel
theorem dX9_checksum_23 : decode cX9_checksum 23 = .ok (.iinc 3 1, 3) := by decide +kernel
theorem dX9_checksum_26 : decode cX9_checksum 26 = .ok (.goto (-22), 3) := by decide +kernel
theorem dX9_checksum_29 : decode cX9_checksum 29 = .ok (.aload_n 0, 1) := by decide +kernel
theorem dX9_checksum_30 : decode cX9_checksum 30 = .ok (.lload_n 1, 1) := by decide +kernel
theorem dX9_checksum_31 : decode cX9_checksum 31 = .ok (.invokevirtual 294, 3) := by decide +kernel
theorem dX9_checksum_34 : decode cX9_checksum 34 = .ok (.lstore_n 1, 1) := by decide +kernel
theorem dX9_checksum_35 : decode cX9_checksum 35 = .ok (.aload_n 0, 1) := by decide +kernel
theorem dX9_checksum_36 : decode cX9_checksum 36 = .ok (.lload_n 1, 1) := by decide +kernel
theorem dX9_checksum_37 : decode cX9_checksum 37 = .ok (.invokevirtual 298, 3) := by decide +kernel
theorem dX9_checksum_40 : decode cX9_checksum 40 = .ok (.lstore_n 1, 1) := by decide +kernel
theorem dX9_checksum_41 : decode cX9_checksum 41 = .ok (.aload_n 0, 1) := by decide +kernel
theorem dX9_checksum_42 : decode cX9_checksum 42 = .ok (.lload_n 1, 1) := by decide +kernel
theorem dX9_checksum_43 : decode cX9_checksum 43 = .ok (.invokevirtual 301, 3) := by decide +kernel
theorem dX9_checksum_46 : decode cX9_checksum 46 = .ok (.lstore_n 1, 1) := by decide +kernel
theorem dX9_checksum_47 : decode cX9_checksum 47 = .ok (.aload_n 0, 1) := by decide +kernel
theorem dX9_checksum_48 : decode cX9_checksum 48 = .ok (.lload_n 1, 1) := by decide +kernel
theorem dX9_checksum_49 : decode cX9_checksum 49 = .ok (.invokevirtual 304, 3) := by decide +kernel
theorem dX9_checksum_52 : decode cX9_checksum 52 = .ok (.lstore_n 1, 1) := by decide +kernel
theorem dX9_checksum_53 : decode cX9_checksum 53 = .ok (.aload_n 0, 1) := by decide +kernel
theorem dX9_checksum_54 : decode cX9_checksum 54 = .ok (.lload_n 1, 1) := by decide +kernel
theorem dX9_checksum_55 : decode cX9_checksum 55 = .ok (.invokevirtual 307, 3) := by decide +kernel
theorem dX9_checksum_58 : decode cX9_checksum 58 = .ok (.lreturn, 1) := by decide +kernel
theorem dX9_putWord_0 : decode cX9_putWord 0 = .ok (.bipush 24, 2) := by decide +kernel
theorem dX9_putWord_2 : decode cX9_putWord 2 = .ok (.istore_n 2, 1) := by decide +kernel
theorem dX9_putWord_3 : decode cX9_putWord 3 = .ok (.iload_n 2, 1) := by decide +kernel
theorem dX9_putWord_4 : decode cX9_putWord 4 = .ok (.ifCond .lt 51, 3) := by decide +kernel
theorem dX9_putWord_7 : decode cX9_putWord 7 = .ok (.aload_n 0, 1) := by decide +kernel
theorem dX9_putWord_8 : decode cX9_putWord 8 = .ok (.getfield 13, 3) := by decide +kernel
theorem dX9_putWord_11 : decode cX9_putWord 11 = .ok (.ifCond .lt 38, 3) := by decide +kernel
theorem dX9_putWord_14 : decode cX9_putWord 14 = .ok (.aload_n 0, 1) := by decide +kernel
theorem dX9_putWord_15 : decode cX9_putWord 15 = .ok (.getfield 13, 3) := by decide +kernel
theorem dX9_putWord_18 : decode cX9_putWord 18 = .ok (.aload_n 0, 1) := by decide +kernel
theorem dX9_putWord_19 : decode cX9_putWord 19 = .ok (.getfield 9, 3) := by decide +kernel
theorem dX9_putWord_22 : decode cX9_putWord 22 = .ok (.arraylength, 1) := by decide +kernel
theorem dX9_putWord_23 : decode cX9_putWord 23 = .ok (.if_icmp .ge 26, 3) := by decide +kernel
theorem dX9_putWord_26 : decode cX9_putWord 26 = .ok (.aload_n 0, 1) := by decide +kernel
theorem dX9_putWord_27 : decode cX9_putWord 27 = .ok (.getfield 9, 3) := by decide +kernel
theorem dX9_putWord_30 : decode cX9_putWord 30 = .ok (.aload_n 0, 1) := by decide +kernel
theorem dX9_putWord_31 : decode cX9_putWord 31 = .ok (.getfield 13, 3) := by decide +kernel
theorem dX9_putWord_34 : decode cX9_putWord 34 = .ok (.iload_n 1, 1) := by decide +kernel
theorem dX9_putWord_35 : decode cX9_putWord 35 = .ok (.iload_n 2, 1) := by decide +kernel
theorem dX9_putWord_36 : decode cX9_putWord 36 = .ok (.iushr, 1) := by decide +kernel
theorem dX9_putWord_37 : decode cX9_putWord 37 = .ok (.i2b, 1) := by decide +kernel
theorem dX9_putWord_38 : decode cX9_putWord 38 = .ok (.bastore, 1) := by decide +kernel
theorem dX9_putWord_39 : decode cX9_putWord 39 = .ok (.aload_n 0, 1) := by decide +kernel
theorem dX9_putWord_40 : decode cX9_putWord 40 = .ok (.dup, 1) := by decide +kernel
theorem dX9_putWord_41 : decode cX9_putWord 41 = .ok (.getfield 13, 3) := by decide +kernel
theorem dX9_putWord_44 : decode cX9_putWord 44 = .ok (.iconst 1, 1) := by decide +kernel
theorem dX9_putWord_45 : decode cX9_putWord 45 = .ok (.iadd, 1) := by decide +kernel
theorem dX9_putWord_46 : decode cX9_putWord 46 = .ok (.putfield 13, 3) := by decide +kernel
theorem dX9_putWord_49 : decode cX9_putWord 49 = .ok (.iinc 2 (-8), 3) := by decide +kernel
theorem dX9_putWord_52 : decode cX9_putWord 52 = .ok (.goto (-49), 3) := by decide +kernel
theorem dX9_putWord_55 : decode cX9_putWord 55 = .ok (.return_, 1) := by decide +kernel
theorem dX9_isDialLength_0 : decode cX9_isDialLength 0 = .ok (.iload_n 1, 1) := by decide +kernel
theorem dX9_isDialLength_1 : decode cX9_isDialLength 1 = .ok (.iconst 1, 1) := by decide +kernel
theorem dX9_isDialLength_2 : decode cX9_isDialLength 2 = .ok (.if_icmp .lt 21, 3) := by decide +kernel
theorem dX9_isDialLength_5 : decode cX9_isDialLength 5 = .ok (.iload_n 1, 1) := by decide +kernel
theorem dX9_isDialLength_6 : decode cX9_isDialLength 6 = .ok (.bipush 6, 2) := by decide +kernel
theorem dX9_isDialLength_8 : decode cX9_isDialLength 8 = .ok (.if_icmp .gt 15, 3) := by decide +kernel
theorem dX9_isDialLength_11 : decode cX9_isDialLength 11 = .ok (.iload_n 1, 1) := by decide +kernel
theorem dX9_isDialLength_12 : decode cX9_isDialLength 12 = .ok (.aload_n 0, 1) := by decide +kernel
theorem dX9_isDialLength_13 : decode cX9_isDialLength 13 = .ok (.getfield 13, 3) := by decide +kernel
theorem dX9_isDialLength_16 : decode cX9_isDialLength 16 = .ok (.if_icmp .gt 7, 3) := by decide +kernel
theorem dX9_isDialLength_19 : decode cX9_isDialLength 19 = .ok (.iconst 1, 1) := by decide +kernel
theorem dX9_isDialLength_20 : decode cX9_isDialLength 20 = .ok (.goto 4, 3) := by decide +kernel
theorem dX9_isDialLength_23 : decode cX9_isDialLength 23 = .ok (.iconst 0, 1) := by decide +kernel
theorem dX9_isDialLength_24 : decode cX9_isDialLength 24 = .ok (.ireturn, 1) := by decide +kernel
theorem dX9_bufferRow_0 : decode cX9_bufferRow 0 = .ok (.iconst 1, 1) := by decide +kernel
theorem dX9_bufferRow_1 : decode cX9_bufferRow 1 = .ok (.istore_n 2, 1) := by decide +kernel
theorem dX9_bufferRow_2 : decode cX9_bufferRow 2 = .ok (.iconst 0, 1) := by decide +kernel
theorem dX9_bufferRow_3 : decode cX9_bufferRow 3 = .ok (.istore_n 3, 1) := by decide +kernel
theorem dX9_bufferRow_4 : decode cX9_bufferRow 4 = .ok (.iload_n 3, 1) := by decide +kernel
theorem dX9_bufferRow_5 : decode cX9_bufferRow 5 = .ok (.iload_n 1, 1) := by decide +kernel
theorem dX9_bufferRow_6 : decode cX9_bufferRow 6 = .ok (.if_icmp .ge 56, 3) := by decide +kernel
theorem dX9_bufferRow_9 : decode cX9_bufferRow 9 = .ok (.iload_n 3, 1) := by decide +kernel
theorem dX9_bufferRow_10 : decode cX9_bufferRow 10 = .ok (.aload_n 0, 1) := by decide +kernel
theorem dX9_bufferRow_11 : decode cX9_bufferRow 11 = .ok (.getfield 9, 3) := by decide +kernel
theorem dX9_bufferRow_14 : decode cX9_bufferRow 14 = .ok (.arraylength, 1) := by decide +kernel
theorem dX9_bufferRow_15 : decode cX9_bufferRow 15 = .ok (.if_icmp .ge 47, 3) := by decide +kernel
theorem dX9_bufferRow_18 : decode cX9_bufferRow 18 = .ok (.aload_n 0, 1) := by decide +kernel
theorem dX9_bufferRow_19 : decode cX9_bufferRow 19 = .ok (.getfield 9, 3) := by decide +kernel
theorem dX9_bufferRow_22 : decode cX9_bufferRow 22 = .ok (.iload_n 3, 1) := by decide +kernel
theorem dX9_bufferRow_23 : decode cX9_bufferRow 23 = .ok (.baload, 1) := by decide +kernel
theorem dX9_bufferRow_24 : decode cX9_bufferRow 24 = .ok (.bipush 48, 2) := by decide +kernel
theorem dX9_bufferRow_26 : decode cX9_bufferRow 26 = .ok (.if_icmp .lt 14, 3) := by decide +kernel
theorem dX9_bufferRow_29 : decode cX9_bufferRow 29 = .ok (.aload_n 0, 1) := by decide +kernel
theorem dX9_bufferRow_30 : decode cX9_bufferRow 30 = .ok (.getfield 9, 3) := by decide +kernel
theorem dX9_bufferRow_33 : decode cX9_bufferRow 33 = .ok (.iload_n 3, 1) := by decide +kernel
theorem dX9_bufferRow_34 : decode cX9_bufferRow 34 = .ok (.baload, 1) := by decide +kernel
theorem dX9_bufferRow_35 : decode cX9_bufferRow 35 = .ok (.bipush 57, 2) := by decide +kernel
theorem dX9_bufferRow_37 : decode cX9_bufferRow 37 = .ok (.if_icmp .le 5, 3) := by decide +kernel
theorem dX9_bufferRow_40 : decode cX9_bufferRow 40 = .ok (.iconst 0, 1) := by decide +kernel
theorem dX9_bufferRow_41 : decode cX9_bufferRow 41 = .ok (.ireturn, 1) := by decide +kernel
theorem dX9_bufferRow_42 : decode cX9_bufferRow 42 = .ok (.iload_n 2, 1) := by decide +kernel
theorem dX9_bufferRow_43 : decode cX9_bufferRow 43 = .ok (.aload_n 0, 1) := by decide +kernel
theorem dX9_bufferRow_44 : decode cX9_bufferRow 44 = .ok (.getfield 9, 3) := by decide +kernel
theorem dX9_bufferRow_47 : decode cX9_bufferRow 47 = .ok (.iload_n 3, 1) := by decide +kernel
theorem dX9_bufferRow_48 : decode cX9_bufferRow 48 = .ok (.baload, 1) := by decide +kernel
theorem dX9_bufferRow_49 : decode cX9_bufferRow 49 = .ok (.bipush 48, 2) := by decide +kernel
theorem dX9_bufferRow_51 : decode cX9_bufferRow 51 = .ok (.isub, 1) := by decide +kernel
theorem dX9_bufferRow_52 : decode cX9_bufferRow 52 = .ok (.invokestatic 310, 3) := by decide +kernel
theorem dX9_bufferRow_55 : decode cX9_bufferRow 55 = .ok (.istore_n 2, 1) := by decide +kernel
theorem dX9_bufferRow_56 : decode cX9_bufferRow 56 = .ok (.iinc 3 1, 3) := by decide +kernel
theorem dX9_bufferRow_59 : decode cX9_bufferRow 59 = .ok (.goto (-55), 3) := by decide +kernel
theorem dX9_bufferRow_62 : decode cX9_bufferRow 62 = .ok (.iload_n 2, 1) := by decide +kernel
theorem dX9_bufferRow_63 : decode cX9_bufferRow 63 = .ok (.ireturn, 1) := by decide +kernel
theorem dX9_mostOf_0 : decode cX9_mostOf 0 = .ok (.iload_n 0, 1) := by decide +kernel
theorem dX9_mostOf_1 : decode cX9_mostOf 1 = .ok (.tableswitch 36 19 21 #[27, 30, 33], 27) := by decide +kernel
theorem dX9_mostOf_28 : decode cX9_mostOf 28 = .ok (.bipush 40, 2) := by decide +kernel
theorem dX9_mostOf_30 : decode cX9_mostOf 30 = .ok (.ireturn, 1) := by decide +kernel
theorem dX9_mostOf_31 : decode cX9_mostOf 31 = .ok (.bipush 20, 2) := by decide +kernel
theorem dX9_mostOf_33 : decode cX9_mostOf 33 = .ok (.ireturn, 1) := by decide +kernel
theorem dX9_mostOf_34 : decode cX9_mostOf 34 = .ok (.bipush 9, 2) := by decide +kernel
theorem dX9_mostOf_36 : decode cX9_mostOf 36 = .ok (.ireturn, 1) := by decide +kernel
theorem dX9_mostOf_37 : decode cX9_mostOf 37 = .ok (.iconst 0, 1) := by decide +kernel
theorem dX9_mostOf_38 : decode cX9_mostOf 38 = .ok (.ireturn, 1) := by decide +kernel
theorem dX9_sumOfLines_0 : decode cX9_sumOfLines 0 = .ok (.lload_n 1, 1) := by decide +kernel
theorem dX9_sumOfLines_1 : decode cX9_sumOfLines 1 = .ok (.lstore_n 3, 1) := by decide +kernel
theorem dX9_sumOfLines_2 : decode cX9_sumOfLines 2 = .ok (.iconst 0, 1) := by decide +kernel
theorem dX9_sumOfLines_3 : decode cX9_sumOfLines 3 = .ok (.istore 5, 2) := by decide +kernel
theorem dX9_sumOfLines_5 : decode cX9_sumOfLines 5 = .ok (.iload 5, 2) := by decide +kernel
theorem dX9_sumOfLines_7 : decode cX9_sumOfLines 7 = .ok (.aload_n 0, 1) := by decide +kernel
theorem dX9_sumOfLines_8 : decode cX9_sumOfLines 8 = .ok (.getfield 23, 3) := by decide +kernel
theorem dX9_sumOfLines_11 : decode cX9_sumOfLines 11 = .ok (.getfield 79, 3) := by decide +kernel
theorem dX9_sumOfLines_14 : decode cX9_sumOfLines 14 = .ok (.if_icmp .ge 40, 3) := by decide +kernel
theorem dX9_sumOfLines_17 : decode cX9_sumOfLines 17 = .ok (.iconst 0, 1) := by decide +kernel
theorem dX9_sumOfLines_18 : decode cX9_sumOfLines 18 = .ok (.istore 6, 2) := by decide +kernel
theorem dX9_sumOfLines_20 : decode cX9_sumOfLines 20 = .ok (.iload 6, 2) := by decide +kernel
theorem dX9_sumOfLines_22 : decode cX9_sumOfLines 22 = .ok (.iconst 4, 1) := by decide +kernel
theorem dX9_sumOfLines_23 : decode cX9_sumOfLines 23 = .ok (.if_icmp .gt 25, 3) := by decide +kernel
theorem dX9_sumOfLines_26 : decode cX9_sumOfLines 26 = .ok (.ldc2_w 290, 3) := by decide +kernel
theorem dX9_sumOfLines_29 : decode cX9_sumOfLines 29 = .ok (.lload_n 3, 1) := by decide +kernel
theorem dX9_sumOfLines_30 : decode cX9_sumOfLines 30 = .ok (.lmul, 1) := by decide +kernel
theorem dX9_sumOfLines_31 : decode cX9_sumOfLines 31 = .ok (.aload_n 0, 1) := by decide +kernel
theorem dX9_sumOfLines_32 : decode cX9_sumOfLines 32 = .ok (.iload 5, 2) := by decide +kernel
theorem dX9_sumOfLines_34 : decode cX9_sumOfLines 34 = .ok (.iload 6, 2) := by decide +kernel
theorem dX9_sumOfLines_36 : decode cX9_sumOfLines 36 = .ok (.invokevirtual 313, 3) := by decide +kernel
theorem dX9_sumOfLines_39 : decode cX9_sumOfLines 39 = .ok (.i2l, 1) := by decide +kernel
theorem dX9_sumOfLines_40 : decode cX9_sumOfLines 40 = .ok (.ladd, 1) := by decide +kernel
theorem dX9_sumOfLines_41 : decode cX9_sumOfLines 41 = .ok (.lstore_n 3, 1) := by decide +kernel
theorem dX9_sumOfLines_42 : decode cX9_sumOfLines 42 = .ok (.iinc 6 1, 3) := by decide +kernel
theorem dX9_sumOfLines_45 : decode cX9_sumOfLines 45 = .ok (.goto (-25), 3) := by decide +kernel
theorem dX9_sumOfLines_48 : decode cX9_sumOfLines 48 = .ok (.iinc 5 1, 3) := by decide +kernel
theorem dX9_sumOfLines_51 : decode cX9_sumOfLines 51 = .ok (.goto (-46), 3) := by decide +kernel
theorem dX9_sumOfLines_54 : decode cX9_sumOfLines 54 = .ok (.lload_n 3, 1) := by decide +kernel
theorem dX9_sumOfLines_55 : decode cX9_sumOfLines 55 = .ok (.lreturn, 1) := by decide +kernel
theorem dX9_sumOfGroups_0 : decode cX9_sumOfGroups 0 = .ok (.lload_n 1, 1) := by decide +kernel
theorem dX9_sumOfGroups_1 : decode cX9_sumOfGroups 1 = .ok (.lstore_n 3, 1) := by decide +kernel
theorem dX9_sumOfGroups_2 : decode cX9_sumOfGroups 2 = .ok (.iconst 0, 1) := by decide +kernel
theorem dX9_sumOfGroups_3 : decode cX9_sumOfGroups 3 = .ok (.istore 5, 2) := by decide +kernel
theorem dX9_sumOfGroups_5 : decode cX9_sumOfGroups 5 = .ok (.iload 5, 2) := by decide +kernel
theorem dX9_sumOfGroups_7 : decode cX9_sumOfGroups 7 = .ok (.aload_n 0, 1) := by decide +kernel
theorem dX9_sumOfGroups_8 : decode cX9_sumOfGroups 8 = .ok (.getfield 23, 3) := by decide +kernel
theorem dX9_sumOfGroups_11 : decode cX9_sumOfGroups 11 = .ok (.getfield 82, 3) := by decide +kernel
theorem dX9_sumOfGroups_14 : decode cX9_sumOfGroups 14 = .ok (.if_icmp .ge 41, 3) := by decide +kernel
theorem dX9_sumOfGroups_17 : decode cX9_sumOfGroups 17 = .ok (.iconst 0, 1) := by decide +kernel
theorem dX9_sumOfGroups_18 : decode cX9_sumOfGroups 18 = .ok (.istore 6, 2) := by decide +kernel
theorem dX9_sumOfGroups_20 : decode cX9_sumOfGroups 20 = .ok (.iload 6, 2) := by decide +kernel
theorem dX9_sumOfGroups_22 : decode cX9_sumOfGroups 22 = .ok (.bipush 6, 2) := by decide +kernel
theorem dX9_sumOfGroups_24 : decode cX9_sumOfGroups 24 = .ok (.if_icmp .gt 25, 3) := by decide +kernel
theorem dX9_sumOfGroups_27 : decode cX9_sumOfGroups 27 = .ok (.ldc2_w 290, 3) := by decide +kernel
theorem dX9_sumOfGroups_30 : decode cX9_sumOfGroups 30 = .ok (.lload_n 3, 1) := by decide +kernel
theorem dX9_sumOfGroups_31 : decode cX9_sumOfGroups 31 = .ok (.lmul, 1) := by decide +kernel
theorem dX9_sumOfGroups_32 : decode cX9_sumOfGroups 32 = .ok (.aload_n 0, 1) := by decide +kernel
theorem dX9_sumOfGroups_33 : decode cX9_sumOfGroups 33 = .ok (.iload 5, 2) := by decide +kernel
theorem dX9_sumOfGroups_35 : decode cX9_sumOfGroups 35 = .ok (.iload 6, 2) := by decide +kernel
theorem dX9_sumOfGroups_37 : decode cX9_sumOfGroups 37 = .ok (.invokevirtual 315, 3) := by decide +kernel
theorem dX9_sumOfGroups_40 : decode cX9_sumOfGroups 40 = .ok (.i2l, 1) := by decide +kernel
theorem dX9_sumOfGroups_41 : decode cX9_sumOfGroups 41 = .ok (.ladd, 1) := by decide +kernel
theorem dX9_sumOfGroups_42 : decode cX9_sumOfGroups 42 = .ok (.lstore_n 3, 1) := by decide +kernel
theorem dX9_sumOfGroups_43 : decode cX9_sumOfGroups 43 = .ok (.iinc 6 1, 3) := by decide +kernel
theorem dX9_sumOfGroups_46 : decode cX9_sumOfGroups 46 = .ok (.goto (-26), 3) := by decide +kernel
theorem dX9_sumOfGroups_49 : decode cX9_sumOfGroups 49 = .ok (.iinc 5 1, 3) := by decide +kernel
theorem dX9_sumOfGroups_52 : decode cX9_sumOfGroups 52 = .ok (.goto (-47), 3) := by decide +kernel
theorem dX9_sumOfGroups_55 : decode cX9_sumOfGroups 55 = .ok (.lload_n 3, 1) := by decide +kernel
theorem dX9_sumOfGroups_56 : decode cX9_sumOfGroups 56 = .ok (.lreturn, 1) := by decide +kernel
theorem dX9_sumOfRegisters_0 : decode cX9_sumOfRegisters 0 = .ok (.lload_n 1, 1) := by decide +kernel
theorem dX9_sumOfRegisters_1 : decode cX9_sumOfRegisters 1 = .ok (.lstore_n 3, 1) := by decide +kernel
theorem dX9_sumOfRegisters_2 : decode cX9_sumOfRegisters 2 = .ok (.iconst 0, 1) := by decide +kernel
theorem dX9_sumOfRegisters_3 : decode cX9_sumOfRegisters 3 = .ok (.istore 5, 2) := by decide +kernel
theorem dX9_sumOfRegisters_5 : decode cX9_sumOfRegisters 5 = .ok (.iload 5, 2) := by decide +kernel
theorem dX9_sumOfRegisters_7 : decode cX9_sumOfRegisters 7 = .ok (.aload_n 0, 1) := by decide +kernel
theorem dX9_sumOfRegisters_8 : decode cX9_sumOfRegisters 8 = .ok (.getfield 23, 3) := by decide +kernel
theorem dX9_sumOfRegisters_11 : decode cX9_sumOfRegisters 11 = .ok (.getfield 73, 3) := by decide +kernel
theorem dX9_sumOfRegisters_14 : decode cX9_sumOfRegisters 14 = .ok (.if_icmp .ge 40, 3) := by decide +kernel
theorem dX9_sumOfRegisters_17 : decode cX9_sumOfRegisters 17 = .ok (.iconst 0, 1) := by decide +kernel
theorem dX9_sumOfRegisters_18 : decode cX9_sumOfRegisters 18 = .ok (.istore 6, 2) := by decide +kernel
theorem dX9_sumOfRegisters_20 : decode cX9_sumOfRegisters 20 = .ok (.iload 6, 2) := by decide +kernel
theorem dX9_sumOfRegisters_22 : decode cX9_sumOfRegisters 22 = .ok (.iconst 2, 1) := by decide +kernel
theorem dX9_sumOfRegisters_23 : decode cX9_sumOfRegisters 23 = .ok (.if_icmp .gt 25, 3) := by decide +kernel
theorem dX9_sumOfRegisters_26 : decode cX9_sumOfRegisters 26 = .ok (.ldc2_w 290, 3) := by decide +kernel
theorem dX9_sumOfRegisters_29 : decode cX9_sumOfRegisters 29 = .ok (.lload_n 3, 1) := by decide +kernel
theorem dX9_sumOfRegisters_30 : decode cX9_sumOfRegisters 30 = .ok (.lmul, 1) := by decide +kernel
theorem dX9_sumOfRegisters_31 : decode cX9_sumOfRegisters 31 = .ok (.aload_n 0, 1) := by decide +kernel
theorem dX9_sumOfRegisters_32 : decode cX9_sumOfRegisters 32 = .ok (.iload 5, 2) := by decide +kernel
theorem dX9_sumOfRegisters_34 : decode cX9_sumOfRegisters 34 = .ok (.iload 6, 2) := by decide +kernel
theorem dX9_sumOfRegisters_36 : decode cX9_sumOfRegisters 36 = .ok (.invokevirtual 317, 3) := by decide +kernel
theorem dX9_sumOfRegisters_39 : decode cX9_sumOfRegisters 39 = .ok (.i2l, 1) := by decide +kernel
theorem dX9_sumOfRegisters_40 : decode cX9_sumOfRegisters 40 = .ok (.ladd, 1) := by decide +kernel
theorem dX9_sumOfRegisters_41 : decode cX9_sumOfRegisters 41 = .ok (.lstore_n 3, 1) := by decide +kernel
theorem dX9_sumOfRegisters_42 : decode cX9_sumOfRegisters 42 = .ok (.iinc 6 1, 3) := by decide +kernel
theorem dX9_sumOfRegisters_45 : decode cX9_sumOfRegisters 45 = .ok (.goto (-25), 3) := by decide +kernel
theorem dX9_sumOfRegisters_48 : decode cX9_sumOfRegisters 48 = .ok (.iinc 5 1, 3) := by decide +kernel
theorem dX9_sumOfRegisters_51 : decode cX9_sumOfRegisters 51 = .ok (.goto (-46), 3) := by decide +kernel
theorem dX9_sumOfRegisters_54 : decode cX9_sumOfRegisters 54 = .ok (.lload_n 3, 1) := by decide +kernel
theorem dX9_sumOfRegisters_55 : decode cX9_sumOfRegisters 55 = .ok (.lreturn, 1) := by decide +kernel
theorem dX9_sumOfMarkers_0 : decode cX9_sumOfMarkers 0 = .ok (.lload_n 1, 1) := by decide +kernel
theorem dX9_sumOfMarkers_1 : decode cX9_sumOfMarkers 1 = .ok (.lstore_n 3, 1) := by decide +kernel
theorem dX9_sumOfMarkers_2 : decode cX9_sumOfMarkers 2 = .ok (.iconst 0, 1) := by decide +kernel
theorem dX9_sumOfMarkers_3 : decode cX9_sumOfMarkers 3 = .ok (.istore 5, 2) := by decide +kernel
theorem dX9_sumOfMarkers_5 : decode cX9_sumOfMarkers 5 = .ok (.iload 5, 2) := by decide +kernel
theorem dX9_sumOfMarkers_7 : decode cX9_sumOfMarkers 7 = .ok (.aload_n 0, 1) := by decide +kernel
theorem dX9_sumOfMarkers_8 : decode cX9_sumOfMarkers 8 = .ok (.getfield 23, 3) := by decide +kernel
theorem dX9_sumOfMarkers_11 : decode cX9_sumOfMarkers 11 = .ok (.getfield 76, 3) := by decide +kernel
theorem dX9_sumOfMarkers_14 : decode cX9_sumOfMarkers 14 = .ok (.if_icmp .ge 40, 3) := by decide +kernel
theorem dX9_sumOfMarkers_17 : decode cX9_sumOfMarkers 17 = .ok (.iconst 0, 1) := by decide +kernel
theorem dX9_sumOfMarkers_18 : decode cX9_sumOfMarkers 18 = .ok (.istore 6, 2) := by decide +kernel
theorem dX9_sumOfMarkers_20 : decode cX9_sumOfMarkers 20 = .ok (.iload 6, 2) := by decide +kernel
theorem dX9_sumOfMarkers_22 : decode cX9_sumOfMarkers 22 = .ok (.iconst 1, 1) := by decide +kernel
theorem dX9_sumOfMarkers_23 : decode cX9_sumOfMarkers 23 = .ok (.if_icmp .gt 25, 3) := by decide +kernel
theorem dX9_sumOfMarkers_26 : decode cX9_sumOfMarkers 26 = .ok (.ldc2_w 290, 3) := by decide +kernel
theorem dX9_sumOfMarkers_29 : decode cX9_sumOfMarkers 29 = .ok (.lload_n 3, 1) := by decide +kernel
theorem dX9_sumOfMarkers_30 : decode cX9_sumOfMarkers 30 = .ok (.lmul, 1) := by decide +kernel
theorem dX9_sumOfMarkers_31 : decode cX9_sumOfMarkers 31 = .ok (.aload_n 0, 1) := by decide +kernel
theorem dX9_sumOfMarkers_32 : decode cX9_sumOfMarkers 32 = .ok (.iload 5, 2) := by decide +kernel
theorem dX9_sumOfMarkers_34 : decode cX9_sumOfMarkers 34 = .ok (.iload 6, 2) := by decide +kernel
theorem dX9_sumOfMarkers_36 : decode cX9_sumOfMarkers 36 = .ok (.invokevirtual 320, 3) := by decide +kernel
theorem dX9_sumOfMarkers_39 : decode cX9_sumOfMarkers 39 = .ok (.i2l, 1) := by decide +kernel
theorem dX9_sumOfMarkers_40 : decode cX9_sumOfMarkers 40 = .ok (.ladd, 1) := by decide +kernel
theorem dX9_sumOfMarkers_41 : decode cX9_sumOfMarkers 41 = .ok (.lstore_n 3, 1) := by decide +kernel
theorem dX9_sumOfMarkers_42 : decode cX9_sumOfMarkers 42 = .ok (.iinc 6 1, 3) := by decide +kernel
theorem dX9_sumOfMarkers_45 : decode cX9_sumOfMarkers 45 = .ok (.goto (-25), 3) := by decide +kernel
theorem dX9_sumOfMarkers_48 : decode cX9_sumOfMarkers 48 = .ok (.iinc 5 1, 3) := by decide +kernel
theorem dX9_sumOfMarkers_51 : decode cX9_sumOfMarkers 51 = .ok (.goto (-46), 3) := by decide +kernel
theorem dX9_sumOfMarkers_54 : decode cX9_sumOfMarkers 54 = .ok (.lload_n 3, 1) := by decide +kernel
theorem dX9_sumOfMarkers_55 : decode cX9_sumOfMarkers 55 = .ok (.lreturn, 1) := by decide +kernel
theorem dX9_sumOfCalls_0 : decode cX9_sumOfCalls 0 = .ok (.lload_n 1, 1) := by decide +kernel
theorem dX9_sumOfCalls_1 : decode cX9_sumOfCalls 1 = .ok (.lstore_n 3, 1) := by decide +kernel
theorem dX9_sumOfCalls_2 : decode cX9_sumOfCalls 2 = .ok (.iconst 0, 1) := by decide +kernel
theorem dX9_sumOfCalls_3 : decode cX9_sumOfCalls 3 = .ok (.istore 5, 2) := by decide +kernel
theorem dX9_sumOfCalls_5 : decode cX9_sumOfCalls 5 = .ok (.iload 5, 2) := by decide +kernel
theorem dX9_sumOfCalls_7 : decode cX9_sumOfCalls 7 = .ok (.aload_n 0, 1) := by decide +kernel
theorem dX9_sumOfCalls_8 : decode cX9_sumOfCalls 8 = .ok (.getfield 23, 3) := by decide +kernel
theorem dX9_sumOfCalls_11 : decode cX9_sumOfCalls 11 = .ok (.getfield 66, 3) := by decide +kernel
theorem dX9_sumOfCalls_14 : decode cX9_sumOfCalls 14 = .ok (.if_icmp .ge 41, 3) := by decide +kernel
theorem dX9_sumOfCalls_17 : decode cX9_sumOfCalls 17 = .ok (.iconst 0, 1) := by decide +kernel
theorem dX9_sumOfCalls_18 : decode cX9_sumOfCalls 18 = .ok (.istore 6, 2) := by decide +kernel
theorem dX9_sumOfCalls_20 : decode cX9_sumOfCalls 20 = .ok (.iload 6, 2) := by decide +kernel
theorem dX9_sumOfCalls_22 : decode cX9_sumOfCalls 22 = .ok (.bipush 10, 2) := by decide +kernel
theorem dX9_sumOfCalls_24 : decode cX9_sumOfCalls 24 = .ok (.if_icmp .gt 25, 3) := by decide +kernel
theorem dX9_sumOfCalls_27 : decode cX9_sumOfCalls 27 = .ok (.ldc2_w 290, 3) := by decide +kernel
theorem dX9_sumOfCalls_30 : decode cX9_sumOfCalls 30 = .ok (.lload_n 3, 1) := by decide +kernel
theorem dX9_sumOfCalls_31 : decode cX9_sumOfCalls 31 = .ok (.lmul, 1) := by decide +kernel
theorem dX9_sumOfCalls_32 : decode cX9_sumOfCalls 32 = .ok (.aload_n 0, 1) := by decide +kernel
theorem dX9_sumOfCalls_33 : decode cX9_sumOfCalls 33 = .ok (.iload 5, 2) := by decide +kernel
theorem dX9_sumOfCalls_35 : decode cX9_sumOfCalls 35 = .ok (.iload 6, 2) := by decide +kernel
theorem dX9_sumOfCalls_37 : decode cX9_sumOfCalls 37 = .ok (.invokevirtual 323, 3) := by decide +kernel
theorem dX9_sumOfCalls_40 : decode cX9_sumOfCalls 40 = .ok (.i2l, 1) := by decide +kernel
theorem dX9_sumOfCalls_41 : decode cX9_sumOfCalls 41 = .ok (.ladd, 1) := by decide +kernel
theorem dX9_sumOfCalls_42 : decode cX9_sumOfCalls 42 = .ok (.lstore_n 3, 1) := by decide +kernel
theorem dX9_sumOfCalls_43 : decode cX9_sumOfCalls 43 = .ok (.iinc 6 1, 3) := by decide +kernel
theorem dX9_sumOfCalls_46 : decode cX9_sumOfCalls 46 = .ok (.goto (-26), 3) := by decide +kernel
theorem dX9_sumOfCalls_49 : decode cX9_sumOfCalls 49 = .ok (.iinc 5 1, 3) := by decide +kernel
theorem dX9_sumOfCalls_52 : decode cX9_sumOfCalls 52 = .ok (.goto (-47), 3) := by decide +kernel
theorem dX9_sumOfCalls_55 : decode cX9_sumOfCalls 55 = .ok (.lload_n 3, 1) := by decide +kernel
theorem dX9_sumOfCalls_56 : decode cX9_sumOfCalls 56 = .ok (.lreturn, 1) := by decide +kernel
